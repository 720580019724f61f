set_option maxHeartbeats 4000000 in
set_option maxRecDepth 100000 in
theorem law_all {l : Launch} {G : qG} {X : qX} (C : q_C G X cL_law 4 RL (some .boolean) (q_rm 9 318 600000 7302250)) (hmc : xmc X = (240, 7138)) (hxl : xl X = l) {b zb LL : Int} {xv : Int → Int} {r h : qH} (hb : (G.1 : Int) ≤ b) (SC : SCall G b) (SM : SModel G (b + 224)) (zf : ZF b r h) (hL : 0 ≤ LL ∧ LL ≤ 2560) (SX : q_scr G X zb LL xv) : Aj G X (fun v _ _ => v = some (qi 1)) cL_law 4 (0, 0) b r h 0 [(0, qa zb)] [] := by
  refine Aj.new C lc_RL_7 lk_RX8 li_RX8 (t := 8) rfl SC.1 (by decide) (fun b => zf _ b (by omega)) (by decide) dL_law_0 ?_
  have zf_1 := ZF.up (m := b + 1) zf (by omega)
  refine Aj.dup_qa C dL_law_3 ?_
  refine Aj.callIn (As := []) (st := [qa b]) C lm_RL_9 m_X8_init mk_X8_init rfl (c_X8_init _ (p := b) rfl hb SC zf_1) (al_mk SC.1 hb (by omega) (by decide)) rfl rfl (by decide) (Nat.le_of_ble_eq_true rfl) (by decide) dL_law_4 (fun r1 h1 p4 => ?_)
  obtain ⟨LC, I0, zs1, rs1, hs1⟩ := p4
  refine Aj.nc (m := b + 224) (cs2 := (224, 4228)) (by omega) rfl ?_
  refine Aj.astore_n (al2 := [(1, qa b), (0, qa zb)]) C dL_law_7 (by decide) rfl ?_
  refine Aj.new C lc_RL_10 lk_RX9 li_RX9 (t := 9) rfl SM.1 (by decide) (fun b => zs1 _ b (by omega)) (by decide) dL_law_8 ?_
  rw [show b + 224 + 1 = b + 225 by omega]
  have zf_2 := ZF.up (m := b + 225) zs1 (by omega)
  refine Aj.dup_qa C dL_law_11 ?_
  refine Aj.callIn (As := []) (st := [qa (b + 224)]) C lm_RL_12 m_X9_init mk_X9_init rfl (c_X9_init _ (p := b + 224) (by omega) (by omega) SM zf_2 (fun k => (zs1 _ k (by omega)).2)) (al_mk SM.1 (by omega) (by omega) (by decide)) rfl rfl (by decide) (Nat.le_of_ble_eq_true rfl) (by decide) dL_law_12 (fun r2 h2 p12 => ?_)
  obtain ⟨LM, M0, zs2, rs2, hs2⟩ := p12
  refine Aj.nc (m := b + 240) (cs2 := (240, 7138)) (by omega) rfl ?_
  have LC2 : LCall G (b + 240) r2 b := LC.mv (by omega) (fun a k q1 q2 => rs2 a k (by omega))
  have LM2 : LModel G (b + 240) r2 (b + 224) := by rw [show b + 240 = b + 224 + 16 by omega]; exact LM
  have I2 : I8 h2 b st0 := I0.fr (fun x y q1 q2 q3 q4 => hs2 x y (by omega))
  refine Aj.astore_n (al2 := [(2, qa (b + 224)), (1, qa b), (0, qa zb)]) C dL_law_15 (by decide) rfl ?_
  refine Aj.iconst C dL_law_16 (by decide) ?_
  refine Aj.istore_n (al2 := [(3, qi 0), (2, qa (b + 224)), (1, qa b), (0, qa zb)]) C dL_law_17 (by decide) rfl ?_
  refine Aj.pick (al2 := [(0, qa zb), (1, qa b), (2, qa (b + 224)), (3, qi 0)]) [3, 2, 1, 0] rfl ?_
  suffices L18 : ∀ (N : Nat) (i : Int) (st : qS) (hh : qH) , (0 ≤ i ∧ i ≤ LL ∧ I8 hh b st ∧ IM hh (b + 224) st ∧ GS st ∧ GZ st) → (LL - i).toNat < N → Aj G X (fun v _ _ => v = some (qi 1)) cL_law 4 (240, 7138) (b + 240) r2 hh 18 [(0, qa zb), (1, qa b), (2, qa (b + 224)), (3, qi i)] [] from L18 (_ + 1) 0 st0 h2 (⟨by omega, hL.1, I2, M0, GS_st0, GZ_st0⟩) (Nat.lt_succ_self _)
  intro N18
  induction N18 with
  | zero => intro i st hh _ hN; exact absurd hN (Nat.not_lt_zero _)
  | succ N ih18 =>
    intro i st hh hI18 hN18
    obtain ⟨hi0, hi1, hI, hM, gs, gz⟩ := hI18
    refine Aj.iload_n C 3 dL_law_18 rfl ?_
    refine Aj.aload_n C 0 dL_law_19 rfl ?_
    refine Aj.slen C SX dL_law_20 ?_
    refine Aj.iconst C dL_law_21 (by decide) ?_
    refine Aj.isub C dL_law_22 (by omega) ?_
    refine Aj.icmp_gt (tgt := 842) C dL_law_23 (by decide) (fun c23 => ?_) (fun c23 => ?_)
    · refine Aj.iconst C dL_law_842 (by decide) ?_
      exact Aj.zret C dL_law_843 (Or.inr rfl) (by rw [hmc]; exact ⟨rfl, Nat.le_of_ble_eq_true rfl⟩) rfl
    · refine Aj.aload_n C 0 dL_law_26 rfl ?_
      refine Aj.iload_n C 3 dL_law_27 rfl ?_
      refine Aj.sld C SX (by omega) dL_law_28 ?_
      refine Aj.bipush C dL_law_29 (by decide) (by decide) ?_
      refine Aj.iand C dL_law_31 ?_
      rcases (show b_and (xv i) 31 = 0 ∨ b_and (xv i) 31 = 1 ∨ b_and (xv i) 31 = 2 ∨ b_and (xv i) 31 = 3 ∨ b_and (xv i) 31 = 4 ∨ b_and (xv i) 31 = 5 ∨ b_and (xv i) 31 = 6 ∨ b_and (xv i) 31 = 7 ∨ b_and (xv i) 31 = 8 ∨ b_and (xv i) 31 = 9 ∨ b_and (xv i) 31 = 10 ∨ b_and (xv i) 31 = 11 ∨ b_and (xv i) 31 = 12 ∨ b_and (xv i) 31 = 13 ∨ b_and (xv i) 31 = 14 ∨ b_and (xv i) 31 = 15 ∨ b_and (xv i) 31 = 16 ∨ b_and (xv i) 31 = 17 ∨ b_and (xv i) 31 = 18 ∨ b_and (xv i) 31 = 19 ∨ b_and (xv i) 31 = 20 ∨ b_and (xv i) 31 = 21 ∨ b_and (xv i) 31 = 22 ∨ b_and (xv i) 31 = 23 ∨ (b_and (xv i) 31 < 0 ∨ 23 < b_and (xv i) 31) by omega) with c32 | c32 | c32 | c32 | c32 | c32 | c32 | c32 | c32 | c32 | c32 | c32 | c32 | c32 | c32 | c32 | c32 | c32 | c32 | c32 | c32 | c32 | c32 | c32 | c32
      · refine Aj.tableIn C (112) dL_law_32 (by omega) (by rw [c32]; rfl) (tgt := 144) (by decide) ?_
        refine Aj.aload_n C 1 dL_law_144 rfl ?_
        refine Aj.aload_n C 0 dL_law_145 rfl ?_
        refine Aj.iload_n C 3 dL_law_146 rfl ?_
        refine Aj.iconst C dL_law_147 (by decide) ?_
        refine Aj.iadd C dL_law_148 (by omega) ?_
        refine Aj.sld C SX (by omega) dL_law_149 ?_
        refine Aj.callVi (As := [qi (xv (i + 1))]) (st := []) C lm_RL_13 m_X8_bars mk_X8_bars ms_X8_bars (c_X8_bars _ LC2 hI gs) (al_mk SC.1 hb (by omega) (by decide)) (t := 8) rfl rfl rfl rfl (by decide) (Nat.le_of_ble_eq_true rfl) (by decide) dL_law_150 (fun z150 hA rz150 p150 => ?_)
        obtain ⟨s2, o1, i1, f1⟩ := p150
        have m1 := hM.far f1
        refine Aj.aload_n C 2 dL_law_153 rfl ?_
        refine Aj.aload_n C 0 dL_law_154 rfl ?_
        refine Aj.iload_n C 3 dL_law_155 rfl ?_
        refine Aj.iconst C dL_law_156 (by decide) ?_
        refine Aj.iadd C dL_law_157 (by omega) ?_
        refine Aj.sld C SX (by omega) dL_law_158 ?_
        refine Aj.callVi (As := [qi (xv (i + 1))]) (st := [qi z150]) C lm_RL_17 m_X9_bars mk_X9_bars ms_X9_bars (c_X9_bars _ LM2 m1 gs) (al_mk SM.1 (by omega) (by omega) (by decide)) (t := 9) rfl rfl rfl rfl (by decide) (Nat.le_of_ble_eq_true rfl) (by decide) dL_law_159 (fun z159 hB rz159 p159 => ?_)
        obtain ⟨s3, o2, m2, f2⟩ := p159
        obtain ⟨e1, e2⟩ := O_bars_fn o1 o2
        rw [← e1, ← e2] at m2
        have i2 := i1.far f2
        have g2 := gs.ch (z := z150) (O_bars.good gs.1 o1)
        have z2 := gz.ch (z := z150) gs (O_bars.sz gs.1 gz.1 o1)
        refine Aj.icmp_eq (tgt := 836) C dL_law_162 (by decide) (fun c162 => ?_) (fun c162 => ?_)
        · refine Aj.iinc (al2 := [(3, qi (i + 5)), (0, qa zb), (1, qa b), (2, qa (b + 224))]) C 3 dL_law_836 rfl (by decide) (by omega) rfl ?_
          refine Aj.goto (tgt := 18) C dL_law_839 (by decide) ?_
          refine Aj.pick (al2 := [(0, qa zb), (1, qa b), (2, qa (b + 224)), (3, qi (i + 5))]) [1, 2, 3, 0] rfl ?_
          exact ih18 (i + 5) (chg st z150 s2) hB (⟨by omega, by omega, i2, m2, g2, z2⟩) (by omega)
        · exact absurd e1 c162
      · refine Aj.tableIn C (135) dL_law_32 (by omega) (by rw [c32]; rfl) (tgt := 167) (by decide) ?_
        refine Aj.aload_n C 1 dL_law_167 rfl ?_
        refine Aj.aload_n C 0 dL_law_168 rfl ?_
        refine Aj.iload_n C 3 dL_law_169 rfl ?_
        refine Aj.iconst C dL_law_170 (by decide) ?_
        refine Aj.iadd C dL_law_171 (by omega) ?_
        refine Aj.sld C SX (by omega) dL_law_172 ?_
        refine Aj.callVi (As := [qi (xv (i + 1))]) (st := []) C lm_RL_18 m_X8_shortest mk_X8_shortest ms_X8_shortest (c_X8_shortest _ LC2 hI gs) (al_mk SC.1 hb (by omega) (by decide)) (t := 8) rfl rfl rfl rfl (by decide) (Nat.le_of_ble_eq_true rfl) (by decide) dL_law_173 (fun z173 hA rz173 p173 => ?_)
        obtain ⟨s2, o1, i1, f1⟩ := p173
        have m1 := hM.far f1
        refine Aj.aload_n C 2 dL_law_176 rfl ?_
        refine Aj.aload_n C 0 dL_law_177 rfl ?_
        refine Aj.iload_n C 3 dL_law_178 rfl ?_
        refine Aj.iconst C dL_law_179 (by decide) ?_
        refine Aj.iadd C dL_law_180 (by omega) ?_
        refine Aj.sld C SX (by omega) dL_law_181 ?_
        refine Aj.callVi (As := [qi (xv (i + 1))]) (st := [qi z173]) C lm_RL_21 m_X9_shortest mk_X9_shortest ms_X9_shortest (c_X9_shortest _ LM2 m1 gs) (al_mk SM.1 (by omega) (by omega) (by decide)) (t := 9) rfl rfl rfl rfl (by decide) (Nat.le_of_ble_eq_true rfl) (by decide) dL_law_182 (fun z182 hB rz182 p182 => ?_)
        obtain ⟨s3, o2, m2, f2⟩ := p182
        obtain ⟨e1, e2⟩ := O_short_fn o1 o2
        rw [← e1, ← e2] at m2
        have i2 := i1.far f2
        have g2 := gs.ch (z := z173) (O_short.good gs.1 o1)
        have z2 := gz.ch (z := z173) gs (O_short.sz gs.1 gz.1 o1)
        refine Aj.icmp_eq (tgt := 836) C dL_law_185 (by decide) (fun c185 => ?_) (fun c185 => ?_)
        · refine Aj.iinc (al2 := [(3, qi (i + 5)), (0, qa zb), (1, qa b), (2, qa (b + 224))]) C 3 dL_law_836 rfl (by decide) (by omega) rfl ?_
          refine Aj.goto (tgt := 18) C dL_law_839 (by decide) ?_
          refine Aj.pick (al2 := [(0, qa zb), (1, qa b), (2, qa (b + 224)), (3, qi (i + 5))]) [1, 2, 3, 0] rfl ?_
          exact ih18 (i + 5) (chg st z173 s2) hB (⟨by omega, by omega, i2, m2, g2, z2⟩) (by omega)
        · exact absurd e1 c185
      · refine Aj.tableIn C (158) dL_law_32 (by omega) (by rw [c32]; rfl) (tgt := 190) (by decide) ?_
        refine Aj.aload_n C 1 dL_law_190 rfl ?_
        refine Aj.aload_n C 0 dL_law_191 rfl ?_
        refine Aj.iload_n C 3 dL_law_192 rfl ?_
        refine Aj.iconst C dL_law_193 (by decide) ?_
        refine Aj.iadd C dL_law_194 (by omega) ?_
        refine Aj.sld C SX (by omega) dL_law_195 ?_
        refine Aj.aload_n C 0 dL_law_196 rfl ?_
        refine Aj.iload_n C 3 dL_law_197 rfl ?_
        refine Aj.iconst C dL_law_198 (by decide) ?_
        refine Aj.iadd C dL_law_199 (by omega) ?_
        refine Aj.sld C SX (by omega) dL_law_200 ?_
        refine Aj.aload_n C 0 dL_law_201 rfl ?_
        refine Aj.iload_n C 3 dL_law_202 rfl ?_
        refine Aj.iconst C dL_law_203 (by decide) ?_
        refine Aj.iadd C dL_law_204 (by omega) ?_
        refine Aj.sld C SX (by omega) dL_law_205 ?_
        refine Aj.callVi (As := [qi (xv (i + 1)), qi (xv (i + 2)), qi (xv (i + 3))]) (st := []) C lm_RL_22 m_X8_bar mk_X8_bar ms_X8_bar (c_X8_bar _ LC2 hI gs) (al_mk SC.1 hb (by omega) (by decide)) (t := 8) rfl rfl rfl rfl (by decide) (Nat.le_of_ble_eq_true rfl) (by decide) dL_law_206 (fun z206 hA rz206 p206 => ?_)
        obtain ⟨s2, o1, i1, f1⟩ := p206
        have m1 := hM.far f1
        refine Aj.aload_n C 2 dL_law_209 rfl ?_
        refine Aj.aload_n C 0 dL_law_210 rfl ?_
        refine Aj.iload_n C 3 dL_law_211 rfl ?_
        refine Aj.iconst C dL_law_212 (by decide) ?_
        refine Aj.iadd C dL_law_213 (by omega) ?_
        refine Aj.sld C SX (by omega) dL_law_214 ?_
        refine Aj.aload_n C 0 dL_law_215 rfl ?_
        refine Aj.iload_n C 3 dL_law_216 rfl ?_
        refine Aj.iconst C dL_law_217 (by decide) ?_
        refine Aj.iadd C dL_law_218 (by omega) ?_
        refine Aj.sld C SX (by omega) dL_law_219 ?_
        refine Aj.aload_n C 0 dL_law_220 rfl ?_
        refine Aj.iload_n C 3 dL_law_221 rfl ?_
        refine Aj.iconst C dL_law_222 (by decide) ?_
        refine Aj.iadd C dL_law_223 (by omega) ?_
        refine Aj.sld C SX (by omega) dL_law_224 ?_
        refine Aj.callVi (As := [qi (xv (i + 1)), qi (xv (i + 2)), qi (xv (i + 3))]) (st := [qi z206]) C lm_RL_26 m_X9_bar mk_X9_bar ms_X9_bar (c_X9_bar _ LM2 m1 gs) (al_mk SM.1 (by omega) (by omega) (by decide)) (t := 9) rfl rfl rfl rfl (by decide) (Nat.le_of_ble_eq_true rfl) (by decide) dL_law_225 (fun z225 hB rz225 p225 => ?_)
        obtain ⟨s3, o2, m2, f2⟩ := p225
        obtain ⟨e1, e2⟩ := O_bar_fn o1 o2
        rw [← e1, ← e2] at m2
        have i2 := i1.far f2
        have g2 := gs.ch (z := z206) (O_bar.good gs.1 o1)
        have z2 := gz.ch (z := z206) gs (O_bar.sz gs.1 gz.1 o1)
        refine Aj.icmp_eq (tgt := 836) C dL_law_228 (by decide) (fun c228 => ?_) (fun c228 => ?_)
        · refine Aj.iinc (al2 := [(3, qi (i + 5)), (0, qa zb), (1, qa b), (2, qa (b + 224))]) C 3 dL_law_836 rfl (by decide) (by omega) rfl ?_
          refine Aj.goto (tgt := 18) C dL_law_839 (by decide) ?_
          refine Aj.pick (al2 := [(0, qa zb), (1, qa b), (2, qa (b + 224)), (3, qi (i + 5))]) [1, 2, 3, 0] rfl ?_
          exact ih18 (i + 5) (chg st z206 s2) hB (⟨by omega, by omega, i2, m2, g2, z2⟩) (by omega)
        · exact absurd e1 c228
      · refine Aj.tableIn C (201) dL_law_32 (by omega) (by rw [c32]; rfl) (tgt := 233) (by decide) ?_
        refine Aj.aload_n C 1 dL_law_233 rfl ?_
        refine Aj.aload_n C 0 dL_law_234 rfl ?_
        refine Aj.iload_n C 3 dL_law_235 rfl ?_
        refine Aj.iconst C dL_law_236 (by decide) ?_
        refine Aj.iadd C dL_law_237 (by omega) ?_
        refine Aj.sld C SX (by omega) dL_law_238 ?_
        refine Aj.aload_n C 0 dL_law_239 rfl ?_
        refine Aj.iload_n C 3 dL_law_240 rfl ?_
        refine Aj.iconst C dL_law_241 (by decide) ?_
        refine Aj.iadd C dL_law_242 (by omega) ?_
        refine Aj.sld C SX (by omega) dL_law_243 ?_
        refine Aj.callVi (As := [qi (xv (i + 1)), qi (xv (i + 2))]) (st := []) C lm_RL_27 m_X8_repeat mk_X8_repeat ms_X8_repeat (c_X8_repeat _ LC2 hI gs) (al_mk SC.1 hb (by omega) (by decide)) (t := 8) rfl rfl rfl rfl (by decide) (Nat.le_of_ble_eq_true rfl) (by decide) dL_law_244 (fun z244 hA rz244 p244 => ?_)
        obtain ⟨s2, o1, i1, f1⟩ := p244
        have m1 := hM.far f1
        refine Aj.aload_n C 2 dL_law_247 rfl ?_
        refine Aj.aload_n C 0 dL_law_248 rfl ?_
        refine Aj.iload_n C 3 dL_law_249 rfl ?_
        refine Aj.iconst C dL_law_250 (by decide) ?_
        refine Aj.iadd C dL_law_251 (by omega) ?_
        refine Aj.sld C SX (by omega) dL_law_252 ?_
        refine Aj.aload_n C 0 dL_law_253 rfl ?_
        refine Aj.iload_n C 3 dL_law_254 rfl ?_
        refine Aj.iconst C dL_law_255 (by decide) ?_
        refine Aj.iadd C dL_law_256 (by omega) ?_
        refine Aj.sld C SX (by omega) dL_law_257 ?_
        refine Aj.callVi (As := [qi (xv (i + 1)), qi (xv (i + 2))]) (st := [qi z244]) C lm_RL_31 m_X9_repeat mk_X9_repeat ms_X9_repeat (c_X9_repeat _ LM2 m1 gs) (al_mk SM.1 (by omega) (by omega) (by decide)) (t := 9) rfl rfl rfl rfl (by decide) (Nat.le_of_ble_eq_true rfl) (by decide) dL_law_258 (fun z258 hB rz258 p258 => ?_)
        obtain ⟨s3, o2, m2, f2⟩ := p258
        obtain ⟨e1, e2⟩ := O_repeat_fn o1 o2
        rw [← e1, ← e2] at m2
        have i2 := i1.far f2
        have g2 := gs.ch (z := z244) (O_repeat.good gs.1 o1)
        have z2 := gz.ch (z := z244) gs (O_repeat.sz gs.1 gz.1 o1)
        refine Aj.icmp_eq (tgt := 836) C dL_law_261 (by decide) (fun c261 => ?_) (fun c261 => ?_)
        · refine Aj.iinc (al2 := [(3, qi (i + 5)), (0, qa zb), (1, qa b), (2, qa (b + 224))]) C 3 dL_law_836 rfl (by decide) (by omega) rfl ?_
          refine Aj.goto (tgt := 18) C dL_law_839 (by decide) ?_
          refine Aj.pick (al2 := [(0, qa zb), (1, qa b), (2, qa (b + 224)), (3, qi (i + 5))]) [1, 2, 3, 0] rfl ?_
          exact ih18 (i + 5) (chg st z244 s2) hB (⟨by omega, by omega, i2, m2, g2, z2⟩) (by omega)
        · exact absurd e1 c261
      · refine Aj.tableIn C (234) dL_law_32 (by omega) (by rw [c32]; rfl) (tgt := 266) (by decide) ?_
        refine Aj.aload_n C 1 dL_law_266 rfl ?_
        refine Aj.aload_n C 0 dL_law_267 rfl ?_
        refine Aj.iload_n C 3 dL_law_268 rfl ?_
        refine Aj.iconst C dL_law_269 (by decide) ?_
        refine Aj.iadd C dL_law_270 (by omega) ?_
        refine Aj.sld C SX (by omega) dL_law_271 ?_
        refine Aj.aload_n C 0 dL_law_272 rfl ?_
        refine Aj.iload_n C 3 dL_law_273 rfl ?_
        refine Aj.iconst C dL_law_274 (by decide) ?_
        refine Aj.iadd C dL_law_275 (by omega) ?_
        refine Aj.sld C SX (by omega) dL_law_276 ?_
        refine Aj.callVi (As := [qi (xv (i + 1)), qi (xv (i + 2))]) (st := []) C lm_RL_32 m_X8_cut mk_X8_cut ms_X8_cut (c_X8_cut _ LC2 hI gs) (al_mk SC.1 hb (by omega) (by decide)) (t := 8) rfl rfl rfl rfl (by decide) (Nat.le_of_ble_eq_true rfl) (by decide) dL_law_277 (fun z277 hA rz277 p277 => ?_)
        obtain ⟨s2, o1, i1, f1⟩ := p277
        have m1 := hM.far f1
        refine Aj.aload_n C 2 dL_law_280 rfl ?_
        refine Aj.aload_n C 0 dL_law_281 rfl ?_
        refine Aj.iload_n C 3 dL_law_282 rfl ?_
        refine Aj.iconst C dL_law_283 (by decide) ?_
        refine Aj.iadd C dL_law_284 (by omega) ?_
        refine Aj.sld C SX (by omega) dL_law_285 ?_
        refine Aj.aload_n C 0 dL_law_286 rfl ?_
        refine Aj.iload_n C 3 dL_law_287 rfl ?_
        refine Aj.iconst C dL_law_288 (by decide) ?_
        refine Aj.iadd C dL_law_289 (by omega) ?_
        refine Aj.sld C SX (by omega) dL_law_290 ?_
        refine Aj.callVi (As := [qi (xv (i + 1)), qi (xv (i + 2))]) (st := [qi z277]) C lm_RL_35 m_X9_cut mk_X9_cut ms_X9_cut (c_X9_cut _ LM2 m1 gs) (al_mk SM.1 (by omega) (by omega) (by decide)) (t := 9) rfl rfl rfl rfl (by decide) (Nat.le_of_ble_eq_true rfl) (by decide) dL_law_291 (fun z291 hB rz291 p291 => ?_)
        obtain ⟨s3, o2, m2, f2⟩ := p291
        obtain ⟨e1, e2⟩ := O_cut_fn o1 o2
        rw [← e1, ← e2] at m2
        have i2 := i1.far f2
        have g2 := gs.ch (z := z277) (O_cut.good gs.1 o1)
        have z2 := gz.ch (z := z277) gs (O_cut.sz gs.1 gz.1 o1)
        refine Aj.icmp_eq (tgt := 836) C dL_law_294 (by decide) (fun c294 => ?_) (fun c294 => ?_)
        · refine Aj.iinc (al2 := [(3, qi (i + 5)), (0, qa zb), (1, qa b), (2, qa (b + 224))]) C 3 dL_law_836 rfl (by decide) (by omega) rfl ?_
          refine Aj.goto (tgt := 18) C dL_law_839 (by decide) ?_
          refine Aj.pick (al2 := [(0, qa zb), (1, qa b), (2, qa (b + 224)), (3, qi (i + 5))]) [1, 2, 3, 0] rfl ?_
          exact ih18 (i + 5) (chg st z277 s2) hB (⟨by omega, by omega, i2, m2, g2, z2⟩) (by omega)
        · exact absurd e1 c294
      · refine Aj.tableIn C (267) dL_law_32 (by omega) (by rw [c32]; rfl) (tgt := 299) (by decide) ?_
        refine Aj.aload_n C 1 dL_law_299 rfl ?_
        refine Aj.aload_n C 0 dL_law_300 rfl ?_
        refine Aj.iload_n C 3 dL_law_301 rfl ?_
        refine Aj.iconst C dL_law_302 (by decide) ?_
        refine Aj.iadd C dL_law_303 (by omega) ?_
        refine Aj.sld C SX (by omega) dL_law_304 ?_
        refine Aj.aload_n C 0 dL_law_305 rfl ?_
        refine Aj.iload_n C 3 dL_law_306 rfl ?_
        refine Aj.iconst C dL_law_307 (by decide) ?_
        refine Aj.iadd C dL_law_308 (by omega) ?_
        refine Aj.sld C SX (by omega) dL_law_309 ?_
        refine Aj.callVi (As := [qi (xv (i + 1)), qi (xv (i + 2))]) (st := []) C lm_RL_36 m_X8_blackout mk_X8_blackout ms_X8_blackout (c_X8_blackout _ LC2 hI gs) (al_mk SC.1 hb (by omega) (by decide)) (t := 8) rfl rfl rfl rfl (by decide) (Nat.le_of_ble_eq_true rfl) (by decide) dL_law_310 (fun z310 hA rz310 p310 => ?_)
        obtain ⟨s2, o1, i1, f1⟩ := p310
        have m1 := hM.far f1
        refine Aj.aload_n C 2 dL_law_313 rfl ?_
        refine Aj.aload_n C 0 dL_law_314 rfl ?_
        refine Aj.iload_n C 3 dL_law_315 rfl ?_
        refine Aj.iconst C dL_law_316 (by decide) ?_
        refine Aj.iadd C dL_law_317 (by omega) ?_
        refine Aj.sld C SX (by omega) dL_law_318 ?_
        refine Aj.aload_n C 0 dL_law_319 rfl ?_
        refine Aj.iload_n C 3 dL_law_320 rfl ?_
        refine Aj.iconst C dL_law_321 (by decide) ?_
        refine Aj.iadd C dL_law_322 (by omega) ?_
        refine Aj.sld C SX (by omega) dL_law_323 ?_
        refine Aj.callVi (As := [qi (xv (i + 1)), qi (xv (i + 2))]) (st := [qi z310]) C lm_RL_39 m_X9_blackout mk_X9_blackout ms_X9_blackout (c_X9_blackout _ LM2 m1 gs) (al_mk SM.1 (by omega) (by omega) (by decide)) (t := 9) rfl rfl rfl rfl (by decide) (Nat.le_of_ble_eq_true rfl) (by decide) dL_law_324 (fun z324 hB rz324 p324 => ?_)
        obtain ⟨s3, o2, m2, f2⟩ := p324
        obtain ⟨e1, e2⟩ := O_black_fn o1 o2
        rw [← e1, ← e2] at m2
        have i2 := i1.far f2
        have g2 := gs.ch (z := z310) (O_black.good gs.1 o1)
        have z2 := gz.ch (z := z310) gs (O_black.sz gs.1 gz.1 o1)
        refine Aj.icmp_eq (tgt := 836) C dL_law_327 (by decide) (fun c327 => ?_) (fun c327 => ?_)
        · refine Aj.iinc (al2 := [(3, qi (i + 5)), (0, qa zb), (1, qa b), (2, qa (b + 224))]) C 3 dL_law_836 rfl (by decide) (by omega) rfl ?_
          refine Aj.goto (tgt := 18) C dL_law_839 (by decide) ?_
          refine Aj.pick (al2 := [(0, qa zb), (1, qa b), (2, qa (b + 224)), (3, qi (i + 5))]) [1, 2, 3, 0] rfl ?_
          exact ih18 (i + 5) (chg st z310 s2) hB (⟨by omega, by omega, i2, m2, g2, z2⟩) (by omega)
        · exact absurd e1 c327
      · refine Aj.tableIn C (300) dL_law_32 (by omega) (by rw [c32]; rfl) (tgt := 332) (by decide) ?_
        refine Aj.aload_n C 1 dL_law_332 rfl ?_
        refine Aj.aload_n C 0 dL_law_333 rfl ?_
        refine Aj.iload_n C 3 dL_law_334 rfl ?_
        refine Aj.iconst C dL_law_335 (by decide) ?_
        refine Aj.iadd C dL_law_336 (by omega) ?_
        refine Aj.sld C SX (by omega) dL_law_337 ?_
        refine Aj.aload_n C 0 dL_law_338 rfl ?_
        refine Aj.iload_n C 3 dL_law_339 rfl ?_
        refine Aj.iconst C dL_law_340 (by decide) ?_
        refine Aj.iadd C dL_law_341 (by omega) ?_
        refine Aj.sld C SX (by omega) dL_law_342 ?_
        refine Aj.callVi (As := [qi (xv (i + 1)), qi (xv (i + 2))]) (st := []) C lm_RL_40 m_X8_undoSpan mk_X8_undoSpan ms_X8_undoSpan (c_X8_undoSpan _ LC2 hI gs) (al_mk SC.1 hb (by omega) (by decide)) (t := 8) rfl rfl rfl rfl (by decide) (Nat.le_of_ble_eq_true rfl) (by decide) dL_law_343 (fun z343 hA rz343 p343 => ?_)
        obtain ⟨s2, o1, i1, f1⟩ := p343
        have m1 := hM.far f1
        refine Aj.aload_n C 2 dL_law_346 rfl ?_
        refine Aj.aload_n C 0 dL_law_347 rfl ?_
        refine Aj.iload_n C 3 dL_law_348 rfl ?_
        refine Aj.iconst C dL_law_349 (by decide) ?_
        refine Aj.iadd C dL_law_350 (by omega) ?_
        refine Aj.sld C SX (by omega) dL_law_351 ?_
        refine Aj.aload_n C 0 dL_law_352 rfl ?_
        refine Aj.iload_n C 3 dL_law_353 rfl ?_
        refine Aj.iconst C dL_law_354 (by decide) ?_
        refine Aj.iadd C dL_law_355 (by omega) ?_
        refine Aj.sld C SX (by omega) dL_law_356 ?_
        refine Aj.callVi (As := [qi (xv (i + 1)), qi (xv (i + 2))]) (st := [qi z343]) C lm_RL_43 m_X9_undoSpan mk_X9_undoSpan ms_X9_undoSpan (c_X9_undoSpan _ LM2 m1 gs) (al_mk SM.1 (by omega) (by omega) (by decide)) (t := 9) rfl rfl rfl rfl (by decide) (Nat.le_of_ble_eq_true rfl) (by decide) dL_law_357 (fun z357 hB rz357 p357 => ?_)
        obtain ⟨s3, o2, m2, f2⟩ := p357
        obtain ⟨e1, e2⟩ := O_undoSpan_fn o1 o2
        rw [← e1, ← e2] at m2
        have i2 := i1.far f2
        have g2 := gs.ch (z := z343) (O_undoSpan.good gs.1 o1)
        have z2 := gz.ch (z := z343) gs (O_undoSpan.sz gs.1 gz.1 o1)
        refine Aj.icmp_eq (tgt := 836) C dL_law_360 (by decide) (fun c360 => ?_) (fun c360 => ?_)
        · refine Aj.iinc (al2 := [(3, qi (i + 5)), (0, qa zb), (1, qa b), (2, qa (b + 224))]) C 3 dL_law_836 rfl (by decide) (by omega) rfl ?_
          refine Aj.goto (tgt := 18) C dL_law_839 (by decide) ?_
          refine Aj.pick (al2 := [(0, qa zb), (1, qa b), (2, qa (b + 224)), (3, qi (i + 5))]) [1, 2, 3, 0] rfl ?_
          exact ih18 (i + 5) (chg st z343 s2) hB (⟨by omega, by omega, i2, m2, g2, z2⟩) (by omega)
        · exact absurd e1 c360
      · refine Aj.tableIn C (333) dL_law_32 (by omega) (by rw [c32]; rfl) (tgt := 365) (by decide) ?_
        refine Aj.aload_n C 1 dL_law_365 rfl ?_
        refine Aj.aload_n C 0 dL_law_366 rfl ?_
        refine Aj.iload_n C 3 dL_law_367 rfl ?_
        refine Aj.iconst C dL_law_368 (by decide) ?_
        refine Aj.iadd C dL_law_369 (by omega) ?_
        refine Aj.sld C SX (by omega) dL_law_370 ?_
        refine Aj.aload_n C 0 dL_law_371 rfl ?_
        refine Aj.iload_n C 3 dL_law_372 rfl ?_
        refine Aj.iconst C dL_law_373 (by decide) ?_
        refine Aj.iadd C dL_law_374 (by omega) ?_
        refine Aj.sld C SX (by omega) dL_law_375 ?_
        refine Aj.aload_n C 0 dL_law_376 rfl ?_
        refine Aj.iload_n C 3 dL_law_377 rfl ?_
        refine Aj.iconst C dL_law_378 (by decide) ?_
        refine Aj.iadd C dL_law_379 (by omega) ?_
        refine Aj.sld C SX (by omega) dL_law_380 ?_
        refine Aj.aload_n C 0 dL_law_381 rfl ?_
        refine Aj.iload_n C 3 dL_law_382 rfl ?_
        refine Aj.iconst C dL_law_383 (by decide) ?_
        refine Aj.iadd C dL_law_384 (by omega) ?_
        refine Aj.sld C SX (by omega) dL_law_385 ?_
        refine Aj.callVi (As := [qi (xv (i + 1)), qi (xv (i + 2)), qi (xv (i + 3)), qi (xv (i + 4))]) (st := []) C lm_RL_44 m_X8_title mk_X8_title ms_X8_title (c_X8_title _ LC2 hI gs) (al_mk SC.1 hb (by omega) (by decide)) (t := 8) rfl rfl rfl rfl (by decide) (Nat.le_of_ble_eq_true rfl) (by decide) dL_law_386 (fun z386 hA rz386 p386 => ?_)
        obtain ⟨s2, o1, i1, f1⟩ := p386
        have m1 := hM.far f1
        refine Aj.aload_n C 2 dL_law_389 rfl ?_
        refine Aj.aload_n C 0 dL_law_390 rfl ?_
        refine Aj.iload_n C 3 dL_law_391 rfl ?_
        refine Aj.iconst C dL_law_392 (by decide) ?_
        refine Aj.iadd C dL_law_393 (by omega) ?_
        refine Aj.sld C SX (by omega) dL_law_394 ?_
        refine Aj.aload_n C 0 dL_law_395 rfl ?_
        refine Aj.iload_n C 3 dL_law_396 rfl ?_
        refine Aj.iconst C dL_law_397 (by decide) ?_
        refine Aj.iadd C dL_law_398 (by omega) ?_
        refine Aj.sld C SX (by omega) dL_law_399 ?_
        refine Aj.aload_n C 0 dL_law_400 rfl ?_
        refine Aj.iload_n C 3 dL_law_401 rfl ?_
        refine Aj.iconst C dL_law_402 (by decide) ?_
        refine Aj.iadd C dL_law_403 (by omega) ?_
        refine Aj.sld C SX (by omega) dL_law_404 ?_
        refine Aj.aload_n C 0 dL_law_405 rfl ?_
        refine Aj.iload_n C 3 dL_law_406 rfl ?_
        refine Aj.iconst C dL_law_407 (by decide) ?_
        refine Aj.iadd C dL_law_408 (by omega) ?_
        refine Aj.sld C SX (by omega) dL_law_409 ?_
        refine Aj.callVi (As := [qi (xv (i + 1)), qi (xv (i + 2)), qi (xv (i + 3)), qi (xv (i + 4))]) (st := [qi z386]) C lm_RL_48 m_X9_title mk_X9_title ms_X9_title (c_X9_title _ LM2 m1 gs) (al_mk SM.1 (by omega) (by omega) (by decide)) (t := 9) rfl rfl rfl rfl (by decide) (Nat.le_of_ble_eq_true rfl) (by decide) dL_law_410 (fun z410 hB rz410 p410 => ?_)
        obtain ⟨s3, o2, m2, f2⟩ := p410
        obtain ⟨e1, e2⟩ := O_title_fn o1 o2
        rw [← e1, ← e2] at m2
        have i2 := i1.far f2
        have g2 := gs.ch (z := z386) (O_title.good gs.1 o1)
        have z2 := gz.ch (z := z386) gs (O_title.sz gs.1 gz.1 o1)
        refine Aj.icmp_eq (tgt := 836) C dL_law_413 (by decide) (fun c413 => ?_) (fun c413 => ?_)
        · refine Aj.iinc (al2 := [(3, qi (i + 5)), (0, qa zb), (1, qa b), (2, qa (b + 224))]) C 3 dL_law_836 rfl (by decide) (by omega) rfl ?_
          refine Aj.goto (tgt := 18) C dL_law_839 (by decide) ?_
          refine Aj.pick (al2 := [(0, qa zb), (1, qa b), (2, qa (b + 224)), (3, qi (i + 5))]) [1, 2, 3, 0] rfl ?_
          exact ih18 (i + 5) (chg st z386 s2) hB (⟨by omega, by omega, i2, m2, g2, z2⟩) (by omega)
        · exact absurd e1 c413
      · refine Aj.tableIn C (386) dL_law_32 (by omega) (by rw [c32]; rfl) (tgt := 418) (by decide) ?_
        refine Aj.aload_n C 1 dL_law_418 rfl ?_
        refine Aj.aload_n C 0 dL_law_419 rfl ?_
        refine Aj.iload_n C 3 dL_law_420 rfl ?_
        refine Aj.iconst C dL_law_421 (by decide) ?_
        refine Aj.iadd C dL_law_422 (by omega) ?_
        refine Aj.sld C SX (by omega) dL_law_423 ?_
        refine Aj.callVi (As := [qi (xv (i + 1))]) (st := []) C lm_RL_49 m_X8_drop mk_X8_drop ms_X8_drop (c_X8_drop _ LC2 hI gs) (al_mk SC.1 hb (by omega) (by decide)) (t := 8) rfl rfl rfl rfl (by decide) (Nat.le_of_ble_eq_true rfl) (by decide) dL_law_424 (fun z424 hA rz424 p424 => ?_)
        obtain ⟨s2, o1, i1, f1⟩ := p424
        have m1 := hM.far f1
        refine Aj.aload_n C 2 dL_law_427 rfl ?_
        refine Aj.aload_n C 0 dL_law_428 rfl ?_
        refine Aj.iload_n C 3 dL_law_429 rfl ?_
        refine Aj.iconst C dL_law_430 (by decide) ?_
        refine Aj.iadd C dL_law_431 (by omega) ?_
        refine Aj.sld C SX (by omega) dL_law_432 ?_
        refine Aj.callVi (As := [qi (xv (i + 1))]) (st := [qi z424]) C lm_RL_52 m_X9_drop mk_X9_drop ms_X9_drop (c_X9_drop _ LM2 m1 gs) (al_mk SM.1 (by omega) (by omega) (by decide)) (t := 9) rfl rfl rfl rfl (by decide) (Nat.le_of_ble_eq_true rfl) (by decide) dL_law_433 (fun z433 hB rz433 p433 => ?_)
        obtain ⟨s3, o2, m2, f2⟩ := p433
        obtain ⟨e1, e2⟩ := O_drop_fn o1 o2
        rw [← e1, ← e2] at m2
        have i2 := i1.far f2
        have g2 := gs.ch (z := z424) (O_drop.good gs.1 o1)
        have z2 := gz.ch (z := z424) gs (O_drop.sz gs.1 gz.1 o1)
        refine Aj.icmp_eq (tgt := 836) C dL_law_436 (by decide) (fun c436 => ?_) (fun c436 => ?_)
        · refine Aj.iinc (al2 := [(3, qi (i + 5)), (0, qa zb), (1, qa b), (2, qa (b + 224))]) C 3 dL_law_836 rfl (by decide) (by omega) rfl ?_
          refine Aj.goto (tgt := 18) C dL_law_839 (by decide) ?_
          refine Aj.pick (al2 := [(0, qa zb), (1, qa b), (2, qa (b + 224)), (3, qi (i + 5))]) [1, 2, 3, 0] rfl ?_
          exact ih18 (i + 5) (chg st z424 s2) hB (⟨by omega, by omega, i2, m2, g2, z2⟩) (by omega)
        · exact absurd e1 c436
      · refine Aj.tableIn C (409) dL_law_32 (by omega) (by rw [c32]; rfl) (tgt := 441) (by decide) ?_
        refine Aj.aload_n C 1 dL_law_441 rfl ?_
        refine Aj.aload_n C 0 dL_law_442 rfl ?_
        refine Aj.iload_n C 3 dL_law_443 rfl ?_
        refine Aj.iconst C dL_law_444 (by decide) ?_
        refine Aj.iadd C dL_law_445 (by omega) ?_
        refine Aj.sld C SX (by omega) dL_law_446 ?_
        refine Aj.aload_n C 0 dL_law_447 rfl ?_
        refine Aj.iload_n C 3 dL_law_448 rfl ?_
        refine Aj.iconst C dL_law_449 (by decide) ?_
        refine Aj.iadd C dL_law_450 (by omega) ?_
        refine Aj.sld C SX (by omega) dL_law_451 ?_
        refine Aj.callVi (As := [qi (xv (i + 1)), qi (xv (i + 2))]) (st := []) C lm_RL_53 m_X8_ofBar mk_X8_ofBar ms_X8_ofBar (c_X8_ofBar _ LC2 hI gs) (al_mk SC.1 hb (by omega) (by decide)) (t := 8) rfl rfl rfl rfl (by decide) (Nat.le_of_ble_eq_true rfl) (by decide) dL_law_452 (fun z452 h_3 rz452 p452 => ?_)
        obtain ⟨rfl, q1⟩ := p452
        have m1 := hM
        refine Aj.aload_n C 2 dL_law_455 rfl ?_
        refine Aj.aload_n C 0 dL_law_456 rfl ?_
        refine Aj.iload_n C 3 dL_law_457 rfl ?_
        refine Aj.iconst C dL_law_458 (by decide) ?_
        refine Aj.iadd C dL_law_459 (by omega) ?_
        refine Aj.sld C SX (by omega) dL_law_460 ?_
        refine Aj.aload_n C 0 dL_law_461 rfl ?_
        refine Aj.iload_n C 3 dL_law_462 rfl ?_
        refine Aj.iconst C dL_law_463 (by decide) ?_
        refine Aj.iadd C dL_law_464 (by omega) ?_
        refine Aj.sld C SX (by omega) dL_law_465 ?_
        refine Aj.callVi (As := [qi (xv (i + 1)), qi (xv (i + 2))]) (st := [qi z452]) C lm_RL_56 m_X9_ofBar mk_X9_ofBar ms_X9_ofBar (c_X9_ofBar _ LM2 m1 gs) (al_mk SM.1 (by omega) (by omega) (by decide)) (t := 9) rfl rfl rfl rfl (by decide) (Nat.le_of_ble_eq_true rfl) (by decide) dL_law_466 (fun z466 hB rz466 p466 => ?_)
        obtain ⟨q2, f2⟩ := p466
        have e1 : z452 = z466 := q1.trans q2.symm
        have m2 := hM.fs f2
        have i2 := hI.far f2.fr
        have g2 := gs
        have z2 := gz
        refine Aj.icmp_eq (tgt := 836) C dL_law_469 (by decide) (fun c469 => ?_) (fun c469 => ?_)
        · refine Aj.iinc (al2 := [(3, qi (i + 5)), (0, qa zb), (1, qa b), (2, qa (b + 224))]) C 3 dL_law_836 rfl (by decide) (by omega) rfl ?_
          refine Aj.goto (tgt := 18) C dL_law_839 (by decide) ?_
          refine Aj.pick (al2 := [(0, qa zb), (1, qa b), (2, qa (b + 224)), (3, qi (i + 5))]) [1, 2, 3, 0] rfl ?_
          exact ih18 (i + 5) st hB (⟨by omega, by omega, i2, m2, g2, z2⟩) (by omega)
        · exact absurd e1 c469
      · refine Aj.tableIn C (442) dL_law_32 (by omega) (by rw [c32]; rfl) (tgt := 474) (by decide) ?_
        refine Aj.aload_n C 1 dL_law_474 rfl ?_
        refine Aj.aload_n C 0 dL_law_475 rfl ?_
        refine Aj.iload_n C 3 dL_law_476 rfl ?_
        refine Aj.iconst C dL_law_477 (by decide) ?_
        refine Aj.iadd C dL_law_478 (by omega) ?_
        refine Aj.sld C SX (by omega) dL_law_479 ?_
        refine Aj.aload_n C 0 dL_law_480 rfl ?_
        refine Aj.iload_n C 3 dL_law_481 rfl ?_
        refine Aj.iconst C dL_law_482 (by decide) ?_
        refine Aj.iadd C dL_law_483 (by omega) ?_
        refine Aj.sld C SX (by omega) dL_law_484 ?_
        refine Aj.callVi (As := [qi (xv (i + 1)), qi (xv (i + 2))]) (st := []) C lm_RL_57 m_X8_sung mk_X8_sung ms_X8_sung (c_X8_sung _ LC2 hI gs) (al_mk SC.1 hb (by omega) (by decide)) (t := 8) rfl rfl rfl rfl (by decide) (Nat.le_of_ble_eq_true rfl) (by decide) dL_law_485 (fun z485 h_4 rz485 p485 => ?_)
        obtain ⟨rfl, q1⟩ := p485
        have m1 := hM
        refine Aj.aload_n C 2 dL_law_488 rfl ?_
        refine Aj.aload_n C 0 dL_law_489 rfl ?_
        refine Aj.iload_n C 3 dL_law_490 rfl ?_
        refine Aj.iconst C dL_law_491 (by decide) ?_
        refine Aj.iadd C dL_law_492 (by omega) ?_
        refine Aj.sld C SX (by omega) dL_law_493 ?_
        refine Aj.aload_n C 0 dL_law_494 rfl ?_
        refine Aj.iload_n C 3 dL_law_495 rfl ?_
        refine Aj.iconst C dL_law_496 (by decide) ?_
        refine Aj.iadd C dL_law_497 (by omega) ?_
        refine Aj.sld C SX (by omega) dL_law_498 ?_
        refine Aj.callVi (As := [qi (xv (i + 1)), qi (xv (i + 2))]) (st := [qi z485]) C lm_RL_60 m_X9_sung mk_X9_sung ms_X9_sung (c_X9_sung _ LM2 m1 gs) (al_mk SM.1 (by omega) (by omega) (by decide)) (t := 9) rfl rfl rfl rfl (by decide) (Nat.le_of_ble_eq_true rfl) (by decide) dL_law_499 (fun z499 hB rz499 p499 => ?_)
        obtain ⟨q2, f2⟩ := p499
        have e1 : z485 = z499 := q1.trans q2.symm
        have m2 := hM.fs f2
        have i2 := hI.far f2.fr
        have g2 := gs
        have z2 := gz
        refine Aj.icmp_eq (tgt := 836) C dL_law_502 (by decide) (fun c502 => ?_) (fun c502 => ?_)
        · refine Aj.iinc (al2 := [(3, qi (i + 5)), (0, qa zb), (1, qa b), (2, qa (b + 224))]) C 3 dL_law_836 rfl (by decide) (by omega) rfl ?_
          refine Aj.goto (tgt := 18) C dL_law_839 (by decide) ?_
          refine Aj.pick (al2 := [(0, qa zb), (1, qa b), (2, qa (b + 224)), (3, qi (i + 5))]) [1, 2, 3, 0] rfl ?_
          exact ih18 (i + 5) st hB (⟨by omega, by omega, i2, m2, g2, z2⟩) (by omega)
        · exact absurd e1 c502
      · refine Aj.tableIn C (475) dL_law_32 (by omega) (by rw [c32]; rfl) (tgt := 507) (by decide) ?_
        refine Aj.aload_n C 1 dL_law_507 rfl ?_
        refine Aj.aload_n C 0 dL_law_508 rfl ?_
        refine Aj.iload_n C 3 dL_law_509 rfl ?_
        refine Aj.iconst C dL_law_510 (by decide) ?_
        refine Aj.iadd C dL_law_511 (by omega) ?_
        refine Aj.sld C SX (by omega) dL_law_512 ?_
        refine Aj.aload_n C 0 dL_law_513 rfl ?_
        refine Aj.iload_n C 3 dL_law_514 rfl ?_
        refine Aj.iconst C dL_law_515 (by decide) ?_
        refine Aj.iadd C dL_law_516 (by omega) ?_
        refine Aj.sld C SX (by omega) dL_law_517 ?_
        refine Aj.callVi (As := [qi (xv (i + 1)), qi (xv (i + 2))]) (st := []) C lm_RL_61 m_X8_ofTitle mk_X8_ofTitle ms_X8_ofTitle (c_X8_ofTitle _ LC2 hI gs) (al_mk SC.1 hb (by omega) (by decide)) (t := 8) rfl rfl rfl rfl (by decide) (Nat.le_of_ble_eq_true rfl) (by decide) dL_law_518 (fun z518 h_5 rz518 p518 => ?_)
        obtain ⟨rfl, q1⟩ := p518
        have m1 := hM
        refine Aj.aload_n C 2 dL_law_521 rfl ?_
        refine Aj.aload_n C 0 dL_law_522 rfl ?_
        refine Aj.iload_n C 3 dL_law_523 rfl ?_
        refine Aj.iconst C dL_law_524 (by decide) ?_
        refine Aj.iadd C dL_law_525 (by omega) ?_
        refine Aj.sld C SX (by omega) dL_law_526 ?_
        refine Aj.aload_n C 0 dL_law_527 rfl ?_
        refine Aj.iload_n C 3 dL_law_528 rfl ?_
        refine Aj.iconst C dL_law_529 (by decide) ?_
        refine Aj.iadd C dL_law_530 (by omega) ?_
        refine Aj.sld C SX (by omega) dL_law_531 ?_
        refine Aj.callVi (As := [qi (xv (i + 1)), qi (xv (i + 2))]) (st := [qi z518]) C lm_RL_64 m_X9_ofTitle mk_X9_ofTitle ms_X9_ofTitle (c_X9_ofTitle _ LM2 m1 gs) (al_mk SM.1 (by omega) (by omega) (by decide)) (t := 9) rfl rfl rfl rfl (by decide) (Nat.le_of_ble_eq_true rfl) (by decide) dL_law_532 (fun z532 hB rz532 p532 => ?_)
        obtain ⟨q2, f2⟩ := p532
        have e1 : z518 = z532 := q1.trans q2.symm
        have m2 := hM.fs f2
        have i2 := hI.far f2.fr
        have g2 := gs
        have z2 := gz
        refine Aj.icmp_eq (tgt := 836) C dL_law_535 (by decide) (fun c535 => ?_) (fun c535 => ?_)
        · refine Aj.iinc (al2 := [(3, qi (i + 5)), (0, qa zb), (1, qa b), (2, qa (b + 224))]) C 3 dL_law_836 rfl (by decide) (by omega) rfl ?_
          refine Aj.goto (tgt := 18) C dL_law_839 (by decide) ?_
          refine Aj.pick (al2 := [(0, qa zb), (1, qa b), (2, qa (b + 224)), (3, qi (i + 5))]) [1, 2, 3, 0] rfl ?_
          exact ih18 (i + 5) st hB (⟨by omega, by omega, i2, m2, g2, z2⟩) (by omega)
        · exact absurd e1 c535
      · refine Aj.tableIn C (508) dL_law_32 (by omega) (by rw [c32]; rfl) (tgt := 540) (by decide) ?_
        refine Aj.aload_n C 1 dL_law_540 rfl ?_
        refine Aj.aload_n C 0 dL_law_541 rfl ?_
        refine Aj.iload_n C 3 dL_law_542 rfl ?_
        refine Aj.iconst C dL_law_543 (by decide) ?_
        refine Aj.iadd C dL_law_544 (by omega) ?_
        refine Aj.sld C SX (by omega) dL_law_545 ?_
        refine Aj.aload_n C 0 dL_law_546 rfl ?_
        refine Aj.iload_n C 3 dL_law_547 rfl ?_
        refine Aj.iconst C dL_law_548 (by decide) ?_
        refine Aj.iadd C dL_law_549 (by omega) ?_
        refine Aj.sld C SX (by omega) dL_law_550 ?_
        refine Aj.callVi (As := [qi (xv (i + 1)), qi (xv (i + 2))]) (st := []) C lm_RL_65 m_X8_showing mk_X8_showing ms_X8_showing (c_X8_showing _ LC2 hI gs) (al_mk SC.1 hb (by omega) (by decide)) (t := 8) rfl rfl rfl rfl (by decide) (Nat.le_of_ble_eq_true rfl) (by decide) dL_law_551 (fun z551 h_6 rz551 p551 => ?_)
        obtain ⟨rfl, q1⟩ := p551
        have m1 := hM
        refine Aj.aload_n C 2 dL_law_554 rfl ?_
        refine Aj.aload_n C 0 dL_law_555 rfl ?_
        refine Aj.iload_n C 3 dL_law_556 rfl ?_
        refine Aj.iconst C dL_law_557 (by decide) ?_
        refine Aj.iadd C dL_law_558 (by omega) ?_
        refine Aj.sld C SX (by omega) dL_law_559 ?_
        refine Aj.aload_n C 0 dL_law_560 rfl ?_
        refine Aj.iload_n C 3 dL_law_561 rfl ?_
        refine Aj.iconst C dL_law_562 (by decide) ?_
        refine Aj.iadd C dL_law_563 (by omega) ?_
        refine Aj.sld C SX (by omega) dL_law_564 ?_
        refine Aj.callVi (As := [qi (xv (i + 1)), qi (xv (i + 2))]) (st := [qi z551]) C lm_RL_68 m_X9_showing mk_X9_showing ms_X9_showing (c_X9_showing _ LM2 m1 gs) (al_mk SM.1 (by omega) (by omega) (by decide)) (t := 9) rfl rfl rfl rfl (by decide) (Nat.le_of_ble_eq_true rfl) (by decide) dL_law_565 (fun z565 hB rz565 p565 => ?_)
        obtain ⟨q2, f2⟩ := p565
        have e1 : z551 = z565 := q1.trans q2.symm
        have m2 := hM.fs f2
        have i2 := hI.far f2.fr
        have g2 := gs
        have z2 := gz
        refine Aj.icmp_eq (tgt := 836) C dL_law_568 (by decide) (fun c568 => ?_) (fun c568 => ?_)
        · refine Aj.iinc (al2 := [(3, qi (i + 5)), (0, qa zb), (1, qa b), (2, qa (b + 224))]) C 3 dL_law_836 rfl (by decide) (by omega) rfl ?_
          refine Aj.goto (tgt := 18) C dL_law_839 (by decide) ?_
          refine Aj.pick (al2 := [(0, qa zb), (1, qa b), (2, qa (b + 224)), (3, qi (i + 5))]) [1, 2, 3, 0] rfl ?_
          exact ih18 (i + 5) st hB (⟨by omega, by omega, i2, m2, g2, z2⟩) (by omega)
        · exact absurd e1 c568
      · refine Aj.tableIn C (541) dL_law_32 (by omega) (by rw [c32]; rfl) (tgt := 573) (by decide) ?_
        refine Aj.aload_n C 1 dL_law_573 rfl ?_
        refine Aj.aload_n C 0 dL_law_574 rfl ?_
        refine Aj.iload_n C 3 dL_law_575 rfl ?_
        refine Aj.iconst C dL_law_576 (by decide) ?_
        refine Aj.iadd C dL_law_577 (by omega) ?_
        refine Aj.sld C SX (by omega) dL_law_578 ?_
        refine Aj.callVi (As := [qi (xv (i + 1))]) (st := []) C lm_RL_69 m_X8_at mk_X8_at ms_X8_at (c_X8_at _ LC2 hI gs) (al_mk SC.1 hb (by omega) (by decide)) (t := 8) rfl rfl rfl rfl (by decide) (Nat.le_of_ble_eq_true rfl) (by decide) dL_law_579 (fun z579 h_7 rz579 p579 => ?_)
        obtain ⟨rfl, q1⟩ := p579
        have m1 := hM
        refine Aj.aload_n C 2 dL_law_582 rfl ?_
        refine Aj.aload_n C 0 dL_law_583 rfl ?_
        refine Aj.iload_n C 3 dL_law_584 rfl ?_
        refine Aj.iconst C dL_law_585 (by decide) ?_
        refine Aj.iadd C dL_law_586 (by omega) ?_
        refine Aj.sld C SX (by omega) dL_law_587 ?_
        refine Aj.callVi (As := [qi (xv (i + 1))]) (st := [qi z579]) C lm_RL_72 m_X9_at mk_X9_at ms_X9_at (c_X9_at _ LM2 m1 gs) (al_mk SM.1 (by omega) (by omega) (by decide)) (t := 9) rfl rfl rfl rfl (by decide) (Nat.le_of_ble_eq_true rfl) (by decide) dL_law_588 (fun z588 hB rz588 p588 => ?_)
        obtain ⟨q2, f2⟩ := p588
        have e1 : z579 = z588 := O_at_fn q1 q2
        have m2 := hM.fs f2
        have i2 := hI.far f2.fr
        have g2 := gs
        have z2 := gz
        refine Aj.icmp_eq (tgt := 836) C dL_law_591 (by decide) (fun c591 => ?_) (fun c591 => ?_)
        · refine Aj.iinc (al2 := [(3, qi (i + 5)), (0, qa zb), (1, qa b), (2, qa (b + 224))]) C 3 dL_law_836 rfl (by decide) (by omega) rfl ?_
          refine Aj.goto (tgt := 18) C dL_law_839 (by decide) ?_
          refine Aj.pick (al2 := [(0, qa zb), (1, qa b), (2, qa (b + 224)), (3, qi (i + 5))]) [1, 2, 3, 0] rfl ?_
          exact ih18 (i + 5) st hB (⟨by omega, by omega, i2, m2, g2, z2⟩) (by omega)
        · exact absurd e1 c591
      · refine Aj.tableIn C (564) dL_law_32 (by omega) (by rw [c32]; rfl) (tgt := 596) (by decide) ?_
        refine Aj.aload_n C 1 dL_law_596 rfl ?_
        refine Aj.aload_n C 0 dL_law_597 rfl ?_
        refine Aj.iload_n C 3 dL_law_598 rfl ?_
        refine Aj.iconst C dL_law_599 (by decide) ?_
        refine Aj.iadd C dL_law_600 (by omega) ?_
        refine Aj.sld C SX (by omega) dL_law_601 ?_
        refine Aj.callVi (As := [qi (xv (i + 1))]) (st := []) C lm_RL_73 m_X8_count mk_X8_count ms_X8_count (c_X8_count _ LC2 hI gs) (al_mk SC.1 hb (by omega) (by decide)) (t := 8) rfl rfl rfl rfl (by decide) (Nat.le_of_ble_eq_true rfl) (by decide) dL_law_602 (fun z602 h_8 rz602 p602 => ?_)
        obtain ⟨rfl, q1⟩ := p602
        have m1 := hM
        refine Aj.aload_n C 2 dL_law_605 rfl ?_
        refine Aj.aload_n C 0 dL_law_606 rfl ?_
        refine Aj.iload_n C 3 dL_law_607 rfl ?_
        refine Aj.iconst C dL_law_608 (by decide) ?_
        refine Aj.iadd C dL_law_609 (by omega) ?_
        refine Aj.sld C SX (by omega) dL_law_610 ?_
        refine Aj.callVi (As := [qi (xv (i + 1))]) (st := [qi z602]) C lm_RL_76 m_X9_count mk_X9_count ms_X9_count (c_X9_count _ LM2 m1 gs) (al_mk SM.1 (by omega) (by omega) (by decide)) (t := 9) rfl rfl rfl rfl (by decide) (Nat.le_of_ble_eq_true rfl) (by decide) dL_law_611 (fun z611 hB rz611 p611 => ?_)
        obtain ⟨q2, f2⟩ := p611
        have e1 : z602 = z611 := q1.trans q2.symm
        have m2 := hM.fs f2
        have i2 := hI.far f2.fr
        have g2 := gs
        have z2 := gz
        refine Aj.icmp_eq (tgt := 836) C dL_law_614 (by decide) (fun c614 => ?_) (fun c614 => ?_)
        · refine Aj.iinc (al2 := [(3, qi (i + 5)), (0, qa zb), (1, qa b), (2, qa (b + 224))]) C 3 dL_law_836 rfl (by decide) (by omega) rfl ?_
          refine Aj.goto (tgt := 18) C dL_law_839 (by decide) ?_
          refine Aj.pick (al2 := [(0, qa zb), (1, qa b), (2, qa (b + 224)), (3, qi (i + 5))]) [1, 2, 3, 0] rfl ?_
          exact ih18 (i + 5) st hB (⟨by omega, by omega, i2, m2, g2, z2⟩) (by omega)
        · exact absurd e1 c614
      · refine Aj.tableIn C (587) dL_law_32 (by omega) (by rw [c32]; rfl) (tgt := 619) (by decide) ?_
        refine Aj.aload_n C 1 dL_law_619 rfl ?_
        refine Aj.aload_n C 0 dL_law_620 rfl ?_
        refine Aj.iload_n C 3 dL_law_621 rfl ?_
        refine Aj.iconst C dL_law_622 (by decide) ?_
        refine Aj.iadd C dL_law_623 (by omega) ?_
        refine Aj.sld C SX (by omega) dL_law_624 ?_
        refine Aj.aload_n C 0 dL_law_625 rfl ?_
        refine Aj.iload_n C 3 dL_law_626 rfl ?_
        refine Aj.iconst C dL_law_627 (by decide) ?_
        refine Aj.iadd C dL_law_628 (by omega) ?_
        refine Aj.sld C SX (by omega) dL_law_629 ?_
        refine Aj.aload_n C 0 dL_law_630 rfl ?_
        refine Aj.iload_n C 3 dL_law_631 rfl ?_
        refine Aj.iconst C dL_law_632 (by decide) ?_
        refine Aj.iadd C dL_law_633 (by omega) ?_
        refine Aj.sld C SX (by omega) dL_law_634 ?_
        refine Aj.callVi (As := [qi (xv (i + 1)), qi (xv (i + 2)), qi (xv (i + 3))]) (st := []) C lm_RL_77 m_X8_cutIf mk_X8_cutIf ms_X8_cutIf (c_X8_cutIf _ LC2 hI gs) (al_mk SC.1 hb (by omega) (by decide)) (t := 8) rfl rfl rfl rfl (by decide) (Nat.le_of_ble_eq_true rfl) (by decide) dL_law_635 (fun z635 hA rz635 p635 => ?_)
        obtain ⟨q1, i1, f1⟩ := p635
        have m1 := hM.far f1
        refine Aj.aload_n C 2 dL_law_638 rfl ?_
        refine Aj.aload_n C 0 dL_law_639 rfl ?_
        refine Aj.iload_n C 3 dL_law_640 rfl ?_
        refine Aj.iconst C dL_law_641 (by decide) ?_
        refine Aj.iadd C dL_law_642 (by omega) ?_
        refine Aj.sld C SX (by omega) dL_law_643 ?_
        refine Aj.aload_n C 0 dL_law_644 rfl ?_
        refine Aj.iload_n C 3 dL_law_645 rfl ?_
        refine Aj.iconst C dL_law_646 (by decide) ?_
        refine Aj.iadd C dL_law_647 (by omega) ?_
        refine Aj.sld C SX (by omega) dL_law_648 ?_
        refine Aj.aload_n C 0 dL_law_649 rfl ?_
        refine Aj.iload_n C 3 dL_law_650 rfl ?_
        refine Aj.iconst C dL_law_651 (by decide) ?_
        refine Aj.iadd C dL_law_652 (by omega) ?_
        refine Aj.sld C SX (by omega) dL_law_653 ?_
        refine Aj.callVi (As := [qi (xv (i + 1)), qi (xv (i + 2)), qi (xv (i + 3))]) (st := [qi z635]) C lm_RL_80 m_X9_cutIf mk_X9_cutIf ms_X9_cutIf (c_X9_cutIf _ LM2 m1 gs gz.1) (al_mk SM.1 (by omega) (by omega) (by decide)) (t := 9) rfl rfl rfl rfl (by decide) (Nat.le_of_ble_eq_true rfl) (by decide) dL_law_654 (fun z654 hB rz654 p654 => ?_)
        obtain ⟨q2, m2, f2⟩ := p654
        have e1 := O_cutIf_fn q1 q2
        have i2 := i1.far f2
        have g2 := gs
        have z2 := gz
        refine Aj.icmp_eq (tgt := 836) C dL_law_657 (by decide) (fun c657 => ?_) (fun c657 => ?_)
        · refine Aj.iinc (al2 := [(3, qi (i + 5)), (0, qa zb), (1, qa b), (2, qa (b + 224))]) C 3 dL_law_836 rfl (by decide) (by omega) rfl ?_
          refine Aj.goto (tgt := 18) C dL_law_839 (by decide) ?_
          refine Aj.pick (al2 := [(0, qa zb), (1, qa b), (2, qa (b + 224)), (3, qi (i + 5))]) [1, 2, 3, 0] rfl ?_
          exact ih18 (i + 5) st hB (⟨by omega, by omega, i2, m2, g2, z2⟩) (by omega)
        · exact absurd e1 c657
      · refine Aj.tableIn C (630) dL_law_32 (by omega) (by rw [c32]; rfl) (tgt := 662) (by decide) ?_
        refine Aj.aload_n C 1 dL_law_662 rfl ?_
        refine Aj.aload_n C 0 dL_law_663 rfl ?_
        refine Aj.iload_n C 3 dL_law_664 rfl ?_
        refine Aj.iconst C dL_law_665 (by decide) ?_
        refine Aj.iadd C dL_law_666 (by omega) ?_
        refine Aj.sld C SX (by omega) dL_law_667 ?_
        refine Aj.callVi (As := [qi (xv (i + 1))]) (st := []) C lm_RL_81 m_X8_slowest mk_X8_slowest ms_X8_slowest (c_X8_slowest _ LC2 hI gs) (al_mk SC.1 hb (by omega) (by decide)) (t := 8) rfl rfl rfl rfl (by decide) (Nat.le_of_ble_eq_true rfl) (by decide) dL_law_668 (fun z668 h_9 rz668 p668 => ?_)
        obtain ⟨rfl, q1⟩ := p668
        have m1 := hM
        refine Aj.aload_n C 2 dL_law_671 rfl ?_
        refine Aj.aload_n C 0 dL_law_672 rfl ?_
        refine Aj.iload_n C 3 dL_law_673 rfl ?_
        refine Aj.iconst C dL_law_674 (by decide) ?_
        refine Aj.iadd C dL_law_675 (by omega) ?_
        refine Aj.sld C SX (by omega) dL_law_676 ?_
        refine Aj.callVi (As := [qi (xv (i + 1))]) (st := [qi z668]) C lm_RL_84 m_X9_slowest mk_X9_slowest ms_X9_slowest (c_X9_slowest _ LM2 m1 gs) (al_mk SM.1 (by omega) (by omega) (by decide)) (t := 9) rfl rfl rfl rfl (by decide) (Nat.le_of_ble_eq_true rfl) (by decide) dL_law_677 (fun z677 hB rz677 p677 => ?_)
        obtain ⟨q2, f2⟩ := p677
        have e1 : z668 = z677 := O_slow_fn q1 q2
        have m2 := hM.fs f2
        have i2 := hI.far f2.fr
        have g2 := gs
        have z2 := gz
        refine Aj.icmp_eq (tgt := 836) C dL_law_680 (by decide) (fun c680 => ?_) (fun c680 => ?_)
        · refine Aj.iinc (al2 := [(3, qi (i + 5)), (0, qa zb), (1, qa b), (2, qa (b + 224))]) C 3 dL_law_836 rfl (by decide) (by omega) rfl ?_
          refine Aj.goto (tgt := 18) C dL_law_839 (by decide) ?_
          refine Aj.pick (al2 := [(0, qa zb), (1, qa b), (2, qa (b + 224)), (3, qi (i + 5))]) [1, 2, 3, 0] rfl ?_
          exact ih18 (i + 5) st hB (⟨by omega, by omega, i2, m2, g2, z2⟩) (by omega)
        · exact absurd e1 c680
      · refine Aj.tableIn C (653) dL_law_32 (by omega) (by rw [c32]; rfl) (tgt := 685) (by decide) ?_
        refine Aj.aload_n C 1 dL_law_685 rfl ?_
        refine Aj.aload_n C 0 dL_law_686 rfl ?_
        refine Aj.iload_n C 3 dL_law_687 rfl ?_
        refine Aj.iconst C dL_law_688 (by decide) ?_
        refine Aj.iadd C dL_law_689 (by omega) ?_
        refine Aj.sld C SX (by omega) dL_law_690 ?_
        refine Aj.i2l C dL_law_691 ?_
        refine Aj.bipush C dL_law_692 (by decide) (by decide) ?_
        refine Aj.lshl C dL_law_694 ?_
        refine Aj.aload_n C 0 dL_law_695 rfl ?_
        refine Aj.iload_n C 3 dL_law_696 rfl ?_
        refine Aj.iconst C dL_law_697 (by decide) ?_
        refine Aj.iadd C dL_law_698 (by omega) ?_
        refine Aj.sld C SX (by omega) dL_law_699 ?_
        refine Aj.i2l C dL_law_700 ?_
        refine Aj.ldc2 (w := 4294967295) C ll_RL_85 dL_law_701 (by decide) (by decide) ?_
        refine Aj.land C dL_law_704 ?_
        refine Aj.lor C dL_law_705 ?_
        refine Aj.callVi (As := [ql (l_or (l_shl (xv (i + 1)) 32) (l_and (xv (i + 2)) 4294967295))]) (st := []) C lm_RL_87 m_X8_put mk_X8_put ms_X8_put (c_X8_put _ LC2 hI gs) (al_mk SC.1 hb (by omega) (by decide)) (t := 8) rfl rfl rfl rfl (by decide) (Nat.le_of_ble_eq_true rfl) (by decide) dL_law_706 (fun z706 hA rz706 p706 => ?_)
        obtain ⟨mm, PP, q1, i1, f1⟩ := p706
        have m1 := hM.far f1
        refine Aj.aload_n C 2 dL_law_709 rfl ?_
        refine Aj.aload_n C 0 dL_law_710 rfl ?_
        refine Aj.iload_n C 3 dL_law_711 rfl ?_
        refine Aj.iconst C dL_law_712 (by decide) ?_
        refine Aj.iadd C dL_law_713 (by omega) ?_
        refine Aj.sld C SX (by omega) dL_law_714 ?_
        refine Aj.i2l C dL_law_715 ?_
        refine Aj.bipush C dL_law_716 (by decide) (by decide) ?_
        refine Aj.lshl C dL_law_718 ?_
        refine Aj.aload_n C 0 dL_law_719 rfl ?_
        refine Aj.iload_n C 3 dL_law_720 rfl ?_
        refine Aj.iconst C dL_law_721 (by decide) ?_
        refine Aj.iadd C dL_law_722 (by omega) ?_
        refine Aj.sld C SX (by omega) dL_law_723 ?_
        refine Aj.i2l C dL_law_724 ?_
        refine Aj.ldc2 (w := 4294967295) C ll_RL_85 dL_law_725 (by decide) (by decide) ?_
        refine Aj.land C dL_law_728 ?_
        refine Aj.lor C dL_law_729 ?_
        refine Aj.callVi (As := [ql (l_or (l_shl (xv (i + 1)) 32) (l_and (xv (i + 2)) 4294967295))]) (st := [qi z706]) C lm_RL_91 m_X9_put mk_X9_put ms_X9_put (c_X9_put _ (q_rL _) LM2 m1 gs) (al_mk SM.1 (by omega) (by omega) (by decide)) (t := 9) rfl rfl rfl rfl (by decide) (Nat.le_of_ble_eq_true rfl) (by decide) dL_law_730 (fun z730 hB rz730 p730 => ?_)
        obtain ⟨mm2, PP2, q2, m2, f2⟩ := p730
        obtain ⟨e1, e2, e3⟩ := O_put_fn q1 q2
        rw [← e2, ← e3] at m2
        have i2 := i1.far f2
        have g2 := gs.pad (O_put_good gs.2.1 q1)
        have z2 : GZ (st.1, (mm, PP), st.2.2) := gz.pad
        refine Aj.icmp_eq (tgt := 836) C dL_law_733 (by decide) (fun c733 => ?_) (fun c733 => ?_)
        · refine Aj.iinc (al2 := [(3, qi (i + 5)), (0, qa zb), (1, qa b), (2, qa (b + 224))]) C 3 dL_law_836 rfl (by decide) (by omega) rfl ?_
          refine Aj.goto (tgt := 18) C dL_law_839 (by decide) ?_
          refine Aj.pick (al2 := [(0, qa zb), (1, qa b), (2, qa (b + 224)), (3, qi (i + 5))]) [1, 2, 3, 0] rfl ?_
          exact ih18 (i + 5) (st.1, (mm, PP), st.2.2) hB (⟨by omega, by omega, i2, m2, g2, z2⟩) (by omega)
        · exact absurd e1 c733
      · refine Aj.tableIn C (706) dL_law_32 (by omega) (by rw [c32]; rfl) (tgt := 738) (by decide) ?_
        refine Aj.aload_n C 1 dL_law_738 rfl ?_
        refine Aj.callVi (As := []) (st := []) C lm_RL_92 m_X8_wipe mk_X8_wipe ms_X8_wipe (c_X8_wipe _ LC2 hI gs) (al_mk SC.1 hb (by omega) (by decide)) (t := 8) rfl rfl rfl rfl (by decide) (Nat.le_of_ble_eq_true rfl) (by decide) dL_law_739 (fun z739 hA rz739 p739 => ?_)
        obtain ⟨q1, i1, f1⟩ := p739
        have m1 := hM.far f1
        refine Aj.aload_n C 2 dL_law_742 rfl ?_
        refine Aj.callVi (As := []) (st := [qi z739]) C lm_RL_96 m_X9_wipe mk_X9_wipe ms_X9_wipe (c_X9_wipe _ LM2 m1 gs) (al_mk SM.1 (by omega) (by omega) (by decide)) (t := 9) rfl rfl rfl rfl (by decide) (Nat.le_of_ble_eq_true rfl) (by decide) dL_law_743 (fun z743 hB rz743 p743 => ?_)
        obtain ⟨q2, m2, f2⟩ := p743
        have e1 := q1.trans q2.symm
        have i2 := i1.far f2
        have g2 := gs.pad (PG_0 st.2.1.2)
        have z2 : GZ (st.1, (0, st.2.1.2), st.2.2) := gz.pad
        refine Aj.icmp_eq (tgt := 836) C dL_law_746 (by decide) (fun c746 => ?_) (fun c746 => ?_)
        · refine Aj.iinc (al2 := [(3, qi (i + 5)), (0, qa zb), (1, qa b), (2, qa (b + 224))]) C 3 dL_law_836 rfl (by decide) (by omega) rfl ?_
          refine Aj.goto (tgt := 18) C dL_law_839 (by decide) ?_
          refine Aj.pick (al2 := [(0, qa zb), (1, qa b), (2, qa (b + 224)), (3, qi (i + 5))]) [1, 2, 3, 0] rfl ?_
          exact ih18 (i + 5) (st.1, (0, st.2.1.2), st.2.2) hB (⟨by omega, by omega, i2, m2, g2, z2⟩) (by omega)
        · exact absurd e1 c746
      · refine Aj.tableIn C (719) dL_law_32 (by omega) (by rw [c32]; rfl) (tgt := 751) (by decide) ?_
        refine Aj.aload_n C 1 dL_law_751 rfl ?_
        refine Aj.callVi (As := []) (st := []) C lm_RL_97 m_X8_fault mk_X8_fault ms_X8_fault (c_X8_fault _ LC2 hI gs) (al_mk SC.1 hb (by omega) (by decide)) (t := 8) rfl rfl rfl rfl (by decide) (Nat.le_of_ble_eq_true rfl) (by decide) dL_law_752 (fun z752 hA rz752 p752 => ?_)
        obtain ⟨q1, i1, f1⟩ := p752
        have m1 := hM.far f1
        refine Aj.aload_n C 2 dL_law_755 rfl ?_
        refine Aj.callVi (As := []) (st := [qi z752]) C lm_RL_100 m_X9_fault mk_X9_fault ms_X9_fault (c_X9_fault _ LM2 m1 gs) (al_mk SM.1 (by omega) (by omega) (by decide)) (t := 9) rfl rfl rfl rfl (by decide) (Nat.le_of_ble_eq_true rfl) (by decide) dL_law_756 (fun z756 hB rz756 p756 => ?_)
        obtain ⟨q2, m2, f2⟩ := p756
        have e1 := O_fault_fn gs.2.1.1 q1 q2
        have i2 := i1.far f2
        have g2 := gs
        have z2 := gz
        refine Aj.icmp_eq (tgt := 836) C dL_law_759 (by decide) (fun c759 => ?_) (fun c759 => ?_)
        · refine Aj.iinc (al2 := [(3, qi (i + 5)), (0, qa zb), (1, qa b), (2, qa (b + 224))]) C 3 dL_law_836 rfl (by decide) (by omega) rfl ?_
          refine Aj.goto (tgt := 18) C dL_law_839 (by decide) ?_
          refine Aj.pick (al2 := [(0, qa zb), (1, qa b), (2, qa (b + 224)), (3, qi (i + 5))]) [1, 2, 3, 0] rfl ?_
          exact ih18 (i + 5) st hB (⟨by omega, by omega, i2, m2, g2, z2⟩) (by omega)
        · exact absurd e1 c759
      · refine Aj.tableIn C (732) dL_law_32 (by omega) (by rw [c32]; rfl) (tgt := 764) (by decide) ?_
        refine Aj.aload_n C 1 dL_law_764 rfl ?_
        refine Aj.callVi (As := []) (st := []) C lm_RL_101 m_X8_carryOut mk_X8_carryOut ms_X8_carryOut (c_X8_carryOut _ LC2 hI gs) (al_mk SC.1 hb (by omega) (by decide)) (t := 8) rfl rfl rfl rfl (by decide) (Nat.le_of_ble_eq_true rfl) (by decide) dL_law_765 (fun z765 hA rz765 p765 => ?_)
        obtain ⟨sA, q1, i1, f1⟩ := p765
        have m1 := hM.far f1
        refine Aj.aload_n C 2 dL_law_768 rfl ?_
        refine Aj.callVi (As := []) (st := [qi z765]) C lm_RL_104 m_X9_carryOut mk_X9_carryOut ms_X9_carryOut (c_X9_carryOut _ LM2 m1 gs gz.1) (al_mk SM.1 (by omega) (by omega) (by decide)) (t := 9) rfl rfl rfl rfl (by decide) (Nat.le_of_ble_eq_true rfl) (by decide) dL_law_769 (fun z769 hB rz769 p769 => ?_)
        obtain ⟨sB, q2, m2, f2⟩ := p769
        obtain ⟨e1, e2⟩ := O_carry_fn q1 q2
        rw [← e2] at m2
        have i2 := i1.far f2
        obtain ⟨g2, z2⟩ := carry_g gs gz q1
        refine Aj.icmp_eq (tgt := 836) C dL_law_772 (by decide) (fun c772 => ?_) (fun c772 => ?_)
        · refine Aj.iinc (al2 := [(3, qi (i + 5)), (0, qa zb), (1, qa b), (2, qa (b + 224))]) C 3 dL_law_836 rfl (by decide) (by omega) rfl ?_
          refine Aj.goto (tgt := 18) C dL_law_839 (by decide) ?_
          refine Aj.pick (al2 := [(0, qa zb), (1, qa b), (2, qa (b + 224)), (3, qi (i + 5))]) [1, 2, 3, 0] rfl ?_
          exact ih18 (i + 5) sA hB (⟨by omega, by omega, i2, m2, g2, z2⟩) (by omega)
        · exact absurd e1 c772
      · refine Aj.tableIn C (745) dL_law_32 (by omega) (by rw [c32]; rfl) (tgt := 777) (by decide) ?_
        refine Aj.aload_n C 1 dL_law_777 rfl ?_
        refine Aj.callVi (As := []) (st := []) C lm_RL_105 m_X8_undo mk_X8_undo ms_X8_undo (c_X8_undo _ LC2 hI gs) (al_mk SC.1 hb (by omega) (by decide)) (t := 8) rfl rfl rfl rfl (by decide) (Nat.le_of_ble_eq_true rfl) (by decide) dL_law_778 (fun z778 hA rz778 p778 => ?_)
        obtain ⟨sA, q1, i1, f1⟩ := p778
        have m1 := hM.far f1
        refine Aj.aload_n C 2 dL_law_781 rfl ?_
        refine Aj.callVi (As := []) (st := [qi z778]) C lm_RL_108 m_X9_undo mk_X9_undo ms_X9_undo (c_X9_undo _ LM2 m1 gs) (al_mk SM.1 (by omega) (by omega) (by decide)) (t := 9) rfl rfl rfl rfl (by decide) (Nat.le_of_ble_eq_true rfl) (by decide) dL_law_782 (fun z782 hB rz782 p782 => ?_)
        obtain ⟨sB, q2, m2, f2⟩ := p782
        obtain ⟨e1, e2⟩ := O_undo_fn q1 q2
        rw [← e2] at m2
        have i2 := i1.far f2
        obtain ⟨g2, z2⟩ := undo_g gs gz q1
        refine Aj.icmp_eq (tgt := 836) C dL_law_785 (by decide) (fun c785 => ?_) (fun c785 => ?_)
        · refine Aj.iinc (al2 := [(3, qi (i + 5)), (0, qa zb), (1, qa b), (2, qa (b + 224))]) C 3 dL_law_836 rfl (by decide) (by omega) rfl ?_
          refine Aj.goto (tgt := 18) C dL_law_839 (by decide) ?_
          refine Aj.pick (al2 := [(0, qa zb), (1, qa b), (2, qa (b + 224)), (3, qi (i + 5))]) [1, 2, 3, 0] rfl ?_
          exact ih18 (i + 5) sA hB (⟨by omega, by omega, i2, m2, g2, z2⟩) (by omega)
        · exact absurd e1 c785
      · refine Aj.tableIn C (758) dL_law_32 (by omega) (by rw [c32]; rfl) (tgt := 790) (by decide) ?_
        refine Aj.aload_n C 1 dL_law_790 rfl ?_
        refine Aj.aload_n C 0 dL_law_791 rfl ?_
        refine Aj.iload_n C 3 dL_law_792 rfl ?_
        refine Aj.iconst C dL_law_793 (by decide) ?_
        refine Aj.iadd C dL_law_794 (by omega) ?_
        refine Aj.sld C SX (by omega) dL_law_795 ?_
        refine Aj.callVi (As := [qi (xv (i + 1))]) (st := []) C lm_RL_109 m_X8_save mk_X8_save ms_X8_save (c_X8_save _ LC2 hI gs) (al_mk SC.1 hb (by omega) (by decide)) (t := 8) rfl rfl rfl rfl (by decide) (Nat.le_of_ble_eq_true rfl) (by decide) dL_law_796 (fun z796 hA rz796 p796 => ?_)
        obtain ⟨sA, q1, i1, f1⟩ := p796
        have m1 := hM.far f1
        refine Aj.aload_n C 2 dL_law_799 rfl ?_
        refine Aj.aload_n C 0 dL_law_800 rfl ?_
        refine Aj.iload_n C 3 dL_law_801 rfl ?_
        refine Aj.iconst C dL_law_802 (by decide) ?_
        refine Aj.iadd C dL_law_803 (by omega) ?_
        refine Aj.sld C SX (by omega) dL_law_804 ?_
        refine Aj.callVi (As := [qi (xv (i + 1))]) (st := [qi z796]) C lm_RL_112 m_X9_save mk_X9_save ms_X9_save (c_X9_save _ LM2 m1 gs) (al_mk SM.1 (by omega) (by omega) (by decide)) (t := 9) rfl rfl rfl rfl (by decide) (Nat.le_of_ble_eq_true rfl) (by decide) dL_law_805 (fun z805 hB rz805 p805 => ?_)
        obtain ⟨sB, q2, m2, f2⟩ := p805
        obtain ⟨e1, e2⟩ := O_save_fn q1 q2
        rw [← e2] at m2
        have i2 := i1.far f2
        obtain ⟨g2, z2⟩ := save_g gs gz q1
        refine Aj.icmp_eq (tgt := 836) C dL_law_808 (by decide) (fun c808 => ?_) (fun c808 => ?_)
        · refine Aj.iinc (al2 := [(3, qi (i + 5)), (0, qa zb), (1, qa b), (2, qa (b + 224))]) C 3 dL_law_836 rfl (by decide) (by omega) rfl ?_
          refine Aj.goto (tgt := 18) C dL_law_839 (by decide) ?_
          refine Aj.pick (al2 := [(0, qa zb), (1, qa b), (2, qa (b + 224)), (3, qi (i + 5))]) [1, 2, 3, 0] rfl ?_
          exact ih18 (i + 5) sA hB (⟨by omega, by omega, i2, m2, g2, z2⟩) (by omega)
        · exact absurd e1 c808
      · refine Aj.tableIn C (781) dL_law_32 (by omega) (by rw [c32]; rfl) (tgt := 813) (by decide) ?_
        refine Aj.aload_n C 1 dL_law_813 rfl ?_
        refine Aj.aload_n C 0 dL_law_814 rfl ?_
        refine Aj.iload_n C 3 dL_law_815 rfl ?_
        refine Aj.iconst C dL_law_816 (by decide) ?_
        refine Aj.iadd C dL_law_817 (by omega) ?_
        refine Aj.sld C SX (by omega) dL_law_818 ?_
        refine Aj.callVi (As := [qi (xv (i + 1))]) (st := []) C lm_RL_113 m_X8_restore mk_X8_restore ms_X8_restore (c_X8_restore _ LC2 hI gs) (al_mk SC.1 hb (by omega) (by decide)) (t := 8) rfl rfl rfl rfl (by decide) (Nat.le_of_ble_eq_true rfl) (by decide) dL_law_819 (fun z819 hA rz819 p819 => ?_)
        obtain ⟨sA, q1, i1, f1⟩ := p819
        have m1 := hM.far f1
        refine Aj.aload_n C 2 dL_law_822 rfl ?_
        refine Aj.aload_n C 0 dL_law_823 rfl ?_
        refine Aj.iload_n C 3 dL_law_824 rfl ?_
        refine Aj.iconst C dL_law_825 (by decide) ?_
        refine Aj.iadd C dL_law_826 (by omega) ?_
        refine Aj.sld C SX (by omega) dL_law_827 ?_
        refine Aj.callVi (As := [qi (xv (i + 1))]) (st := [qi z819]) C lm_RL_116 m_X9_restore mk_X9_restore ms_X9_restore (c_X9_restore _ LM2 m1 gs) (al_mk SM.1 (by omega) (by omega) (by decide)) (t := 9) rfl rfl rfl rfl (by decide) (Nat.le_of_ble_eq_true rfl) (by decide) dL_law_828 (fun z828 hB rz828 p828 => ?_)
        obtain ⟨sB, q2, m2, f2⟩ := p828
        obtain ⟨e1, e2⟩ := O_restore_fn q1 q2
        rw [← e2] at m2
        have i2 := i1.far f2
        obtain ⟨g2, z2⟩ := restore_g gs gz q1
        refine Aj.icmp_eq (tgt := 836) C dL_law_831 (by decide) (fun c831 => ?_) (fun c831 => ?_)
        · refine Aj.iinc (al2 := [(3, qi (i + 5)), (0, qa zb), (1, qa b), (2, qa (b + 224))]) C 3 dL_law_836 rfl (by decide) (by omega) rfl ?_
          refine Aj.goto (tgt := 18) C dL_law_839 (by decide) ?_
          refine Aj.pick (al2 := [(0, qa zb), (1, qa b), (2, qa (b + 224)), (3, qi (i + 5))]) [1, 2, 3, 0] rfl ?_
          exact ih18 (i + 5) sA hB (⟨by omega, by omega, i2, m2, g2, z2⟩) (by omega)
        · exact absurd e1 c831
      · refine Aj.tableOut (tgt := 836) C dL_law_32 c32 (by decide) ?_
        refine Aj.iinc (al2 := [(3, qi (i + 5)), (0, qa zb), (1, qa b), (2, qa (b + 224))]) C 3 dL_law_836 rfl (by decide) (by omega) rfl ?_
        refine Aj.goto (tgt := 18) C dL_law_839 (by decide) ?_
        refine Aj.pick (al2 := [(0, qa zb), (1, qa b), (2, qa (b + 224)), (3, qi (i + 5))]) [1, 2, 3, 0] rfl ?_
        exact ih18 (i + 5) st hh (⟨by omega, by omega, hI, hM, gs, gz⟩) (by omega)
