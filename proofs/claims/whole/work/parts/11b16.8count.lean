set_option maxHeartbeats 400000 in
set_option maxRecDepth 100000 in
theorem c_X8_count (l : Launch) {G : qG} {n : Int} {r h : qH} {a : Int} {b : Int} {st : qS} (L : LCall G n r b) (I : I8 h b st) (gs : GS st) : q_Cm l G yX8_count cX8_count 2 (some .int) 4 85 [qa b, qi a] n r h (q_Pi r (fun z h' => h = h' ∧ z = A_count st a)) 0 0 := by
  refine q_enter (al := [(0, qa b), (1, qi a)]) m_X8_count rfl (Nat.le_of_ble_eq_true rfl) ?_
  intro hok X C hmc hxl hin
  have g := gs.1
  have gn := g.n
  have gh := gs.2.2.1
  have tt := night_TG g
  have tl := night_le g
  have t0 := tt.1
  have sl := show_le g
  have ug := show_UG g
  have wg := show_WG g
  obtain ⟨o, o1, o2, o3, o4⟩ := I.2.2.2.1
  refine Aj.iload_n C 1 dX8_count_0 rfl ?_
  rcases (show a = 0 ∨ a = 1 ∨ a = 2 ∨ a = 3 ∨ a = 4 ∨ a = 5 ∨ a = 6 ∨ a = 7 ∨ a = 8 ∨ a = 9 ∨ a = 10 ∨ a = 11 ∨ a = 12 ∨ a = 13 ∨ a = 14 ∨ (a < 0 ∨ 14 < a) by omega) with c1 | c1 | c1 | c1 | c1 | c1 | c1 | c1 | c1 | c1 | c1 | c1 | c1 | c1 | c1 | c1
  · refine Aj.tableIn C (75) dX8_count_1 (by omega) (by rw [c1]; rfl) (tgt := 76) (by decide) ?_
    refine Aj.aload_n C 0 dX8_count_76 rfl ?_
    refine Aj.getR C lf_RX8_12 rfl L.a L.r0 dX8_count_77 ?_
    refine Aj.getIe (z := st.1 0) C lf_RX8_205 rfl L.sc.a dX8_count_80 I.1.1 ?_
    refine Aj.iret C dX8_count_83 (by rw [hmc]; exact ⟨rfl, Nat.le_of_ble_eq_true rfl⟩) ⟨_, rfl, rfl, ?_⟩
    refine ⟨rfl, ?_⟩
    unfold A_count
    repeat (first | rw [if_neg (by omega)] | rw [if_pos (by omega)])
    all_goals exact pv
  · refine Aj.tableIn C (83) dX8_count_1 (by omega) (by rw [c1]; rfl) (tgt := 84) (by decide) ?_
    refine Aj.aload_n C 0 dX8_count_84 rfl ?_
    refine Aj.getR C lf_RX8_12 rfl L.a L.r0 dX8_count_85 ?_
    refine Aj.getR C lf_RX8_209 rfl L.sc.a L.sc.r4 dX8_count_88 ?_
    refine Aj.getIe (z := st.1 2) C lf_RX8_212 rfl L.sc.re.a dX8_count_91 I.1.2.2.2.1.1 ?_
    refine Aj.iret C dX8_count_94 (by rw [hmc]; exact ⟨rfl, Nat.le_of_ble_eq_true rfl⟩) ⟨_, rfl, rfl, ?_⟩
    refine ⟨rfl, ?_⟩
    unfold A_count
    repeat (first | rw [if_neg (by omega)] | rw [if_pos (by omega)])
    all_goals exact pv
  · refine Aj.tableIn C (94) dX8_count_1 (by omega) (by rw [c1]; rfl) (tgt := 95) (by decide) ?_
    refine Aj.aload_n C 0 dX8_count_95 rfl ?_
    refine Aj.getR C lf_RX8_12 rfl L.a L.r0 dX8_count_96 ?_
    refine Aj.getR C lf_RX8_119 rfl L.sc.a L.sc.r5 dX8_count_99 ?_
    refine Aj.getIe (z := st.1 3) C lf_RX8_212 rfl L.sc.cu.a dX8_count_102 I.1.2.2.2.2.1.1 ?_
    refine Aj.iret C dX8_count_105 (by rw [hmc]; exact ⟨rfl, Nat.le_of_ble_eq_true rfl⟩) ⟨_, rfl, rfl, ?_⟩
    refine ⟨rfl, ?_⟩
    unfold A_count
    repeat (first | rw [if_neg (by omega)] | rw [if_pos (by omega)])
    all_goals exact pv
  · refine Aj.tableIn C (105) dX8_count_1 (by omega) (by rw [c1]; rfl) (tgt := 106) (by decide) ?_
    refine Aj.aload_n C 0 dX8_count_106 rfl ?_
    refine Aj.getR C lf_RX8_12 rfl L.a L.r0 dX8_count_107 ?_
    refine Aj.getR C lf_RX8_137 rfl L.sc.a L.sc.r6 dX8_count_110 ?_
    refine Aj.getIe (z := st.1 4) C lf_RX8_212 rfl L.sc.bl.a dX8_count_113 I.1.2.2.2.2.2.1.1 ?_
    refine Aj.iret C dX8_count_116 (by rw [hmc]; exact ⟨rfl, Nat.le_of_ble_eq_true rfl⟩) ⟨_, rfl, rfl, ?_⟩
    refine ⟨rfl, ?_⟩
    unfold A_count
    repeat (first | rw [if_neg (by omega)] | rw [if_pos (by omega)])
    all_goals exact pv
  · refine Aj.tableIn C (116) dX8_count_1 (by omega) (by rw [c1]; rfl) (tgt := 117) (by decide) ?_
    refine Aj.aload_n C 0 dX8_count_117 rfl ?_
    refine Aj.getR C lf_RX8_12 rfl L.a L.r0 dX8_count_118 ?_
    refine Aj.getR C lf_RX8_140 rfl L.sc.a L.sc.r7 dX8_count_121 ?_
    refine Aj.getIe (z := st.1 5) C lf_RX8_215 rfl L.sc.ti.a dX8_count_124 I.1.2.2.2.2.2.2.1 ?_
    refine Aj.iret C dX8_count_127 (by rw [hmc]; exact ⟨rfl, Nat.le_of_ble_eq_true rfl⟩) ⟨_, rfl, rfl, ?_⟩
    refine ⟨rfl, ?_⟩
    unfold A_count
    repeat (first | rw [if_neg (by omega)] | rw [if_pos (by omega)])
    all_goals exact pv
  · refine Aj.tableIn C (127) dX8_count_1 (by omega) (by rw [c1]; rfl) (tgt := 128) (by decide) ?_
    refine Aj.aload_n C 0 dX8_count_128 rfl ?_
    refine Aj.getR C lf_RX8_12 rfl L.a L.r0 dX8_count_129 ?_
    refine Aj.getIe (z := st.1 1) C lf_RX8_216 rfl L.sc.a dX8_count_132 I.1.2.1 ?_
    refine Aj.iret C dX8_count_135 (by rw [hmc]; exact ⟨rfl, Nat.le_of_ble_eq_true rfl⟩) ⟨_, rfl, rfl, ?_⟩
    refine ⟨rfl, ?_⟩
    unfold A_count
    repeat (first | rw [if_neg (by omega)] | rw [if_pos (by omega)])
    all_goals exact pv
  · refine Aj.tableIn C (135) dX8_count_1 (by omega) (by rw [c1]; rfl) (tgt := 136) (by decide) ?_
    refine Aj.aload_n C 0 dX8_count_136 rfl ?_
    refine Aj.getR C lf_RX8_19 rfl L.a L.r1 dX8_count_137 ?_
    refine Aj.getIe (z := (nightT st.1).1) C lf_RX8_219 rfl L.ni.a dX8_count_140 I.2.1.1.1 ?_
    refine Aj.iret C dX8_count_143 (by rw [hmc]; exact ⟨rfl, Nat.le_of_ble_eq_true rfl⟩) ⟨_, rfl, rfl, ?_⟩
    refine ⟨rfl, ?_⟩
    unfold A_count
    repeat (first | rw [if_neg (by omega)] | rw [if_pos (by omega)])
    all_goals exact pv
  · refine Aj.tableIn C (143) dX8_count_1 (by omega) (by rw [c1]; rfl) (tgt := 144) (by decide) ?_
    refine Aj.aload_n C 0 dX8_count_144 rfl ?_
    refine Aj.getR C lf_RX8_19 rfl L.a L.r1 dX8_count_145 ?_
    refine Aj.getIe (z := (nightT st.1).2.1) C lf_RX8_222 rfl L.ni.a dX8_count_148 I.2.1.1.2.1 ?_
    refine Aj.iret C dX8_count_151 (by rw [hmc]; exact ⟨rfl, Nat.le_of_ble_eq_true rfl⟩) ⟨_, rfl, rfl, ?_⟩
    refine ⟨rfl, ?_⟩
    unfold A_count
    repeat (first | rw [if_neg (by omega)] | rw [if_pos (by omega)])
    all_goals exact pv
  · refine Aj.tableIn C (151) dX8_count_1 (by omega) (by rw [c1]; rfl) (tgt := 152) (by decide) ?_
    refine Aj.aload_n C 0 dX8_count_152 rfl ?_
    refine Aj.getR C lf_RX8_19 rfl L.a L.r1 dX8_count_153 ?_
    refine Aj.getR C lf_RX8_161 rfl L.ni.a L.ni.r5 dX8_count_156 ?_
    refine Aj.getIe (z := (showU st.1).1) C lf_RX8_224 rfl L.ni.sh.a dX8_count_159 I.2.1.2.1.1 ?_
    refine Aj.iret C dX8_count_162 (by rw [hmc]; exact ⟨rfl, Nat.le_of_ble_eq_true rfl⟩) ⟨_, rfl, rfl, ?_⟩
    refine ⟨rfl, ?_⟩
    unfold A_count
    repeat (first | rw [if_neg (by omega)] | rw [if_pos (by omega)])
    all_goals exact pv
  · refine Aj.tableIn C (162) dX8_count_1 (by omega) (by rw [c1]; rfl) (tgt := 163) (by decide) ?_
    refine Aj.aload_n C 0 dX8_count_163 rfl ?_
    refine Aj.getR C lf_RX8_19 rfl L.a L.r1 dX8_count_164 ?_
    refine Aj.getR C lf_RX8_161 rfl L.ni.a L.ni.r5 dX8_count_167 ?_
    refine Aj.iconst C dX8_count_170 (by decide) ?_
    refine Aj.callVi (As := [qi 0]) (st := []) C lm_RX8_225 m_X5_countWith mk_X5_countWith ms_X5_countWith (c_X5_countWith _ L.ni.sh I.2.1.2.1 sl I.2.1.2.2) L.ni.sh.a (t := 5) rfl rfl rfl rfl (by decide) (Nat.le_of_ble_eq_true rfl) (by decide) dX8_count_171 (fun z171 h_1 rz171 p171 => ?_)
    obtain ⟨rfl, pv⟩ := p171
    refine Aj.iret C dX8_count_174 (by rw [hmc]; exact ⟨rfl, Nat.le_of_ble_eq_true rfl⟩) ⟨_, rfl, rfl, ?_⟩
    refine ⟨rfl, ?_⟩
    unfold A_count
    repeat (first | rw [if_neg (by omega)] | rw [if_pos (by omega)])
    all_goals exact pv
  · refine Aj.tableIn C (174) dX8_count_1 (by omega) (by rw [c1]; rfl) (tgt := 175) (by decide) ?_
    refine Aj.aload_n C 0 dX8_count_175 rfl ?_
    refine Aj.getR C lf_RX8_19 rfl L.a L.r1 dX8_count_176 ?_
    refine Aj.getR C lf_RX8_161 rfl L.ni.a L.ni.r5 dX8_count_179 ?_
    refine Aj.iconst C dX8_count_182 (by decide) ?_
    refine Aj.callVi (As := [qi 1]) (st := []) C lm_RX8_225 m_X5_countWith mk_X5_countWith ms_X5_countWith (c_X5_countWith _ L.ni.sh I.2.1.2.1 sl I.2.1.2.2) L.ni.sh.a (t := 5) rfl rfl rfl rfl (by decide) (Nat.le_of_ble_eq_true rfl) (by decide) dX8_count_183 (fun z183 h_2 rz183 p183 => ?_)
    obtain ⟨rfl, pv⟩ := p183
    refine Aj.iret C dX8_count_186 (by rw [hmc]; exact ⟨rfl, Nat.le_of_ble_eq_true rfl⟩) ⟨_, rfl, rfl, ?_⟩
    refine ⟨rfl, ?_⟩
    unfold A_count
    repeat (first | rw [if_neg (by omega)] | rw [if_pos (by omega)])
    all_goals exact pv
  · refine Aj.tableIn C (186) dX8_count_1 (by omega) (by rw [c1]; rfl) (tgt := 187) (by decide) ?_
    refine Aj.aload_n C 0 dX8_count_187 rfl ?_
    refine Aj.getR C lf_RX8_19 rfl L.a L.r1 dX8_count_188 ?_
    refine Aj.getR C lf_RX8_161 rfl L.ni.a L.ni.r5 dX8_count_191 ?_
    refine Aj.iconst C dX8_count_194 (by decide) ?_
    refine Aj.callVi (As := [qi 2]) (st := []) C lm_RX8_225 m_X5_countWith mk_X5_countWith ms_X5_countWith (c_X5_countWith _ L.ni.sh I.2.1.2.1 sl I.2.1.2.2) L.ni.sh.a (t := 5) rfl rfl rfl rfl (by decide) (Nat.le_of_ble_eq_true rfl) (by decide) dX8_count_195 (fun z195 h_3 rz195 p195 => ?_)
    obtain ⟨rfl, pv⟩ := p195
    refine Aj.iret C dX8_count_198 (by rw [hmc]; exact ⟨rfl, Nat.le_of_ble_eq_true rfl⟩) ⟨_, rfl, rfl, ?_⟩
    refine ⟨rfl, ?_⟩
    unfold A_count
    repeat (first | rw [if_neg (by omega)] | rw [if_pos (by omega)])
    all_goals exact pv
  · refine Aj.tableIn C (198) dX8_count_1 (by omega) (by rw [c1]; rfl) (tgt := 199) (by decide) ?_
    refine Aj.aload_n C 0 dX8_count_199 rfl ?_
    refine Aj.getR C lf_RX8_19 rfl L.a L.r1 dX8_count_200 ?_
    refine Aj.getR C lf_RX8_161 rfl L.ni.a L.ni.r5 dX8_count_203 ?_
    refine Aj.callVi (As := []) (st := []) C lm_RX8_228 m_X5_tenthsOfAll mk_X5_tenthsOfAll ms_X5_tenthsOfAll (c_X5_tenthsOfAll _ L.ni.sh I.2.1.2.1 sl I.2.1.2.2 wg) L.ni.sh.a (t := 5) rfl rfl rfl rfl (by decide) (Nat.le_of_ble_eq_true rfl) (by decide) dX8_count_206 (fun z206 h_4 rz206 p206 => ?_)
    obtain ⟨rfl, pv⟩ := p206
    refine Aj.iret C dX8_count_209 (by rw [hmc]; exact ⟨rfl, Nat.le_of_ble_eq_true rfl⟩) ⟨_, rfl, rfl, ?_⟩
    refine ⟨rfl, ?_⟩
    unfold A_count
    repeat (first | rw [if_neg (by omega)] | rw [if_pos (by omega)])
    all_goals exact pv
  · refine Aj.tableIn C (209) dX8_count_1 (by omega) (by rw [c1]; rfl) (tgt := 210) (by decide) ?_
    refine Aj.aload_n C 0 dX8_count_210 rfl ?_
    refine Aj.getR C lf_RX8_32 rfl L.a L.r4 dX8_count_211 ?_
    refine Aj.getIe (z := st.2.1.1) C lf_RX8_232 rfl L.pa.a dX8_count_214 I.2.2.1.1 ?_
    refine Aj.iret C dX8_count_217 (by rw [hmc]; exact ⟨rfl, Nat.le_of_ble_eq_true rfl⟩) ⟨_, rfl, rfl, ?_⟩
    refine ⟨rfl, ?_⟩
    unfold A_count
    repeat (first | rw [if_neg (by omega)] | rw [if_pos (by omega)])
    all_goals exact pv
  · refine Aj.tableIn C (217) dX8_count_1 (by omega) (by rw [c1]; rfl) (tgt := 218) (by decide) ?_
    refine Aj.aload_n C 0 dX8_count_218 rfl ?_
    refine Aj.getR C lf_RX8_46 rfl L.a L.r6 dX8_count_219 ?_
    refine Aj.getIe (z := st.2.2.1.1) C lf_RX8_234 rfl L.hi.a dX8_count_222 o2 ?_
    refine Aj.iret C dX8_count_225 (by rw [hmc]; exact ⟨rfl, Nat.le_of_ble_eq_true rfl⟩) ⟨_, rfl, rfl, ?_⟩
    refine ⟨rfl, ?_⟩
    unfold A_count
    repeat (first | rw [if_neg (by omega)] | rw [if_pos (by omega)])
    all_goals exact pv
  · refine Aj.tableOut (tgt := 226) C dX8_count_1 c1 (by decide) ?_
    refine Aj.bipush C dX8_count_226 (by decide) (by decide) ?_
    refine Aj.iret C dX8_count_228 (by rw [hmc]; exact ⟨rfl, Nat.le_of_ble_eq_true rfl⟩) ⟨_, rfl, rfl, ?_⟩
    refine ⟨rfl, ?_⟩
    unfold A_count
    repeat (first | rw [if_neg (by omega)] | rw [if_pos (by omega)])
    all_goals exact pv
