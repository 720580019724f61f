set_option maxHeartbeats 1000000 in
set_option maxRecDepth 100000 in
theorem c_X9_looksAt (l : Launch) {G : qG} {n : Int} {r h : qH} {k : Int} {M : Int} {s : Int → Int} (L : LModel G n r M) (c : IMs h M s) (g : SG s) {T : qT} (d : CP h M T) (t : TG T) (hT : T.1 ≤ 120) {U : qU} (u : CU h M U) {W : qW} (w : CW h M W k) (wg : WG k W) (hk : 0 ≤ k ∧ k < U.1) (hu : U.1 ≤ 40) (ug : UG s T U) : q_Cm l G yX9_looksAt cX9_looksAt 7 (some .boolean) 2 45 [qa M, qi k, qi W.2.2.2] n r h (q_Pi r (fun z h' => (z = 0 ∨ z = 1) ∧ (z = 1 ↔ (look1 s T U k W).1 k = 0) ∧ CW h' M (look1 s T U k W) (k + 1) ∧ FW M h h')) 0 0 := by
  refine q_enter (al := [(0, qa M), (1, qi k), (2, qi W.2.2.2)]) m_X9_looksAt rfl (Nat.le_of_ble_eq_true rfl) ?_
  intro hok X C hmc hxl hin
  have gn := g.n
  have t0 := t.1
  have uk := ug.2 k hk.1 hk.2
  have gt := g.ti (U.2.1 k) uk.1.1 uk.1.2
  have wa : W.2.2.2 = -6 ∨ (0 ≤ W.2.2.2 ∧ W.2.2.2 < k ∧ (0 ≤ W.2.1 W.2.2.2 ∧ W.2.1 W.2.2.2 ≤ W.2.2.1 W.2.2.2 ∧ W.2.2.1 W.2.2.2 ≤ 48000)) := by
    rcases wg.1 with e | ⟨e1, e2, e3⟩
    · exact Or.inl e
    · exact Or.inr ⟨e1, e2, (wg.2 _ e1 e2).2.1 e3⟩
  have J26 : ∀ (la : Int) , ((la = 0 ∨ la = 1) ∧ (la = 1 ↔ W.2.2.2 ≠ -6 ∧ U.2.2.2.1 k < W.2.2.1 W.2.2.2)) → Aj G X (q_Pi r (fun z h' => (z = 0 ∨ z = 1) ∧ (z = 1 ↔ (look1 s T U k W).1 k = 0) ∧ CW h' M (look1 s T U k W) (k + 1) ∧ FW M h h')) cX9_looksAt 7 (0, 0) n r h 26 [(0, qa M), (1, qi k), (2, qi W.2.2.2)] [qi la] := by
    intro la hJ26
    obtain ⟨hl0, hl1⟩ := hJ26
    refine Aj.istore_n (al2 := [(3, qi la), (0, qa M), (1, qi k), (2, qi W.2.2.2)]) C dX9_looksAt_26 (by decide) rfl ?_
    have J47 : ∀ (wt : Int) , (wt = waitI s U k) → Aj G X (q_Pi r (fun z h' => (z = 0 ∨ z = 1) ∧ (z = 1 ↔ (look1 s T U k W).1 k = 0) ∧ CW h' M (look1 s T U k W) (k + 1) ∧ FW M h h')) cX9_looksAt 7 (0, 0) n r h 47 [(0, qa M), (1, qi k), (2, qi W.2.2.2), (3, qi la)] [qi wt] := by
      intro wt hJ47
      have hw0 : wt = 0 ∨ wt = 1 := by rw [hJ47]; unfold waitI; split <;> omega
      refine Aj.istore (al2 := [(4, qi wt), (0, qa M), (1, qi k), (2, qi W.2.2.2), (3, qi la)]) C dX9_looksAt_47 (by decide) rfl ?_
      refine Aj.aload_n C 1 dX9_looksAt_49 rfl ?_
      refine Aj.getR C lf_RX9_38 rfl L.a L.r14 dX9_looksAt_50 ?_
      refine Aj.iload_n C 2 dX9_looksAt_53 rfl ?_
      refine Aj.ialde (w := U.2.2.2.1 k) C L.a10 (by omega) dX9_looksAt_54 (u.2 _ (by omega) (by omega)).2.2.1 ?_
      refine Aj.istore (al2 := [(5, qi (U.2.2.2.1 k)), (4, qi wt), (0, qa M), (1, qi k), (2, qi W.2.2.2), (3, qi la)]) C dX9_looksAt_55 (by decide) rfl ?_
      have J99 : ∀ (bg : Int) , (bg = lookB (waitI s U k) U k W ∧ (bg ≤ 48000 ∧ 0 ≤ bg) ∧ (W.2.2.2 ≠ -6 → (la = 1 → wt = 0 → min (W.2.2.1 W.2.2.2) bg = bg) ∧ (¬ (la = 1 ∧ wt = 0) → min (W.2.2.1 W.2.2.2) bg = W.2.2.1 W.2.2.2))) → Aj G X (q_Pi r (fun z h' => (z = 0 ∨ z = 1) ∧ (z = 1 ↔ (look1 s T U k W).1 k = 0) ∧ CW h' M (look1 s T U k W) (k + 1) ∧ FW M h h')) cX9_looksAt 7 (0, 0) n r h 99 [(0, qa M), (1, qi k), (2, qi W.2.2.2), (3, qi la), (4, qi wt), (5, qi bg)] [] := by
        intro bg hJ99
        obtain ⟨hb0, hb1, hb2⟩ := hJ99
        have J123 : ∀ (sw : Int) , (sw = max bg (U.2.2.2.2 k) - bg) → Aj G X (q_Pi r (fun z h' => (z = 0 ∨ z = 1) ∧ (z = 1 ↔ (look1 s T U k W).1 k = 0) ∧ CW h' M (look1 s T U k W) (k + 1) ∧ FW M h h')) cX9_looksAt 7 (0, 0) n r h 123 [(0, qa M), (1, qi k), (2, qi W.2.2.2), (3, qi la), (4, qi wt), (5, qi bg)] [qi sw] := by
          intro sw hJ123
          refine Aj.istore (al2 := [(6, qi sw), (0, qa M), (1, qi k), (2, qi W.2.2.2), (3, qi la), (4, qi wt), (5, qi bg)]) C dX9_looksAt_123 (by decide) rfl ?_
          refine Aj.aload_n C 1 dX9_looksAt_125 rfl ?_
          refine Aj.getR C lf_RX9_44 rfl L.a L.r16 dX9_looksAt_126 ?_
          refine Aj.iload_n C 2 dX9_looksAt_129 rfl ?_
          refine Aj.aload_n C 1 dX9_looksAt_130 rfl ?_
          refine Aj.aload_n C 1 dX9_looksAt_131 rfl ?_
          refine Aj.getR C lf_RX9_38 rfl L.a L.r14 dX9_looksAt_132 ?_
          refine Aj.iload_n C 2 dX9_looksAt_135 rfl ?_
          refine Aj.ialde (w := U.2.2.2.1 k) C L.a10 (by omega) dX9_looksAt_136 (u.2 _ (by omega) (by omega)).2.2.1 ?_
          refine Aj.callVi (As := [qi (U.2.2.2.1 k)]) (st := [qi k, qa (M + 12)]) C lm_RX9_121 m_X9_isDark mk_X9_isDark ms_X9_isDark (c_X9_isDark _ L c g d t hT) L.a (t := 9) rfl rfl rfl rfl (by decide) (Nat.le_of_ble_eq_true rfl) (by decide) dX9_looksAt_137 (fun z137 h_1 rz137 p137 => ?_)
          obtain ⟨rfl, pz, pe⟩ := p137
          refine Aj.if_eq (tgt := 147) C dX9_looksAt_140 (by decide) (fun c140 => ?_) (fun c140 => ?_)
          · refine Aj.iload C 0 dX9_looksAt_147 rfl ?_
            refine Aj.aload_n C 1 dX9_looksAt_149 rfl ?_
            refine Aj.getR C lf_RX9_7 rfl L.a L.r1 dX9_looksAt_150 ?_
            refine Aj.iconst C dX9_looksAt_153 (by decide) ?_
            refine Aj.ialde (w := s 1) C L.a1 (by omega) dX9_looksAt_154 (c _ (by omega) (by omega)) ?_
            refine Aj.icmp_ge (tgt := 162) C dX9_looksAt_155 (by decide) (fun c155 => ?_) (fun c155 => ?_)
            · refine Aj.iconst C dX9_looksAt_162 (by decide) ?_
              refine Aj.iast C L.a12 (by omega) dX9_looksAt_163 (fun h_2 eh_2 => ?_)
              refine Aj.aload_n C 1 dX9_looksAt_164 rfl ?_
              refine Aj.getR C lf_RX9_44 rfl L.a L.r16 dX9_looksAt_165 ?_
              refine Aj.iload_n C 2 dX9_looksAt_168 rfl ?_
              refine Aj.ialde (w := 0) C L.a12 (by omega) dX9_looksAt_169 (by rw [eh_2]; exact hset_same _ _ _ _) ?_
              refine Aj.if_eq (tgt := 191) C dX9_looksAt_170 (by decide) (fun c170 => ?_) (fun c170 => ?_)
              · refine Aj.iload_n C 4 dX9_looksAt_191 rfl ?_
                refine Aj.if_eq (tgt := 208) C dX9_looksAt_192 (by decide) (fun c192 => ?_) (fun c192 => ?_)
                · refine Aj.aload_n C 1 dX9_looksAt_208 rfl ?_
                  refine Aj.getR C lf_RX9_47 rfl L.a L.r17 dX9_looksAt_209 ?_
                  refine Aj.iload_n C 2 dX9_looksAt_212 rfl ?_
                  refine Aj.iload C 6 dX9_looksAt_213 rfl ?_
                  refine Aj.iast C L.a13 (by omega) dX9_looksAt_215 (fun h_3 eh_3 => ?_)
                  refine Aj.aload_n C 1 dX9_looksAt_216 rfl ?_
                  refine Aj.getR C lf_RX9_50 rfl L.a L.r18 dX9_looksAt_217 ?_
                  refine Aj.iload_n C 2 dX9_looksAt_220 rfl ?_
                  refine Aj.iload C 6 dX9_looksAt_221 rfl ?_
                  refine Aj.iload C 0 dX9_looksAt_223 rfl ?_
                  refine Aj.iadd C dX9_looksAt_225 (by omega) ?_
                  refine Aj.iast C L.a14 (by omega) dX9_looksAt_226 (fun h_4 eh_4 => ?_)
                  refine Aj.iconst C dX9_looksAt_227 (by decide) ?_
                  refine Aj.zret C dX9_looksAt_228 (by omega) (by rw [hmc]; exact ⟨rfl, Nat.le_of_ble_eq_true rfl⟩) ⟨_, rfl, rfl, ?_⟩
                  rw [look1_n (fun q => by have := pe.mpr q; omega)]
                  unfold lookV
                  rw [← hb0, if_neg (by omega)]
                  refine ⟨Or.inr rfl, ⟨fun _ => sset_same _ _ _, fun _ => rfl⟩, ?_⟩
                  rw [show max bg (U.2.2.2.2 k) = bg + sw by omega]
                  refine w.yes (h1 := h_2) hk.1 (fun x y q => ?_) (fun j j1 j2 => ?_) (by rw [eh_4, eh_3])
                  · rw [eh_2]
                  · rw [eh_2, hset_nea _ _ _ (by omega), (w j j1 j2).2.2]
                    by_cases q0 : W.2.2.2 = -6
                    · rw [if_pos q0]
                    · rw [if_neg q0, sset_ap]
                      by_cases q : j = W.2.2.2
                      · rw [if_pos q, q]; have := hb2 q0; omega
                      · rw [if_neg q]
                · refine Aj.iload C 5 dX9_looksAt_195 rfl ?_
                  refine Aj.if_ne (tgt := 208) C dX9_looksAt_197 (by decide) (fun c197 => ?_) (fun c197 => ?_)
                  · refine Aj.aload_n C 1 dX9_looksAt_208 rfl ?_
                    refine Aj.getR C lf_RX9_47 rfl L.a L.r17 dX9_looksAt_209 ?_
                    refine Aj.iload_n C 2 dX9_looksAt_212 rfl ?_
                    refine Aj.iload C 6 dX9_looksAt_213 rfl ?_
                    refine Aj.iast C L.a13 (by omega) dX9_looksAt_215 (fun h_5 eh_5 => ?_)
                    refine Aj.aload_n C 1 dX9_looksAt_216 rfl ?_
                    refine Aj.getR C lf_RX9_50 rfl L.a L.r18 dX9_looksAt_217 ?_
                    refine Aj.iload_n C 2 dX9_looksAt_220 rfl ?_
                    refine Aj.iload C 6 dX9_looksAt_221 rfl ?_
                    refine Aj.iload C 0 dX9_looksAt_223 rfl ?_
                    refine Aj.iadd C dX9_looksAt_225 (by omega) ?_
                    refine Aj.iast C L.a14 (by omega) dX9_looksAt_226 (fun h_6 eh_6 => ?_)
                    refine Aj.iconst C dX9_looksAt_227 (by decide) ?_
                    refine Aj.zret C dX9_looksAt_228 (by omega) (by rw [hmc]; exact ⟨rfl, Nat.le_of_ble_eq_true rfl⟩) ⟨_, rfl, rfl, ?_⟩
                    rw [look1_n (fun q => by have := pe.mpr q; omega)]
                    unfold lookV
                    rw [← hb0, if_neg (by omega)]
                    refine ⟨Or.inr rfl, ⟨fun _ => sset_same _ _ _, fun _ => rfl⟩, ?_⟩
                    rw [show max bg (U.2.2.2.2 k) = bg + sw by omega]
                    refine w.yes (h1 := h_2) hk.1 (fun x y q => ?_) (fun j j1 j2 => ?_) (by rw [eh_6, eh_5])
                    · rw [eh_2]
                    · rw [eh_2, hset_nea _ _ _ (by omega), (w j j1 j2).2.2]
                      by_cases q0 : W.2.2.2 = -6
                      · rw [if_pos q0]
                      · rw [if_neg q0, sset_ap]
                        by_cases q : j = W.2.2.2
                        · rw [if_pos q, q]; have := hb2 q0; omega
                        · rw [if_neg q]
                  · refine Aj.aload_n C 1 dX9_looksAt_200 rfl ?_
                    refine Aj.getR C lf_RX9_50 rfl L.a L.r18 dX9_looksAt_201 ?_
                    refine Aj.iload_n C 3 dX9_looksAt_204 rfl ?_
                    refine Aj.iload C 6 dX9_looksAt_205 rfl ?_
                    refine Aj.iast C L.a14 (by omega) dX9_looksAt_207 (fun h_7 eh_7 => ?_)
                    refine Aj.aload_n C 1 dX9_looksAt_208 rfl ?_
                    refine Aj.getR C lf_RX9_47 rfl L.a L.r17 dX9_looksAt_209 ?_
                    refine Aj.iload_n C 2 dX9_looksAt_212 rfl ?_
                    refine Aj.iload C 6 dX9_looksAt_213 rfl ?_
                    refine Aj.iast C L.a13 (by omega) dX9_looksAt_215 (fun h_8 eh_8 => ?_)
                    refine Aj.aload_n C 1 dX9_looksAt_216 rfl ?_
                    refine Aj.getR C lf_RX9_50 rfl L.a L.r18 dX9_looksAt_217 ?_
                    refine Aj.iload_n C 2 dX9_looksAt_220 rfl ?_
                    refine Aj.iload C 6 dX9_looksAt_221 rfl ?_
                    refine Aj.iload C 0 dX9_looksAt_223 rfl ?_
                    refine Aj.iadd C dX9_looksAt_225 (by omega) ?_
                    refine Aj.iast C L.a14 (by omega) dX9_looksAt_226 (fun h_9 eh_9 => ?_)
                    refine Aj.iconst C dX9_looksAt_227 (by decide) ?_
                    refine Aj.zret C dX9_looksAt_228 (by omega) (by rw [hmc]; exact ⟨rfl, Nat.le_of_ble_eq_true rfl⟩) ⟨_, rfl, rfl, ?_⟩
                    rw [look1_n (fun q => by have := pe.mpr q; omega)]
                    unfold lookV
                    rw [← hb0, if_neg (by omega)]
                    refine ⟨Or.inr rfl, ⟨fun _ => sset_same _ _ _, fun _ => rfl⟩, ?_⟩
                    rw [show max bg (U.2.2.2.2 k) = bg + sw by omega]
                    refine w.yes (h1 := h_7) hk.1 (fun x y q => ?_) (fun j j1 j2 => ?_) (by rw [eh_9, eh_8])
                    · rw [eh_7, hset_nea _ _ _ q, eh_2]
                    · rw [if_neg (by omega), eh_7, hset_ap, sset_ap]
                      by_cases q : j = W.2.2.2
                      · rw [if_pos ⟨rfl, q⟩, if_pos q]; have := hb2 (by omega); omega
                      · rw [if_neg (fun z => q z.2), if_neg q, eh_2, hset_nea _ _ _ (by omega)]; exact (w j j1 j2).2.2
              · exact absurd c170 (by decide)
            · refine Aj.iconst C dX9_looksAt_158 (by decide) ?_
              refine Aj.goto (tgt := 163) C dX9_looksAt_159 (by decide) ?_
              refine Aj.iast C L.a12 (by omega) dX9_looksAt_163 (fun h_10 eh_10 => ?_)
              refine Aj.aload_n C 1 dX9_looksAt_164 rfl ?_
              refine Aj.getR C lf_RX9_44 rfl L.a L.r16 dX9_looksAt_165 ?_
              refine Aj.iload_n C 2 dX9_looksAt_168 rfl ?_
              refine Aj.ialde (w := 2) C L.a12 (by omega) dX9_looksAt_169 (by rw [eh_10]; exact hset_same _ _ _ _) ?_
              refine Aj.if_eq (tgt := 191) C dX9_looksAt_170 (by decide) (fun c170 => ?_) (fun c170 => ?_)
              · exact absurd c170 (by decide)
              · refine Aj.aload_n C 1 dX9_looksAt_173 rfl ?_
                refine Aj.getR C lf_RX9_47 rfl L.a L.r17 dX9_looksAt_174 ?_
                refine Aj.iload_n C 2 dX9_looksAt_177 rfl ?_
                refine Aj.bipush C dX9_looksAt_178 (by decide) (by decide) ?_
                refine Aj.iast C L.a13 (by omega) dX9_looksAt_180 (fun h_11 eh_11 => ?_)
                refine Aj.aload_n C 1 dX9_looksAt_181 rfl ?_
                refine Aj.getR C lf_RX9_50 rfl L.a L.r18 dX9_looksAt_182 ?_
                refine Aj.iload_n C 2 dX9_looksAt_185 rfl ?_
                refine Aj.bipush C dX9_looksAt_186 (by decide) (by decide) ?_
                refine Aj.iast C L.a14 (by omega) dX9_looksAt_188 (fun h_12 eh_12 => ?_)
                refine Aj.iconst C dX9_looksAt_189 (by decide) ?_
                refine Aj.zret C dX9_looksAt_190 (by omega) (by rw [hmc]; exact ⟨rfl, Nat.le_of_ble_eq_true rfl⟩) ⟨_, rfl, rfl, ?_⟩
                have hr := w.non (h2 := h_12) (W := W) (v := 2) (by rw [eh_12, eh_11, eh_10])
                refine ⟨Or.inl rfl, ?_⟩
                rw [look1_n (fun q => by have := pe.mpr q; omega)]
                unfold lookV
                rw [← hb0, if_pos (by omega)]
                exact ⟨⟨fun q => absurd q (by decide), fun q => by have q : sset W.1 k 2 k = 0 := q; rw [sset_same] at q; exact absurd q (by decide)⟩, hr.1, hr.2⟩
          · refine Aj.iconst C dX9_looksAt_143 (by decide) ?_
            refine Aj.goto (tgt := 163) C dX9_looksAt_144 (by decide) ?_
            refine Aj.iast C L.a12 (by omega) dX9_looksAt_163 (fun h_13 eh_13 => ?_)
            refine Aj.aload_n C 1 dX9_looksAt_164 rfl ?_
            refine Aj.getR C lf_RX9_44 rfl L.a L.r16 dX9_looksAt_165 ?_
            refine Aj.iload_n C 2 dX9_looksAt_168 rfl ?_
            refine Aj.ialde (w := 1) C L.a12 (by omega) dX9_looksAt_169 (by rw [eh_13]; exact hset_same _ _ _ _) ?_
            refine Aj.if_eq (tgt := 191) C dX9_looksAt_170 (by decide) (fun c170 => ?_) (fun c170 => ?_)
            · exact absurd c170 (by decide)
            · refine Aj.aload_n C 1 dX9_looksAt_173 rfl ?_
              refine Aj.getR C lf_RX9_47 rfl L.a L.r17 dX9_looksAt_174 ?_
              refine Aj.iload_n C 2 dX9_looksAt_177 rfl ?_
              refine Aj.bipush C dX9_looksAt_178 (by decide) (by decide) ?_
              refine Aj.iast C L.a13 (by omega) dX9_looksAt_180 (fun h_14 eh_14 => ?_)
              refine Aj.aload_n C 1 dX9_looksAt_181 rfl ?_
              refine Aj.getR C lf_RX9_50 rfl L.a L.r18 dX9_looksAt_182 ?_
              refine Aj.iload_n C 2 dX9_looksAt_185 rfl ?_
              refine Aj.bipush C dX9_looksAt_186 (by decide) (by decide) ?_
              refine Aj.iast C L.a14 (by omega) dX9_looksAt_188 (fun h_15 eh_15 => ?_)
              refine Aj.iconst C dX9_looksAt_189 (by decide) ?_
              refine Aj.zret C dX9_looksAt_190 (by omega) (by rw [hmc]; exact ⟨rfl, Nat.le_of_ble_eq_true rfl⟩) ⟨_, rfl, rfl, ?_⟩
              have hr := w.non (h2 := h_15) (W := W) (v := 1) (by rw [eh_15, eh_14, eh_13])
              refine ⟨Or.inl rfl, ?_⟩
              rw [look1_y (pe.mp (by omega))]
              exact ⟨⟨fun q => absurd q (by decide), fun q => by have q : sset W.1 k 1 k = 0 := q; rw [sset_same] at q; exact absurd q (by decide)⟩, hr.1, hr.2⟩
        refine Aj.aload_n C 0 dX9_looksAt_99 rfl ?_
        refine Aj.getR C lf_RX9_41 rfl L.a L.r15 dX9_looksAt_100 ?_
        refine Aj.iload_n C 1 dX9_looksAt_103 rfl ?_
        refine Aj.ialde (w := U.2.2.2.2 k) C L.a11 (by omega) dX9_looksAt_104 (u.2 _ (by omega) (by omega)).2.2.2 ?_
        refine Aj.iload C 5 dX9_looksAt_105 rfl ?_
        refine Aj.icmp_le (tgt := 122) C dX9_looksAt_107 (by decide) (fun c107 => ?_) (fun c107 => ?_)
        · refine Aj.iconst C dX9_looksAt_122 (by decide) ?_
          refine Aj.pick (al2 := [(0, qa M), (1, qi k), (2, qi W.2.2.2), (3, qi la), (4, qi wt), (5, qi bg)]) [0, 1, 2, 3, 4, 5] rfl ?_
          exact J123 0 (by omega)
        · refine Aj.aload_n C 0 dX9_looksAt_110 rfl ?_
          refine Aj.getR C lf_RX9_41 rfl L.a L.r15 dX9_looksAt_111 ?_
          refine Aj.iload_n C 1 dX9_looksAt_114 rfl ?_
          refine Aj.ialde (w := U.2.2.2.2 k) C L.a11 (by omega) dX9_looksAt_115 (u.2 _ (by omega) (by omega)).2.2.2 ?_
          refine Aj.iload C 5 dX9_looksAt_116 rfl ?_
          refine Aj.isub C dX9_looksAt_118 (by omega) ?_
          refine Aj.goto (tgt := 123) C dX9_looksAt_119 (by decide) ?_
          refine Aj.pick (al2 := [(0, qa M), (1, qi k), (2, qi W.2.2.2), (3, qi la), (4, qi wt), (5, qi bg)]) [0, 1, 2, 3, 4, 5] rfl ?_
          exact J123 (U.2.2.2.2 k - bg) (by omega)
      refine Aj.iload_n C 5 dX9_looksAt_57 rfl ?_
      refine Aj.if_eq (tgt := 99) C dX9_looksAt_58 (by decide) (fun c58 => ?_) (fun c58 => ?_)
      · refine Aj.pick (al2 := [(0, qa M), (1, qi k), (2, qi W.2.2.2), (3, qi la), (4, qi wt), (5, qi (U.2.2.2.1 k))]) [2, 3, 4, 5, 1, 0] rfl ?_
        exact J99 (U.2.2.2.1 k) (by
          rw [← hJ47]
          unfold lookB
          by_cases q : W.2.2.2 = -6
          · rw [if_pos q]
            exact ⟨by omega, by omega, fun w2 => absurd q w2⟩
          · rw [if_neg q]
            by_cases q2 : wt = 0
            · rw [if_neg (fun w2 => w2 q2)]; omega
            · rw [if_pos q2]; omega)
      · refine Aj.iload C 1 dX9_looksAt_61 rfl ?_
        refine Aj.if_eq (tgt := 75) C dX9_looksAt_63 (by decide) (fun c63 => ?_) (fun c63 => ?_)
        · refine Aj.aload_n C 2 dX9_looksAt_75 rfl ?_
          refine Aj.getR C lf_RX9_47 rfl L.a L.r17 dX9_looksAt_76 ?_
          refine Aj.iload_n C 4 dX9_looksAt_79 rfl ?_
          refine Aj.ialde (w := W.2.1 W.2.2.2) C L.a13 (by omega) dX9_looksAt_80 (w _ (by omega) (by omega)).2.1 ?_
          refine Aj.iload C 0 dX9_looksAt_81 rfl ?_
          refine Aj.icmp_le (tgt := 95) C dX9_looksAt_83 (by decide) (fun c83 => ?_) (fun c83 => ?_)
          · refine Aj.iload C 0 dX9_looksAt_95 rfl ?_
            refine Aj.istore (al2 := [(5, qi (U.2.2.2.1 k)), (4, qi wt), (0, qa M), (1, qi k), (2, qi W.2.2.2), (3, qi la)]) C dX9_looksAt_97 (by decide) rfl ?_
            refine Aj.pick (al2 := [(0, qa M), (1, qi k), (2, qi W.2.2.2), (3, qi la), (4, qi wt), (5, qi (U.2.2.2.1 k))]) [2, 3, 4, 5, 1, 0] rfl ?_
            exact J99 (U.2.2.2.1 k) (by
              rw [← hJ47]
              unfold lookB
              by_cases q : W.2.2.2 = -6
              · rw [if_pos q]
                exact ⟨by omega, by omega, fun w2 => absurd q w2⟩
              · rw [if_neg q]
                by_cases q2 : wt = 0
                · rw [if_neg (fun w2 => w2 q2)]; omega
                · rw [if_pos q2]; omega)
          · refine Aj.aload_n C 2 dX9_looksAt_86 rfl ?_
            refine Aj.getR C lf_RX9_47 rfl L.a L.r17 dX9_looksAt_87 ?_
            refine Aj.iload_n C 4 dX9_looksAt_90 rfl ?_
            refine Aj.ialde (w := W.2.1 W.2.2.2) C L.a13 (by omega) dX9_looksAt_91 (w _ (by omega) (by omega)).2.1 ?_
            refine Aj.goto (tgt := 97) C dX9_looksAt_92 (by decide) ?_
            refine Aj.istore (al2 := [(5, qi (W.2.1 W.2.2.2)), (4, qi wt), (0, qa M), (1, qi k), (2, qi W.2.2.2), (3, qi la)]) C dX9_looksAt_97 (by decide) rfl ?_
            refine Aj.pick (al2 := [(0, qa M), (1, qi k), (2, qi W.2.2.2), (3, qi la), (4, qi wt), (5, qi (W.2.1 W.2.2.2))]) [2, 3, 4, 5, 1, 0] rfl ?_
            exact J99 (W.2.1 W.2.2.2) (by
              rw [← hJ47]
              unfold lookB
              by_cases q : W.2.2.2 = -6
              · rw [if_pos q]
                exact ⟨by omega, by omega, fun w2 => absurd q w2⟩
              · rw [if_neg q]
                by_cases q2 : wt = 0
                · rw [if_neg (fun w2 => w2 q2)]; omega
                · rw [if_pos q2]; omega)
        · refine Aj.aload_n C 2 dX9_looksAt_66 rfl ?_
          refine Aj.getR C lf_RX9_50 rfl L.a L.r18 dX9_looksAt_67 ?_
          refine Aj.iload_n C 4 dX9_looksAt_70 rfl ?_
          refine Aj.ialde (w := W.2.2.1 W.2.2.2) C L.a14 (by omega) dX9_looksAt_71 (w _ (by omega) (by omega)).2.2 ?_
          refine Aj.goto (tgt := 97) C dX9_looksAt_72 (by decide) ?_
          refine Aj.istore (al2 := [(5, qi (W.2.2.1 W.2.2.2)), (4, qi wt), (0, qa M), (1, qi k), (2, qi W.2.2.2), (3, qi la)]) C dX9_looksAt_97 (by decide) rfl ?_
          refine Aj.pick (al2 := [(0, qa M), (1, qi k), (2, qi W.2.2.2), (3, qi la), (4, qi wt), (5, qi (W.2.2.1 W.2.2.2))]) [2, 3, 4, 5, 1, 0] rfl ?_
          exact J99 (W.2.2.1 W.2.2.2) (by
            rw [← hJ47]
            unfold lookB
            by_cases q : W.2.2.2 = -6
            · rw [if_pos q]
              exact ⟨by omega, by omega, fun w2 => absurd q w2⟩
            · rw [if_neg q]
              by_cases q2 : wt = 0
              · rw [if_neg (fun w2 => w2 q2)]; omega
              · rw [if_pos q2]; omega)
    refine Aj.aload_n C 1 dX9_looksAt_27 rfl ?_
    refine Aj.aload_n C 1 dX9_looksAt_28 rfl ?_
    refine Aj.getR C lf_RX9_32 rfl L.a L.r12 dX9_looksAt_29 ?_
    refine Aj.iload_n C 2 dX9_looksAt_32 rfl ?_
    refine Aj.ialde (w := U.2.1 k) C L.a8 (by omega) dX9_looksAt_33 (u.2 _ (by omega) (by omega)).1 ?_
    refine Aj.iconst C dX9_looksAt_34 (by decide) ?_
    refine Aj.callVi (As := [qi (U.2.1 k), qi 0]) (st := []) C lm_RX9_89 m_X9_of mk_X9_of ms_X9_of (c_X9_of _ (a := U.2.1 k) (b := 0) (by omega) (by decide) L c g) L.a (t := 9) rfl rfl rfl rfl (by decide) (Nat.le_of_ble_eq_true rfl) (by decide) dX9_looksAt_35 (fun z35 h_16 rz35 p35 => ?_)
    obtain ⟨rfl, po0⟩ := p35
    have pq0 : z35 = s (148 + 4 * U.2.1 k) := po0.trans (congrArg s (by omega))
    clear po0
    refine Aj.iconst C dX9_looksAt_38 (by decide) ?_
    refine Aj.icmp_eq (tgt := 46) C dX9_looksAt_39 (by decide) (fun c39 => ?_) (fun c39 => ?_)
    · refine Aj.iconst C dX9_looksAt_46 (by decide) ?_
      refine Aj.pick (al2 := [(0, qa M), (1, qi k), (2, qi W.2.2.2), (3, qi la)]) [1, 2, 3, 0] rfl ?_
      exact J47 0 (by unfold waitI; first | rw [if_pos (by omega)] | rw [if_neg (by omega)])
    · refine Aj.iconst C dX9_looksAt_42 (by decide) ?_
      refine Aj.goto (tgt := 47) C dX9_looksAt_43 (by decide) ?_
      refine Aj.pick (al2 := [(0, qa M), (1, qi k), (2, qi W.2.2.2), (3, qi la)]) [1, 2, 3, 0] rfl ?_
      exact J47 1 (by unfold waitI; first | rw [if_pos (by omega)] | rw [if_neg (by omega)])
  refine Aj.iload_n C 2 dX9_looksAt_0 rfl ?_
  refine Aj.bipush C dX9_looksAt_1 (by decide) (by decide) ?_
  refine Aj.icmp_eq (tgt := 25) C dX9_looksAt_3 (by decide) (fun c3 => ?_) (fun c3 => ?_)
  · refine Aj.iconst C dX9_looksAt_25 (by decide) ?_
    refine Aj.pick (al2 := [(0, qa M), (1, qi k), (2, qi W.2.2.2)]) [0, 1, 2] rfl ?_
    exact J26 0 (⟨by omega, by omega⟩)
  · refine Aj.aload_n C 0 dX9_looksAt_6 rfl ?_
    refine Aj.getR C lf_RX9_50 rfl L.a L.r18 dX9_looksAt_7 ?_
    refine Aj.iload_n C 2 dX9_looksAt_10 rfl ?_
    refine Aj.ialde (w := W.2.2.1 W.2.2.2) C L.a14 (by omega) dX9_looksAt_11 (w _ (by omega) (by omega)).2.2 ?_
    refine Aj.aload_n C 0 dX9_looksAt_12 rfl ?_
    refine Aj.getR C lf_RX9_38 rfl L.a L.r14 dX9_looksAt_13 ?_
    refine Aj.iload_n C 1 dX9_looksAt_16 rfl ?_
    refine Aj.ialde (w := U.2.2.2.1 k) C L.a10 (by omega) dX9_looksAt_17 (u.2 _ (by omega) (by omega)).2.2.1 ?_
    refine Aj.icmp_le (tgt := 25) C dX9_looksAt_18 (by decide) (fun c18 => ?_) (fun c18 => ?_)
    · refine Aj.iconst C dX9_looksAt_25 (by decide) ?_
      refine Aj.pick (al2 := [(0, qa M), (1, qi k), (2, qi W.2.2.2)]) [0, 1, 2] rfl ?_
      exact J26 0 (⟨by omega, by omega⟩)
    · refine Aj.iconst C dX9_looksAt_21 (by decide) ?_
      refine Aj.goto (tgt := 26) C dX9_looksAt_22 (by decide) ?_
      refine Aj.pick (al2 := [(0, qa M), (1, qi k), (2, qi W.2.2.2)]) [0, 1, 2] rfl ?_
      exact J26 1 (⟨by omega, by omega⟩)
theorem c_X9_looksAt2 (l : Launch) {G : qG} {n : Int} {r h : qH} {k ah : Int} {W : qW} (hah : ah = W.2.2.2) {M : Int} {s : Int → Int} (L : LModel G n r M) (c : IMs h M s) (g : SG s) {T : qT} (d : CP h M T) (t : TG T) (hT : T.1 ≤ 120) {U : qU} (u : CU h M U) (w : CW h M W k) (wg : WG k W) (hk : 0 ≤ k ∧ k < U.1) (hu : U.1 ≤ 40) (ug : UG s T U) : q_Cm l G yX9_looksAt cX9_looksAt 7 (some .boolean) 2 45 [qa M, qi k, qi ah] n r h (q_Pi r (fun z h' => (z = 0 ∨ z = 1) ∧ (z = 1 ↔ (look1 s T U k W).1 k = 0) ∧ CW h' M (look1 s T U k W) (k + 1) ∧ FW M h h')) 0 0 := by
  subst hah
  exact c_X9_looksAt l L c g d t hT u w wg hk hu ug
