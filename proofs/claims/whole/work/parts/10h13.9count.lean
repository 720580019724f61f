set_option maxHeartbeats 400000 in
set_option maxRecDepth 100000 in
theorem c_X9_count (l : Launch) {G : qG} {n : Int} {r h : qH} {a : Int} {M : Int} {st : qS} (L : LModel G n r M) (c : IM h M st) (gs : GS st) : q_Cm l G yX9_count cX9_count 2 (some .int) 6 133 [qa M, qi a] n r h (q_Pi r (fun z h' => z = A_count st a ∧ FS M h h')) 0 0 := by
  refine q_enter (al := [(0, qa M), (1, qi a)]) m_X9_count rfl (Nat.le_of_ble_eq_true rfl) ?_
  intro hok X C hmc hxl hin
  have g := gs.1
  have gn := g.n
  have gh := gs.2.2.1
  refine Aj.aload_n C 0 dX9_count_0 rfl ?_
  refine Aj.iconst C dX9_count_1 (by decide) ?_
  refine Aj.putI C lf_RX9_56 L.a dX9_count_2 (fun h_1 eh_1 => ?_)
  have f1 : FS M h h_1 := fun x y w => by rw [eh_1, hset_ne _ _ (by omega)]
  have c1 : IM h_1 M st := c.fs f1
  refine Aj.aload_n C 0 dX9_count_5 rfl ?_
  refine Aj.callVv (As := []) (st := []) C lm_RX9_166 m_X9_laysShowings mk_X9_laysShowings ms_X9_laysShowings (c_X9_laysShowings _ L c1.1 g) L.a (t := 9) rfl rfl rfl rfl (by decide) (Nat.le_of_ble_eq_true rfl) (by decide) dX9_count_6 (fun hn p6 => ?_)
  obtain ⟨d, u, w, fN⟩ := p6
  have f2 : FS M h hn := f1.tr fN
  have c2 := c.fs f2
  have tt := night_TG g
  have tl := night_le g
  have sl := show_le g
  have ug := show_UG g
  have wg := show_WG g
  refine Aj.iload_n C 1 dX9_count_9 rfl ?_
  rcases (show a = 0 ∨ a = 1 ∨ a = 2 ∨ a = 3 ∨ a = 4 ∨ a = 5 ∨ a = 6 ∨ a = 7 ∨ a = 8 ∨ a = 9 ∨ a = 10 ∨ a = 11 ∨ a = 12 ∨ a = 13 ∨ a = 14 ∨ (a < 0 ∨ 14 < a) by omega) with c10 | c10 | c10 | c10 | c10 | c10 | c10 | c10 | c10 | c10 | c10 | c10 | c10 | c10 | c10 | c10
  · refine Aj.tableIn C (74) dX9_count_10 (by omega) (by rw [c10]; rfl) (tgt := 84) (by decide) ?_
    refine Aj.aload_n C 0 dX9_count_84 rfl ?_
    refine Aj.getR C lf_RX9_7 rfl L.a L.r1 dX9_count_85 ?_
    refine Aj.iconst C dX9_count_88 (by decide) ?_
    refine Aj.ialde (w := st.1 0) C L.a1 (by omega) dX9_count_89 (c2.1 _ (by omega) (by omega)) ?_
    refine Aj.iret C dX9_count_90 (by rw [hmc]; exact ⟨rfl, Nat.le_of_ble_eq_true rfl⟩) ⟨_, rfl, rfl, ?_⟩
    refine ⟨?_, f2⟩
    unfold A_count
    repeat (first | rw [if_neg (by omega)] | rw [if_pos (by omega)])
    all_goals first | exact pv | (rw [pv]; congr 1; omega)
  · refine Aj.tableIn C (81) dX9_count_10 (by omega) (by rw [c10]; rfl) (tgt := 91) (by decide) ?_
    refine Aj.aload_n C 0 dX9_count_91 rfl ?_
    refine Aj.getR C lf_RX9_7 rfl L.a L.r1 dX9_count_92 ?_
    refine Aj.iconst C dX9_count_95 (by decide) ?_
    refine Aj.ialde (w := st.1 2) C L.a1 (by omega) dX9_count_96 (c2.1 _ (by omega) (by omega)) ?_
    refine Aj.iret C dX9_count_97 (by rw [hmc]; exact ⟨rfl, Nat.le_of_ble_eq_true rfl⟩) ⟨_, rfl, rfl, ?_⟩
    refine ⟨?_, f2⟩
    unfold A_count
    repeat (first | rw [if_neg (by omega)] | rw [if_pos (by omega)])
    all_goals first | exact pv | (rw [pv]; congr 1; omega)
  · refine Aj.tableIn C (88) dX9_count_10 (by omega) (by rw [c10]; rfl) (tgt := 98) (by decide) ?_
    refine Aj.aload_n C 0 dX9_count_98 rfl ?_
    refine Aj.getR C lf_RX9_7 rfl L.a L.r1 dX9_count_99 ?_
    refine Aj.iconst C dX9_count_102 (by decide) ?_
    refine Aj.ialde (w := st.1 3) C L.a1 (by omega) dX9_count_103 (c2.1 _ (by omega) (by omega)) ?_
    refine Aj.iret C dX9_count_104 (by rw [hmc]; exact ⟨rfl, Nat.le_of_ble_eq_true rfl⟩) ⟨_, rfl, rfl, ?_⟩
    refine ⟨?_, f2⟩
    unfold A_count
    repeat (first | rw [if_neg (by omega)] | rw [if_pos (by omega)])
    all_goals first | exact pv | (rw [pv]; congr 1; omega)
  · refine Aj.tableIn C (95) dX9_count_10 (by omega) (by rw [c10]; rfl) (tgt := 105) (by decide) ?_
    refine Aj.aload_n C 0 dX9_count_105 rfl ?_
    refine Aj.getR C lf_RX9_7 rfl L.a L.r1 dX9_count_106 ?_
    refine Aj.iconst C dX9_count_109 (by decide) ?_
    refine Aj.ialde (w := st.1 4) C L.a1 (by omega) dX9_count_110 (c2.1 _ (by omega) (by omega)) ?_
    refine Aj.iret C dX9_count_111 (by rw [hmc]; exact ⟨rfl, Nat.le_of_ble_eq_true rfl⟩) ⟨_, rfl, rfl, ?_⟩
    refine ⟨?_, f2⟩
    unfold A_count
    repeat (first | rw [if_neg (by omega)] | rw [if_pos (by omega)])
    all_goals first | exact pv | (rw [pv]; congr 1; omega)
  · refine Aj.tableIn C (102) dX9_count_10 (by omega) (by rw [c10]; rfl) (tgt := 112) (by decide) ?_
    refine Aj.aload_n C 0 dX9_count_112 rfl ?_
    refine Aj.getR C lf_RX9_7 rfl L.a L.r1 dX9_count_113 ?_
    refine Aj.iconst C dX9_count_116 (by decide) ?_
    refine Aj.ialde (w := st.1 5) C L.a1 (by omega) dX9_count_117 (c2.1 _ (by omega) (by omega)) ?_
    refine Aj.iret C dX9_count_118 (by rw [hmc]; exact ⟨rfl, Nat.le_of_ble_eq_true rfl⟩) ⟨_, rfl, rfl, ?_⟩
    refine ⟨?_, f2⟩
    unfold A_count
    repeat (first | rw [if_neg (by omega)] | rw [if_pos (by omega)])
    all_goals first | exact pv | (rw [pv]; congr 1; omega)
  · refine Aj.tableIn C (109) dX9_count_10 (by omega) (by rw [c10]; rfl) (tgt := 119) (by decide) ?_
    refine Aj.aload_n C 0 dX9_count_119 rfl ?_
    refine Aj.getR C lf_RX9_7 rfl L.a L.r1 dX9_count_120 ?_
    refine Aj.iconst C dX9_count_123 (by decide) ?_
    refine Aj.ialde (w := st.1 1) C L.a1 (by omega) dX9_count_124 (c2.1 _ (by omega) (by omega)) ?_
    refine Aj.iret C dX9_count_125 (by rw [hmc]; exact ⟨rfl, Nat.le_of_ble_eq_true rfl⟩) ⟨_, rfl, rfl, ?_⟩
    refine ⟨?_, f2⟩
    unfold A_count
    repeat (first | rw [if_neg (by omega)] | rw [if_pos (by omega)])
    all_goals first | exact pv | (rw [pv]; congr 1; omega)
  · refine Aj.tableIn C (116) dX9_count_10 (by omega) (by rw [c10]; rfl) (tgt := 126) (by decide) ?_
    refine Aj.aload_n C 0 dX9_count_126 rfl ?_
    refine Aj.getIe (z := (nightT st.1).1) C lf_RX9_71 rfl L.a dX9_count_127 d.1 ?_
    refine Aj.iret C dX9_count_130 (by rw [hmc]; exact ⟨rfl, Nat.le_of_ble_eq_true rfl⟩) ⟨_, rfl, rfl, ?_⟩
    refine ⟨?_, f2⟩
    unfold A_count
    repeat (first | rw [if_neg (by omega)] | rw [if_pos (by omega)])
    all_goals first | exact pv | (rw [pv]; congr 1; omega)
  · refine Aj.tableIn C (121) dX9_count_10 (by omega) (by rw [c10]; rfl) (tgt := 131) (by decide) ?_
    refine Aj.aload_n C 0 dX9_count_131 rfl ?_
    refine Aj.getIe (z := (nightT st.1).2.1) C lf_RX9_74 rfl L.a dX9_count_132 d.2.1 ?_
    refine Aj.iret C dX9_count_135 (by rw [hmc]; exact ⟨rfl, Nat.le_of_ble_eq_true rfl⟩) ⟨_, rfl, rfl, ?_⟩
    refine ⟨?_, f2⟩
    unfold A_count
    repeat (first | rw [if_neg (by omega)] | rw [if_pos (by omega)])
    all_goals first | exact pv | (rw [pv]; congr 1; omega)
  · refine Aj.tableIn C (126) dX9_count_10 (by omega) (by rw [c10]; rfl) (tgt := 136) (by decide) ?_
    refine Aj.aload_n C 0 dX9_count_136 rfl ?_
    refine Aj.getIe (z := (showU st.1).1) C lf_RX9_102 rfl L.a dX9_count_137 u.1 ?_
    refine Aj.iret C dX9_count_140 (by rw [hmc]; exact ⟨rfl, Nat.le_of_ble_eq_true rfl⟩) ⟨_, rfl, rfl, ?_⟩
    refine ⟨?_, f2⟩
    unfold A_count
    repeat (first | rw [if_neg (by omega)] | rw [if_pos (by omega)])
    all_goals first | exact pv | (rw [pv]; congr 1; omega)
  · refine Aj.tableIn C (131) dX9_count_10 (by omega) (by rw [c10]; rfl) (tgt := 141) (by decide) ?_
    refine Aj.aload_n C 0 dX9_count_141 rfl ?_
    refine Aj.iload_n C 1 dX9_count_142 rfl ?_
    refine Aj.bipush C dX9_count_143 (by decide) (by decide) ?_
    refine Aj.isub C dX9_count_145 (by omega) ?_
    refine Aj.callVi (As := [qi (a - 9)]) (st := []) C lm_RX9_175 m_X9_withReason mk_X9_withReason ms_X9_withReason (c_X9_withReason _ L c2.1 g d tt tl u w wg sl.2 ug) L.a (t := 9) rfl rfl rfl rfl (by decide) (Nat.le_of_ble_eq_true rfl) (by decide) dX9_count_146 (fun z146 h_2 rz146 p146 => ?_)
    obtain ⟨rfl, pv⟩ := p146
    refine Aj.iret C dX9_count_149 (by rw [hmc]; exact ⟨rfl, Nat.le_of_ble_eq_true rfl⟩) ⟨_, rfl, rfl, ?_⟩
    refine ⟨?_, f2⟩
    unfold A_count
    repeat (first | rw [if_neg (by omega)] | rw [if_pos (by omega)])
    all_goals first | exact pv | (rw [pv]; congr 1; omega)
  · refine Aj.tableIn C (131) dX9_count_10 (by omega) (by rw [c10]; rfl) (tgt := 141) (by decide) ?_
    refine Aj.aload_n C 0 dX9_count_141 rfl ?_
    refine Aj.iload_n C 1 dX9_count_142 rfl ?_
    refine Aj.bipush C dX9_count_143 (by decide) (by decide) ?_
    refine Aj.isub C dX9_count_145 (by omega) ?_
    refine Aj.callVi (As := [qi (a - 9)]) (st := []) C lm_RX9_175 m_X9_withReason mk_X9_withReason ms_X9_withReason (c_X9_withReason _ L c2.1 g d tt tl u w wg sl.2 ug) L.a (t := 9) rfl rfl rfl rfl (by decide) (Nat.le_of_ble_eq_true rfl) (by decide) dX9_count_146 (fun z146 h_3 rz146 p146 => ?_)
    obtain ⟨rfl, pv⟩ := p146
    refine Aj.iret C dX9_count_149 (by rw [hmc]; exact ⟨rfl, Nat.le_of_ble_eq_true rfl⟩) ⟨_, rfl, rfl, ?_⟩
    refine ⟨?_, f2⟩
    unfold A_count
    repeat (first | rw [if_neg (by omega)] | rw [if_pos (by omega)])
    all_goals first | exact pv | (rw [pv]; congr 1; omega)
  · refine Aj.tableIn C (131) dX9_count_10 (by omega) (by rw [c10]; rfl) (tgt := 141) (by decide) ?_
    refine Aj.aload_n C 0 dX9_count_141 rfl ?_
    refine Aj.iload_n C 1 dX9_count_142 rfl ?_
    refine Aj.bipush C dX9_count_143 (by decide) (by decide) ?_
    refine Aj.isub C dX9_count_145 (by omega) ?_
    refine Aj.callVi (As := [qi (a - 9)]) (st := []) C lm_RX9_175 m_X9_withReason mk_X9_withReason ms_X9_withReason (c_X9_withReason _ L c2.1 g d tt tl u w wg sl.2 ug) L.a (t := 9) rfl rfl rfl rfl (by decide) (Nat.le_of_ble_eq_true rfl) (by decide) dX9_count_146 (fun z146 h_4 rz146 p146 => ?_)
    obtain ⟨rfl, pv⟩ := p146
    refine Aj.iret C dX9_count_149 (by rw [hmc]; exact ⟨rfl, Nat.le_of_ble_eq_true rfl⟩) ⟨_, rfl, rfl, ?_⟩
    refine ⟨?_, f2⟩
    unfold A_count
    repeat (first | rw [if_neg (by omega)] | rw [if_pos (by omega)])
    all_goals first | exact pv | (rw [pv]; congr 1; omega)
  · refine Aj.tableIn C (140) dX9_count_10 (by omega) (by rw [c10]; rfl) (tgt := 150) (by decide) ?_
    refine Aj.aload_n C 0 dX9_count_150 rfl ?_
    refine Aj.callVi (As := []) (st := []) C lm_RX9_178 m_X9_shownTenths mk_X9_shownTenths ms_X9_shownTenths (c_X9_shownTenths _ L c2.1 g d tt tl u w wg sl.2 ug) L.a (t := 9) rfl rfl rfl rfl (by decide) (Nat.le_of_ble_eq_true rfl) (by decide) dX9_count_151 (fun z151 h_5 rz151 p151 => ?_)
    obtain ⟨rfl, pv⟩ := p151
    refine Aj.iret C dX9_count_154 (by rw [hmc]; exact ⟨rfl, Nat.le_of_ble_eq_true rfl⟩) ⟨_, rfl, rfl, ?_⟩
    refine ⟨?_, f2⟩
    unfold A_count
    repeat (first | rw [if_neg (by omega)] | rw [if_pos (by omega)])
    all_goals first | exact pv | (rw [pv]; congr 1; omega)
  · refine Aj.tableIn C (145) dX9_count_10 (by omega) (by rw [c10]; rfl) (tgt := 155) (by decide) ?_
    refine Aj.aload_n C 0 dX9_count_155 rfl ?_
    refine Aj.getIe (z := st.2.1.1) C lf_RX9_182 rfl L.a dX9_count_156 c2.2.1.1 ?_
    refine Aj.iret C dX9_count_159 (by rw [hmc]; exact ⟨rfl, Nat.le_of_ble_eq_true rfl⟩) ⟨_, rfl, rfl, ?_⟩
    refine ⟨?_, f2⟩
    unfold A_count
    repeat (first | rw [if_neg (by omega)] | rw [if_pos (by omega)])
    all_goals first | exact pv | (rw [pv]; congr 1; omega)
  · refine Aj.tableIn C (150) dX9_count_10 (by omega) (by rw [c10]; rfl) (tgt := 160) (by decide) ?_
    refine Aj.aload_n C 0 dX9_count_160 rfl ?_
    refine Aj.getIe (z := st.2.2.1.1) C lf_RX9_64 rfl L.a dX9_count_161 c2.2.2.1.1 ?_
    refine Aj.iret C dX9_count_164 (by rw [hmc]; exact ⟨rfl, Nat.le_of_ble_eq_true rfl⟩) ⟨_, rfl, rfl, ?_⟩
    refine ⟨?_, f2⟩
    unfold A_count
    repeat (first | rw [if_neg (by omega)] | rw [if_pos (by omega)])
    all_goals first | exact pv | (rw [pv]; congr 1; omega)
  · refine Aj.tableOut (tgt := 165) C dX9_count_10 c10 (by decide) ?_
    refine Aj.bipush C dX9_count_165 (by decide) (by decide) ?_
    refine Aj.iret C dX9_count_167 (by rw [hmc]; exact ⟨rfl, Nat.le_of_ble_eq_true rfl⟩) ⟨_, rfl, rfl, ?_⟩
    refine ⟨?_, f2⟩
    unfold A_count
    repeat (first | rw [if_neg (by omega)] | rw [if_pos (by omega)])
    all_goals first | exact pv | (rw [pv]; congr 1; omega)
