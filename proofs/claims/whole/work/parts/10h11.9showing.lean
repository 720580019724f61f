set_option maxHeartbeats 400000 in
set_option maxRecDepth 100000 in
theorem c_X9_showing (l : Launch) {G : qG} {n : Int} {r h : qH} {a b : Int} {M : Int} {st : qS} (L : LModel G n r M) (c : IM h M st) (gs : GS st) : q_Cm l G yX9_showing cX9_showing 3 (some .int) 6 133 [qa M, qi a, qi b] n r h (q_Pi r (fun z h' => z = A_showing st.1 a b ∧ FS M h h')) 0 0 := by
  refine q_enter (al := [(0, qa M), (1, qi a), (2, qi b)]) m_X9_showing rfl (Nat.le_of_ble_eq_true rfl) ?_
  intro hok X C hmc hxl hin
  have g := gs.1
  have gn := g.n
  have gh := gs.2.2.1
  refine Aj.aload_n C 0 dX9_showing_0 rfl ?_
  refine Aj.iconst C dX9_showing_1 (by decide) ?_
  refine Aj.putI C lf_RX9_56 L.a dX9_showing_2 (fun h_1 eh_1 => ?_)
  have f1 : FS M h h_1 := fun x y w => by rw [eh_1, hset_ne _ _ (by omega)]
  have c1 : IM h_1 M st := c.fs f1
  refine Aj.aload_n C 0 dX9_showing_5 rfl ?_
  refine Aj.callVv (As := []) (st := []) C lm_RX9_166 m_X9_laysShowings mk_X9_laysShowings ms_X9_laysShowings (c_X9_laysShowings _ L c1.1 g) L.a (t := 9) rfl rfl rfl rfl (by decide) (Nat.le_of_ble_eq_true rfl) (by decide) dX9_showing_6 (fun hn p6 => ?_)
  obtain ⟨d, u, w, fN⟩ := p6
  have f2 : FS M h hn := f1.tr fN
  have c2 := c.fs f2
  have tt := night_TG g
  have tl := night_le g
  have sl := show_le g
  have ug := show_UG g
  have wg := show_WG g
  refine Aj.iload_n C 1 dX9_showing_9 rfl ?_
  refine Aj.iconst C dX9_showing_10 (by decide) ?_
  refine Aj.aload_n C 0 dX9_showing_11 rfl ?_
  refine Aj.getIe (z := (showU st.1).1) C lf_RX9_102 rfl L.a dX9_showing_12 u.1 ?_
  refine Aj.iconst C dX9_showing_15 (by decide) ?_
  refine Aj.isub C dX9_showing_16 (by omega) ?_
  refine Aj.callSi (As := [qi a, qi 0, qi ((showU st.1).1 - 1)]) (st := []) C lm_RX9_60 m_X9_in mk_X9_in (c_X9_in _) rfl rfl (by decide) (Nat.le_of_ble_eq_true rfl) (by decide) dX9_showing_17 (fun z17 h_2 rz17 p17 => ?_)
  obtain ⟨rfl, pzx, pex⟩ := p17
  refine Aj.if_ne (tgt := 25) C dX9_showing_20 (by decide) (fun c20 => ?_) (fun c20 => ?_)
  · refine Aj.iload_n C 2 dX9_showing_25 rfl ?_
    rcases (show b = 0 ∨ b = 1 ∨ b = 2 ∨ b = 3 ∨ b = 4 ∨ b = 5 ∨ b = 6 ∨ b = 7 ∨ (b < 0 ∨ 7 < b) by omega) with c26 | c26 | c26 | c26 | c26 | c26 | c26 | c26 | c26
    · refine Aj.tableIn C (46) dX9_showing_26 (by omega) (by rw [c26]; rfl) (tgt := 72) (by decide) ?_
      refine Aj.aload_n C 0 dX9_showing_72 rfl ?_
      refine Aj.getR C lf_RX9_32 rfl L.a L.r12 dX9_showing_73 ?_
      refine Aj.iload_n C 1 dX9_showing_76 rfl ?_
      refine Aj.ialde (w := (showU st.1).2.1 a) C L.a8 (by omega) dX9_showing_77 (u.2 _ (by omega) (by omega)).1 ?_
      refine Aj.iret C dX9_showing_78 (by rw [hmc]; exact ⟨rfl, Nat.le_of_ble_eq_true rfl⟩) ⟨_, rfl, rfl, ?_⟩
      refine ⟨?_, f2⟩
      unfold A_showing
      repeat (first | rw [if_neg (by omega)] | rw [if_pos (by omega)])
      all_goals exact pv
    · refine Aj.tableIn C (53) dX9_showing_26 (by omega) (by rw [c26]; rfl) (tgt := 79) (by decide) ?_
      refine Aj.aload_n C 0 dX9_showing_79 rfl ?_
      refine Aj.getR C lf_RX9_35 rfl L.a L.r13 dX9_showing_80 ?_
      refine Aj.iload_n C 1 dX9_showing_83 rfl ?_
      refine Aj.ialde (w := (showU st.1).2.2.1 a) C L.a9 (by omega) dX9_showing_84 (u.2 _ (by omega) (by omega)).2.1 ?_
      refine Aj.iret C dX9_showing_85 (by rw [hmc]; exact ⟨rfl, Nat.le_of_ble_eq_true rfl⟩) ⟨_, rfl, rfl, ?_⟩
      refine ⟨?_, f2⟩
      unfold A_showing
      repeat (first | rw [if_neg (by omega)] | rw [if_pos (by omega)])
      all_goals exact pv
    · refine Aj.tableIn C (60) dX9_showing_26 (by omega) (by rw [c26]; rfl) (tgt := 86) (by decide) ?_
      refine Aj.aload_n C 0 dX9_showing_86 rfl ?_
      refine Aj.getR C lf_RX9_38 rfl L.a L.r14 dX9_showing_87 ?_
      refine Aj.iload_n C 1 dX9_showing_90 rfl ?_
      refine Aj.ialde (w := (showU st.1).2.2.2.1 a) C L.a10 (by omega) dX9_showing_91 (u.2 _ (by omega) (by omega)).2.2.1 ?_
      refine Aj.iret C dX9_showing_92 (by rw [hmc]; exact ⟨rfl, Nat.le_of_ble_eq_true rfl⟩) ⟨_, rfl, rfl, ?_⟩
      refine ⟨?_, f2⟩
      unfold A_showing
      repeat (first | rw [if_neg (by omega)] | rw [if_pos (by omega)])
      all_goals exact pv
    · refine Aj.tableIn C (67) dX9_showing_26 (by omega) (by rw [c26]; rfl) (tgt := 93) (by decide) ?_
      refine Aj.aload_n C 0 dX9_showing_93 rfl ?_
      refine Aj.getR C lf_RX9_41 rfl L.a L.r15 dX9_showing_94 ?_
      refine Aj.iload_n C 1 dX9_showing_97 rfl ?_
      refine Aj.ialde (w := (showU st.1).2.2.2.2 a) C L.a11 (by omega) dX9_showing_98 (u.2 _ (by omega) (by omega)).2.2.2 ?_
      refine Aj.iret C dX9_showing_99 (by rw [hmc]; exact ⟨rfl, Nat.le_of_ble_eq_true rfl⟩) ⟨_, rfl, rfl, ?_⟩
      refine ⟨?_, f2⟩
      unfold A_showing
      repeat (first | rw [if_neg (by omega)] | rw [if_pos (by omega)])
      all_goals exact pv
    · refine Aj.tableIn C (74) dX9_showing_26 (by omega) (by rw [c26]; rfl) (tgt := 100) (by decide) ?_
      refine Aj.aload_n C 0 dX9_showing_100 rfl ?_
      refine Aj.getR C lf_RX9_44 rfl L.a L.r16 dX9_showing_101 ?_
      refine Aj.iload_n C 1 dX9_showing_104 rfl ?_
      refine Aj.ialde (w := (showW st.1).1 a) C L.a12 (by omega) dX9_showing_105 (w _ (by omega) (by omega)).1 ?_
      refine Aj.iret C dX9_showing_106 (by rw [hmc]; exact ⟨rfl, Nat.le_of_ble_eq_true rfl⟩) ⟨_, rfl, rfl, ?_⟩
      refine ⟨?_, f2⟩
      unfold A_showing
      repeat (first | rw [if_neg (by omega)] | rw [if_pos (by omega)])
      all_goals exact pv
    · refine Aj.tableIn C (81) dX9_showing_26 (by omega) (by rw [c26]; rfl) (tgt := 107) (by decide) ?_
      refine Aj.aload_n C 0 dX9_showing_107 rfl ?_
      refine Aj.getR C lf_RX9_47 rfl L.a L.r17 dX9_showing_108 ?_
      refine Aj.iload_n C 1 dX9_showing_111 rfl ?_
      refine Aj.ialde (w := (showW st.1).2.1 a) C L.a13 (by omega) dX9_showing_112 (w _ (by omega) (by omega)).2.1 ?_
      refine Aj.iret C dX9_showing_113 (by rw [hmc]; exact ⟨rfl, Nat.le_of_ble_eq_true rfl⟩) ⟨_, rfl, rfl, ?_⟩
      refine ⟨?_, f2⟩
      unfold A_showing
      repeat (first | rw [if_neg (by omega)] | rw [if_pos (by omega)])
      all_goals exact pv
    · refine Aj.tableIn C (88) dX9_showing_26 (by omega) (by rw [c26]; rfl) (tgt := 114) (by decide) ?_
      refine Aj.aload_n C 0 dX9_showing_114 rfl ?_
      refine Aj.getR C lf_RX9_50 rfl L.a L.r18 dX9_showing_115 ?_
      refine Aj.iload_n C 1 dX9_showing_118 rfl ?_
      refine Aj.ialde (w := (showW st.1).2.2.1 a) C L.a14 (by omega) dX9_showing_119 (w _ (by omega) (by omega)).2.2 ?_
      refine Aj.iret C dX9_showing_120 (by rw [hmc]; exact ⟨rfl, Nat.le_of_ble_eq_true rfl⟩) ⟨_, rfl, rfl, ?_⟩
      refine ⟨?_, f2⟩
      unfold A_showing
      repeat (first | rw [if_neg (by omega)] | rw [if_pos (by omega)])
      all_goals exact pv
    · refine Aj.tableIn C (95) dX9_showing_26 (by omega) (by rw [c26]; rfl) (tgt := 121) (by decide) ?_
      refine Aj.aload_n C 0 dX9_showing_121 rfl ?_
      refine Aj.iload_n C 1 dX9_showing_122 rfl ?_
      refine Aj.callVi (As := [qi a]) (st := []) C lm_RX9_172 m_X9_speed mk_X9_speed ms_X9_speed (c_X9_speed _ L c2.1 g d tt tl u w wg sl.2 ug (by omega)) L.a (t := 9) rfl rfl rfl rfl (by decide) (Nat.le_of_ble_eq_true rfl) (by decide) dX9_showing_123 (fun z123 h_3 rz123 p123 => ?_)
      obtain ⟨rfl, pv⟩ := p123
      refine Aj.iret C dX9_showing_126 (by rw [hmc]; exact ⟨rfl, Nat.le_of_ble_eq_true rfl⟩) ⟨_, rfl, rfl, ?_⟩
      refine ⟨?_, f2⟩
      unfold A_showing
      repeat (first | rw [if_neg (by omega)] | rw [if_pos (by omega)])
      all_goals exact pv
    · refine Aj.tableOut (tgt := 127) C dX9_showing_26 c26 (by decide) ?_
      refine Aj.bipush C dX9_showing_127 (by decide) (by decide) ?_
      refine Aj.iret C dX9_showing_129 (by rw [hmc]; exact ⟨rfl, Nat.le_of_ble_eq_true rfl⟩) ⟨_, rfl, rfl, ?_⟩
      refine ⟨?_, f2⟩
      unfold A_showing
      repeat (first | rw [if_neg (by omega)] | rw [if_pos (by omega)])
      all_goals exact pv
  · refine Aj.iconst C dX9_showing_23 (by decide) ?_
    refine Aj.iret C dX9_showing_24 (by rw [hmc]; exact ⟨rfl, Nat.le_of_ble_eq_true rfl⟩) ⟨_, rfl, rfl, ?_⟩
    refine ⟨?_, f2⟩
    unfold A_showing
    repeat (first | rw [if_neg (by omega)] | rw [if_pos (by omega)])
    all_goals exact pv
