set_option maxHeartbeats 400000 in
set_option maxRecDepth 100000 in
theorem c_X8_ofTitle (l : Launch) {G : qG} {n : Int} {r h : qH} {a c : Int} {b : Int} {st : qS} (L : LCall G n r b) (I : I8 h b st) (gs : GS st) : q_Cm l G yX8_ofTitle cX8_ofTitle 3 (some .int) 4 86 [qa b, qi a, qi c] n r h (q_Pi r (fun z h' => h = h' ∧ z = A_ofTitle st.1 a c)) 0 0 := by
  refine q_enter (al := [(0, qa b), (1, qi a), (2, qi c)]) m_X8_ofTitle rfl (Nat.le_of_ble_eq_true rfl) ?_
  intro hok X C hmc hxl hin
  have g := gs.1
  have gn := g.n
  have gh := gs.2.2.1
  have tt := night_TG g
  have tl := night_le g
  have t0 := tt.1
  have sl := show_le g
  have ug := show_UG g
  have wg := show_WG g
  refine Aj.aload_n C 0 dX8_ofTitle_0 rfl ?_
  refine Aj.getR C lf_RX8_12 rfl L.a L.r0 dX8_ofTitle_1 ?_
  refine Aj.getR C lf_RX8_140 rfl L.sc.a L.sc.r7 dX8_ofTitle_4 ?_
  refine Aj.iload_n C 1 dX8_ofTitle_7 rfl ?_
  refine Aj.callVi (As := [qi a]) (st := []) C lm_RX8_144 m_X7_has mk_X7_has ms_X7_has (c_X7_has _ L.sc.ti I.1.2.2.2.2.2.2.1 (by omega)) L.sc.ti.a (t := 7) rfl rfl rfl rfl (by decide) (Nat.le_of_ble_eq_true rfl) (by decide) dX8_ofTitle_8 (fun z8 h_1 rz8 p8 => ?_)
  obtain ⟨rfl, pzb, peb⟩ := p8
  refine Aj.if_ne (tgt := 16) C dX8_ofTitle_11 (by decide) (fun c11 => ?_) (fun c11 => ?_)
  · refine Aj.iload_n C 2 dX8_ofTitle_16 rfl ?_
    rcases (show c = 0 ∨ c = 1 ∨ c = 2 ∨ c = 3 ∨ c = 4 ∨ c = 5 ∨ c = 6 ∨ (c < 0 ∨ 6 < c) by omega) with c17 | c17 | c17 | c17 | c17 | c17 | c17 | c17
    · refine Aj.tableIn C (43) dX8_ofTitle_17 (by omega) (by rw [c17]; rfl) (tgt := 60) (by decide) ?_
      refine Aj.aload_n C 0 dX8_ofTitle_60 rfl ?_
      refine Aj.getR C lf_RX8_12 rfl L.a L.r0 dX8_ofTitle_61 ?_
      refine Aj.getR C lf_RX8_140 rfl L.sc.a L.sc.r7 dX8_ofTitle_64 ?_
      refine Aj.getR C lf_RX8_149 rfl L.sc.ti.a L.sc.ti.r0 dX8_ofTitle_67 ?_
      refine Aj.iload_n C 1 dX8_ofTitle_70 rfl ?_
      refine Aj.ialde (w := st.1 (148 + 4 * a)) C L.sc.ti.a1 (by omega) dX8_ofTitle_71 (I.1.2.2.2.2.2.2.2 _ (by omega) (by omega)).1 ?_
      refine Aj.iret C dX8_ofTitle_72 (by rw [hmc]; exact ⟨rfl, Nat.le_of_ble_eq_true rfl⟩) ⟨_, rfl, rfl, ?_⟩
      refine ⟨rfl, ?_⟩
      unfold A_ofTitle
      repeat (first | rw [if_neg (by omega)] | rw [if_pos (by omega)])
      all_goals exact pv
    · refine Aj.tableIn C (56) dX8_ofTitle_17 (by omega) (by rw [c17]; rfl) (tgt := 73) (by decide) ?_
      refine Aj.aload_n C 0 dX8_ofTitle_73 rfl ?_
      refine Aj.getR C lf_RX8_12 rfl L.a L.r0 dX8_ofTitle_74 ?_
      refine Aj.getR C lf_RX8_140 rfl L.sc.a L.sc.r7 dX8_ofTitle_77 ?_
      refine Aj.getR C lf_RX8_152 rfl L.sc.ti.a L.sc.ti.r1 dX8_ofTitle_80 ?_
      refine Aj.iload_n C 1 dX8_ofTitle_83 rfl ?_
      refine Aj.ialde (w := st.1 (149 + 4 * a)) C L.sc.ti.a2 (by omega) dX8_ofTitle_84 (I.1.2.2.2.2.2.2.2 _ (by omega) (by omega)).2.1 ?_
      refine Aj.iret C dX8_ofTitle_85 (by rw [hmc]; exact ⟨rfl, Nat.le_of_ble_eq_true rfl⟩) ⟨_, rfl, rfl, ?_⟩
      refine ⟨rfl, ?_⟩
      unfold A_ofTitle
      repeat (first | rw [if_neg (by omega)] | rw [if_pos (by omega)])
      all_goals exact pv
    · refine Aj.tableIn C (69) dX8_ofTitle_17 (by omega) (by rw [c17]; rfl) (tgt := 86) (by decide) ?_
      refine Aj.aload_n C 0 dX8_ofTitle_86 rfl ?_
      refine Aj.getR C lf_RX8_12 rfl L.a L.r0 dX8_ofTitle_87 ?_
      refine Aj.getR C lf_RX8_140 rfl L.sc.a L.sc.r7 dX8_ofTitle_90 ?_
      refine Aj.getR C lf_RX8_155 rfl L.sc.ti.a L.sc.ti.r2 dX8_ofTitle_93 ?_
      refine Aj.iload_n C 1 dX8_ofTitle_96 rfl ?_
      refine Aj.ialde (w := st.1 (150 + 4 * a)) C L.sc.ti.a3 (by omega) dX8_ofTitle_97 (I.1.2.2.2.2.2.2.2 _ (by omega) (by omega)).2.2.1 ?_
      refine Aj.iret C dX8_ofTitle_98 (by rw [hmc]; exact ⟨rfl, Nat.le_of_ble_eq_true rfl⟩) ⟨_, rfl, rfl, ?_⟩
      refine ⟨rfl, ?_⟩
      unfold A_ofTitle
      repeat (first | rw [if_neg (by omega)] | rw [if_pos (by omega)])
      all_goals exact pv
    · refine Aj.tableIn C (82) dX8_ofTitle_17 (by omega) (by rw [c17]; rfl) (tgt := 99) (by decide) ?_
      refine Aj.aload_n C 0 dX8_ofTitle_99 rfl ?_
      refine Aj.getR C lf_RX8_12 rfl L.a L.r0 dX8_ofTitle_100 ?_
      refine Aj.getR C lf_RX8_140 rfl L.sc.a L.sc.r7 dX8_ofTitle_103 ?_
      refine Aj.getR C lf_RX8_158 rfl L.sc.ti.a L.sc.ti.r3 dX8_ofTitle_106 ?_
      refine Aj.iload_n C 1 dX8_ofTitle_109 rfl ?_
      refine Aj.ialde (w := st.1 (151 + 4 * a)) C L.sc.ti.a4 (by omega) dX8_ofTitle_110 (I.1.2.2.2.2.2.2.2 _ (by omega) (by omega)).2.2.2 ?_
      refine Aj.iret C dX8_ofTitle_111 (by rw [hmc]; exact ⟨rfl, Nat.le_of_ble_eq_true rfl⟩) ⟨_, rfl, rfl, ?_⟩
      refine ⟨rfl, ?_⟩
      unfold A_ofTitle
      repeat (first | rw [if_neg (by omega)] | rw [if_pos (by omega)])
      all_goals exact pv
    · refine Aj.tableIn C (95) dX8_ofTitle_17 (by omega) (by rw [c17]; rfl) (tgt := 112) (by decide) ?_
      refine Aj.aload_n C 0 dX8_ofTitle_112 rfl ?_
      refine Aj.getR C lf_RX8_19 rfl L.a L.r1 dX8_ofTitle_113 ?_
      refine Aj.getR C lf_RX8_161 rfl L.ni.a L.ni.r5 dX8_ofTitle_116 ?_
      refine Aj.iload_n C 1 dX8_ofTitle_119 rfl ?_
      refine Aj.callVi (As := [qi a]) (st := []) C lm_RX8_165 m_X5_countOf mk_X5_countOf ms_X5_countOf (c_X5_countOf _ L.ni.sh I.2.1.2.1 sl I.2.1.2.2) L.ni.sh.a (t := 5) rfl rfl rfl rfl (by decide) (Nat.le_of_ble_eq_true rfl) (by decide) dX8_ofTitle_120 (fun z120 h_2 rz120 p120 => ?_)
      obtain ⟨rfl, pv⟩ := p120
      refine Aj.iret C dX8_ofTitle_123 (by rw [hmc]; exact ⟨rfl, Nat.le_of_ble_eq_true rfl⟩) ⟨_, rfl, rfl, ?_⟩
      refine ⟨rfl, ?_⟩
      unfold A_ofTitle
      repeat (first | rw [if_neg (by omega)] | rw [if_pos (by omega)])
      all_goals exact pv
    · refine Aj.tableIn C (107) dX8_ofTitle_17 (by omega) (by rw [c17]; rfl) (tgt := 124) (by decide) ?_
      refine Aj.aload_n C 0 dX8_ofTitle_124 rfl ?_
      refine Aj.getR C lf_RX8_19 rfl L.a L.r1 dX8_ofTitle_125 ?_
      refine Aj.getR C lf_RX8_161 rfl L.ni.a L.ni.r5 dX8_ofTitle_128 ?_
      refine Aj.iload_n C 1 dX8_ofTitle_131 rfl ?_
      refine Aj.callVi (As := [qi a]) (st := []) C lm_RX8_170 m_X5_countShownOf mk_X5_countShownOf ms_X5_countShownOf (c_X5_countShownOf _ L.ni.sh I.2.1.2.1 sl I.2.1.2.2) L.ni.sh.a (t := 5) rfl rfl rfl rfl (by decide) (Nat.le_of_ble_eq_true rfl) (by decide) dX8_ofTitle_132 (fun z132 h_3 rz132 p132 => ?_)
      obtain ⟨rfl, pv⟩ := p132
      refine Aj.iret C dX8_ofTitle_135 (by rw [hmc]; exact ⟨rfl, Nat.le_of_ble_eq_true rfl⟩) ⟨_, rfl, rfl, ?_⟩
      refine ⟨rfl, ?_⟩
      unfold A_ofTitle
      repeat (first | rw [if_neg (by omega)] | rw [if_pos (by omega)])
      all_goals exact pv
    · refine Aj.tableIn C (119) dX8_ofTitle_17 (by omega) (by rw [c17]; rfl) (tgt := 136) (by decide) ?_
      refine Aj.aload_n C 0 dX8_ofTitle_136 rfl ?_
      refine Aj.getR C lf_RX8_19 rfl L.a L.r1 dX8_ofTitle_137 ?_
      refine Aj.getR C lf_RX8_161 rfl L.ni.a L.ni.r5 dX8_ofTitle_140 ?_
      refine Aj.iload_n C 1 dX8_ofTitle_143 rfl ?_
      refine Aj.callVi (As := [qi a]) (st := []) C lm_RX8_173 m_X5_tenthsOf mk_X5_tenthsOf ms_X5_tenthsOf (c_X5_tenthsOf _ L.ni.sh I.2.1.2.1 sl I.2.1.2.2 wg) L.ni.sh.a (t := 5) rfl rfl rfl rfl (by decide) (Nat.le_of_ble_eq_true rfl) (by decide) dX8_ofTitle_144 (fun z144 h_4 rz144 p144 => ?_)
      obtain ⟨rfl, pv⟩ := p144
      refine Aj.iret C dX8_ofTitle_147 (by rw [hmc]; exact ⟨rfl, Nat.le_of_ble_eq_true rfl⟩) ⟨_, rfl, rfl, ?_⟩
      refine ⟨rfl, ?_⟩
      unfold A_ofTitle
      repeat (first | rw [if_neg (by omega)] | rw [if_pos (by omega)])
      all_goals exact pv
    · refine Aj.tableOut (tgt := 148) C dX8_ofTitle_17 c17 (by decide) ?_
      refine Aj.bipush C dX8_ofTitle_148 (by decide) (by decide) ?_
      refine Aj.iret C dX8_ofTitle_150 (by rw [hmc]; exact ⟨rfl, Nat.le_of_ble_eq_true rfl⟩) ⟨_, rfl, rfl, ?_⟩
      refine ⟨rfl, ?_⟩
      unfold A_ofTitle
      repeat (first | rw [if_neg (by omega)] | rw [if_pos (by omega)])
      all_goals exact pv
  · refine Aj.iconst C dX8_ofTitle_14 (by decide) ?_
    refine Aj.iret C dX8_ofTitle_15 (by rw [hmc]; exact ⟨rfl, Nat.le_of_ble_eq_true rfl⟩) ⟨_, rfl, rfl, ?_⟩
    refine ⟨rfl, ?_⟩
    unfold A_ofTitle
    repeat (first | rw [if_neg (by omega)] | rw [if_pos (by omega)])
    all_goals exact pv
