set_option maxHeartbeats 400000 in
set_option maxRecDepth 100000 in
theorem c_X8_showing (l : Launch) {G : qG} {n : Int} {r h : qH} {a c : Int} {b : Int} {st : qS} (L : LCall G n r b) (I : I8 h b st) (gs : GS st) : q_Cm l G yX8_showing cX8_showing 4 (some .int) 3 65 [qa b, qi a, qi c] n r h (q_Pi r (fun z h' => h = h' ∧ z = A_showing st.1 a c)) 0 0 := by
  refine q_enter (al := [(0, qa b), (1, qi a), (2, qi c)]) m_X8_showing rfl (Nat.le_of_ble_eq_true rfl) ?_
  intro hok X C hmc hxl hin
  have g := gs.1
  have gn := g.n
  have gh := gs.2.2.1
  have tt := night_TG g
  have tl := night_le g
  have t0 := tt.1
  have sl := show_le g
  have ug := show_UG g
  have wg := show_WG g
  refine Aj.aload_n C 0 dX8_showing_0 rfl ?_
  refine Aj.getR C lf_RX8_19 rfl L.a L.r1 dX8_showing_1 ?_
  refine Aj.getR C lf_RX8_161 rfl L.ni.a L.ni.r5 dX8_showing_4 ?_
  refine Aj.astore_n (al2 := [(3, qa (b + 18 + 6)), (0, qa b), (1, qi a), (2, qi c)]) C dX8_showing_7 (by decide) rfl ?_
  refine Aj.aload_n C 0 dX8_showing_8 rfl ?_
  refine Aj.iload_n C 2 dX8_showing_9 rfl ?_
  refine Aj.callVi (As := [qi a]) (st := []) C lm_RX8_174 m_X5_has mk_X5_has ms_X5_has (c_X5_has _ L.ni.sh I.2.1.2.1 sl) L.ni.sh.a (t := 5) rfl rfl rfl rfl (by decide) (Nat.le_of_ble_eq_true rfl) (by decide) dX8_showing_10 (fun z10 h_1 rz10 p10 => ?_)
  obtain ⟨rfl, pzb, peb⟩ := p10
  refine Aj.if_ne (tgt := 18) C dX8_showing_13 (by decide) (fun c13 => ?_) (fun c13 => ?_)
  · have wi := wg.2 a (by omega) (by omega)
    refine Aj.iload_n C 3 dX8_showing_18 rfl ?_
    rcases (show c = 0 ∨ c = 1 ∨ c = 2 ∨ c = 3 ∨ c = 4 ∨ c = 5 ∨ c = 6 ∨ c = 7 ∨ (c < 0 ∨ 7 < c) by omega) with c19 | c19 | c19 | c19 | c19 | c19 | c19 | c19 | c19
    · refine Aj.tableIn C (45) dX8_showing_19 (by omega) (by rw [c19]; rfl) (tgt := 64) (by decide) ?_
      refine Aj.aload_n C 0 dX8_showing_64 rfl ?_
      refine Aj.getR C lf_RX8_175 rfl L.ni.sh.a L.ni.sh.r0 dX8_showing_65 ?_
      refine Aj.iload_n C 2 dX8_showing_68 rfl ?_
      refine Aj.ialde (w := (showU st.1).2.1 a) C L.ni.sh.a1 (by omega) dX8_showing_69 (I.2.1.2.1.2 _ (by omega) (by omega)).1 ?_
      refine Aj.iret C dX8_showing_70 (by rw [hmc]; exact ⟨rfl, Nat.le_of_ble_eq_true rfl⟩) ⟨_, rfl, rfl, ?_⟩
      refine ⟨rfl, ?_⟩
      unfold A_showing
      repeat (first | rw [if_neg (by omega)] | rw [if_pos (by omega)])
      all_goals first | exact pv | omega
    · refine Aj.tableIn C (52) dX8_showing_19 (by omega) (by rw [c19]; rfl) (tgt := 71) (by decide) ?_
      refine Aj.aload_n C 0 dX8_showing_71 rfl ?_
      refine Aj.getR C lf_RX8_178 rfl L.ni.sh.a L.ni.sh.r1 dX8_showing_72 ?_
      refine Aj.iload_n C 2 dX8_showing_75 rfl ?_
      refine Aj.ialde (w := (showU st.1).2.2.1 a) C L.ni.sh.a2 (by omega) dX8_showing_76 (I.2.1.2.1.2 _ (by omega) (by omega)).2.1 ?_
      refine Aj.iret C dX8_showing_77 (by rw [hmc]; exact ⟨rfl, Nat.le_of_ble_eq_true rfl⟩) ⟨_, rfl, rfl, ?_⟩
      refine ⟨rfl, ?_⟩
      unfold A_showing
      repeat (first | rw [if_neg (by omega)] | rw [if_pos (by omega)])
      all_goals first | exact pv | omega
    · refine Aj.tableIn C (59) dX8_showing_19 (by omega) (by rw [c19]; rfl) (tgt := 78) (by decide) ?_
      refine Aj.aload_n C 0 dX8_showing_78 rfl ?_
      refine Aj.getR C lf_RX8_181 rfl L.ni.sh.a L.ni.sh.r2 dX8_showing_79 ?_
      refine Aj.iload_n C 2 dX8_showing_82 rfl ?_
      refine Aj.ialde (w := (showU st.1).2.2.2.1 a) C L.ni.sh.a3 (by omega) dX8_showing_83 (I.2.1.2.1.2 _ (by omega) (by omega)).2.2.1 ?_
      refine Aj.iret C dX8_showing_84 (by rw [hmc]; exact ⟨rfl, Nat.le_of_ble_eq_true rfl⟩) ⟨_, rfl, rfl, ?_⟩
      refine ⟨rfl, ?_⟩
      unfold A_showing
      repeat (first | rw [if_neg (by omega)] | rw [if_pos (by omega)])
      all_goals first | exact pv | omega
    · refine Aj.tableIn C (66) dX8_showing_19 (by omega) (by rw [c19]; rfl) (tgt := 85) (by decide) ?_
      refine Aj.aload_n C 0 dX8_showing_85 rfl ?_
      refine Aj.getR C lf_RX8_184 rfl L.ni.sh.a L.ni.sh.r3 dX8_showing_86 ?_
      refine Aj.iload_n C 2 dX8_showing_89 rfl ?_
      refine Aj.ialde (w := (showU st.1).2.2.2.2 a) C L.ni.sh.a4 (by omega) dX8_showing_90 (I.2.1.2.1.2 _ (by omega) (by omega)).2.2.2 ?_
      refine Aj.iret C dX8_showing_91 (by rw [hmc]; exact ⟨rfl, Nat.le_of_ble_eq_true rfl⟩) ⟨_, rfl, rfl, ?_⟩
      refine ⟨rfl, ?_⟩
      unfold A_showing
      repeat (first | rw [if_neg (by omega)] | rw [if_pos (by omega)])
      all_goals first | exact pv | omega
    · refine Aj.tableIn C (73) dX8_showing_19 (by omega) (by rw [c19]; rfl) (tgt := 92) (by decide) ?_
      refine Aj.aload_n C 0 dX8_showing_92 rfl ?_
      refine Aj.getR C lf_RX8_187 rfl L.ni.sh.a L.ni.sh.r4 dX8_showing_93 ?_
      refine Aj.iload_n C 2 dX8_showing_96 rfl ?_
      refine Aj.ialde (w := (showW st.1).1 a) C L.ni.sh.a5 (by omega) dX8_showing_97 (I.2.1.2.2 _ (by omega) (by omega)).1 ?_
      refine Aj.iret C dX8_showing_98 (by rw [hmc]; exact ⟨rfl, Nat.le_of_ble_eq_true rfl⟩) ⟨_, rfl, rfl, ?_⟩
      refine ⟨rfl, ?_⟩
      unfold A_showing
      repeat (first | rw [if_neg (by omega)] | rw [if_pos (by omega)])
      all_goals first | exact pv | omega
    · refine Aj.tableIn C (80) dX8_showing_19 (by omega) (by rw [c19]; rfl) (tgt := 99) (by decide) ?_
      refine Aj.aload_n C 0 dX8_showing_99 rfl ?_
      refine Aj.iload_n C 2 dX8_showing_100 rfl ?_
      refine Aj.callVi (As := [qi a]) (st := []) C lm_RX8_190 m_X5_shows mk_X5_shows ms_X5_shows (c_X5_shows _ L.ni.sh I.2.1.2.1 sl I.2.1.2.2 (by omega)) L.ni.sh.a (t := 5) rfl rfl rfl rfl (by decide) (Nat.le_of_ble_eq_true rfl) (by decide) dX8_showing_101 (fun z101 h_2 rz101 p101 => ?_)
      obtain ⟨rfl, pzs, pes⟩ := p101
      refine Aj.if_eq (tgt := 116) C dX8_showing_104 (by decide) (fun c104 => ?_) (fun c104 => ?_)
      · refine Aj.bipush C dX8_showing_116 (by decide) (by decide) ?_
        refine Aj.iret C dX8_showing_118 (by rw [hmc]; exact ⟨rfl, Nat.le_of_ble_eq_true rfl⟩) ⟨_, rfl, rfl, ?_⟩
        refine ⟨rfl, ?_⟩
        unfold A_showing
        repeat (first | rw [if_neg (by omega)] | rw [if_pos (by omega)])
        all_goals first | exact pv | omega
      · refine Aj.aload_n C 0 dX8_showing_107 rfl ?_
        refine Aj.getR C lf_RX8_193 rfl L.ni.sh.a L.ni.sh.r5 dX8_showing_108 ?_
        refine Aj.iload_n C 2 dX8_showing_111 rfl ?_
        refine Aj.ialde (w := (showW st.1).2.1 a) C L.ni.sh.a6 (by omega) dX8_showing_112 ((I.2.1.2.2 _ (by omega) (by omega)).2 (by omega)).1 ?_
        refine Aj.goto (tgt := 118) C dX8_showing_113 (by decide) ?_
        refine Aj.iret C dX8_showing_118 (by rw [hmc]; exact ⟨rfl, Nat.le_of_ble_eq_true rfl⟩) ⟨_, rfl, rfl, ?_⟩
        refine ⟨rfl, ?_⟩
        unfold A_showing
        repeat (first | rw [if_neg (by omega)] | rw [if_pos (by omega)])
        all_goals first | exact pv | omega
    · refine Aj.tableIn C (100) dX8_showing_19 (by omega) (by rw [c19]; rfl) (tgt := 119) (by decide) ?_
      refine Aj.aload_n C 0 dX8_showing_119 rfl ?_
      refine Aj.iload_n C 2 dX8_showing_120 rfl ?_
      refine Aj.callVi (As := [qi a]) (st := []) C lm_RX8_190 m_X5_shows mk_X5_shows ms_X5_shows (c_X5_shows _ L.ni.sh I.2.1.2.1 sl I.2.1.2.2 (by omega)) L.ni.sh.a (t := 5) rfl rfl rfl rfl (by decide) (Nat.le_of_ble_eq_true rfl) (by decide) dX8_showing_121 (fun z121 h_3 rz121 p121 => ?_)
      obtain ⟨rfl, pzs, pes⟩ := p121
      refine Aj.if_eq (tgt := 136) C dX8_showing_124 (by decide) (fun c124 => ?_) (fun c124 => ?_)
      · refine Aj.bipush C dX8_showing_136 (by decide) (by decide) ?_
        refine Aj.iret C dX8_showing_138 (by rw [hmc]; exact ⟨rfl, Nat.le_of_ble_eq_true rfl⟩) ⟨_, rfl, rfl, ?_⟩
        refine ⟨rfl, ?_⟩
        unfold A_showing
        repeat (first | rw [if_neg (by omega)] | rw [if_pos (by omega)])
        all_goals first | exact pv | omega
      · refine Aj.aload_n C 0 dX8_showing_127 rfl ?_
        refine Aj.getR C lf_RX8_196 rfl L.ni.sh.a L.ni.sh.r6 dX8_showing_128 ?_
        refine Aj.iload_n C 2 dX8_showing_131 rfl ?_
        refine Aj.ialde (w := (showW st.1).2.2.1 a) C L.ni.sh.a7 (by omega) dX8_showing_132 ((I.2.1.2.2 _ (by omega) (by omega)).2 (by omega)).2 ?_
        refine Aj.goto (tgt := 138) C dX8_showing_133 (by decide) ?_
        refine Aj.iret C dX8_showing_138 (by rw [hmc]; exact ⟨rfl, Nat.le_of_ble_eq_true rfl⟩) ⟨_, rfl, rfl, ?_⟩
        refine ⟨rfl, ?_⟩
        unfold A_showing
        repeat (first | rw [if_neg (by omega)] | rw [if_pos (by omega)])
        all_goals first | exact pv | omega
    · refine Aj.tableIn C (120) dX8_showing_19 (by omega) (by rw [c19]; rfl) (tgt := 139) (by decide) ?_
      refine Aj.aload_n C 1 dX8_showing_139 rfl ?_
      refine Aj.iload_n C 2 dX8_showing_140 rfl ?_
      refine Aj.callVi (As := [qi a]) (st := []) C lm_RX8_199 m_X8_readingPace mk_X8_readingPace ms_X8_readingPace (c_X8_readingPace _ L I gs (by omega)) L.a (t := 8) rfl rfl rfl rfl (by decide) (Nat.le_of_ble_eq_true rfl) (by decide) dX8_showing_141 (fun z141 h_4 rz141 p141 => ?_)
      obtain ⟨rfl, pv⟩ := p141
      refine Aj.iret C dX8_showing_144 (by rw [hmc]; exact ⟨rfl, Nat.le_of_ble_eq_true rfl⟩) ⟨_, rfl, rfl, ?_⟩
      refine ⟨rfl, ?_⟩
      unfold A_showing
      repeat (first | rw [if_neg (by omega)] | rw [if_pos (by omega)])
      all_goals first | exact pv | omega
    · refine Aj.tableOut (tgt := 145) C dX8_showing_19 c19 (by decide) ?_
      refine Aj.bipush C dX8_showing_145 (by decide) (by decide) ?_
      refine Aj.iret C dX8_showing_147 (by rw [hmc]; exact ⟨rfl, Nat.le_of_ble_eq_true rfl⟩) ⟨_, rfl, rfl, ?_⟩
      refine ⟨rfl, ?_⟩
      unfold A_showing
      repeat (first | rw [if_neg (by omega)] | rw [if_pos (by omega)])
      all_goals first | exact pv | omega
  · refine Aj.iconst C dX8_showing_16 (by decide) ?_
    refine Aj.iret C dX8_showing_17 (by rw [hmc]; exact ⟨rfl, Nat.le_of_ble_eq_true rfl⟩) ⟨_, rfl, rfl, ?_⟩
    refine ⟨rfl, ?_⟩
    unfold A_showing
    repeat (first | rw [if_neg (by omega)] | rw [if_pos (by omega)])
    all_goals first | exact pv | omega
