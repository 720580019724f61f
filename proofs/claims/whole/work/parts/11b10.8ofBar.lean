set_option maxHeartbeats 400000 in
set_option maxRecDepth 100000 in
theorem c_X8_ofBar (l : Launch) {G : qG} {n : Int} {r h : qH} {a c : Int} {b : Int} {st : qS} (L : LCall G n r b) (I : I8 h b st) (gs : GS st) : q_Cm l G yX8_ofBar cX8_ofBar 3 (some .int) 2 44 [qa b, qi a, qi c] n r h (q_Pi r (fun z h' => h = h' ∧ z = A_ofBar st.1 a c)) 0 0 := by
  refine q_enter (al := [(0, qa b), (1, qi a), (2, qi c)]) m_X8_ofBar rfl (Nat.le_of_ble_eq_true rfl) ?_
  intro hok X C hmc hxl hin
  have g := gs.1
  have gn := g.n
  have gh := gs.2.2.1
  have tt := night_TG g
  have tl := night_le g
  have t0 := tt.1
  have sl := show_le g
  have ug := show_UG g
  have wg := show_WG g
  refine Aj.aload_n C 0 dX8_ofBar_0 rfl ?_
  refine Aj.getR C lf_RX8_12 rfl L.a L.r0 dX8_ofBar_1 ?_
  refine Aj.iload_n C 1 dX8_ofBar_4 rfl ?_
  refine Aj.callVi (As := [qi a]) (st := []) C lm_RX8_99 m_X4_hasBar mk_X4_hasBar ms_X4_hasBar (c_X4_hasBar _ L.sc I.1 g) L.sc.a (t := 4) rfl rfl rfl rfl (by decide) (Nat.le_of_ble_eq_true rfl) (by decide) dX8_ofBar_5 (fun z5 h_1 rz5 p5 => ?_)
  obtain ⟨rfl, pzb, peb⟩ := p5
  refine Aj.if_ne (tgt := 13) C dX8_ofBar_8 (by decide) (fun c8 => ?_) (fun c8 => ?_)
  · have hb := peb.mp (by omega)
    have hb2 := hb
    unfold barP at hb2
    refine Aj.iload_n C 2 dX8_ofBar_13 rfl ?_
    rcases (show c = 0 ∨ c = 1 ∨ c = 2 ∨ c = 3 ∨ c = 4 ∨ c = 5 ∨ (c < 0 ∨ 5 < c) by omega) with c14 | c14 | c14 | c14 | c14 | c14 | c14
    · refine Aj.tableIn C (38) dX8_ofBar_14 (by omega) (by rw [c14]; rfl) (tgt := 52) (by decide) ?_
      refine Aj.aload_n C 0 dX8_ofBar_52 rfl ?_
      refine Aj.getR C lf_RX8_12 rfl L.a L.r0 dX8_ofBar_53 ?_
      refine Aj.getR C lf_RX8_103 rfl L.sc.a L.sc.r2 dX8_ofBar_56 ?_
      refine Aj.iload_n C 1 dX8_ofBar_59 rfl ?_
      refine Aj.ialde (w := st.1 (6 + a)) C L.sc.a1 (by omega) dX8_ofBar_60 (I.1.2.2.1 _ (by omega) (by omega)).1 ?_
      refine Aj.iret C dX8_ofBar_61 (by rw [hmc]; exact ⟨rfl, Nat.le_of_ble_eq_true rfl⟩) ⟨_, rfl, rfl, ?_⟩
      refine ⟨rfl, ?_⟩
      unfold A_ofBar
      rw [ci_y hb]
      repeat (first | rw [if_neg (by omega)] | rw [if_pos (by omega)])
      all_goals first | exact pv | rw [ci_y (pec2.mp (by omega))] | rw [ci_n (fun q => by have := pec2.mpr q; omega)]
    · refine Aj.tableIn C (48) dX8_ofBar_14 (by omega) (by rw [c14]; rfl) (tgt := 62) (by decide) ?_
      refine Aj.aload_n C 0 dX8_ofBar_62 rfl ?_
      refine Aj.getR C lf_RX8_12 rfl L.a L.r0 dX8_ofBar_63 ?_
      refine Aj.getR C lf_RX8_107 rfl L.sc.a L.sc.r3 dX8_ofBar_66 ?_
      refine Aj.iload_n C 1 dX8_ofBar_69 rfl ?_
      refine Aj.ialde (w := st.1 (66 + a)) C L.sc.a2 (by omega) dX8_ofBar_70 (I.1.2.2.1 _ (by omega) (by omega)).2 ?_
      refine Aj.iret C dX8_ofBar_71 (by rw [hmc]; exact ⟨rfl, Nat.le_of_ble_eq_true rfl⟩) ⟨_, rfl, rfl, ?_⟩
      refine ⟨rfl, ?_⟩
      unfold A_ofBar
      rw [ci_y hb]
      repeat (first | rw [if_neg (by omega)] | rw [if_pos (by omega)])
      all_goals first | exact pv | rw [ci_y (pec2.mp (by omega))] | rw [ci_n (fun q => by have := pec2.mpr q; omega)]
    · refine Aj.tableIn C (58) dX8_ofBar_14 (by omega) (by rw [c14]; rfl) (tgt := 72) (by decide) ?_
      refine Aj.aload_n C 0 dX8_ofBar_72 rfl ?_
      refine Aj.getR C lf_RX8_12 rfl L.a L.r0 dX8_ofBar_73 ?_
      refine Aj.iload_n C 1 dX8_ofBar_76 rfl ?_
      refine Aj.callVi (As := [qi a]) (st := []) C lm_RX8_110 m_X4_tenthsOf mk_X4_tenthsOf ms_X4_tenthsOf (c_X4_tenthsOf _ L.sc I.1 g hb) L.sc.a (t := 4) rfl rfl rfl rfl (by decide) (Nat.le_of_ble_eq_true rfl) (by decide) dX8_ofBar_77 (fun z77 h_2 rz77 p77 => ?_)
      obtain ⟨rfl, pv⟩ := p77
      refine Aj.iret C dX8_ofBar_80 (by rw [hmc]; exact ⟨rfl, Nat.le_of_ble_eq_true rfl⟩) ⟨_, rfl, rfl, ?_⟩
      refine ⟨rfl, ?_⟩
      unfold A_ofBar
      rw [ci_y hb]
      repeat (first | rw [if_neg (by omega)] | rw [if_pos (by omega)])
      all_goals first | exact pv | rw [ci_y (pec2.mp (by omega))] | rw [ci_n (fun q => by have := pec2.mpr q; omega)]
    · refine Aj.tableIn C (67) dX8_ofBar_14 (by omega) (by rw [c14]; rfl) (tgt := 81) (by decide) ?_
      refine Aj.aload_n C 0 dX8_ofBar_81 rfl ?_
      refine Aj.getR C lf_RX8_19 rfl L.a L.r1 dX8_ofBar_82 ?_
      refine Aj.getR C lf_RX8_113 rfl L.ni.a L.ni.r2 dX8_ofBar_85 ?_
      refine Aj.iload_n C 1 dX8_ofBar_88 rfl ?_
      refine Aj.ialde (w := cntN (nightT st.1).2.2.1 a (nightT st.1).1.toNat) C L.ni.a3 (by omega) dX8_ofBar_89 (I.2.1.1.2.2.2 _ (by omega) (by omega)).1 ?_
      refine Aj.iret C dX8_ofBar_90 (by rw [hmc]; exact ⟨rfl, Nat.le_of_ble_eq_true rfl⟩) ⟨_, rfl, rfl, ?_⟩
      refine ⟨rfl, ?_⟩
      unfold A_ofBar
      rw [ci_y hb]
      repeat (first | rw [if_neg (by omega)] | rw [if_pos (by omega)])
      all_goals first | exact pv | rw [ci_y (pec2.mp (by omega))] | rw [ci_n (fun q => by have := pec2.mpr q; omega)]
    · refine Aj.tableIn C (77) dX8_ofBar_14 (by omega) (by rw [c14]; rfl) (tgt := 91) (by decide) ?_
      refine Aj.aload_n C 0 dX8_ofBar_91 rfl ?_
      refine Aj.getR C lf_RX8_19 rfl L.a L.r1 dX8_ofBar_92 ?_
      refine Aj.getR C lf_RX8_116 rfl L.ni.a L.ni.r3 dX8_ofBar_95 ?_
      refine Aj.iload_n C 1 dX8_ofBar_98 rfl ?_
      refine Aj.ialde (w := fstN (nightT st.1).2.2.1 a (nightT st.1).1.toNat) C L.ni.a4 (by omega) dX8_ofBar_99 (I.2.1.1.2.2.2 _ (by omega) (by omega)).2.1 ?_
      refine Aj.iret C dX8_ofBar_100 (by rw [hmc]; exact ⟨rfl, Nat.le_of_ble_eq_true rfl⟩) ⟨_, rfl, rfl, ?_⟩
      refine ⟨rfl, ?_⟩
      unfold A_ofBar
      rw [ci_y hb]
      repeat (first | rw [if_neg (by omega)] | rw [if_pos (by omega)])
      all_goals first | exact pv | rw [ci_y (pec2.mp (by omega))] | rw [ci_n (fun q => by have := pec2.mpr q; omega)]
    · refine Aj.tableIn C (87) dX8_ofBar_14 (by omega) (by rw [c14]; rfl) (tgt := 101) (by decide) ?_
      refine Aj.aload_n C 0 dX8_ofBar_101 rfl ?_
      refine Aj.getR C lf_RX8_12 rfl L.a L.r0 dX8_ofBar_102 ?_
      refine Aj.getR C lf_RX8_119 rfl L.sc.a L.sc.r5 dX8_ofBar_105 ?_
      refine Aj.iload_n C 1 dX8_ofBar_108 rfl ?_
      refine Aj.callVi (As := [qi a]) (st := []) C lm_RX8_123 m_X6_covers mk_X6_covers ms_X6_covers (c_X6_covers _ L.sc.cu (by decide) I.1.2.2.2.2.1 (by omega)) L.sc.cu.a (t := 6) rfl rfl rfl rfl (by decide) (Nat.le_of_ble_eq_true rfl) (by decide) dX8_ofBar_109 (fun z109 h_3 rz109 p109 => ?_)
      obtain ⟨rfl, pzc, pec⟩ := p109
      have pec2 : (z109 = 1 ↔ cutP st.1 a) := pec
      clear pec
      refine Aj.if_eq (tgt := 119) C dX8_ofBar_112 (by decide) (fun c112 => ?_) (fun c112 => ?_)
      · refine Aj.iconst C dX8_ofBar_119 (by decide) ?_
        refine Aj.iret C dX8_ofBar_120 (by rw [hmc]; exact ⟨rfl, Nat.le_of_ble_eq_true rfl⟩) ⟨_, rfl, rfl, ?_⟩
        refine ⟨rfl, ?_⟩
        unfold A_ofBar
        rw [ci_y hb]
        repeat (first | rw [if_neg (by omega)] | rw [if_pos (by omega)])
        all_goals first | exact pv | rw [ci_y (pec2.mp (by omega))] | rw [ci_n (fun q => by have := pec2.mpr q; omega)]
      · refine Aj.iconst C dX8_ofBar_115 (by decide) ?_
        refine Aj.goto (tgt := 120) C dX8_ofBar_116 (by decide) ?_
        refine Aj.iret C dX8_ofBar_120 (by rw [hmc]; exact ⟨rfl, Nat.le_of_ble_eq_true rfl⟩) ⟨_, rfl, rfl, ?_⟩
        refine ⟨rfl, ?_⟩
        unfold A_ofBar
        rw [ci_y hb]
        repeat (first | rw [if_neg (by omega)] | rw [if_pos (by omega)])
        all_goals first | exact pv | rw [ci_y (pec2.mp (by omega))] | rw [ci_n (fun q => by have := pec2.mpr q; omega)]
    · refine Aj.tableOut (tgt := 121) C dX8_ofBar_14 c14 (by decide) ?_
      refine Aj.bipush C dX8_ofBar_121 (by decide) (by decide) ?_
      refine Aj.iret C dX8_ofBar_123 (by rw [hmc]; exact ⟨rfl, Nat.le_of_ble_eq_true rfl⟩) ⟨_, rfl, rfl, ?_⟩
      refine ⟨rfl, ?_⟩
      unfold A_ofBar
      rw [ci_y hb]
      repeat (first | rw [if_neg (by omega)] | rw [if_pos (by omega)])
      all_goals first | exact pv | rw [ci_y (pec2.mp (by omega))] | rw [ci_n (fun q => by have := pec2.mpr q; omega)]
  · refine Aj.iconst C dX8_ofBar_11 (by decide) ?_
    refine Aj.iret C dX8_ofBar_12 (by rw [hmc]; exact ⟨rfl, Nat.le_of_ble_eq_true rfl⟩) ⟨_, rfl, rfl, ?_⟩
    exact ⟨rfl, by unfold A_ofBar; rw [ci_n (fun q => by have := peb.mpr q; omega)]⟩
