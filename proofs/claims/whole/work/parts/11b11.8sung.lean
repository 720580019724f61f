set_option maxHeartbeats 400000 in
set_option maxRecDepth 100000 in
theorem c_X8_sung (l : Launch) {G : qG} {n : Int} {r h : qH} {a c : Int} {b : Int} {st : qS} (L : LCall G n r b) (I : I8 h b st) (gs : GS st) : q_Cm l G yX8_sung cX8_sung 3 (some .int) 2 44 [qa b, qi a, qi c] n r h (q_Pi r (fun z h' => h = h' ∧ z = A_sung st.1 a c)) 0 0 := by
  refine q_enter (al := [(0, qa b), (1, qi a), (2, qi c)]) m_X8_sung rfl (Nat.le_of_ble_eq_true rfl) ?_
  intro hok X C hmc hxl hin
  have g := gs.1
  have gn := g.n
  have gh := gs.2.2.1
  have tt := night_TG g
  have tl := night_le g
  have t0 := tt.1
  have sl := show_le g
  have ug := show_UG g
  have wg := show_WG g
  refine Aj.aload_n C 0 dX8_sung_0 rfl ?_
  refine Aj.getR C lf_RX8_19 rfl L.a L.r1 dX8_sung_1 ?_
  refine Aj.iload_n C 1 dX8_sung_4 rfl ?_
  refine Aj.callVi (As := [qi a]) (st := []) C lm_RX8_128 m_X1_hasPlace mk_X1_hasPlace ms_X1_hasPlace (c_X1_hasPlace _ L.ni I.2.1.1 tt tl) L.ni.a (t := 1) rfl rfl rfl rfl (by decide) (Nat.le_of_ble_eq_true rfl) (by decide) dX8_sung_5 (fun z5 h_1 rz5 p5 => ?_)
  obtain ⟨rfl, pzb, peb⟩ := p5
  refine Aj.if_ne (tgt := 13) C dX8_sung_8 (by decide) (fun c8 => ?_) (fun c8 => ?_)
  · refine Aj.iload_n C 2 dX8_sung_13 rfl ?_
    rcases (show c = 0 ∨ c = 1 ∨ c = 2 ∨ (c < 0 ∨ 2 < c) by omega) with c14 | c14 | c14 | c14
    · refine Aj.tableIn C (26) dX8_sung_14 (by omega) (by rw [c14]; rfl) (tgt := 40) (by decide) ?_
      refine Aj.aload_n C 0 dX8_sung_40 rfl ?_
      refine Aj.getR C lf_RX8_19 rfl L.a L.r1 dX8_sung_41 ?_
      refine Aj.getR C lf_RX8_131 rfl L.ni.a L.ni.r0 dX8_sung_44 ?_
      refine Aj.iload_n C 1 dX8_sung_47 rfl ?_
      refine Aj.ialde (w := (nightT st.1).2.2.1 a) C L.ni.a1 (by omega) dX8_sung_48 (I.2.1.1.2.2.1 _ (by omega) (by omega)).1 ?_
      refine Aj.iret C dX8_sung_49 (by rw [hmc]; exact ⟨rfl, Nat.le_of_ble_eq_true rfl⟩) ⟨_, rfl, rfl, ?_⟩
      refine ⟨rfl, ?_⟩
      unfold A_sung
      repeat (first | rw [if_neg (by omega)] | rw [if_pos (by omega)])
      all_goals first | rw [ci_y (pec2.mp (by omega))] | rw [ci_n (fun q => by have := pec2.mpr q; omega)]
    · refine Aj.tableIn C (36) dX8_sung_14 (by omega) (by rw [c14]; rfl) (tgt := 50) (by decide) ?_
      refine Aj.aload_n C 0 dX8_sung_50 rfl ?_
      refine Aj.getR C lf_RX8_19 rfl L.a L.r1 dX8_sung_51 ?_
      refine Aj.getR C lf_RX8_134 rfl L.ni.a L.ni.r1 dX8_sung_54 ?_
      refine Aj.iload_n C 1 dX8_sung_57 rfl ?_
      refine Aj.ialde (w := (nightT st.1).2.2.2 a) C L.ni.a2 (by omega) dX8_sung_58 (I.2.1.1.2.2.1 _ (by omega) (by omega)).2 ?_
      refine Aj.iret C dX8_sung_59 (by rw [hmc]; exact ⟨rfl, Nat.le_of_ble_eq_true rfl⟩) ⟨_, rfl, rfl, ?_⟩
      refine ⟨rfl, ?_⟩
      unfold A_sung
      repeat (first | rw [if_neg (by omega)] | rw [if_pos (by omega)])
      all_goals first | rw [ci_y (pec2.mp (by omega))] | rw [ci_n (fun q => by have := pec2.mpr q; omega)]
    · refine Aj.tableIn C (46) dX8_sung_14 (by omega) (by rw [c14]; rfl) (tgt := 60) (by decide) ?_
      refine Aj.aload_n C 0 dX8_sung_60 rfl ?_
      refine Aj.getR C lf_RX8_12 rfl L.a L.r0 dX8_sung_61 ?_
      refine Aj.getR C lf_RX8_137 rfl L.sc.a L.sc.r6 dX8_sung_64 ?_
      refine Aj.iload_n C 1 dX8_sung_67 rfl ?_
      refine Aj.callVi (As := [qi a]) (st := []) C lm_RX8_123 m_X6_covers mk_X6_covers ms_X6_covers (c_X6_covers _ L.sc.bl (by decide) I.1.2.2.2.2.2.1 (by omega)) L.sc.bl.a (t := 6) rfl rfl rfl rfl (by decide) (Nat.le_of_ble_eq_true rfl) (by decide) dX8_sung_68 (fun z68 h_2 rz68 p68 => ?_)
      obtain ⟨rfl, pzc, pec⟩ := p68
      have pec2 : (z68 = 1 ↔ blackP st.1 a) := pec
      clear pec
      refine Aj.if_eq (tgt := 78) C dX8_sung_71 (by decide) (fun c71 => ?_) (fun c71 => ?_)
      · refine Aj.iconst C dX8_sung_78 (by decide) ?_
        refine Aj.iret C dX8_sung_79 (by rw [hmc]; exact ⟨rfl, Nat.le_of_ble_eq_true rfl⟩) ⟨_, rfl, rfl, ?_⟩
        refine ⟨rfl, ?_⟩
        unfold A_sung
        repeat (first | rw [if_neg (by omega)] | rw [if_pos (by omega)])
        all_goals first | rw [ci_y (pec2.mp (by omega))] | rw [ci_n (fun q => by have := pec2.mpr q; omega)]
      · refine Aj.iconst C dX8_sung_74 (by decide) ?_
        refine Aj.goto (tgt := 79) C dX8_sung_75 (by decide) ?_
        refine Aj.iret C dX8_sung_79 (by rw [hmc]; exact ⟨rfl, Nat.le_of_ble_eq_true rfl⟩) ⟨_, rfl, rfl, ?_⟩
        refine ⟨rfl, ?_⟩
        unfold A_sung
        repeat (first | rw [if_neg (by omega)] | rw [if_pos (by omega)])
        all_goals first | rw [ci_y (pec2.mp (by omega))] | rw [ci_n (fun q => by have := pec2.mpr q; omega)]
    · refine Aj.tableOut (tgt := 80) C dX8_sung_14 c14 (by decide) ?_
      refine Aj.bipush C dX8_sung_80 (by decide) (by decide) ?_
      refine Aj.iret C dX8_sung_82 (by rw [hmc]; exact ⟨rfl, Nat.le_of_ble_eq_true rfl⟩) ⟨_, rfl, rfl, ?_⟩
      refine ⟨rfl, ?_⟩
      unfold A_sung
      repeat (first | rw [if_neg (by omega)] | rw [if_pos (by omega)])
      all_goals first | rw [ci_y (pec2.mp (by omega))] | rw [ci_n (fun q => by have := pec2.mpr q; omega)]
  · refine Aj.iconst C dX8_sung_11 (by decide) ?_
    refine Aj.iret C dX8_sung_12 (by rw [hmc]; exact ⟨rfl, Nat.le_of_ble_eq_true rfl⟩) ⟨_, rfl, rfl, ?_⟩
    refine ⟨rfl, ?_⟩
    unfold A_sung
    repeat (first | rw [if_neg (by omega)] | rw [if_pos (by omega)])
    all_goals first | rw [ci_y (pec2.mp (by omega))] | rw [ci_n (fun q => by have := pec2.mpr q; omega)]
