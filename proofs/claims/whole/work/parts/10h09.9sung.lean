set_option maxHeartbeats 400000 in
set_option maxRecDepth 100000 in
theorem c_X9_sung (l : Launch) {G : qG} {n : Int} {r h : qH} {a b : Int} {M : Int} {st : qS} (L : LModel G n r M) (c : IM h M st) (gs : GS st) : q_Cm l G yX9_sung cX9_sung 3 (some .int) 5 111 [qa M, qi a, qi b] n r h (q_Pi r (fun z h' => z = A_sung st.1 a b ∧ FS M h h')) 0 0 := by
  refine q_enter (al := [(0, qa M), (1, qi a), (2, qi b)]) m_X9_sung rfl (Nat.le_of_ble_eq_true rfl) ?_
  intro hok X C hmc hxl hin
  have g := gs.1
  have gn := g.n
  have gh := gs.2.2.1
  refine Aj.aload_n C 0 dX9_sung_0 rfl ?_
  refine Aj.iconst C dX9_sung_1 (by decide) ?_
  refine Aj.putI C lf_RX9_56 L.a dX9_sung_2 (fun h_1 eh_1 => ?_)
  have f1 : FS M h h_1 := fun x y w => by rw [eh_1, hset_ne _ _ (by omega)]
  have c1 : IM h_1 M st := c.fs f1
  refine Aj.aload_n C 0 dX9_sung_5 rfl ?_
  refine Aj.callVv (As := []) (st := []) C lm_RX9_108 m_X9_laysNight mk_X9_laysNight ms_X9_laysNight (c_X9_laysNight _ L c1.1 g) L.a (t := 9) rfl rfl rfl rfl (by decide) (Nat.le_of_ble_eq_true rfl) (by decide) dX9_sung_6 (fun hn p6 => ?_)
  obtain ⟨d, fN⟩ := p6
  have f2 : FS M h hn := f1.tr fN.s
  have c2 := c.fs f2
  have tt := night_TG g
  have tl := night_le g
  have t0 := tt.1
  refine Aj.iload_n C 1 dX9_sung_9 rfl ?_
  refine Aj.iconst C dX9_sung_10 (by decide) ?_
  refine Aj.aload_n C 0 dX9_sung_11 rfl ?_
  refine Aj.getIe (z := (nightT st.1).1) C lf_RX9_71 rfl L.a dX9_sung_12 d.1 ?_
  refine Aj.iconst C dX9_sung_15 (by decide) ?_
  refine Aj.isub C dX9_sung_16 (by omega) ?_
  refine Aj.callSi (As := [qi a, qi 0, qi ((nightT st.1).1 - 1)]) (st := []) C lm_RX9_60 m_X9_in mk_X9_in (c_X9_in _) rfl rfl (by decide) (Nat.le_of_ble_eq_true rfl) (by decide) dX9_sung_17 (fun z17 h_2 rz17 p17 => ?_)
  obtain ⟨rfl, pzi, pei⟩ := p17
  refine Aj.if_ne (tgt := 25) C dX9_sung_20 (by decide) (fun c20 => ?_) (fun c20 => ?_)
  · refine Aj.iload_n C 2 dX9_sung_25 rfl ?_
    rcases (show b = 0 ∨ b = 1 ∨ b = 2 ∨ (b < 0 ∨ 2 < b) by omega) with c26 | c26 | c26 | c26
    · refine Aj.tableIn C (26) dX9_sung_26 (by omega) (by rw [c26]; rfl) (tgt := 52) (by decide) ?_
      refine Aj.aload_n C 0 dX9_sung_52 rfl ?_
      refine Aj.getR C lf_RX9_26 rfl L.a L.r8 dX9_sung_53 ?_
      refine Aj.iload_n C 1 dX9_sung_56 rfl ?_
      refine Aj.ialde (w := (nightT st.1).2.2.1 a) C L.a6 (by omega) dX9_sung_57 (d.2.2 _ (by omega) (by omega)).1 ?_
      refine Aj.iret C dX9_sung_58 (by rw [hmc]; exact ⟨rfl, Nat.le_of_ble_eq_true rfl⟩) ⟨_, rfl, rfl, ?_⟩
      refine ⟨?_, f2⟩
      unfold A_sung
      repeat (first | rw [if_neg (by omega)] | rw [if_pos (by omega)])
      all_goals first | rw [ci_y (pec.mp (by omega))] | rw [ci_n (fun q => by have := pec.mpr q; omega)]
    · refine Aj.tableIn C (33) dX9_sung_26 (by omega) (by rw [c26]; rfl) (tgt := 59) (by decide) ?_
      refine Aj.aload_n C 0 dX9_sung_59 rfl ?_
      refine Aj.getR C lf_RX9_29 rfl L.a L.r9 dX9_sung_60 ?_
      refine Aj.iload_n C 1 dX9_sung_63 rfl ?_
      refine Aj.ialde (w := (nightT st.1).2.2.2 a) C L.a7 (by omega) dX9_sung_64 (d.2.2 _ (by omega) (by omega)).2 ?_
      refine Aj.iret C dX9_sung_65 (by rw [hmc]; exact ⟨rfl, Nat.le_of_ble_eq_true rfl⟩) ⟨_, rfl, rfl, ?_⟩
      refine ⟨?_, f2⟩
      unfold A_sung
      repeat (first | rw [if_neg (by omega)] | rw [if_pos (by omega)])
      all_goals first | rw [ci_y (pec.mp (by omega))] | rw [ci_n (fun q => by have := pec.mpr q; omega)]
    · refine Aj.tableIn C (40) dX9_sung_26 (by omega) (by rw [c26]; rfl) (tgt := 66) (by decide) ?_
      refine Aj.aload_n C 0 dX9_sung_66 rfl ?_
      refine Aj.iload_n C 1 dX9_sung_67 rfl ?_
      refine Aj.callVi (As := [qi a]) (st := []) C lm_RX9_163 m_X9_isBlack mk_X9_isBlack ms_X9_isBlack (c_X9_isBlack _ L c2.1 g) L.a (t := 9) rfl rfl rfl rfl (by decide) (Nat.le_of_ble_eq_true rfl) (by decide) dX9_sung_68 (fun z68 h_3 rz68 p68 => ?_)
      obtain ⟨rfl, pzc, pec⟩ := p68
      refine Aj.if_eq (tgt := 78) C dX9_sung_71 (by decide) (fun c71 => ?_) (fun c71 => ?_)
      · refine Aj.iconst C dX9_sung_78 (by decide) ?_
        refine Aj.iret C dX9_sung_79 (by rw [hmc]; exact ⟨rfl, Nat.le_of_ble_eq_true rfl⟩) ⟨_, rfl, rfl, ?_⟩
        refine ⟨?_, f2⟩
        unfold A_sung
        repeat (first | rw [if_neg (by omega)] | rw [if_pos (by omega)])
        all_goals first | rw [ci_y (pec.mp (by omega))] | rw [ci_n (fun q => by have := pec.mpr q; omega)]
      · refine Aj.iconst C dX9_sung_74 (by decide) ?_
        refine Aj.goto (tgt := 79) C dX9_sung_75 (by decide) ?_
        refine Aj.iret C dX9_sung_79 (by rw [hmc]; exact ⟨rfl, Nat.le_of_ble_eq_true rfl⟩) ⟨_, rfl, rfl, ?_⟩
        refine ⟨?_, f2⟩
        unfold A_sung
        repeat (first | rw [if_neg (by omega)] | rw [if_pos (by omega)])
        all_goals first | rw [ci_y (pec.mp (by omega))] | rw [ci_n (fun q => by have := pec.mpr q; omega)]
    · refine Aj.tableOut (tgt := 80) C dX9_sung_26 c26 (by decide) ?_
      refine Aj.bipush C dX9_sung_80 (by decide) (by decide) ?_
      refine Aj.iret C dX9_sung_82 (by rw [hmc]; exact ⟨rfl, Nat.le_of_ble_eq_true rfl⟩) ⟨_, rfl, rfl, ?_⟩
      refine ⟨?_, f2⟩
      unfold A_sung
      repeat (first | rw [if_neg (by omega)] | rw [if_pos (by omega)])
      all_goals first | rw [ci_y (pec.mp (by omega))] | rw [ci_n (fun q => by have := pec.mpr q; omega)]
  · refine Aj.iconst C dX9_sung_23 (by decide) ?_
    refine Aj.iret C dX9_sung_24 (by rw [hmc]; exact ⟨rfl, Nat.le_of_ble_eq_true rfl⟩) ⟨_, rfl, rfl, ?_⟩
    refine ⟨?_, f2⟩
    unfold A_sung
    repeat (first | rw [if_neg (by omega)] | rw [if_pos (by omega)])
    all_goals first | rw [ci_y (pec.mp (by omega))] | rw [ci_n (fun q => by have := pec.mpr q; omega)]
