set_option maxHeartbeats 400000 in
set_option maxRecDepth 100000 in
theorem c_X8_at (l : Launch) {G : qG} {n : Int} {r h : qH} {a : Int} {b : Int} {st : qS} (L : LCall G n r b) (I : I8 h b st) (gs : GS st) : q_Cm l G yX8_at cX8_at 2 (some .int) 1 22 [qa b, qi a] n r h (q_Pi r (fun z h' => h = h' ∧ O_at st.1 a z)) 0 0 := by
  refine q_enter (al := [(0, qa b), (1, qi a)]) m_X8_at rfl (Nat.le_of_ble_eq_true rfl) ?_
  intro hok X C hmc hxl hin
  have g := gs.1
  have gn := g.n
  have gh := gs.2.2.1
  have tt := night_TG g
  have tl := night_le g
  have t0 := tt.1
  have sl := show_le g
  have ug := show_UG g
  have wg := show_WG g
  refine Aj.iload_n C 1 dX8_at_0 rfl ?_
  refine Aj.if_ge (tgt := 7) C dX8_at_1 (by decide) (fun c1 => ?_) (fun c1 => ?_)
  · refine Aj.aload_n C 0 dX8_at_7 rfl ?_
    refine Aj.getR C lf_RX8_19 rfl L.a L.r1 dX8_at_8 ?_
    refine Aj.getR C lf_RX8_161 rfl L.ni.a L.ni.r5 dX8_at_11 ?_
    refine Aj.iload_n C 1 dX8_at_14 rfl ?_
    refine Aj.callVi (As := [qi a]) (st := []) C lm_RX8_202 m_X5_titleAt mk_X5_titleAt ms_X5_titleAt (c_X5_titleAt _ L.ni.sh I.2.1.2.1 sl I.2.1.2.2) L.ni.sh.a (t := 5) rfl rfl rfl rfl (by decide) (Nat.le_of_ble_eq_true rfl) (by decide) dX8_at_15 (fun z15 h_1 rz15 p15 => ?_)
    obtain ⟨rfl, pv⟩ := p15
    refine Aj.iret C dX8_at_18 (by rw [hmc]; exact ⟨rfl, Nat.le_of_ble_eq_true rfl⟩) ⟨_, rfl, rfl, ?_⟩
    exact ⟨rfl, Or.inr ⟨by omega, pv⟩⟩
  · refine Aj.bipush C dX8_at_4 (by decide) (by decide) ?_
    refine Aj.iret C dX8_at_6 (by rw [hmc]; exact ⟨rfl, Nat.le_of_ble_eq_true rfl⟩) ⟨_, rfl, rfl, ?_⟩
    exact ⟨rfl, Or.inl ⟨by omega, rfl⟩⟩
