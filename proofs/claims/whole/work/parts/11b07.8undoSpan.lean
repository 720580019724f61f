set_option maxHeartbeats 400000 in
set_option maxRecDepth 100000 in
theorem c_X8_undoSpan (l : Launch) {G : qG} {n : Int} {r h : qH} {a c : Int} {b : Int} {st : qS} (L : LCall G n r b) (I : I8 h b st) (gs : GS st) : q_Cm l G yX8_undoSpan cX8_undoSpan 3 (some .int) 6 132 [qa b, qi a, qi c] n r h (q_Pi r (fun z h' => ∃ s2, O_undoSpan st.1 a c z s2 ∧ I8 h' b (chg st z s2) ∧ FR b 224 h h')) 0 0 := by
  refine q_enter (al := [(0, qa b), (1, qi a), (2, qi c)]) m_X8_undoSpan rfl (Nat.le_of_ble_eq_true rfl) ?_
  intro hok X C hmc hxl hin
  have g := gs.1
  have gn := g.n
  have gh := gs.2.2.1
  obtain ⟨o, o1, o2, o3, o4⟩ := I.2.2.2.1
  refine Aj.aload_n C 0 dX8_undoSpan_0 rfl ?_
  refine Aj.getR C lf_RX8_46 rfl L.a L.r6 dX8_undoSpan_1 ?_
  refine Aj.aload_n C 0 dX8_undoSpan_4 rfl ?_
  refine Aj.getR C lf_RX8_12 rfl L.a L.r0 dX8_undoSpan_5 ?_
  refine Aj.callVv (As := [qa (b + 1)]) (st := []) C lm_RX8_62 m_X0_prepare mk_X0_prepare ms_X0_prepare (c_X0_prepare _ L.hi o1 o2 ⟨o3.1, o3.2, gh.1, gh.2⟩ L.sc I.1 g (by omega)) L.hi.a (t := 0) rfl rfl rfl rfl (by decide) (Nat.le_of_ble_eq_true rfl) (by decide) dX8_undoSpan_8 (fun h1 p8 => ?_)
  have P := I.prep o1 o2 o3 o4 gh p8.1 p8.2
  refine Aj.aload_n C 0 dX8_undoSpan_11 rfl ?_
  refine Aj.aload_n C 0 dX8_undoSpan_12 rfl ?_
  refine Aj.getR C lf_RX8_12 rfl L.a L.r0 dX8_undoSpan_13 ?_
  refine Aj.iload_n C 1 dX8_undoSpan_16 rfl ?_
  refine Aj.iload_n C 2 dX8_undoSpan_17 rfl ?_
  refine Aj.callVi (As := [qi a, qi c]) (st := [qa b]) C lm_RX8_89 m_X4_removeSpan mk_X4_removeSpan ms_X4_removeSpan (c_X4_removeSpan _ L.sc P.1.1 g) L.sc.a (t := 4) rfl rfl rfl rfl (by decide) (Nat.le_of_ble_eq_true rfl) (by decide) dX8_undoSpan_18 (fun z18 h2 rz18 p18 => ?_)
  obtain ⟨s2, oo, cs, fs⟩ := p18
  refine Aj.callVi (As := [qi z18]) (st := []) C lm_RX8_69 m_X8_settle mk_X8_settle ms_X8_settle (c_X8_settle _ L (P.1.chg gh fs cs) (O_undoSpan.good g oo) gh) L.a (t := 8) rfl rfl rfl rfl (by decide) (Nat.le_of_ble_eq_true rfl) (by decide) dX8_undoSpan_21 (fun z21 h3 rz21 p21 => ?_)
  obtain ⟨ez, S⟩ := p21
  refine Aj.iret C dX8_undoSpan_24 (by rw [hmc]; exact ⟨rfl, Nat.le_of_ble_eq_true rfl⟩) ⟨_, rfl, rfl, ?_⟩
  exact ⟨s2, by rw [ez]; exact oo, by rw [ez]; exact I8.fin gh P fs cs (fun q => O_undoSpan.neg g oo q) S⟩
