set_option maxHeartbeats 400000 in
set_option maxRecDepth 100000 in
theorem c_X8_carryOut (l : Launch) {G : qG} {n : Int} {r h : qH} {b : Int} {st : qS} (L : LCall G n r b) (I : I8 h b st) (gs : GS st) : q_Cm l G yX8_carryOut cX8_carryOut 2 (some .int) 6 132 [qa b] n r h (q_Pi r (fun z h' => ∃ st2, O_carry st z st2 ∧ I8 h' b st2 ∧ FR b 224 h h')) 0 0 := by
  refine q_enter (al := [(0, qa b)]) m_X8_carryOut rfl (Nat.le_of_ble_eq_true rfl) ?_
  intro hok X C hmc hxl hin
  have g := gs.1
  have gn := g.n
  have gh := gs.2.2.1
  refine Aj.aload_n C 0 dX8_carryOut_0 rfl ?_
  refine Aj.getR C lf_RX8_39 rfl L.a L.r5 dX8_carryOut_1 ?_
  refine Aj.aload_n C 0 dX8_carryOut_4 rfl ?_
  refine Aj.getR C lf_RX8_32 rfl L.a L.r4 dX8_carryOut_5 ?_
  refine Aj.callVi (As := [qa (b + 63)]) (st := []) C lm_RX8_252 m_X3_faultOf mk_X3_faultOf ms_X3_faultOf (c_X3_faultOf _ L.rd L.pa I.2.2.1 ⟨gs.2.1.1, gs.2.1.2.1⟩ (by omega)) L.rd.a (t := 3) rfl rfl rfl rfl (by decide) (Nat.le_of_ble_eq_true rfl) (by decide) dX8_carryOut_8 (fun z8 h1 rz8 p8 => ?_)
  obtain ⟨q1, q2⟩ := p8
  have no1 := O_fault_no gs.2.1.1 q1
  obtain ⟨I1, F1⟩ := I.rdr q2
  obtain ⟨o, o1, o2, o3, o4⟩ := I1.2.2.2.1
  refine Aj.bipush C dX8_carryOut_11 (by decide) (by decide) ?_
  refine Aj.icmp_eq (tgt := 19) C dX8_carryOut_13 (by decide) (fun c13 => ?_) (fun c13 => ?_)
  · have nf : noF st.2.1.1 st.2.1.2 := no1.1.mp (by omega)
    refine Aj.aload_n C 0 dX8_carryOut_19 rfl ?_
    refine Aj.getR C lf_RX8_46 rfl L.a L.r6 dX8_carryOut_20 ?_
    refine Aj.aload_n C 0 dX8_carryOut_23 rfl ?_
    refine Aj.getR C lf_RX8_12 rfl L.a L.r0 dX8_carryOut_24 ?_
    refine Aj.callVv (As := [qa (b + 1)]) (st := []) C lm_RX8_62 m_X0_prepare mk_X0_prepare ms_X0_prepare (c_X0_prepare _ L.hi o1 o2 ⟨o3.1, o3.2, gh.1, gh.2⟩ L.sc I1.1 g (by omega)) L.hi.a (t := 0) rfl rfl rfl rfl (by decide) (Nat.le_of_ble_eq_true rfl) (by decide) dX8_carryOut_27 (fun h2 p27 => ?_)
    have P := I1.prep o1 o2 o3 o4 gh p27.1 p27.2
    refine Aj.aload_n C 0 dX8_carryOut_30 rfl ?_
    refine Aj.callVi (As := []) (st := []) C lm_RX8_256 m_X8_carryOutOrders mk_X8_carryOutOrders ms_X8_carryOutOrders (c_X8_carryOutOrders _ L P.1.2.1 gs.2.1 nf P.1.1 g) L.a (t := 8) rfl rfl rfl rfl (by decide) (Nat.le_of_ble_eq_true rfl) (by decide) dX8_carryOut_31 (fun z31 h3 rz31 p31 => ?_)
    obtain ⟨s2, rE, cs, g2, fc⟩ := p31
    refine Aj.istore_n (al2 := [(1, qi z31), (0, qa b)]) C dX8_carryOut_34 (by decide) rfl ?_
    refine Aj.aload_n C 1 dX8_carryOut_35 rfl ?_
    refine Aj.getR C lf_RX8_32 rfl L.a L.r4 dX8_carryOut_36 ?_
    refine Aj.iconst C dX8_carryOut_39 (by decide) ?_
    refine Aj.putI C lf_RX8_232 L.pa.a dX8_carryOut_40 (fun h_1 eh_1 => ?_)
    refine Aj.aload_n C 1 dX8_carryOut_43 rfl ?_
    refine Aj.iload_n C 0 dX8_carryOut_44 rfl ?_
    refine Aj.callVi (As := [qi z31]) (st := []) C lm_RX8_69 m_X8_settle mk_X8_settle ms_X8_settle (c_X8_settle _ L (P.1.co gh fc cs eh_1).1 g2 gh) L.a (t := 8) rfl rfl rfl rfl (by decide) (Nat.le_of_ble_eq_true rfl) (by decide) dX8_carryOut_45 (fun z45 h5 rz45 p45 => ?_)
    obtain ⟨ez, S⟩ := p45
    have FF := (P.1.co gh fc cs eh_1).2
    refine Aj.iret C dX8_carryOut_48 (by rw [hmc]; exact ⟨rfl, Nat.le_of_ble_eq_true rfl⟩) ⟨_, rfl, rfl, ?_⟩
    rw [ez]
    exact ⟨_, Or.inr ⟨nf, s2, rE, rfl⟩, S.2.1 rE.1.1, F1.tr (P.2.2.tr (FF.tr S.2.2))⟩
  · refine Aj.bipush C dX8_carryOut_16 (by decide) (by decide) ?_
    refine Aj.iret C dX8_carryOut_18 (by rw [hmc]; exact ⟨rfl, Nat.le_of_ble_eq_true rfl⟩) ⟨_, rfl, rfl, ?_⟩
    exact ⟨st, Or.inl ⟨fun q => by have := no1.1.mpr q; omega, rfl, rfl⟩, I1, F1⟩
