set_option maxHeartbeats 400000 in
set_option maxRecDepth 100000 in
theorem c_X8_fault (l : Launch) {G : qG} {n : Int} {r h : qH} {b : Int} {st : qS} (L : LCall G n r b) (I : I8 h b st) (gs : GS st) : q_Cm l G yX8_fault cX8_fault 1 (some .int) 4 85 [qa b] n r h (q_Pi r (fun z h' => O_fault st.2.1.1 st.2.1.2 z ∧ I8 h' b st ∧ FR b 224 h h')) 0 0 := by
  refine q_enter (al := [(0, qa b)]) m_X8_fault rfl (Nat.le_of_ble_eq_true rfl) ?_
  intro hok X C hmc hxl hin
  refine Aj.aload_n C 0 dX8_fault_0 rfl ?_
  refine Aj.getR C lf_RX8_39 rfl L.a L.r5 dX8_fault_1 ?_
  refine Aj.aload_n C 0 dX8_fault_4 rfl ?_
  refine Aj.getR C lf_RX8_32 rfl L.a L.r4 dX8_fault_5 ?_
  refine Aj.callVi (As := [qa (b + 63)]) (st := []) C lm_RX8_252 m_X3_faultOf mk_X3_faultOf ms_X3_faultOf (c_X3_faultOf _ L.rd L.pa I.2.2.1 ⟨gs.2.1.1, gs.2.1.2.1⟩ (by omega)) L.rd.a (t := 3) rfl rfl rfl rfl (by decide) (Nat.le_of_ble_eq_true rfl) (by decide) dX8_fault_8 (fun z8 h_1 rz8 p8 => ?_)
  obtain ⟨q1, q2⟩ := p8
  refine Aj.iret C dX8_fault_11 (by rw [hmc]; exact ⟨rfl, Nat.le_of_ble_eq_true rfl⟩) ⟨_, rfl, rfl, ?_⟩
  exact ⟨q1, (I.rdr q2).1, (I.rdr q2).2⟩
