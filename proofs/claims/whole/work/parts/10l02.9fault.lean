set_option maxHeartbeats 400000 in
set_option maxRecDepth 100000 in
theorem c_X9_fault (l : Launch) {G : qG} {n : Int} {r h : qH}  {M : Int} {st : qS} (L : LModel G n r M) (c : IM h M st) (gs : GS st) : q_Cm l G yX9_fault cX9_fault 1 (some .int) 4 89 [qa M] n r h (q_Pi r (fun z h' => O_fault st.2.1.1 st.2.1.2 z ∧ IM h' M st ∧ FR M 16 h h')) 0 0 := by
  refine q_enter (al := [(0, qa M)]) m_X9_fault rfl (Nat.le_of_ble_eq_true rfl) ?_
  intro hok X C hmc hxl hin
  have g := gs.1
  have gn := g.n
  have gh := gs.2.2.1
  refine Aj.aload_n C 0 dX9_fault_0 rfl ?_
  refine Aj.iconst C dX9_fault_1 (by decide) ?_
  refine Aj.putI C lf_RX9_56 L.a dX9_fault_2 (fun h_1 eh_1 => ?_)
  have f1 : FS M h h_1 := fun x y w => by rw [eh_1, hset_ne _ _ (by omega)]
  have c1 : IM h_1 M st := c.fs f1
  refine Aj.aload_n C 0 dX9_fault_5 rfl ?_
  refine Aj.callVi (As := []) (st := []) C lm_RX9_215 m_X9_reads mk_X9_reads ms_X9_reads (c_X9_reads _ L c1.2.1 gs.2.1) L.a (t := 9) rfl rfl rfl rfl (by decide) (Nat.le_of_ble_eq_true rfl) (by decide) dX9_fault_6 (fun z6 h_2 rz6 p6 => ?_)
  obtain ⟨q1, q2, q3⟩ := p6
  refine Aj.iret C dX9_fault_9 (by rw [hmc]; exact ⟨rfl, Nat.le_of_ble_eq_true rfl⟩) ⟨_, rfl, rfl, ?_⟩
  exact ⟨q1, c1.fs q3, (f1.tr q3).fr⟩
