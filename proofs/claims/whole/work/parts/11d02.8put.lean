set_option maxHeartbeats 400000 in
set_option maxRecDepth 100000 in
theorem c_X8_put (l : Launch) {G : qG} {n : Int} {r h : qH} {a : Int} {b : Int} {st : qS} (L : LCall G n r b) (I : I8 h b st) (gs : GS st) : q_Cm l G yX8_put cX8_put 3 (some .int) 3 70 [qa b, ql a] n r h (q_Pi r (fun z h' => ∃ m2 P2, O_put a st.2.1.1 st.2.1.2 z m2 P2 ∧ I8 h' b (st.1, (m2, P2), st.2.2) ∧ FR b 224 h h')) 0 0 := by
  refine q_enter (al := [(0, qa b), (1, ql a)]) m_X8_put rfl (Nat.le_of_ble_eq_true rfl) ?_
  intro hok X C hmc hxl hin
  refine Aj.aload_n C 0 dX8_put_0 rfl ?_
  refine Aj.getR C lf_RX8_32 rfl L.a L.r4 dX8_put_1 ?_
  refine Aj.lload_n C 1 dX8_put_4 rfl ?_
  refine Aj.callVi (As := [ql a]) (st := []) C lm_RX8_248 m_X2_append mk_X2_append ms_X2_append (c_X2_append _ L.pa I.2.2.1 gs.2.1) L.pa.a (t := 2) rfl rfl rfl rfl (by decide) (Nat.le_of_ble_eq_true rfl) (by decide) dX8_put_5 (fun z5 h_1 rz5 p5 => ?_)
  obtain ⟨m2, P2, q1, q2, q3⟩ := p5
  refine Aj.iret C dX8_put_8 (by rw [hmc]; exact ⟨rfl, Nat.le_of_ble_eq_true rfl⟩) ⟨_, rfl, rfl, ?_⟩
  exact ⟨m2, P2, q1, (I.pad q2 q3).1, (I.pad q2 q3).2⟩
