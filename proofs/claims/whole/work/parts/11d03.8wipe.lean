set_option maxHeartbeats 400000 in
set_option maxRecDepth 100000 in
theorem c_X8_wipe (l : Launch) {G : qG} {n : Int} {r h : qH} {b : Int} {st : qS} (L : LCall G n r b) (I : I8 h b st) (gs : GS st) : q_Cm l G yX8_wipe cX8_wipe 2 (some .int) 0 0 [qa b] n r h (q_Pi r (fun z h' => z = st.2.1.1 ∧ I8 h' b (st.1, (0, st.2.1.2), st.2.2) ∧ FR b 224 h h')) 0 0 := by
  refine q_enter (al := [(0, qa b)]) m_X8_wipe rfl (Nat.le_of_ble_eq_true rfl) ?_
  intro hok X C hmc hxl hin
  refine Aj.aload_n C 0 dX8_wipe_0 rfl ?_
  refine Aj.getR C lf_RX8_32 rfl L.a L.r4 dX8_wipe_1 ?_
  refine Aj.getIe (z := st.2.1.1) C lf_RX8_232 rfl L.pa.a dX8_wipe_4 I.2.2.1.1 ?_
  refine Aj.istore_n (al2 := [(1, qi st.2.1.1), (0, qa b)]) C dX8_wipe_7 (by decide) rfl ?_
  refine Aj.aload_n C 1 dX8_wipe_8 rfl ?_
  refine Aj.getR C lf_RX8_32 rfl L.a L.r4 dX8_wipe_9 ?_
  refine Aj.iconst C dX8_wipe_12 (by decide) ?_
  refine Aj.putI C lf_RX8_232 L.pa.a dX8_wipe_13 (fun h_1 eh_1 => ?_)
  refine Aj.iload_n C 0 dX8_wipe_16 rfl ?_
  refine Aj.iret C dX8_wipe_17 (by rw [hmc]; exact ⟨rfl, Nat.le_of_ble_eq_true rfl⟩) ⟨_, rfl, rfl, ?_⟩
  have q := I.pad (h2 := h_1) (m := 0) (P := st.2.1.2) ⟨by rw [eh_1, hset_same], fun k k1 k2 => by omega⟩ (fun x y w => by rw [eh_1, hset_nea _ _ _ (by omega)])
  exact ⟨rfl, q.1, q.2⟩
