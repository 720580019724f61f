set_option maxHeartbeats 400000 in
set_option maxRecDepth 100000 in
theorem c_X9_wipe (l : Launch) {G : qG} {n : Int} {r h : qH}  {M : Int} {st : qS} (L : LModel G n r M) (c : IM h M st) (gs : GS st) : q_Cm l G yX9_wipe cX9_wipe 2 (some .int) 0 0 [qa M] n r h (q_Pi r (fun z h' => z = st.2.1.1 ∧ IM h' M (st.1, (0, st.2.1.2), st.2.2) ∧ FR M 16 h h')) 0 0 := by
  refine q_enter (al := [(0, qa M)]) m_X9_wipe rfl (Nat.le_of_ble_eq_true rfl) ?_
  intro hok X C hmc hxl hin
  have g := gs.1
  have gn := g.n
  have gh := gs.2.2.1
  refine Aj.aload_n C 0 dX9_wipe_0 rfl ?_
  refine Aj.iconst C dX9_wipe_1 (by decide) ?_
  refine Aj.putI C lf_RX9_56 L.a dX9_wipe_2 (fun h_1 eh_1 => ?_)
  have f1 : FS M h h_1 := fun x y w => by rw [eh_1, hset_ne _ _ (by omega)]
  have c1 : IM h_1 M st := c.fs f1
  refine Aj.aload_n C 0 dX9_wipe_5 rfl ?_
  refine Aj.getIe (z := st.2.1.1) C lf_RX9_182 rfl L.a dX9_wipe_6 c1.2.1.1 ?_
  refine Aj.istore_n (al2 := [(1, qi st.2.1.1), (0, qa M)]) C dX9_wipe_9 (by decide) rfl ?_
  refine Aj.aload_n C 1 dX9_wipe_10 rfl ?_
  refine Aj.iconst C dX9_wipe_11 (by decide) ?_
  refine Aj.putI C lf_RX9_182 L.a dX9_wipe_12 (fun h_2 eh_2 => ?_)
  refine Aj.iload_n C 0 dX9_wipe_15 rfl ?_
  refine Aj.iret C dX9_wipe_16 (by rw [hmc]; exact ⟨rfl, Nat.le_of_ble_eq_true rfl⟩) ⟨_, rfl, rfl, ?_⟩
  exact ⟨rfl, IM.pad c1 (by rw [eh_2, hset_same]) (fun k k1 k2 => by omega) (fun x y q => by rw [eh_2, hset_ne _ _ (by omega)]), fun x y q => by rw [eh_2, hset_ne _ _ (by omega)]; exact f1.fr x y q⟩
