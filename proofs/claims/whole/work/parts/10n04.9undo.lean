set_option maxHeartbeats 400000 in
set_option maxRecDepth 100000 in
theorem c_X9_undo (l : Launch) {G : qG} {n : Int} {r h : qH}  {M : Int} {st : qS} (L : LModel G n r M) (c : IM h M st) (gs : GS st) : q_Cm l G yX9_undo cX9_undo 2 (some .int) 0 0 [qa M] n r h (q_Pi r (fun z h' => ∃ st2, O_undo st z st2 ∧ IM h' M st2 ∧ FR M 16 h h')) 0 0 := by
  refine q_enter (al := [(0, qa M)]) m_X9_undo rfl (Nat.le_of_ble_eq_true rfl) ?_
  intro hok X C hmc hxl hin
  have g := gs.1
  have gn := g.n
  have gh := gs.2.2.1
  refine Aj.aload_n C 0 dX9_undo_0 rfl ?_
  refine Aj.iconst C dX9_undo_1 (by decide) ?_
  refine Aj.putI C lf_RX9_56 L.a dX9_undo_2 (fun h_1 eh_1 => ?_)
  have f1 : FS M h h_1 := fun x y w => by rw [eh_1, hset_ne _ _ (by omega)]
  have c1 : IM h_1 M st := c.fs f1
  refine Aj.aload_n C 0 dX9_undo_5 rfl ?_
  refine Aj.getIe (z := st.2.2.1.1) C lf_RX9_64 rfl L.a dX9_undo_6 c1.2.2.1.1 ?_
  refine Aj.if_ne (tgt := 15) C dX9_undo_9 (by decide) (fun c9 => ?_) (fun c9 => ?_)
  · refine Aj.aload_n C 0 dX9_undo_15 rfl ?_
    refine Aj.dup_qa C dX9_undo_16 ?_
    refine Aj.getIe (z := st.2.2.1.1) C lf_RX9_64 rfl L.a dX9_undo_17 c1.2.2.1.1 ?_
    refine Aj.iconst C dX9_undo_20 (by decide) ?_
    refine Aj.isub C dX9_undo_21 (by omega) ?_
    refine Aj.putI C lf_RX9_64 L.a dX9_undo_22 (fun h_2 eh_2 => ?_)
    refine Aj.iconst C dX9_undo_25 (by decide) ?_
    refine Aj.istore_n (al2 := [(1, qi 0), (0, qa M)]) C dX9_undo_26 (by decide) rfl ?_
    refine Aj.pick (al2 := [(0, qa M), (1, qi 0)]) [1, 0] rfl ?_
    suffices L27 : ∀ (N : Nat) (k : Int) (hh : qH) , (0 ≤ k ∧ k ≤ 228 ∧ (∀ j, 0 ≤ j → j < k → hh (M + 1) j = st.2.2.1.2 (st.2.2.1.1 - 1) j) ∧ hh M 3 = st.2.2.1.1 - 1 ∧ (∀ x y, x ≠ M + 1 → ¬ (x = M ∧ y = 3) → hh x y = h_1 x y)) → (228 - k).toNat < N → Aj G X (q_Pi r (fun z h' => ∃ st2, O_undo st z st2 ∧ IM h' M st2 ∧ FR M 16 h h')) cX9_undo 2 (0, 0) n r hh 27 [(0, qa M), (1, qi k)] [] from L27 (_ + 1) 0 h_2 (⟨by omega, by omega, fun j j1 j2 => by omega, by rw [eh_2, hset_same], fun x y q1 q2 => by rw [eh_2, hset_ne _ _ (by omega)]⟩) (Nat.lt_succ_self _)
    intro N27
    induction N27 with
    | zero => intro k hh _ hN; exact absurd hN (Nat.not_lt_zero _)
    | succ N ih27 =>
      intro k hh hI27 hN27
      obtain ⟨hk0, hk1, hk2, hk3, hk4⟩ := hI27
      refine Aj.iload_n C 1 dX9_undo_27 rfl ?_
      refine Aj.sipush C dX9_undo_28 (by decide) (by decide) ?_
      refine Aj.icmp_ge (tgt := 61) C dX9_undo_31 (by decide) (fun c31 => ?_) (fun c31 => ?_)
      · refine Aj.aload_n C 0 dX9_undo_61 rfl ?_
        refine Aj.getIe (z := st.2.2.1.1 - 1) C lf_RX9_64 rfl L.a dX9_undo_62 hk3 ?_
        refine Aj.iret C dX9_undo_65 (by rw [hmc]; exact ⟨rfl, Nat.le_of_ble_eq_true rfl⟩) ⟨_, rfl, rfl, ?_⟩
        exact ⟨_, Or.inr ⟨by omega, rfl, rfl⟩, ⟨fun j j1 j2 => hk2 j j1 (by omega), ⟨(hk4 _ _ (by omega) (by omega)).trans c1.2.1.1, fun j j1 j2 => (hk4 _ _ (by omega) (by omega)).trans (c1.2.1.2 j j1 j2)⟩, ⟨hk3, fun i i1 i2 j j1 j2 => by have i2 : i < st.2.2.1.1 - 1 := i2; exact (hk4 _ _ (by omega) (by omega)).trans (c1.2.2.1.2 i i1 (by omega) j j1 j2)⟩, fun i i1 i2 => ⟨(hk4 _ _ (by omega) (by omega)).trans (c1.2.2.2 i i1 i2).1, fun w j j1 j2 => (hk4 _ _ (by omega) (by omega)).trans ((c1.2.2.2 i i1 i2).2 w j j1 j2)⟩⟩, fun x y q => (hk4 x y (by omega) (by omega)).trans (f1.fr x y q)⟩
      · refine Aj.aload_n C 0 dX9_undo_34 rfl ?_
        refine Aj.getR C lf_RX9_7 rfl L.a L.r1 dX9_undo_35 ?_
        refine Aj.iload_n C 1 dX9_undo_38 rfl ?_
        refine Aj.aload_n C 0 dX9_undo_39 rfl ?_
        refine Aj.getR C lf_RX9_13 rfl L.a L.r2 dX9_undo_40 ?_
        refine Aj.sipush C dX9_undo_43 (by decide) (by decide) ?_
        refine Aj.aload_n C 0 dX9_undo_46 rfl ?_
        refine Aj.getIe (z := st.2.2.1.1 - 1) C lf_RX9_64 rfl L.a dX9_undo_47 hk3 ?_
        refine Aj.imul C dX9_undo_50 (by omega) ?_
        refine Aj.iload_n C 1 dX9_undo_51 rfl ?_
        refine Aj.iadd C dX9_undo_52 (by omega) ?_
        refine Aj.ialde (w := st.2.2.1.2 (st.2.2.1.1 - 1) k) C L.a2 (by omega) dX9_undo_53 ((hk4 _ _ (by omega) (by omega)).trans (c1.2.2.1.2 (st.2.2.1.1 - 1) (by omega) (by omega) k hk0 (by omega))) ?_
        refine Aj.iast C L.a1 (by omega) dX9_undo_54 (fun h_3 eh_3 => ?_)
        refine Aj.iinc (al2 := [(1, qi (k + 1)), (0, qa M)]) C 1 dX9_undo_55 rfl (by decide) (by omega) rfl ?_
        refine Aj.goto (tgt := 27) C dX9_undo_58 (by decide) ?_
        refine Aj.pick (al2 := [(0, qa M), (1, qi (k + 1))]) [1, 0] rfl ?_
        exact ih27 (k + 1) h_3 (⟨by omega, by omega, fun j j1 j2 => by
          rw [eh_3, hset_ap]
          by_cases q : j = k
          · rw [if_pos ⟨rfl, q⟩, q]
          · rw [if_neg (fun w => q w.2)]; exact hk2 j j1 (by omega), by rw [eh_3, hset_nea _ _ _ (by omega)]; exact hk3, fun x y q1 q2 => by rw [eh_3, hset_nea _ _ _ q1]; exact hk4 x y q1 q2⟩) (by omega)
  · refine Aj.bipush C dX9_undo_12 (by decide) (by decide) ?_
    refine Aj.iret C dX9_undo_14 (by rw [hmc]; exact ⟨rfl, Nat.le_of_ble_eq_true rfl⟩) ⟨_, rfl, rfl, ?_⟩
    exact ⟨st, Or.inl ⟨by omega, rfl, rfl⟩, c1, f1.fr⟩
