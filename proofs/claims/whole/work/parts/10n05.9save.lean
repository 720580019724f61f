set_option maxHeartbeats 400000 in
set_option maxRecDepth 100000 in
theorem c_X9_save (l : Launch) {G : qG} {n : Int} {r h : qH} {a : Int} {M : Int} {st : qS} (L : LModel G n r M) (c : IM h M st) (gs : GS st) : q_Cm l G yX9_save cX9_save 3 (some .int) 1 22 [qa M, qi a] n r h (q_Pi r (fun z h' => ∃ st2, O_save st a z st2 ∧ IM h' M st2 ∧ FR M 16 h h')) 0 0 := by
  refine q_enter (al := [(0, qa M), (1, qi a)]) m_X9_save rfl (Nat.le_of_ble_eq_true rfl) ?_
  intro hok X C hmc hxl hin
  have g := gs.1
  have gn := g.n
  have gh := gs.2.2.1
  refine Aj.aload_n C 0 dX9_save_0 rfl ?_
  refine Aj.iconst C dX9_save_1 (by decide) ?_
  refine Aj.putI C lf_RX9_56 L.a dX9_save_2 (fun h_1 eh_1 => ?_)
  have f1 : FS M h h_1 := fun x y w => by rw [eh_1, hset_ne _ _ (by omega)]
  have c1 : IM h_1 M st := c.fs f1
  refine Aj.iload_n C 1 dX9_save_5 rfl ?_
  refine Aj.iconst C dX9_save_6 (by decide) ?_
  refine Aj.iconst C dX9_save_7 (by decide) ?_
  refine Aj.callSi (As := [qi a, qi 0, qi 1]) (st := []) C lm_RX9_60 m_X9_in mk_X9_in (c_X9_in _) rfl rfl (by decide) (Nat.le_of_ble_eq_true rfl) (by decide) dX9_save_8 (fun z8 h_2 rz8 p8 => ?_)
  obtain ⟨rfl, pzi, pei⟩ := p8
  refine Aj.if_ne (tgt := 17) C dX9_save_11 (by decide) (fun c11 => ?_) (fun c11 => ?_)
  · refine Aj.iconst C dX9_save_17 (by decide) ?_
    refine Aj.istore_n (al2 := [(2, qi 0), (0, qa M), (1, qi a)]) C dX9_save_18 (by decide) rfl ?_
    refine Aj.pick (al2 := [(0, qa M), (1, qi a), (2, qi 0)]) [1, 2, 0] rfl ?_
    suffices L19 : ∀ (N : Nat) (k : Int) (hh : qH) , (0 ≤ k ∧ k ≤ 228 ∧ (∀ j, 0 ≤ j → j < k → hh (M + 3) (228 * a + j) = st.1 j) ∧ (∀ x y, x ≠ M + 3 → hh x y = h_1 x y) ∧ (∀ j, (j < 228 * a ∨ 228 * a + 228 ≤ j) → hh (M + 3) j = h_1 (M + 3) j)) → (228 - k).toNat < N → Aj G X (q_Pi r (fun z h' => ∃ st2, O_save st a z st2 ∧ IM h' M st2 ∧ FR M 16 h h')) cX9_save 3 (0, 0) n r hh 19 [(0, qa M), (1, qi a), (2, qi k)] [] from L19 (_ + 1) 0 h_1 (⟨by omega, by omega, fun j j1 j2 => by omega, fun _ _ _ => rfl, fun _ _ => rfl⟩) (Nat.lt_succ_self _)
    intro N19
    induction N19 with
    | zero => intro k hh _ hN; exact absurd hN (Nat.not_lt_zero _)
    | succ N ih19 =>
      intro k hh hI19 hN19
      obtain ⟨hk0, hk1, hk2, hk3, hk4⟩ := hI19
      have cS2 : IMs hh M st.1 := fun j j1 j2 => (hk3 _ _ (by omega)).trans (c1.1 j j1 j2)
      refine Aj.iload_n C 2 dX9_save_19 rfl ?_
      refine Aj.sipush C dX9_save_20 (by decide) (by decide) ?_
      refine Aj.icmp_ge (tgt := 50) C dX9_save_23 (by decide) (fun c23 => ?_) (fun c23 => ?_)
      · refine Aj.aload_n C 0 dX9_save_50 rfl ?_
        refine Aj.getR C lf_RX9_19 rfl L.a L.r5 dX9_save_51 ?_
        refine Aj.iload_n C 1 dX9_save_54 rfl ?_
        refine Aj.iconst C dX9_save_55 (by decide) ?_
        refine Aj.zast C L.a4 (by omega) (by omega) dX9_save_56 (fun h_3 eh_3 => ?_)
        refine Aj.aload_n C 0 dX9_save_57 rfl ?_
        refine Aj.getR C lf_RX9_7 rfl L.a L.r1 dX9_save_58 ?_
        refine Aj.iconst C dX9_save_61 (by decide) ?_
        refine Aj.ialde (w := st.1 5) C L.a1 (by omega) dX9_save_62 (by rw [eh_3, hset_nea _ _ _ (by omega)]; exact (cS2 _ (by omega) (by omega))) ?_
        refine Aj.iret C dX9_save_63 (by rw [hmc]; exact ⟨rfl, Nat.le_of_ble_eq_true rfl⟩) ⟨_, rfl, rfl, ?_⟩
        have fx : ∀ x y, x ≠ M + 3 → x ≠ M + 4 → h_3 x y = h_1 x y := fun x y q1 q2 => by rw [eh_3, hset_nea _ _ _ q2]; exact hk3 x y q1
        refine ⟨_, Or.inr ⟨by omega, rfl, rfl⟩, ⟨fun j j1 j2 => (fx _ _ (by omega) (by omega)).trans (c1.1 j j1 j2), ⟨(fx _ _ (by omega) (by omega)).trans c1.2.1.1, fun j j1 j2 => (fx _ _ (by omega) (by omega)).trans (c1.2.1.2 j j1 j2)⟩, ⟨(fx _ _ (by omega) (by omega)).trans c1.2.2.1.1, fun i i1 i2 j j1 j2 => (fx _ _ (by omega) (by omega)).trans (c1.2.2.1.2 i i1 i2 j j1 j2)⟩, fun i i1 i2 => ?_⟩, fun x y q => (fx x y (by omega) (by omega)).trans (f1.fr x y q)⟩
        show h_3 (M + 4) i = sset st.2.2.2.1 a 1 i ∧ (sset st.2.2.2.1 a 1 i = 1 → ∀ j, 0 ≤ j → j < 228 → h_3 (M + 3) (228 * i + j) = (if i = a then st.1 else st.2.2.2.2 i) j)
        rw [eh_3]
        by_cases q : i = a
        · rw [q, hset_same, sset_same]
          refine ⟨rfl, fun _ j j1 j2 => ?_⟩
          rw [if_pos rfl, hset_nea _ _ _ (by omega)]
          exact hk2 j j1 (by omega)
        · rw [hset_neb _ _ _ q, sset_ne _ _ q, if_neg q, hk3 _ _ (by omega)]
          refine ⟨(c1.2.2.2 i i1 i2).1, fun w j j1 j2 => ?_⟩
          rw [hset_nea _ _ _ (by omega), hk4 _ (by omega)]
          exact (c1.2.2.2 i i1 i2).2 w j j1 j2
      · refine Aj.aload_n C 0 dX9_save_26 rfl ?_
        refine Aj.getR C lf_RX9_16 rfl L.a L.r4 dX9_save_27 ?_
        refine Aj.sipush C dX9_save_30 (by decide) (by decide) ?_
        refine Aj.iload_n C 1 dX9_save_33 rfl ?_
        refine Aj.imul C dX9_save_34 (by omega) ?_
        refine Aj.iload_n C 2 dX9_save_35 rfl ?_
        refine Aj.iadd C dX9_save_36 (by omega) ?_
        refine Aj.aload_n C 0 dX9_save_37 rfl ?_
        refine Aj.getR C lf_RX9_7 rfl L.a L.r1 dX9_save_38 ?_
        refine Aj.iload_n C 2 dX9_save_41 rfl ?_
        refine Aj.ialde (w := st.1 k) C L.a1 (by omega) dX9_save_42 (cS2 _ (by omega) (by omega)) ?_
        refine Aj.iast C L.a3 (by omega) dX9_save_43 (fun h_4 eh_4 => ?_)
        refine Aj.iinc (al2 := [(2, qi (k + 1)), (0, qa M), (1, qi a)]) C 2 dX9_save_44 rfl (by decide) (by omega) rfl ?_
        refine Aj.goto (tgt := 19) C dX9_save_47 (by decide) ?_
        refine Aj.pick (al2 := [(0, qa M), (1, qi a), (2, qi (k + 1))]) [1, 2, 0] rfl ?_
        exact ih19 (k + 1) h_4 (⟨by omega, by omega, fun j j1 j2 => by
          rw [eh_4, hset_ap]
          by_cases q : j = k
          · rw [if_pos ⟨rfl, by omega⟩, q]
          · rw [if_neg (fun w => by have := w.2; omega)]; exact hk2 j j1 (by omega), fun x y q => by rw [eh_4, hset_nea _ _ _ q]; exact hk3 x y q, fun j q => by rw [eh_4, hset_neb _ _ _ (by omega)]; exact hk4 j q⟩) (by omega)
  · refine Aj.bipush C dX9_save_14 (by decide) (by decide) ?_
    refine Aj.iret C dX9_save_16 (by rw [hmc]; exact ⟨rfl, Nat.le_of_ble_eq_true rfl⟩) ⟨_, rfl, rfl, ?_⟩
    exact ⟨st, Or.inl ⟨by omega, rfl, rfl⟩, c1, f1.fr⟩
