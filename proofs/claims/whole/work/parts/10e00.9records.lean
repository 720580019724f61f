set_option maxHeartbeats 400000 in
set_option maxRecDepth 100000 in
theorem c_X9_records (l : Launch) {G : qG} {n : Int} {r h : qH} {M : Int} {s : Int → Int} {H : Int × (Int → Int → Int)} (L : LModel G n r M) (c : IMs h M s) (ch : IMh h M H) (hH : 0 ≤ H.1 ∧ H.1 ≤ 6) : q_Cm l G yX9_records cX9_records 2 none 0 0 [qa M] n r h (q_Pv r (fun h' => IMh h' M (hrec H s) ∧ FRec M h h')) 0 0 := by
  refine q_enter (al := [(0, qa M)]) m_X9_records rfl (Nat.le_of_ble_eq_true rfl) ?_
  intro hok X C hmc hxl hin
  have hi := hrec_in (s := s) hH
  have J50 : ∀ (hj : qH) , (hj M 3 = (hrec H s).1 - 1 ∧ (∀ i, 0 ≤ i → i < (hrec H s).1 - 1 → ∀ j, 0 ≤ j → j < 228 → hj (M + 2) (228 * i + j) = (hrec H s).2 i j) ∧ FRec M h hj) → Aj G X (q_Pv r (fun h' => IMh h' M (hrec H s) ∧ FRec M h h')) cX9_records 2 (0, 0) n r hj 50 [(0, qa M)] [] := by
    intro  hj hJ50
    obtain ⟨hj1, hj2, hj3⟩ := hJ50
    refine Aj.iconst C dX9_records_50 (by decide) ?_
    refine Aj.istore_n (al2 := [(1, qi 0), (0, qa M)]) C dX9_records_51 (by decide) rfl ?_
    refine Aj.pick (al2 := [(0, qa M), (1, qi 0)]) [1, 0] rfl ?_
    suffices L52 : ∀ (N : Nat) (k : Int) (h2 : qH) , (0 ≤ k ∧ k ≤ 228 ∧ (∀ j, 0 ≤ j → j < k → h2 (M + 2) (228 * ((hrec H s).1 - 1) + j) = s j) ∧ (∀ i, 0 ≤ i → i < (hrec H s).1 - 1 → ∀ j, 0 ≤ j → j < 228 → h2 (M + 2) (228 * i + j) = (hrec H s).2 i j) ∧ h2 M 3 = (hrec H s).1 - 1 ∧ FRec M h h2) → (228 - k).toNat < N → Aj G X (q_Pv r (fun h' => IMh h' M (hrec H s) ∧ FRec M h h')) cX9_records 2 (0, 0) n r h2 52 [(0, qa M), (1, qi k)] [] from L52 (_ + 1) 0 hj (⟨by omega, by omega, fun j j1 j2 => by omega, hj2, hj1, hj3⟩) (Nat.lt_succ_self _)
    intro N52
    induction N52 with
    | zero => intro k h2 _ hN; exact absurd hN (Nat.not_lt_zero _)
    | succ N ih52 =>
      intro k h2 hI52 hN52
      obtain ⟨hk0, hk1, hk2, hk3, hk4, hk5⟩ := hI52
      have cS2 : IMs h2 M s := c.frec hk5
      refine Aj.iload_n C 1 dX9_records_52 rfl ?_
      refine Aj.sipush C dX9_records_53 (by decide) (by decide) ?_
      refine Aj.icmp_ge (tgt := 86) C dX9_records_56 (by decide) (fun c56 => ?_) (fun c56 => ?_)
      · refine Aj.aload_n C 0 dX9_records_86 rfl ?_
        refine Aj.dup_qa C dX9_records_87 ?_
        refine Aj.getIe (z := (hrec H s).1 - 1) C lf_RX9_64 rfl L.a dX9_records_88 hk4 ?_
        refine Aj.iconst C dX9_records_91 (by decide) ?_
        refine Aj.iadd C dX9_records_92 (by omega) ?_
        refine Aj.putI C lf_RX9_64 L.a dX9_records_93 (fun h_1 eh_1 => ?_)
        refine Aj.vret C dX9_records_96 (by rw [hmc]; exact ⟨rfl, Nat.le_of_ble_eq_true rfl⟩) ⟨rfl, rfl, ?_⟩
        exact ⟨⟨by rw [eh_1, hset_same]; omega, fun i i1 i2 j j1 j2 => by
          rw [eh_1, hset_nea _ _ _ (by omega)]
          by_cases q : i = (hrec H s).1 - 1
          · rw [q, hrec_top hH]; exact hk2 j j1 (by omega)
          · exact hk3 i i1 (by omega) j j1 j2⟩, fun x y w1 w2 => by rw [eh_1, hset_ne _ _ (by omega)]; exact hk5 x y w1 w2⟩
      · refine Aj.aload_n C 0 dX9_records_59 rfl ?_
        refine Aj.getR C lf_RX9_13 rfl L.a L.r2 dX9_records_60 ?_
        refine Aj.sipush C dX9_records_63 (by decide) (by decide) ?_
        refine Aj.aload_n C 0 dX9_records_66 rfl ?_
        refine Aj.getIe (z := (hrec H s).1 - 1) C lf_RX9_64 rfl L.a dX9_records_67 hk4 ?_
        refine Aj.imul C dX9_records_70 (by omega) ?_
        refine Aj.iload_n C 1 dX9_records_71 rfl ?_
        refine Aj.iadd C dX9_records_72 (by omega) ?_
        refine Aj.aload_n C 0 dX9_records_73 rfl ?_
        refine Aj.getR C lf_RX9_7 rfl L.a L.r1 dX9_records_74 ?_
        refine Aj.iload_n C 1 dX9_records_77 rfl ?_
        refine Aj.ialde (w := s k) C L.a1 (by omega) dX9_records_78 (cS2 _ (by omega) (by omega)) ?_
        refine Aj.iast C L.a2 (by omega) dX9_records_79 (fun h_2 eh_2 => ?_)
        refine Aj.iinc (al2 := [(1, qi (k + 1)), (0, qa M)]) C 1 dX9_records_80 rfl (by decide) (by omega) rfl ?_
        refine Aj.goto (tgt := 52) C dX9_records_83 (by decide) ?_
        refine Aj.pick (al2 := [(0, qa M), (1, qi (k + 1))]) [1, 0] rfl ?_
        exact ih52 (k + 1) h_2 (⟨by omega, by omega, fun j j1 j2 => by
          rw [eh_2, hset_ap]
          by_cases q : j = k
          · rw [if_pos ⟨rfl, by omega⟩, q]
          · rw [if_neg (fun w => by have := w.2; omega)]; exact hk2 j j1 (by omega), fun i i1 i2 j j1 j2 => by rw [eh_2, hset_neb _ _ _ (by omega)]; exact hk3 i i1 i2 j j1 j2, by rw [eh_2, hset_nea _ _ _ (by omega)]; exact hk4, fun x y w1 w2 => by rw [eh_2, hset_nea _ _ _ w2]; exact hk5 x y w1 w2⟩) (by omega)
  refine Aj.aload_n C 0 dX9_records_0 rfl ?_
  refine Aj.getIe (z := H.1) C lf_RX9_64 rfl L.a dX9_records_1 ch.1 ?_
  refine Aj.bipush C dX9_records_4 (by decide) (by decide) ?_
  refine Aj.icmp_ne (tgt := 50) C dX9_records_6 (by decide) (fun c6 => ?_) (fun c6 => ?_)
  · refine Aj.pick (al2 := [(0, qa M)]) [0] rfl ?_
    exact J50  h (⟨by rw [hrec_1 hH, if_pos (by omega)]; have := ch.1; omega, fun i i1 i2 j j1 j2 => by rw [hrec_old hH i2, if_pos (by omega)]; rw [hrec_1 hH, if_pos (by omega)] at i2; exact ch.2 i i1 (by omega) j j1 j2, fun _ _ _ _ => rfl⟩)
  · refine Aj.iconst C dX9_records_9 (by decide) ?_
    refine Aj.istore_n (al2 := [(1, qi 0), (0, qa M)]) C dX9_records_10 (by decide) rfl ?_
    refine Aj.pick (al2 := [(0, qa M), (1, qi 0)]) [1, 0] rfl ?_
    suffices L11 : ∀ (N : Nat) (k : Int) (hh : qH) , (0 ≤ k ∧ k ≤ 1140 ∧ (∀ j, 0 ≤ j → j < k → hh (M + 2) j = h (M + 2) (j + 228)) ∧ (∀ j, k ≤ j → hh (M + 2) j = h (M + 2) j) ∧ ∀ x y, x ≠ M + 2 → hh x y = h x y) → (1140 - k).toNat < N → Aj G X (q_Pv r (fun h' => IMh h' M (hrec H s) ∧ FRec M h h')) cX9_records 2 (0, 0) n r hh 11 [(0, qa M), (1, qi k)] [] from L11 (_ + 1) 0 h (⟨by omega, by omega, fun j j1 j2 => by omega, fun _ _ => rfl, fun _ _ _ => rfl⟩) (Nat.lt_succ_self _)
    intro N11
    induction N11 with
    | zero => intro k hh _ hN; exact absurd hN (Nat.not_lt_zero _)
    | succ N ih11 =>
      intro k hh hI11 hN11
      obtain ⟨hk0, hk1, hk2, hk3, hk4⟩ := hI11
      refine Aj.iload_n C 1 dX9_records_11 rfl ?_
      refine Aj.sipush C dX9_records_12 (by decide) (by decide) ?_
      refine Aj.icmp_ge (tgt := 40) C dX9_records_15 (by decide) (fun c15 => ?_) (fun c15 => ?_)
      · refine Aj.aload_n C 0 dX9_records_40 rfl ?_
        refine Aj.dup_qa C dX9_records_41 ?_
        refine Aj.getIe (z := H.1) C lf_RX9_64 rfl L.a dX9_records_42 ((hk4 _ _ (by omega)).trans ch.1) ?_
        refine Aj.iconst C dX9_records_45 (by decide) ?_
        refine Aj.isub C dX9_records_46 (by omega) ?_
        refine Aj.putI C lf_RX9_64 L.a dX9_records_47 (fun h_3 eh_3 => ?_)
        refine Aj.pick (al2 := [(0, qa M)]) [0] rfl ?_
        exact J50  h_3 (⟨by rw [eh_3, hset_same, hrec_1 hH, if_neg (by omega)]; omega, fun i i1 i2 j j1 j2 => by
          rw [hrec_old hH i2, if_neg (by omega)]
          rw [hrec_1 hH, if_neg (by omega)] at i2
          rw [eh_3, hset_nea _ _ _ (by omega), hk2 _ (by omega) (by omega), show 228 * i + j + 228 = 228 * (i + 1) + j by omega]
          exact ch.2 (i + 1) (by omega) (by omega) j j1 j2, fun x y w1 w2 => by rw [eh_3, hset_ne _ _ (by omega)]; exact hk4 x y w2⟩)
      · refine Aj.aload_n C 0 dX9_records_18 rfl ?_
        refine Aj.getR C lf_RX9_13 rfl L.a L.r2 dX9_records_19 ?_
        refine Aj.iload_n C 1 dX9_records_22 rfl ?_
        refine Aj.aload_n C 0 dX9_records_23 rfl ?_
        refine Aj.getR C lf_RX9_13 rfl L.a L.r2 dX9_records_24 ?_
        refine Aj.iload_n C 1 dX9_records_27 rfl ?_
        refine Aj.sipush C dX9_records_28 (by decide) (by decide) ?_
        refine Aj.iadd C dX9_records_31 (by omega) ?_
        refine Aj.ialde (w := hh (M + 2) (k + 228)) C L.a2 (by omega) dX9_records_32 rfl ?_
        refine Aj.iast C L.a2 (by omega) dX9_records_33 (fun h_4 eh_4 => ?_)
        refine Aj.iinc (al2 := [(1, qi (k + 1)), (0, qa M)]) C 1 dX9_records_34 rfl (by decide) (by omega) rfl ?_
        refine Aj.goto (tgt := 11) C dX9_records_37 (by decide) ?_
        refine Aj.pick (al2 := [(0, qa M), (1, qi (k + 1))]) [1, 0] rfl ?_
        exact ih11 (k + 1) h_4 (⟨by omega, by omega, fun j j1 j2 => by
          rw [eh_4, hset_ap]
          by_cases q : j = k
          · rw [if_pos ⟨rfl, q⟩, q]; exact hk3 _ (by omega)
          · rw [if_neg (fun w => q w.2)]; exact hk2 j j1 (by omega), fun j j1 => by rw [eh_4, hset_neb _ _ _ (by omega)]; exact hk3 j (by omega), fun x y w => by rw [eh_4, hset_nea _ _ _ w]; exact hk4 x y w⟩) (by omega)
