set_option maxHeartbeats 400000 in
set_option maxRecDepth 100000 in
theorem c_X9_firstPlace (l : Launch) {G : qG} {n : Int} {r h : qH} {a : Int} {M : Int} {s : Int → Int} (L : LModel G n r M) (c : IMs h M s) (g : SG s) {T : qT} (d : CP h M T) (t : TG T) (hT : T.1 ≤ 120) : q_Cm l G yX9_firstPlace cX9_firstPlace 3 (some .int) 0 0 [qa M, qi a] n r h (q_Pi r (fun z h' => h = h' ∧ z = fstN T.2.2.1 a T.1.toNat)) 0 0 := by
  refine q_enter (al := [(0, qa M), (1, qi a)]) m_X9_firstPlace rfl (Nat.le_of_ble_eq_true rfl) ?_
  intro hok X C hmc hxl hin
  have gn := g.n
  have t0 := t.1
  refine Aj.iconst C dX9_firstPlace_0 (by decide) ?_
  refine Aj.istore_n (al2 := [(2, qi 0), (0, qa M), (1, qi a)]) C dX9_firstPlace_1 (by decide) rfl ?_
  refine Aj.pick (al2 := [(0, qa M), (1, qi a), (2, qi 0)]) [1, 2, 0] rfl ?_
  suffices L2 : ∀ (N : Nat) (i : Int) , (0 ≤ i ∧ i ≤ T.1 ∧ fstN T.2.2.1 a i.toNat = -6) → (T.1 - i).toNat < N → Aj G X (q_Pi r (fun z h' => h = h' ∧ z = fstN T.2.2.1 a T.1.toNat)) cX9_firstPlace 3 (0, 0) n r h 2 [(0, qa M), (1, qi a), (2, qi i)] [] from L2 (_ + 1) 0 (⟨by omega, by omega, rfl⟩) (Nat.lt_succ_self _)
  intro N2
  induction N2 with
  | zero => intro i _ hN; exact absurd hN (Nat.not_lt_zero _)
  | succ N ih2 =>
    intro i hI2 hN2
    obtain ⟨hi0, hi1, hi2⟩ := hI2
    refine Aj.iload_n C 2 dX9_firstPlace_2 rfl ?_
    refine Aj.aload_n C 0 dX9_firstPlace_3 rfl ?_
    refine Aj.getIe (z := T.1) C lf_RX9_71 rfl L.a dX9_firstPlace_4 d.1 ?_
    refine Aj.icmp_ge (tgt := 28) C dX9_firstPlace_7 (by decide) (fun c7 => ?_) (fun c7 => ?_)
    · refine Aj.bipush C dX9_firstPlace_28 (by decide) (by decide) ?_
      refine Aj.iret C dX9_firstPlace_30 (by rw [hmc]; exact ⟨rfl, Nat.le_of_ble_eq_true rfl⟩) ⟨_, rfl, rfl, ?_⟩
      have e : i = T.1 := by omega
      rw [e] at hi2
      exact ⟨rfl, hi2.symm⟩
    · refine Aj.aload_n C 0 dX9_firstPlace_10 rfl ?_
      refine Aj.getR C lf_RX9_26 rfl L.a L.r8 dX9_firstPlace_11 ?_
      refine Aj.iload_n C 2 dX9_firstPlace_14 rfl ?_
      refine Aj.ialde (w := T.2.2.1 i) C L.a6 (by omega) dX9_firstPlace_15 (d.2.2 _ (by omega) (by omega)).1 ?_
      refine Aj.iload_n C 1 dX9_firstPlace_16 rfl ?_
      refine Aj.icmp_ne (tgt := 22) C dX9_firstPlace_17 (by decide) (fun c17 => ?_) (fun c17 => ?_)
      · refine Aj.iinc (al2 := [(2, qi (i + 1)), (0, qa M), (1, qi a)]) C 2 dX9_firstPlace_22 rfl (by decide) (by omega) rfl ?_
        refine Aj.goto (tgt := 2) C dX9_firstPlace_25 (by decide) ?_
        refine Aj.pick (al2 := [(0, qa M), (1, qi a), (2, qi (i + 1))]) [1, 2, 0] rfl ?_
        exact ih2 (i + 1) (⟨by omega, by omega, fstN_miss hi0 hi2 (by omega)⟩) (by omega)
      · refine Aj.iload_n C 2 dX9_firstPlace_20 rfl ?_
        refine Aj.iret C dX9_firstPlace_21 (by rw [hmc]; exact ⟨rfl, Nat.le_of_ble_eq_true rfl⟩) ⟨_, rfl, rfl, ?_⟩
        exact ⟨rfl, (fstN_hit hi0 (by omega) hi2 (by omega)).symm⟩
