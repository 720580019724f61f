set_option maxHeartbeats 400000 in
set_option maxRecDepth 100000 in
theorem c_X9_timesSung (l : Launch) {G : qG} {n : Int} {r h : qH} {a : Int} {M : Int} {s : Int → Int} (L : LModel G n r M) (c : IMs h M s) (g : SG s) {T : qT} (d : CP h M T) (t : TG T) (hT : T.1 ≤ 120) : q_Cm l G yX9_timesSung cX9_timesSung 4 (some .int) 0 0 [qa M, qi a] n r h (q_Pi r (fun z h' => h = h' ∧ z = cntN T.2.2.1 a T.1.toNat)) 0 0 := by
  refine q_enter (al := [(0, qa M), (1, qi a)]) m_X9_timesSung rfl (Nat.le_of_ble_eq_true rfl) ?_
  intro hok X C hmc hxl hin
  have gn := g.n
  have t0 := t.1
  refine Aj.iconst C dX9_timesSung_0 (by decide) ?_
  refine Aj.istore_n (al2 := [(2, qi 0), (0, qa M), (1, qi a)]) C dX9_timesSung_1 (by decide) rfl ?_
  refine Aj.iconst C dX9_timesSung_2 (by decide) ?_
  refine Aj.istore_n (al2 := [(3, qi 0), (2, qi 0), (0, qa M), (1, qi a)]) C dX9_timesSung_3 (by decide) rfl ?_
  refine Aj.pick (al2 := [(0, qa M), (1, qi a), (2, qi 0), (3, qi 0)]) [2, 3, 1, 0] rfl ?_
  suffices L4 : ∀ (N : Nat) (w i : Int) , (0 ≤ i ∧ i ≤ T.1 ∧ w = cntN T.2.2.1 a i.toNat ∧ 0 ≤ w ∧ w ≤ i) → (T.1 - i).toNat < N → Aj G X (q_Pi r (fun z h' => h = h' ∧ z = cntN T.2.2.1 a T.1.toNat)) cX9_timesSung 4 (0, 0) n r h 4 [(0, qa M), (1, qi a), (2, qi w), (3, qi i)] [] from L4 (_ + 1) 0 0 (⟨by omega, by omega, rfl, by omega, by omega⟩) (Nat.lt_succ_self _)
  intro N4
  induction N4 with
  | zero => intro w i _ hN; exact absurd hN (Nat.not_lt_zero _)
  | succ N ih4 =>
    intro w i hI4 hN4
    obtain ⟨hi0, hi1, hi2, hi3, hi4⟩ := hI4
    refine Aj.iload_n C 3 dX9_timesSung_4 rfl ?_
    refine Aj.aload_n C 0 dX9_timesSung_5 rfl ?_
    refine Aj.getIe (z := T.1) C lf_RX9_71 rfl L.a dX9_timesSung_6 d.1 ?_
    refine Aj.icmp_ge (tgt := 36) C dX9_timesSung_9 (by decide) (fun c9 => ?_) (fun c9 => ?_)
    · refine Aj.iload_n C 2 dX9_timesSung_36 rfl ?_
      refine Aj.iret C dX9_timesSung_37 (by rw [hmc]; exact ⟨rfl, Nat.le_of_ble_eq_true rfl⟩) ⟨_, rfl, rfl, ?_⟩
      have e : i = T.1 := by omega
      rw [e] at hi2
      exact ⟨rfl, hi2⟩
    · refine Aj.iload_n C 2 dX9_timesSung_12 rfl ?_
      refine Aj.aload_n C 0 dX9_timesSung_13 rfl ?_
      refine Aj.getR C lf_RX9_26 rfl L.a L.r8 dX9_timesSung_14 ?_
      refine Aj.iload_n C 3 dX9_timesSung_17 rfl ?_
      refine Aj.ialde (w := T.2.2.1 i) C L.a6 (by omega) dX9_timesSung_18 (d.2.2 _ (by omega) (by omega)).1 ?_
      refine Aj.iload_n C 1 dX9_timesSung_19 rfl ?_
      refine Aj.icmp_ne (tgt := 27) C dX9_timesSung_20 (by decide) (fun c20 => ?_) (fun c20 => ?_)
      · refine Aj.iconst C dX9_timesSung_27 (by decide) ?_
        refine Aj.iadd C dX9_timesSung_28 (by omega) ?_
        refine Aj.istore_n (al2 := [(2, qi (w + 0)), (0, qa M), (1, qi a), (3, qi i)]) C dX9_timesSung_29 (by decide) rfl ?_
        refine Aj.iinc (al2 := [(3, qi (i + 1)), (2, qi (w + 0)), (0, qa M), (1, qi a)]) C 3 dX9_timesSung_30 rfl (by decide) (by omega) rfl ?_
        refine Aj.goto (tgt := 4) C dX9_timesSung_33 (by decide) ?_
        refine Aj.pick (al2 := [(0, qa M), (1, qi a), (2, qi (w + 0)), (3, qi (i + 1))]) [2, 3, 1, 0] rfl ?_
        exact ih4 (w + 0) (i + 1) (⟨by omega, by omega, by rw [cntN_s hi0]; first | rw [if_pos (by omega), hi2] | rw [if_neg (by omega), hi2], by omega, by omega⟩) (by omega)
      · refine Aj.iconst C dX9_timesSung_23 (by decide) ?_
        refine Aj.goto (tgt := 28) C dX9_timesSung_24 (by decide) ?_
        refine Aj.iadd C dX9_timesSung_28 (by omega) ?_
        refine Aj.istore_n (al2 := [(2, qi (w + 1)), (0, qa M), (1, qi a), (3, qi i)]) C dX9_timesSung_29 (by decide) rfl ?_
        refine Aj.iinc (al2 := [(3, qi (i + 1)), (2, qi (w + 1)), (0, qa M), (1, qi a)]) C 3 dX9_timesSung_30 rfl (by decide) (by omega) rfl ?_
        refine Aj.goto (tgt := 4) C dX9_timesSung_33 (by decide) ?_
        refine Aj.pick (al2 := [(0, qa M), (1, qi a), (2, qi (w + 1)), (3, qi (i + 1))]) [2, 3, 1, 0] rfl ?_
        exact ih4 (w + 1) (i + 1) (⟨by omega, by omega, by rw [cntN_s hi0]; first | rw [if_pos (by omega), hi2] | rw [if_neg (by omega), hi2], by omega, by omega⟩) (by omega)
