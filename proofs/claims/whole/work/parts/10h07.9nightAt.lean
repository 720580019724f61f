set_option maxHeartbeats 400000 in
set_option maxRecDepth 100000 in
theorem c_X9_nightAt (l : Launch) {G : qG} {n : Int} {r h : qH} {a : Int} {M : Int} {s : Int → Int} (L : LModel G n r M) (c : IMs h M s) (g : SG s) {T : qT} (d : CP h M T) (t : TG T) (hT : T.1 ≤ 120) (ha : 1 ≤ a) : q_Cm l G yX9_nightAt cX9_nightAt 4 (some .int) 0 0 [qa M, qi a] n r h (q_Pi r (fun z h' => h = h' ∧ z = plN s T.2.2.1 a T.1.toNat)) 0 0 := by
  refine q_enter (al := [(0, qa M), (1, qi a)]) m_X9_nightAt rfl (Nat.le_of_ble_eq_true rfl) ?_
  intro hok X C hmc hxl hin
  have gn := g.n
  have t0 := t.1
  refine Aj.iconst C dX9_nightAt_0 (by decide) ?_
  refine Aj.istore_n (al2 := [(2, qi 0), (0, qa M), (1, qi a)]) C dX9_nightAt_1 (by decide) rfl ?_
  refine Aj.iconst C dX9_nightAt_2 (by decide) ?_
  refine Aj.istore_n (al2 := [(3, qi 0), (2, qi 0), (0, qa M), (1, qi a)]) C dX9_nightAt_3 (by decide) rfl ?_
  refine Aj.pick (al2 := [(0, qa M), (1, qi a), (2, qi 0), (3, qi 0)]) [2, 3, 1, 0] rfl ?_
  suffices L4 : ∀ (N : Nat) (w i : Int) , (0 ≤ i ∧ i ≤ T.1 ∧ w = plN s T.2.2.1 a i.toNat) → (T.1 - i).toNat < N → Aj G X (q_Pi r (fun z h' => h = h' ∧ z = plN s T.2.2.1 a T.1.toNat)) cX9_nightAt 4 (0, 0) n r h 4 [(0, qa M), (1, qi a), (2, qi w), (3, qi i)] [] from L4 (_ + 1) 0 0 (⟨by omega, by omega, rfl⟩) (Nat.lt_succ_self _)
  intro N4
  induction N4 with
  | zero => intro w i _ hN; exact absurd hN (Nat.not_lt_zero _)
  | succ N ih4 =>
    intro w i hI4 hN4
    obtain ⟨hi0, hi1, hi2⟩ := hI4
    refine Aj.iload_n C 3 dX9_nightAt_4 rfl ?_
    refine Aj.aload_n C 0 dX9_nightAt_5 rfl ?_
    refine Aj.getIe (z := T.1) C lf_RX9_71 rfl L.a dX9_nightAt_6 d.1 ?_
    refine Aj.icmp_ge (tgt := 41) C dX9_nightAt_9 (by decide) (fun c9 => ?_) (fun c9 => ?_)
    · refine Aj.iload_n C 2 dX9_nightAt_41 rfl ?_
      refine Aj.iret C dX9_nightAt_42 (by rw [hmc]; exact ⟨rfl, Nat.le_of_ble_eq_true rfl⟩) ⟨_, rfl, rfl, ?_⟩
      have e : i = T.1 := by omega
      rw [e] at hi2
      exact ⟨rfl, hi2⟩
    · have ti := t.2.2.2.2.2 i hi0 (by omega)
      have gb := g.b (T.2.2.1 i) ti.1 ti.2
      have wi := plN_in g ha (P := T.2.2.1) i.toNat (fun k a c => t.2.2.2.2.2 k a (by omega))
      have di : 0 ≤ 600 * s (6 + T.2.2.1 i) / a ∧ 600 * s (6 + T.2.2.1 i) / a ≤ 600 * s (6 + T.2.2.1 i) := ⟨Int.ediv_nonneg (by omega) (by omega), Int.ediv_le_self _ (by omega)⟩
      refine Aj.iload_n C 2 dX9_nightAt_12 rfl ?_
      refine Aj.sipush C dX9_nightAt_13 (by decide) (by decide) ?_
      refine Aj.aload_n C 0 dX9_nightAt_16 rfl ?_
      refine Aj.getR C lf_RX9_7 rfl L.a L.r1 dX9_nightAt_17 ?_
      refine Aj.bipush C dX9_nightAt_20 (by decide) (by decide) ?_
      refine Aj.aload_n C 0 dX9_nightAt_22 rfl ?_
      refine Aj.getR C lf_RX9_26 rfl L.a L.r8 dX9_nightAt_23 ?_
      refine Aj.iload_n C 3 dX9_nightAt_26 rfl ?_
      refine Aj.ialde (w := T.2.2.1 i) C L.a6 (by omega) dX9_nightAt_27 (d.2.2 _ (by omega) (by omega)).1 ?_
      refine Aj.iadd C dX9_nightAt_28 (by omega) ?_
      refine Aj.ialde (w := s (6 + (T.2.2.1 i))) C L.a1 (by omega) dX9_nightAt_29 (c _ (by omega) (by omega)) ?_
      refine Aj.imul C dX9_nightAt_30 (by omega) ?_
      refine Aj.iload_n C 1 dX9_nightAt_31 rfl ?_
      refine Aj.idiv C dX9_nightAt_32 (by omega) (by omega) ?_
      refine Aj.iadd C dX9_nightAt_33 (by omega) ?_
      refine Aj.istore_n (al2 := [(2, qi (w + ((600 * (s (6 + (T.2.2.1 i)))) / a))), (0, qa M), (1, qi a), (3, qi i)]) C dX9_nightAt_34 (by decide) rfl ?_
      refine Aj.iinc (al2 := [(3, qi (i + 1)), (2, qi (w + ((600 * (s (6 + (T.2.2.1 i)))) / a))), (0, qa M), (1, qi a)]) C 3 dX9_nightAt_35 rfl (by decide) (by omega) rfl ?_
      refine Aj.goto (tgt := 4) C dX9_nightAt_38 (by decide) ?_
      refine Aj.pick (al2 := [(0, qa M), (1, qi a), (2, qi (w + ((600 * (s (6 + (T.2.2.1 i)))) / a))), (3, qi (i + 1))]) [2, 3, 1, 0] rfl ?_
      exact ih4 (w + ((600 * (s (6 + (T.2.2.1 i)))) / a)) (i + 1) (⟨by omega, by omega, by rw [plN_s _ _ _ hi0, hi2]⟩) (by omega)
