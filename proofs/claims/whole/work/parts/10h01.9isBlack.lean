set_option maxHeartbeats 400000 in
set_option maxRecDepth 100000 in
theorem c_X9_isBlack (l : Launch) {G : qG} {n : Int} {r h : qH} {a : Int} {M : Int} {s : Int → Int} (L : LModel G n r M) (c : IMs h M s) (g : SG s) : q_Cm l G yX9_isBlack cX9_isBlack 4 (some .boolean) 1 22 [qa M, qi a] n r h (q_Pi r (fun z h' => h = h' ∧ (z = 0 ∨ z = 1) ∧ (z = 1 ↔ blackP s a))) 0 0 := by
  refine q_enter (al := [(0, qa M), (1, qi a)]) m_X9_isBlack rfl (Nat.le_of_ble_eq_true rfl) ?_
  intro hok X C hmc hxl hin
  have gn := g.n
  refine Aj.iconst C dX9_isBlack_0 (by decide) ?_
  refine Aj.istore_n (al2 := [(2, qi 0), (0, qa M), (1, qi a)]) C dX9_isBlack_1 (by decide) rfl ?_
  refine Aj.iconst C dX9_isBlack_2 (by decide) ?_
  refine Aj.istore_n (al2 := [(3, qi 0), (2, qi 0), (0, qa M), (1, qi a)]) C dX9_isBlack_3 (by decide) rfl ?_
  refine Aj.pick (al2 := [(0, qa M), (1, qi a), (2, qi 0), (3, qi 0)]) [2, 3, 1, 0] rfl ?_
  suffices L4 : ∀ (N : Nat) (w i : Int) , (0 ≤ i ∧ i ≤ s 4 ∧ (w = 0 ∨ w = 1) ∧ BX w i (fun k => s (142 + 2 * k) ≤ a ∧ a ≤ s (143 + 2 * k))) → (s 4 - i).toNat < N → Aj G X (q_Pi r (fun z h' => h = h' ∧ (z = 0 ∨ z = 1) ∧ (z = 1 ↔ blackP s a))) cX9_isBlack 4 (0, 0) n r h 4 [(0, qa M), (1, qi a), (2, qi w), (3, qi i)] [] from L4 (_ + 1) 0 0 (⟨by omega, by omega, by omega, BX.z⟩) (Nat.lt_succ_self _)
  intro N4
  induction N4 with
  | zero => intro w i _ hN; exact absurd hN (Nat.not_lt_zero _)
  | succ N ih4 =>
    intro w i hI4 hN4
    obtain ⟨hi0, hi1, hi2, hi3⟩ := hI4
    refine Aj.iload_n C 3 dX9_isBlack_4 rfl ?_
    refine Aj.aload_n C 0 dX9_isBlack_5 rfl ?_
    refine Aj.getR C lf_RX9_7 rfl L.a L.r1 dX9_isBlack_6 ?_
    refine Aj.iconst C dX9_isBlack_9 (by decide) ?_
    refine Aj.ialde (w := s 4) C L.a1 (by omega) dX9_isBlack_10 (c _ (by omega) (by omega)) ?_
    refine Aj.icmp_ge (tgt := 63) C dX9_isBlack_11 (by decide) (fun c11 => ?_) (fun c11 => ?_)
    · refine Aj.iload_n C 2 dX9_isBlack_63 rfl ?_
      refine Aj.zret C dX9_isBlack_64 (by omega) (by rw [hmc]; exact ⟨rfl, Nat.le_of_ble_eq_true rfl⟩) ⟨_, rfl, rfl, ?_⟩
      have e : i = s 4 := by omega
      rw [e] at hi3
      exact ⟨rfl, hi2, hi3⟩
    · refine Aj.iload_n C 2 dX9_isBlack_14 rfl ?_
      refine Aj.if_ne (tgt := 51) C dX9_isBlack_15 (by decide) (fun c15 => ?_) (fun c15 => ?_)
      · refine Aj.iconst C dX9_isBlack_51 (by decide) ?_
        refine Aj.goto (tgt := 56) C dX9_isBlack_52 (by decide) ?_
        refine Aj.istore_n (al2 := [(2, qi 1), (0, qa M), (1, qi a), (3, qi i)]) C dX9_isBlack_56 (by decide) rfl ?_
        refine Aj.iinc (al2 := [(3, qi (i + 1)), (2, qi 1), (0, qa M), (1, qi a)]) C 3 dX9_isBlack_57 rfl (by decide) (by omega) rfl ?_
        refine Aj.goto (tgt := 4) C dX9_isBlack_60 (by decide) ?_
        refine Aj.pick (al2 := [(0, qa M), (1, qi a), (2, qi 1), (3, qi (i + 1))]) [2, 3, 1, 0] rfl ?_
        exact ih4 1 (i + 1) (⟨by omega, by omega, by omega, BX.s hi0 hi3 (by omega)⟩) (by omega)
      · refine Aj.iload_n C 1 dX9_isBlack_18 rfl ?_
        refine Aj.aload_n C 0 dX9_isBlack_19 rfl ?_
        refine Aj.getR C lf_RX9_7 rfl L.a L.r1 dX9_isBlack_20 ?_
        refine Aj.sipush C dX9_isBlack_23 (by decide) (by decide) ?_
        refine Aj.iconst C dX9_isBlack_26 (by decide) ?_
        refine Aj.iload_n C 3 dX9_isBlack_27 rfl ?_
        refine Aj.imul C dX9_isBlack_28 (by omega) ?_
        refine Aj.iadd C dX9_isBlack_29 (by omega) ?_
        refine Aj.ialde (w := s (142 + 2 * i)) C L.a1 (by omega) dX9_isBlack_30 ((c _ (by omega) (by omega)).trans (congrArg s (by omega))) ?_
        refine Aj.aload_n C 0 dX9_isBlack_31 rfl ?_
        refine Aj.getR C lf_RX9_7 rfl L.a L.r1 dX9_isBlack_32 ?_
        refine Aj.sipush C dX9_isBlack_35 (by decide) (by decide) ?_
        refine Aj.iconst C dX9_isBlack_38 (by decide) ?_
        refine Aj.iload_n C 3 dX9_isBlack_39 rfl ?_
        refine Aj.imul C dX9_isBlack_40 (by omega) ?_
        refine Aj.iadd C dX9_isBlack_41 (by omega) ?_
        refine Aj.iconst C dX9_isBlack_42 (by decide) ?_
        refine Aj.iadd C dX9_isBlack_43 (by omega) ?_
        refine Aj.ialde (w := s (143 + 2 * i)) C L.a1 (by omega) dX9_isBlack_44 ((c _ (by omega) (by omega)).trans (congrArg s (by omega))) ?_
        refine Aj.callSi (As := [qi a, qi (s (142 + 2 * i)), qi (s (143 + 2 * i))]) (st := []) C lm_RX9_60 m_X9_in mk_X9_in (c_X9_in _) rfl rfl (by decide) (Nat.le_of_ble_eq_true rfl) (by decide) dX9_isBlack_45 (fun z45 h_1 rz45 p45 => ?_)
        obtain ⟨rfl, pz, pe⟩ := p45
        refine Aj.if_eq (tgt := 55) C dX9_isBlack_48 (by decide) (fun c48 => ?_) (fun c48 => ?_)
        · refine Aj.iconst C dX9_isBlack_55 (by decide) ?_
          refine Aj.istore_n (al2 := [(2, qi 0), (0, qa M), (1, qi a), (3, qi i)]) C dX9_isBlack_56 (by decide) rfl ?_
          refine Aj.iinc (al2 := [(3, qi (i + 1)), (2, qi 0), (0, qa M), (1, qi a)]) C 3 dX9_isBlack_57 rfl (by decide) (by omega) rfl ?_
          refine Aj.goto (tgt := 4) C dX9_isBlack_60 (by decide) ?_
          refine Aj.pick (al2 := [(0, qa M), (1, qi a), (2, qi 0), (3, qi (i + 1))]) [2, 3, 1, 0] rfl ?_
          exact ih4 0 (i + 1) (⟨by omega, by omega, by omega, BX.s hi0 hi3 (by omega)⟩) (by omega)
        · refine Aj.iconst C dX9_isBlack_51 (by decide) ?_
          refine Aj.goto (tgt := 56) C dX9_isBlack_52 (by decide) ?_
          refine Aj.istore_n (al2 := [(2, qi 1), (0, qa M), (1, qi a), (3, qi i)]) C dX9_isBlack_56 (by decide) rfl ?_
          refine Aj.iinc (al2 := [(3, qi (i + 1)), (2, qi 1), (0, qa M), (1, qi a)]) C 3 dX9_isBlack_57 rfl (by decide) (by omega) rfl ?_
          refine Aj.goto (tgt := 4) C dX9_isBlack_60 (by decide) ?_
          refine Aj.pick (al2 := [(0, qa M), (1, qi a), (2, qi 1), (3, qi (i + 1))]) [2, 3, 1, 0] rfl ?_
          exact ih4 1 (i + 1) (⟨by omega, by omega, by omega, BX.s hi0 hi3 (by omega)⟩) (by omega)
