set_option maxHeartbeats 400000 in
set_option maxRecDepth 100000 in
theorem c_X9_refusesRepeat (l : Launch) {G : qG} {n : Int} {r h : qH} {a b : Int} {M : Int} {s : Int → Int} (L : LModel G n r M) (c : IMs h M s) (g : SG s) : q_Cm l G yX9_refusesRepeat cX9_refusesRepeat 5 (some .int) 3 66 [qa M, qi a, qi b] n r h (q_Pi r (fun z h' => h = h' ∧ ((¬ (barP s a ∧ barP s b) ∧ z = -1) ∨ ((barP s a ∧ barP s b) ∧ b < a ∧ z = -2) ∨ ((barP s a ∧ barP s b) ∧ a ≤ b ∧ s 2 = 4 ∧ z = -4) ∨ ((barP s a ∧ barP s b) ∧ a ≤ b ∧ s 2 ≠ 4 ∧ meetR s a b ∧ z = -5) ∨ ((barP s a ∧ barP s b) ∧ a ≤ b ∧ s 2 ≠ 4 ∧ ¬ meetR s a b ∧ z = 0)))) 0 0 := by
  refine q_enter (al := [(0, qa M), (1, qi a), (2, qi b)]) m_X9_refusesRepeat rfl (Nat.le_of_ble_eq_true rfl) ?_
  intro hok X C hmc hxl hin
  have gn := g.n
  refine Aj.aload_n C 0 dX9_refusesRepeat_0 rfl ?_
  refine Aj.iload_n C 1 dX9_refusesRepeat_1 rfl ?_
  refine Aj.iload_n C 2 dX9_refusesRepeat_2 rfl ?_
  refine Aj.iconst C dX9_refusesRepeat_3 (by decide) ?_
  refine Aj.callVi (As := [qi a, qi b, qi 2]) (st := []) C lm_RX9_141 m_X9_refusesSpan mk_X9_refusesSpan ms_X9_refusesSpan (c_X9_refusesSpan _ (d := 2) (by omega) L c g) L.a (t := 9) rfl rfl rfl rfl (by decide) (Nat.le_of_ble_eq_true rfl) (by decide) dX9_refusesRepeat_4 (fun z4 h_1 rz4 p4 => ?_)
  obtain ⟨rfl, ps⟩ := p4
  refine Aj.istore_n (al2 := [(3, qi z4), (0, qa M), (1, qi a), (2, qi b)]) C dX9_refusesRepeat_7 (by decide) rfl ?_
  refine Aj.iconst C dX9_refusesRepeat_8 (by decide) ?_
  refine Aj.istore (al2 := [(4, qi 0), (3, qi z4), (0, qa M), (1, qi a), (2, qi b)]) C dX9_refusesRepeat_9 (by decide) rfl ?_
  refine Aj.pick (al2 := [(0, qa M), (1, qi a), (2, qi b), (3, qi z4), (4, qi 0)]) [2, 3, 4, 1, 0] rfl ?_
  suffices L11 : ∀ (N : Nat) (w i : Int) , (0 ≤ i ∧ i ≤ s 2 ∧ ((w = z4 ∧ (z4 ≠ 0 ∨ ∀ k, 0 ≤ k → k < i → ¬ (s (126 + 2 * k) ≤ b ∧ a ≤ s (127 + 2 * k)))) ∨ (z4 = 0 ∧ w = -5 ∧ meetR s a b))) → (s 2 - i).toNat < N → Aj G X (q_Pi r (fun z h' => h = h' ∧ ((¬ (barP s a ∧ barP s b) ∧ z = -1) ∨ ((barP s a ∧ barP s b) ∧ b < a ∧ z = -2) ∨ ((barP s a ∧ barP s b) ∧ a ≤ b ∧ s 2 = 4 ∧ z = -4) ∨ ((barP s a ∧ barP s b) ∧ a ≤ b ∧ s 2 ≠ 4 ∧ meetR s a b ∧ z = -5) ∨ ((barP s a ∧ barP s b) ∧ a ≤ b ∧ s 2 ≠ 4 ∧ ¬ meetR s a b ∧ z = 0)))) cX9_refusesRepeat 5 (0, 0) n r h 11 [(0, qa M), (1, qi a), (2, qi b), (3, qi w), (4, qi i)] [] from L11 (_ + 1) z4 0 (⟨by omega, by omega, Or.inl ⟨rfl, Or.inr (fun k k1 k2 => by omega)⟩⟩) (Nat.lt_succ_self _)
  intro N11
  induction N11 with
  | zero => intro w i _ hN; exact absurd hN (Nat.not_lt_zero _)
  | succ N ih11 =>
    intro w i hI11 hN11
    obtain ⟨hi0, hi1, hi2⟩ := hI11
    have hw : w = z4 ∨ (z4 = 0 ∧ w = -5) := by
      rcases hi2 with ⟨q, _⟩ | ⟨q1, q2, _⟩
      · exact Or.inl q
      · exact Or.inr ⟨q1, q2⟩
    refine Aj.iload C 4 dX9_refusesRepeat_11 rfl ?_
    refine Aj.aload_n C 0 dX9_refusesRepeat_13 rfl ?_
    refine Aj.getR C lf_RX9_7 rfl L.a L.r1 dX9_refusesRepeat_14 ?_
    refine Aj.iconst C dX9_refusesRepeat_17 (by decide) ?_
    refine Aj.ialde (w := s 2) C L.a1 (by omega) dX9_refusesRepeat_18 (c _ (by omega) (by omega)) ?_
    refine Aj.icmp_ge (tgt := 73) C dX9_refusesRepeat_19 (by decide) (fun c19 => ?_) (fun c19 => ?_)
    · refine Aj.iload_n C 3 dX9_refusesRepeat_73 rfl ?_
      refine Aj.iret C dX9_refusesRepeat_74 (by rw [hmc]; exact ⟨rfl, Nat.le_of_ble_eq_true rfl⟩) ⟨_, rfl, rfl, ?_⟩
      refine ⟨rfl, ?_⟩
      rcases hi2 with ⟨q1, q2⟩ | ⟨q1, q2, q3⟩
      · rcases ps with ⟨a1, a2⟩ | ⟨a1, a2, a3⟩ | ⟨a1, a2, a3, a4⟩ | ⟨a1, a2, a3, a4⟩
        · exact Or.inl ⟨a1, by omega⟩
        · exact Or.inr (Or.inl ⟨a1, a2, by omega⟩)
        · exact Or.inr (Or.inr (Or.inl ⟨a1, a2, a3, by omega⟩))
        · refine Or.inr (Or.inr (Or.inr (Or.inr ⟨a1, a2, a3, ?_, by omega⟩)))
          rcases q2 with q2 | q2
          · omega
          · have e : i = s 2 := by clear q2 a1; omega
            rintro ⟨k, k1, k2, k3⟩
            exact q2 k k1 (by omega) k3
      · rcases ps with ⟨a1, a2⟩ | ⟨a1, a2, a3⟩ | ⟨a1, a2, a3, a4⟩ | ⟨a1, a2, a3, a4⟩
        · omega
        · omega
        · omega
        · exact Or.inr (Or.inr (Or.inr (Or.inl ⟨a1, a2, a3, q3, q2⟩)))
    · refine Aj.iload_n C 3 dX9_refusesRepeat_22 rfl ?_
      refine Aj.if_ne (tgt := 73) C dX9_refusesRepeat_23 (by decide) (fun c23 => ?_) (fun c23 => ?_)
      · refine Aj.iload_n C 3 dX9_refusesRepeat_73 rfl ?_
        refine Aj.iret C dX9_refusesRepeat_74 (by rw [hmc]; exact ⟨rfl, Nat.le_of_ble_eq_true rfl⟩) ⟨_, rfl, rfl, ?_⟩
        refine ⟨rfl, ?_⟩
        rcases hi2 with ⟨q1, q2⟩ | ⟨q1, q2, q3⟩
        · rcases ps with ⟨a1, a2⟩ | ⟨a1, a2, a3⟩ | ⟨a1, a2, a3, a4⟩ | ⟨a1, a2, a3, a4⟩
          · exact Or.inl ⟨a1, by omega⟩
          · exact Or.inr (Or.inl ⟨a1, a2, by omega⟩)
          · exact Or.inr (Or.inr (Or.inl ⟨a1, a2, a3, by omega⟩))
          · refine Or.inr (Or.inr (Or.inr (Or.inr ⟨a1, a2, a3, ?_, by omega⟩)))
            rcases q2 with q2 | q2
            · omega
            · have e : i = s 2 := by clear q2 a1; omega
              rintro ⟨k, k1, k2, k3⟩
              exact q2 k k1 (by omega) k3
        · rcases ps with ⟨a1, a2⟩ | ⟨a1, a2, a3⟩ | ⟨a1, a2, a3, a4⟩ | ⟨a1, a2, a3, a4⟩
          · omega
          · omega
          · omega
          · exact Or.inr (Or.inr (Or.inr (Or.inl ⟨a1, a2, a3, q3, q2⟩)))
      · refine Aj.iload_n C 1 dX9_refusesRepeat_26 rfl ?_
        refine Aj.aload_n C 0 dX9_refusesRepeat_27 rfl ?_
        refine Aj.getR C lf_RX9_7 rfl L.a L.r1 dX9_refusesRepeat_28 ?_
        refine Aj.bipush C dX9_refusesRepeat_31 (by decide) (by decide) ?_
        refine Aj.iconst C dX9_refusesRepeat_33 (by decide) ?_
        refine Aj.iload C 4 dX9_refusesRepeat_34 rfl ?_
        refine Aj.imul C dX9_refusesRepeat_36 (by omega) ?_
        refine Aj.iadd C dX9_refusesRepeat_37 (by omega) ?_
        refine Aj.iconst C dX9_refusesRepeat_38 (by decide) ?_
        refine Aj.iadd C dX9_refusesRepeat_39 (by omega) ?_
        refine Aj.ialde (w := s (127 + 2 * i)) C L.a1 (by omega) dX9_refusesRepeat_40 ((c _ (by omega) (by omega)).trans (congrArg s (by omega))) ?_
        refine Aj.icmp_gt (tgt := 65) C dX9_refusesRepeat_41 (by decide) (fun c41 => ?_) (fun c41 => ?_)
        · refine Aj.iconst C dX9_refusesRepeat_65 (by decide) ?_
          refine Aj.istore_n (al2 := [(3, qi 0), (0, qa M), (1, qi a), (2, qi b), (4, qi i)]) C dX9_refusesRepeat_66 (by decide) rfl ?_
          refine Aj.iinc (al2 := [(4, qi (i + 1)), (3, qi 0), (0, qa M), (1, qi a), (2, qi b)]) C 4 dX9_refusesRepeat_67 rfl (by decide) (by omega) rfl ?_
          refine Aj.goto (tgt := 11) C dX9_refusesRepeat_70 (by decide) ?_
          refine Aj.pick (al2 := [(0, qa M), (1, qi a), (2, qi b), (3, qi 0), (4, qi (i + 1))]) [2, 3, 4, 1, 0] rfl ?_
          exact ih11 0 (i + 1) (by
            rcases hi2 with ⟨q1, q2⟩ | ⟨q1, q2, _⟩
            · refine ⟨by omega, by omega, ?_⟩
              first
              | exact Or.inr ⟨by omega, rfl, ⟨i, hi0, by omega, by omega, by omega⟩⟩
              | exact Or.inl ⟨by omega, Or.inr (fun k k1 k2 => by
                  by_cases e : k = i
                  · subst e; omega
                  · rcases q2 with q2 | q2
                    · omega
                    · exact q2 k k1 (by omega))⟩
            · exfalso; omega) (by clear hi2; omega)
        · refine Aj.iload_n C 2 dX9_refusesRepeat_44 rfl ?_
          refine Aj.aload_n C 0 dX9_refusesRepeat_45 rfl ?_
          refine Aj.getR C lf_RX9_7 rfl L.a L.r1 dX9_refusesRepeat_46 ?_
          refine Aj.bipush C dX9_refusesRepeat_49 (by decide) (by decide) ?_
          refine Aj.iconst C dX9_refusesRepeat_51 (by decide) ?_
          refine Aj.iload C 4 dX9_refusesRepeat_52 rfl ?_
          refine Aj.imul C dX9_refusesRepeat_54 (by omega) ?_
          refine Aj.iadd C dX9_refusesRepeat_55 (by omega) ?_
          refine Aj.ialde (w := s (126 + 2 * i)) C L.a1 (by omega) dX9_refusesRepeat_56 ((c _ (by omega) (by omega)).trans (congrArg s (by omega))) ?_
          refine Aj.icmp_lt (tgt := 65) C dX9_refusesRepeat_57 (by decide) (fun c57 => ?_) (fun c57 => ?_)
          · refine Aj.iconst C dX9_refusesRepeat_65 (by decide) ?_
            refine Aj.istore_n (al2 := [(3, qi 0), (0, qa M), (1, qi a), (2, qi b), (4, qi i)]) C dX9_refusesRepeat_66 (by decide) rfl ?_
            refine Aj.iinc (al2 := [(4, qi (i + 1)), (3, qi 0), (0, qa M), (1, qi a), (2, qi b)]) C 4 dX9_refusesRepeat_67 rfl (by decide) (by omega) rfl ?_
            refine Aj.goto (tgt := 11) C dX9_refusesRepeat_70 (by decide) ?_
            refine Aj.pick (al2 := [(0, qa M), (1, qi a), (2, qi b), (3, qi 0), (4, qi (i + 1))]) [2, 3, 4, 1, 0] rfl ?_
            exact ih11 0 (i + 1) (by
              rcases hi2 with ⟨q1, q2⟩ | ⟨q1, q2, _⟩
              · refine ⟨by omega, by omega, ?_⟩
                first
                | exact Or.inr ⟨by omega, rfl, ⟨i, hi0, by omega, by omega, by omega⟩⟩
                | exact Or.inl ⟨by omega, Or.inr (fun k k1 k2 => by
                    by_cases e : k = i
                    · subst e; omega
                    · rcases q2 with q2 | q2
                      · omega
                      · exact q2 k k1 (by omega))⟩
              · exfalso; omega) (by clear hi2; omega)
          · refine Aj.bipush C dX9_refusesRepeat_60 (by decide) (by decide) ?_
            refine Aj.goto (tgt := 66) C dX9_refusesRepeat_62 (by decide) ?_
            refine Aj.istore_n (al2 := [(3, qi (-5)), (0, qa M), (1, qi a), (2, qi b), (4, qi i)]) C dX9_refusesRepeat_66 (by decide) rfl ?_
            refine Aj.iinc (al2 := [(4, qi (i + 1)), (3, qi (-5)), (0, qa M), (1, qi a), (2, qi b)]) C 4 dX9_refusesRepeat_67 rfl (by decide) (by omega) rfl ?_
            refine Aj.goto (tgt := 11) C dX9_refusesRepeat_70 (by decide) ?_
            refine Aj.pick (al2 := [(0, qa M), (1, qi a), (2, qi b), (3, qi (-5)), (4, qi (i + 1))]) [2, 3, 4, 1, 0] rfl ?_
            exact ih11 (-5) (i + 1) (by
              rcases hi2 with ⟨q1, q2⟩ | ⟨q1, q2, _⟩
              · refine ⟨by omega, by omega, ?_⟩
                first
                | exact Or.inr ⟨by omega, rfl, ⟨i, hi0, by omega, by omega, by omega⟩⟩
                | exact Or.inl ⟨by omega, Or.inr (fun k k1 k2 => by
                    by_cases e : k = i
                    · subst e; omega
                    · rcases q2 with q2 | q2
                      · omega
                      · exact q2 k k1 (by omega))⟩
              · exfalso; omega) (by clear hi2; omega)
