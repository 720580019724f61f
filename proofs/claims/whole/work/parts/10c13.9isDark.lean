set_option maxHeartbeats 400000 in
set_option maxRecDepth 100000 in
theorem c_X9_isDark (l : Launch) {G : qG} {n : Int} {r h : qH} {a : Int} {M : Int} {s : Int → Int} (L : LModel G n r M) (c : IMs h M s) (g : SG s) {T : qT} (d : CP h M T) (t : TG T) (hT : T.1 ≤ 120) : q_Cm l G yX9_isDark cX9_isDark 5 (some .boolean) 1 21 [qa M, qi a] n r h (q_Pi r (fun z h' => h = h' ∧ (z = 0 ∨ z = 1) ∧ (z = 1 ↔ darkP s T a))) 0 0 := by
  refine q_enter (al := [(0, qa M), (1, qi a)]) m_X9_isDark rfl (Nat.le_of_ble_eq_true rfl) ?_
  intro hok X C hmc hxl hin
  have gn := g.n
  have t0 := t.1
  refine Aj.iconst C dX9_isDark_0 (by decide) ?_
  refine Aj.istore_n (al2 := [(2, qi 0), (0, qa M), (1, qi a)]) C dX9_isDark_1 (by decide) rfl ?_
  refine Aj.iconst C dX9_isDark_2 (by decide) ?_
  refine Aj.istore_n (al2 := [(3, qi 0), (2, qi 0), (0, qa M), (1, qi a)]) C dX9_isDark_3 (by decide) rfl ?_
  refine Aj.pick (al2 := [(0, qa M), (1, qi a), (2, qi 0), (3, qi 0)]) [2, 3, 1, 0] rfl ?_
  suffices L4 : ∀ (N : Nat) (w i : Int) , (0 ≤ i ∧ i ≤ s 4 ∧ (w = 0 ∨ w = 1) ∧ BX w i (fun k => s (142 + 2 * k) < T.1 ∧ T.2.2.2 (s (142 + 2 * k)) ≤ a ∧ a < bOE T (s (143 + 2 * k) + 1))) → (s 4 - i).toNat < N → Aj G X (q_Pi r (fun z h' => h = h' ∧ (z = 0 ∨ z = 1) ∧ (z = 1 ↔ darkP s T a))) cX9_isDark 5 (0, 0) n r h 4 [(0, qa M), (1, qi a), (2, qi w), (3, qi i)] [] from L4 (_ + 1) 0 0 (⟨by omega, by omega, by omega, BX.z⟩) (Nat.lt_succ_self _)
  intro N4
  induction N4 with
  | zero => intro w i _ hN; exact absurd hN (Nat.not_lt_zero _)
  | succ N ih4 =>
    intro w i hI4 hN4
    obtain ⟨hi0, hi1, hi2, hi3⟩ := hI4
    refine Aj.iload_n C 3 dX9_isDark_4 rfl ?_
    refine Aj.aload_n C 0 dX9_isDark_5 rfl ?_
    refine Aj.getR C lf_RX9_7 rfl L.a L.r1 dX9_isDark_6 ?_
    refine Aj.iconst C dX9_isDark_9 (by decide) ?_
    refine Aj.ialde (w := s 4) C L.a1 (by omega) dX9_isDark_10 (c _ (by omega) (by omega)) ?_
    refine Aj.icmp_ge (tgt := 88) C dX9_isDark_11 (by decide) (fun c11 => ?_) (fun c11 => ?_)
    · refine Aj.iload_n C 2 dX9_isDark_88 rfl ?_
      refine Aj.zret C dX9_isDark_89 (by omega) (by rw [hmc]; exact ⟨rfl, Nat.le_of_ble_eq_true rfl⟩) ⟨_, rfl, rfl, ?_⟩
      have e : i = s 4 := by omega
      rw [e] at hi3
      exact ⟨rfl, hi2, hi3⟩
    · have gb := g.bl i hi0 (by omega)
      refine Aj.aload_n C 0 dX9_isDark_14 rfl ?_
      refine Aj.getR C lf_RX9_7 rfl L.a L.r1 dX9_isDark_15 ?_
      refine Aj.sipush C dX9_isDark_18 (by decide) (by decide) ?_
      refine Aj.iconst C dX9_isDark_21 (by decide) ?_
      refine Aj.iload_n C 3 dX9_isDark_22 rfl ?_
      refine Aj.imul C dX9_isDark_23 (by omega) ?_
      refine Aj.iadd C dX9_isDark_24 (by omega) ?_
      refine Aj.ialde (w := s (142 + 2 * i)) C L.a1 (by omega) dX9_isDark_25 ((c _ (by omega) (by omega)).trans (congrArg s (by omega))) ?_
      refine Aj.istore (al2 := [(4, qi (s (142 + 2 * i))), (0, qa M), (1, qi a), (2, qi w), (3, qi i)]) C dX9_isDark_26 (by decide) rfl ?_
      refine Aj.iload_n C 3 dX9_isDark_28 rfl ?_
      refine Aj.if_ne (tgt := 76) C dX9_isDark_29 (by decide) (fun c29 => ?_) (fun c29 => ?_)
      · refine Aj.iconst C dX9_isDark_76 (by decide) ?_
        refine Aj.goto (tgt := 81) C dX9_isDark_77 (by decide) ?_
        refine Aj.istore_n (al2 := [(2, qi 1), (4, qi (s (142 + 2 * i))), (0, qa M), (1, qi a), (3, qi i)]) C dX9_isDark_81 (by decide) rfl ?_
        refine Aj.iinc (al2 := [(3, qi (i + 1)), (2, qi 1), (4, qi (s (142 + 2 * i))), (0, qa M), (1, qi a)]) C 4 dX9_isDark_82 rfl (by decide) (by omega) rfl ?_
        refine Aj.goto (tgt := 4) C dX9_isDark_85 (by decide) ?_
        refine Aj.pick (al2 := [(0, qa M), (1, qi a), (2, qi 1), (3, qi (i + 1))]) [3, 4, 1, 0] rfl ?_
        exact ih4 1 (i + 1) (⟨by omega, by omega, by omega, BX.s hi0 hi3 (by omega)⟩) (by omega)
      · refine Aj.iload C 0 dX9_isDark_32 rfl ?_
        refine Aj.aload_n C 1 dX9_isDark_34 rfl ?_
        refine Aj.getIe (z := T.1) C lf_RX9_71 rfl L.a dX9_isDark_35 d.1 ?_
        refine Aj.icmp_ge (tgt := 80) C dX9_isDark_38 (by decide) (fun c38 => ?_) (fun c38 => ?_)
        · refine Aj.iconst C dX9_isDark_80 (by decide) ?_
          refine Aj.istore_n (al2 := [(2, qi 0), (4, qi (s (142 + 2 * i))), (0, qa M), (1, qi a), (3, qi i)]) C dX9_isDark_81 (by decide) rfl ?_
          refine Aj.iinc (al2 := [(3, qi (i + 1)), (2, qi 0), (4, qi (s (142 + 2 * i))), (0, qa M), (1, qi a)]) C 4 dX9_isDark_82 rfl (by decide) (by omega) rfl ?_
          refine Aj.goto (tgt := 4) C dX9_isDark_85 (by decide) ?_
          refine Aj.pick (al2 := [(0, qa M), (1, qi a), (2, qi 0), (3, qi (i + 1))]) [3, 4, 1, 0] rfl ?_
          exact ih4 0 (i + 1) (⟨by omega, by omega, by omega, BX.s hi0 hi3 (by omega)⟩) (by omega)
        · refine Aj.iload_n C 2 dX9_isDark_41 rfl ?_
          refine Aj.aload_n C 1 dX9_isDark_42 rfl ?_
          refine Aj.getR C lf_RX9_29 rfl L.a L.r9 dX9_isDark_43 ?_
          refine Aj.iload C 0 dX9_isDark_46 rfl ?_
          refine Aj.ialde (w := T.2.2.2 (s (142 + 2 * i))) C L.a7 (by omega) dX9_isDark_48 (d.2.2 _ (by omega) (by omega)).2 ?_
          refine Aj.icmp_lt (tgt := 80) C dX9_isDark_49 (by decide) (fun c49 => ?_) (fun c49 => ?_)
          · refine Aj.iconst C dX9_isDark_80 (by decide) ?_
            refine Aj.istore_n (al2 := [(2, qi 0), (4, qi (s (142 + 2 * i))), (0, qa M), (1, qi a), (3, qi i)]) C dX9_isDark_81 (by decide) rfl ?_
            refine Aj.iinc (al2 := [(3, qi (i + 1)), (2, qi 0), (4, qi (s (142 + 2 * i))), (0, qa M), (1, qi a)]) C 4 dX9_isDark_82 rfl (by decide) (by omega) rfl ?_
            refine Aj.goto (tgt := 4) C dX9_isDark_85 (by decide) ?_
            refine Aj.pick (al2 := [(0, qa M), (1, qi a), (2, qi 0), (3, qi (i + 1))]) [3, 4, 1, 0] rfl ?_
            exact ih4 0 (i + 1) (⟨by omega, by omega, by omega, BX.s hi0 hi3 (by omega)⟩) (by omega)
          · refine Aj.iload_n C 2 dX9_isDark_52 rfl ?_
            refine Aj.aload_n C 1 dX9_isDark_53 rfl ?_
            refine Aj.aload_n C 1 dX9_isDark_54 rfl ?_
            refine Aj.getR C lf_RX9_7 rfl L.a L.r1 dX9_isDark_55 ?_
            refine Aj.sipush C dX9_isDark_58 (by decide) (by decide) ?_
            refine Aj.iconst C dX9_isDark_61 (by decide) ?_
            refine Aj.iload_n C 4 dX9_isDark_62 rfl ?_
            refine Aj.imul C dX9_isDark_63 (by omega) ?_
            refine Aj.iadd C dX9_isDark_64 (by omega) ?_
            refine Aj.iconst C dX9_isDark_65 (by decide) ?_
            refine Aj.iadd C dX9_isDark_66 (by omega) ?_
            refine Aj.ialde (w := s (143 + 2 * i)) C L.a1 (by omega) dX9_isDark_67 ((c _ (by omega) (by omega)).trans (congrArg s (by omega))) ?_
            refine Aj.iconst C dX9_isDark_68 (by decide) ?_
            refine Aj.iadd C dX9_isDark_69 (by omega) ?_
            refine Aj.callVi (As := [qi (s (143 + 2 * i) + 1)]) (st := [qi a]) C lm_RX9_99 m_X9_beginOf mk_X9_beginOf ms_X9_beginOf (c_X9_beginOf _ (by omega) L c g d t hT) L.a (t := 9) rfl rfl rfl rfl (by decide) (Nat.le_of_ble_eq_true rfl) (by decide) dX9_isDark_70 (fun z70 h_1 rz70 p70 => ?_)
            obtain ⟨rfl, pb⟩ := p70
            refine Aj.icmp_ge (tgt := 80) C dX9_isDark_73 (by decide) (fun c73 => ?_) (fun c73 => ?_)
            · refine Aj.iconst C dX9_isDark_80 (by decide) ?_
              refine Aj.istore_n (al2 := [(2, qi 0), (4, qi (s (142 + 2 * i))), (0, qa M), (1, qi a), (3, qi i)]) C dX9_isDark_81 (by decide) rfl ?_
              refine Aj.iinc (al2 := [(3, qi (i + 1)), (2, qi 0), (4, qi (s (142 + 2 * i))), (0, qa M), (1, qi a)]) C 4 dX9_isDark_82 rfl (by decide) (by omega) rfl ?_
              refine Aj.goto (tgt := 4) C dX9_isDark_85 (by decide) ?_
              refine Aj.pick (al2 := [(0, qa M), (1, qi a), (2, qi 0), (3, qi (i + 1))]) [3, 4, 1, 0] rfl ?_
              exact ih4 0 (i + 1) (⟨by omega, by omega, by omega, BX.s hi0 hi3 (by omega)⟩) (by omega)
            · refine Aj.iconst C dX9_isDark_76 (by decide) ?_
              refine Aj.goto (tgt := 81) C dX9_isDark_77 (by decide) ?_
              refine Aj.istore_n (al2 := [(2, qi 1), (4, qi (s (142 + 2 * i))), (0, qa M), (1, qi a), (3, qi i)]) C dX9_isDark_81 (by decide) rfl ?_
              refine Aj.iinc (al2 := [(3, qi (i + 1)), (2, qi 1), (4, qi (s (142 + 2 * i))), (0, qa M), (1, qi a)]) C 4 dX9_isDark_82 rfl (by decide) (by omega) rfl ?_
              refine Aj.goto (tgt := 4) C dX9_isDark_85 (by decide) ?_
              refine Aj.pick (al2 := [(0, qa M), (1, qi a), (2, qi 1), (3, qi (i + 1))]) [3, 4, 1, 0] rfl ?_
              exact ih4 1 (i + 1) (⟨by omega, by omega, by omega, BX.s hi0 hi3 (by omega)⟩) (by omega)
