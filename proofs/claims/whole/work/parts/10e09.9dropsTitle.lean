set_option maxHeartbeats 400000 in
set_option maxRecDepth 100000 in
theorem c_X9_dropsTitle (l : Launch) {G : qG} {n : Int} {r h : qH} {s : Int → Int} {a : Int} (hs : 0 ≤ s 5 ∧ s 5 ≤ 20) (ha : 0 ≤ a ∧ a < s 5) {M : Int} (L : LModel G n r M) (c : IMs h M s) : q_Cm l G yX9_dropsTitle cX9_dropsTitle 3 (some .int) 0 0 [qa M, qi a] n r h (q_Pi r (fun z h' => z = s 5 - 1 ∧ IMs h' M (U_drop s a) ∧ FX M h h')) 0 0 := by
  refine q_enter (al := [(0, qa M), (1, qi a)]) m_X9_dropsTitle rfl (Nat.le_of_ble_eq_true rfl) ?_
  intro hok X C hmc hxl hin
  refine Aj.aload_n C 0 dX9_dropsTitle_0 rfl ?_
  refine Aj.getR C lf_RX9_7 rfl L.a L.r1 dX9_dropsTitle_1 ?_
  refine Aj.iconst C dX9_dropsTitle_4 (by decide) ?_
  refine Aj.dup2 C dX9_dropsTitle_5 ?_
  refine Aj.ialde (w := s 5) C L.a1 (by omega) dX9_dropsTitle_6 (c _ (by omega) (by omega)) ?_
  refine Aj.iconst C dX9_dropsTitle_7 (by decide) ?_
  refine Aj.isub C dX9_dropsTitle_8 (by omega) ?_
  refine Aj.iast C L.a1 (by omega) dX9_dropsTitle_9 (fun h_1 eh_1 => ?_)
  refine Aj.iconst C dX9_dropsTitle_10 (by decide) ?_
  refine Aj.iload_n C 1 dX9_dropsTitle_11 rfl ?_
  refine Aj.imul C dX9_dropsTitle_12 (by omega) ?_
  refine Aj.istore_n (al2 := [(2, qi (4 * a)), (0, qa M), (1, qi a)]) C dX9_dropsTitle_13 (by decide) rfl ?_
  refine Aj.pick (al2 := [(0, qa M), (1, qi a), (2, qi (4 * a))]) [1, 2, 0] rfl ?_
  suffices L14 : ∀ (N : Nat) (k : Int) (h1 : qH) , (4 * a ≤ k ∧ k ≤ 4 * (s 5 - 1) ∧ (∀ j, 0 ≤ j → j < 228 → h1 (M + 1) j = if j = 5 then s 5 - 1 else if 148 + 4 * a ≤ j ∧ j < 148 + k then s (j + 4) else s j) ∧ FX M h h1) → (4 * (s 5 - 1) - k).toNat < N → Aj G X (q_Pi r (fun z h' => z = s 5 - 1 ∧ IMs h' M (U_drop s a) ∧ FX M h h')) cX9_dropsTitle 3 (0, 0) n r h1 14 [(0, qa M), (1, qi a), (2, qi k)] [] from L14 (_ + 1) (4 * a) h_1 (⟨by omega, by omega, fun j j1 j2 => by
    rw [eh_1, hset_ap]
    by_cases q : j = 5
    · rw [if_pos ⟨rfl, q⟩, if_pos q]
    · rw [if_neg (fun w => q w.2), if_neg q, if_neg (by omega)]; exact c j j1 j2, FX.set eh_1⟩) (Nat.lt_succ_self _)
  intro N14
  induction N14 with
  | zero => intro k h1 _ hN; exact absurd hN (Nat.not_lt_zero _)
  | succ N ih14 =>
    intro k h1 hI14 hN14
    obtain ⟨hk0, hk1, hk2, hk3⟩ := hI14
    refine Aj.iload_n C 2 dX9_dropsTitle_14 rfl ?_
    refine Aj.iconst C dX9_dropsTitle_15 (by decide) ?_
    refine Aj.aload_n C 0 dX9_dropsTitle_16 rfl ?_
    refine Aj.getR C lf_RX9_7 rfl L.a L.r1 dX9_dropsTitle_17 ?_
    refine Aj.iconst C dX9_dropsTitle_20 (by decide) ?_
    refine Aj.ialde (w := s 5 - 1) C L.a1 (by omega) dX9_dropsTitle_21 ((hk2 _ (by omega) (by omega)).trans (if_pos rfl)) ?_
    refine Aj.imul C dX9_dropsTitle_22 (by omega) ?_
    refine Aj.icmp_ge (tgt := 54) C dX9_dropsTitle_23 (by decide) (fun c23 => ?_) (fun c23 => ?_)
    · refine Aj.iconst C dX9_dropsTitle_54 (by decide) ?_
      refine Aj.istore_n (al2 := [(2, qi 0), (0, qa M), (1, qi a)]) C dX9_dropsTitle_55 (by decide) rfl ?_
      refine Aj.pick (al2 := [(0, qa M), (1, qi a), (2, qi 0)]) [1, 2, 0] rfl ?_
      suffices L56 : ∀ (N : Nat) (i : Int) (h2 : qH) , (0 ≤ i ∧ i ≤ 4 ∧ (∀ j, 0 ≤ j → j < 228 → h2 (M + 1) j = if j = 5 then s 5 - 1 else if 148 + 4 * a ≤ j ∧ j < 148 + 4 * (s 5 - 1) then s (j + 4) else if 148 + 4 * (s 5 - 1) ≤ j ∧ j < 148 + 4 * (s 5 - 1) + i then 0 else s j) ∧ FX M h h2) → (4 - i).toNat < N → Aj G X (q_Pi r (fun z h' => z = s 5 - 1 ∧ IMs h' M (U_drop s a) ∧ FX M h h')) cX9_dropsTitle 3 (0, 0) n r h2 56 [(0, qa M), (1, qi a), (2, qi i)] [] from L56 (_ + 1) 0 h1 (⟨by omega, by omega, fun j j1 j2 => by
          rw [hk2 j j1 j2, show k = 4 * (s 5 - 1) by omega]
          by_cases q2 : j = 5
          · rw [if_pos q2, if_pos q2]
          · rw [if_neg q2, if_neg q2]
            by_cases q3 : 148 + 4 * a ≤ j ∧ j < 148 + 4 * (s 5 - 1)
            · rw [if_pos q3, if_pos q3]
            · rw [if_neg q3, if_neg q3, if_neg (by omega)], hk3⟩) (Nat.lt_succ_self _)
      intro N56
      induction N56 with
      | zero => intro i h2 _ hN; exact absurd hN (Nat.not_lt_zero _)
      | succ N ih56 =>
        intro i h2 hI56 hN56
        obtain ⟨hi0, hi1, hi2, hi3⟩ := hI56
        refine Aj.iload_n C 2 dX9_dropsTitle_56 rfl ?_
        refine Aj.iconst C dX9_dropsTitle_57 (by decide) ?_
        refine Aj.icmp_ge (tgt := 87) C dX9_dropsTitle_58 (by decide) (fun c58 => ?_) (fun c58 => ?_)
        · refine Aj.aload_n C 0 dX9_dropsTitle_87 rfl ?_
          refine Aj.getR C lf_RX9_7 rfl L.a L.r1 dX9_dropsTitle_88 ?_
          refine Aj.iconst C dX9_dropsTitle_91 (by decide) ?_
          refine Aj.ialde (w := s 5 - 1) C L.a1 (by omega) dX9_dropsTitle_92 ((hi2 _ (by omega) (by omega)).trans (if_pos rfl)) ?_
          refine Aj.iret C dX9_dropsTitle_93 (by rw [hmc]; exact ⟨rfl, Nat.le_of_ble_eq_true rfl⟩) ⟨_, rfl, rfl, ?_⟩
          exact ⟨rfl, fun j j1 j2 => by
              rw [hi2 j j1 j2, show i = 4 by omega]
              rfl, hi3⟩
        · refine Aj.aload_n C 0 dX9_dropsTitle_61 rfl ?_
          refine Aj.getR C lf_RX9_7 rfl L.a L.r1 dX9_dropsTitle_62 ?_
          refine Aj.sipush C dX9_dropsTitle_65 (by decide) (by decide) ?_
          refine Aj.iconst C dX9_dropsTitle_68 (by decide) ?_
          refine Aj.aload_n C 0 dX9_dropsTitle_69 rfl ?_
          refine Aj.getR C lf_RX9_7 rfl L.a L.r1 dX9_dropsTitle_70 ?_
          refine Aj.iconst C dX9_dropsTitle_73 (by decide) ?_
          refine Aj.ialde (w := s 5 - 1) C L.a1 (by omega) dX9_dropsTitle_74 ((hi2 _ (by omega) (by omega)).trans (if_pos rfl)) ?_
          refine Aj.imul C dX9_dropsTitle_75 (by omega) ?_
          refine Aj.iadd C dX9_dropsTitle_76 (by omega) ?_
          refine Aj.iload_n C 2 dX9_dropsTitle_77 rfl ?_
          refine Aj.iadd C dX9_dropsTitle_78 (by omega) ?_
          refine Aj.iconst C dX9_dropsTitle_79 (by decide) ?_
          refine Aj.iast C L.a1 (by omega) dX9_dropsTitle_80 (fun h_2 eh_2 => ?_)
          refine Aj.iinc (al2 := [(2, qi (i + 1)), (0, qa M), (1, qi a)]) C 2 dX9_dropsTitle_81 rfl (by decide) (by omega) rfl ?_
          refine Aj.goto (tgt := 56) C dX9_dropsTitle_84 (by decide) ?_
          refine Aj.pick (al2 := [(0, qa M), (1, qi a), (2, qi (i + 1))]) [1, 2, 0] rfl ?_
          exact ih56 (i + 1) h_2 (⟨by omega, by omega, fun j j1 j2 => by
            rw [eh_2, hset_ap]
            by_cases q : j = 148 + 4 * (s 5 - 1) + i
            · rw [if_pos ⟨rfl, q⟩, if_neg (by omega), if_neg (by omega), if_pos (by omega)]
            · rw [if_neg (fun w => q w.2), hi2 j j1 j2]
              by_cases q2 : j = 5
              · rw [if_pos q2, if_pos q2]
              · rw [if_neg q2, if_neg q2]
                by_cases q3 : 148 + 4 * a ≤ j ∧ j < 148 + 4 * (s 5 - 1)
                · rw [if_pos q3, if_pos q3]
                · rw [if_neg q3, if_neg q3]
                  by_cases q4 : 148 + 4 * (s 5 - 1) ≤ j ∧ j < 148 + 4 * (s 5 - 1) + i
                  · rw [if_pos q4, if_pos (by omega)]
                  · rw [if_neg q4, if_neg (by omega)], hi3.tr (FX.set eh_2)⟩) (by omega)
    · refine Aj.aload_n C 0 dX9_dropsTitle_26 rfl ?_
      refine Aj.getR C lf_RX9_7 rfl L.a L.r1 dX9_dropsTitle_27 ?_
      refine Aj.sipush C dX9_dropsTitle_30 (by decide) (by decide) ?_
      refine Aj.iload_n C 2 dX9_dropsTitle_33 rfl ?_
      refine Aj.iadd C dX9_dropsTitle_34 (by omega) ?_
      refine Aj.aload_n C 0 dX9_dropsTitle_35 rfl ?_
      refine Aj.getR C lf_RX9_7 rfl L.a L.r1 dX9_dropsTitle_36 ?_
      refine Aj.sipush C dX9_dropsTitle_39 (by decide) (by decide) ?_
      refine Aj.iload_n C 2 dX9_dropsTitle_42 rfl ?_
      refine Aj.iadd C dX9_dropsTitle_43 (by omega) ?_
      refine Aj.iconst C dX9_dropsTitle_44 (by decide) ?_
      refine Aj.iadd C dX9_dropsTitle_45 (by omega) ?_
      refine Aj.ialde (w := s (148 + k + 4)) C L.a1 (by omega) dX9_dropsTitle_46 ((hk2 _ (by omega) (by omega)).trans ((if_neg (by omega)).trans (if_neg (by omega)))) ?_
      refine Aj.iast C L.a1 (by omega) dX9_dropsTitle_47 (fun h_3 eh_3 => ?_)
      refine Aj.iinc (al2 := [(2, qi (k + 1)), (0, qa M), (1, qi a)]) C 2 dX9_dropsTitle_48 rfl (by decide) (by omega) rfl ?_
      refine Aj.goto (tgt := 14) C dX9_dropsTitle_51 (by decide) ?_
      refine Aj.pick (al2 := [(0, qa M), (1, qi a), (2, qi (k + 1))]) [1, 2, 0] rfl ?_
      exact ih14 (k + 1) h_3 (⟨by omega, by omega, fun j j1 j2 => by
        rw [eh_3, hset_ap]
        by_cases q : j = 148 + k
        · rw [if_pos ⟨rfl, q⟩, if_neg (by omega), if_pos (by omega), q]
        · rw [if_neg (fun w => q w.2), hk2 j j1 j2]
          by_cases q2 : j = 5
          · rw [if_pos q2, if_pos q2]
          · rw [if_neg q2, if_neg q2]
            by_cases q3 : 148 + 4 * a ≤ j ∧ j < 148 + k
            · rw [if_pos q3, if_pos (by omega)]
            · rw [if_neg q3, if_neg (by omega)], hk3.tr (FX.set eh_3)⟩) (by omega)
