set_option maxHeartbeats 4000000 in
set_option maxRecDepth 100000 in
theorem c_X7_has (l : Launch) {G : qG} {n : Int} {r h : qH} {a : Int} {p m : Int} (L : LTitles G n r p) (hC : h p 4 = m) (hm : 0 ≤ m ∧ m ≤ 20) : q_Cm l G yX7_has cX7_has 2 (some .boolean) 0 0 [qa p, qi a] n r h (q_Pi r (fun z h' => h = h' ∧ (z = 0 ∨ z = 1) ∧ (z = 1 ↔ 0 ≤ a ∧ a < m))) 0 0 := by
  refine q_enter (al := [(0, qa p), (1, qi a)]) m_X7_has rfl (Nat.le_of_ble_eq_true rfl) ?_
  intro hok X C hmc hxl hin
  refine Aj.iload_n C 1 dX7_has_0 rfl ?_
  refine Aj.if_lt (tgt := 16) C dX7_has_1 (by decide) (fun c1 => ?_) (fun c1 => ?_)
  · refine Aj.iconst C dX7_has_16 (by decide) ?_
    refine Aj.zret C dX7_has_17 (by omega) (by rw [hmc]; exact ⟨rfl, Nat.le_of_ble_eq_true rfl⟩) ⟨_, rfl, rfl, ?_⟩
    exact ⟨rfl, by omega, by omega⟩
  · refine Aj.iload_n C 1 dX7_has_4 rfl ?_
    refine Aj.aload_n C 0 dX7_has_5 rfl ?_
    refine Aj.getIe (z := m) C lf_RX7_24 rfl L.a dX7_has_6 hC ?_
    refine Aj.icmp_ge (tgt := 16) C dX7_has_9 (by decide) (fun c9 => ?_) (fun c9 => ?_)
    · refine Aj.iconst C dX7_has_16 (by decide) ?_
      refine Aj.zret C dX7_has_17 (by omega) (by rw [hmc]; exact ⟨rfl, Nat.le_of_ble_eq_true rfl⟩) ⟨_, rfl, rfl, ?_⟩
      exact ⟨rfl, by omega, by omega⟩
    · refine Aj.iconst C dX7_has_12 (by decide) ?_
      refine Aj.goto (tgt := 17) C dX7_has_13 (by decide) ?_
      refine Aj.zret C dX7_has_17 (by omega) (by rw [hmc]; exact ⟨rfl, Nat.le_of_ble_eq_true rfl⟩) ⟨_, rfl, rfl, ?_⟩
      exact ⟨rfl, by omega, by omega⟩

set_option maxHeartbeats 4000000 in
set_option maxRecDepth 100000 in
theorem c_X7_add (l : Launch) {G : qG} {n : Int} {r h : qH} {a b c d : Int} {p m : Int} (L : LTitles G n r p) (hC : h p 4 = m) (hm : 0 ≤ m ∧ m ≤ 20) : q_Cm l G yX7_add cX7_add 5 (some .int) 0 0 [qa p, qi a, qi b, qi c, qi d] n r h (q_Pi r (fun z h' => (20 ≤ m ∧ z = -4 ∧ h = h') ∨ (m < 20 ∧ z = m ∧ h' = hset (hset (hset (hset (hset h (p + 1) m a) (p + 2) m b) (p + 3) m c) (p + 4) m d) p 4 (m + 1)))) 0 0 := by
  refine q_enter (al := [(0, qa p), (1, qi a), (2, qi b), (3, qi c), (4, qi d)]) m_X7_add rfl (Nat.le_of_ble_eq_true rfl) ?_
  intro hok X C hmc hxl hin
  refine Aj.aload_n C 0 dX7_add_0 rfl ?_
  refine Aj.getIe (z := m) C lf_RX7_24 rfl L.a dX7_add_1 hC ?_
  refine Aj.bipush C dX7_add_4 (by decide) (by decide) ?_
  refine Aj.icmp_lt (tgt := 12) C dX7_add_6 (by decide) (fun c6 => ?_) (fun c6 => ?_)
  · refine Aj.aload_n C 0 dX7_add_12 rfl ?_
    refine Aj.getR C lf_RX7_9 rfl L.a L.r0 dX7_add_13 ?_
    refine Aj.aload_n C 0 dX7_add_16 rfl ?_
    refine Aj.getIe (z := m) C lf_RX7_24 rfl L.a dX7_add_17 hC ?_
    refine Aj.iload_n C 1 dX7_add_20 rfl ?_
    refine Aj.iast C L.a1 (by omega) dX7_add_21 (fun h_1 eh_1 => ?_)
    refine Aj.aload_n C 0 dX7_add_22 rfl ?_
    refine Aj.getR C lf_RX7_15 rfl L.a L.r1 dX7_add_23 ?_
    refine Aj.aload_n C 0 dX7_add_26 rfl ?_
    refine Aj.getIe (z := m) C lf_RX7_24 rfl L.a dX7_add_27 (by rw [eh_1, hset_nea _ _ _ (by omega)]; exact hC) ?_
    refine Aj.iload_n C 2 dX7_add_30 rfl ?_
    refine Aj.iast C L.a2 (by omega) dX7_add_31 (fun h_2 eh_2 => ?_)
    refine Aj.aload_n C 0 dX7_add_32 rfl ?_
    refine Aj.getR C lf_RX7_18 rfl L.a L.r2 dX7_add_33 ?_
    refine Aj.aload_n C 0 dX7_add_36 rfl ?_
    refine Aj.getIe (z := m) C lf_RX7_24 rfl L.a dX7_add_37 (by rw [eh_2, hset_nea _ _ _ (by omega)]; exact (by rw [eh_1, hset_nea _ _ _ (by omega)]; exact hC)) ?_
    refine Aj.iload_n C 3 dX7_add_40 rfl ?_
    refine Aj.iast C L.a3 (by omega) dX7_add_41 (fun h_3 eh_3 => ?_)
    refine Aj.aload_n C 0 dX7_add_42 rfl ?_
    refine Aj.getR C lf_RX7_21 rfl L.a L.r3 dX7_add_43 ?_
    refine Aj.aload_n C 0 dX7_add_46 rfl ?_
    refine Aj.getIe (z := m) C lf_RX7_24 rfl L.a dX7_add_47 (by rw [eh_3, hset_nea _ _ _ (by omega)]; exact (by rw [eh_2, hset_nea _ _ _ (by omega)]; exact (by rw [eh_1, hset_nea _ _ _ (by omega)]; exact hC))) ?_
    refine Aj.iload C 4 dX7_add_50 rfl ?_
    refine Aj.iast C L.a4 (by omega) dX7_add_52 (fun h_4 eh_4 => ?_)
    refine Aj.aload_n C 0 dX7_add_53 rfl ?_
    refine Aj.dup_qa C dX7_add_54 ?_
    refine Aj.getIe (z := m) C lf_RX7_24 rfl L.a dX7_add_55 (by rw [eh_4, hset_nea _ _ _ (by omega)]; exact (by rw [eh_3, hset_nea _ _ _ (by omega)]; exact (by rw [eh_2, hset_nea _ _ _ (by omega)]; exact (by rw [eh_1, hset_nea _ _ _ (by omega)]; exact hC)))) ?_
    refine Aj.iconst C dX7_add_58 (by decide) ?_
    refine Aj.iadd C dX7_add_59 (by omega) ?_
    refine Aj.putI C lf_RX7_24 L.a dX7_add_60 (fun h_5 eh_5 => ?_)
    refine Aj.aload_n C 0 dX7_add_63 rfl ?_
    refine Aj.getIe (z := m + 1) C lf_RX7_24 rfl L.a dX7_add_64 (by rw [eh_5]; exact hset_same _ _ _ _) ?_
    refine Aj.iconst C dX7_add_67 (by decide) ?_
    refine Aj.isub C dX7_add_68 (by omega) ?_
    refine Aj.iret C dX7_add_69 (by rw [hmc]; exact ⟨rfl, Nat.le_of_ble_eq_true rfl⟩) ⟨_, rfl, rfl, ?_⟩
    exact Or.inr ⟨by omega, by omega, by rw [eh_5, eh_4, eh_3, eh_2, eh_1]⟩
  · refine Aj.bipush C dX7_add_9 (by decide) (by decide) ?_
    refine Aj.iret C dX7_add_11 (by rw [hmc]; exact ⟨rfl, Nat.le_of_ble_eq_true rfl⟩) ⟨_, rfl, rfl, ?_⟩
    exact Or.inl ⟨by omega, rfl, rfl⟩

set_option maxHeartbeats 4000000 in
set_option maxRecDepth 100000 in
theorem c_X7_remove (l : Launch) {G : qG} {n : Int} {r h : qH} {a : Int} {p m : Int} (L : LTitles G n r p) (hC : h p 4 = m) (hm : 0 ≤ m ∧ m ≤ 20) : q_Cm l G yX7_remove cX7_remove 3 (some .int) 1 21 [qa p, qi a] n r h (q_Pi r (fun z h' => (¬ (0 ≤ a ∧ a < m) ∧ z = -1 ∧ h = h') ∨ ((0 ≤ a ∧ a < m) ∧ z = m - 1 ∧ ∀ x y, h' x y = if x = p ∧ y = 4 then m - 1 else if (p + 1 ≤ x ∧ x ≤ p + 4) ∧ a ≤ y ∧ y < m - 1 then h x (y + 1) else h x y))) 0 0 := by
  refine q_enter (al := [(0, qa p), (1, qi a)]) m_X7_remove rfl (Nat.le_of_ble_eq_true rfl) ?_
  intro hok X C hmc hxl hin
  refine Aj.aload_n C 0 dX7_remove_0 rfl ?_
  refine Aj.iload_n C 1 dX7_remove_1 rfl ?_
  refine Aj.callVi (As := [qi a]) (st := []) C lm_RX7_34 m_X7_has mk_X7_has ms_X7_has (c_X7_has _ L hC hm) L.a (t := 7) rfl rfl rfl rfl (by decide) (Nat.le_of_ble_eq_true rfl) (by decide) dX7_remove_2 (fun z2 h_1 rz2 p2 => ?_)
  obtain ⟨rfl, pz, pe⟩ := p2
  refine Aj.if_ne (tgt := 10) C dX7_remove_5 (by decide) (fun c5 => ?_) (fun c5 => ?_)
  · refine Aj.iload_n C 1 dX7_remove_10 rfl ?_
    refine Aj.iconst C dX7_remove_11 (by decide) ?_
    refine Aj.iadd C dX7_remove_12 (by omega) ?_
    refine Aj.istore_n (al2 := [(2, qi (a + 1)), (0, qa p), (1, qi a)]) C dX7_remove_13 (by decide) rfl ?_
    refine Aj.pick (al2 := [(0, qa p), (1, qi a), (2, qi (a + 1))]) [1, 2, 0] rfl ?_
    suffices L14 : ∀ (N : Nat) (i : Int) (hh : qH) , (a + 1 ≤ i ∧ i ≤ m ∧ 0 ≤ a ∧ ∀ x y, hh x y = if (p + 1 ≤ x ∧ x ≤ p + 4) ∧ a ≤ y ∧ y < i - 1 then h x (y + 1) else h x y) → (m - i).toNat < N → Aj G X (q_Pi r (fun z h' => (¬ (0 ≤ a ∧ a < m) ∧ z = -1 ∧ h = h') ∨ ((0 ≤ a ∧ a < m) ∧ z = m - 1 ∧ ∀ x y, h' x y = if x = p ∧ y = 4 then m - 1 else if (p + 1 ≤ x ∧ x ≤ p + 4) ∧ a ≤ y ∧ y < m - 1 then h x (y + 1) else h x y))) cX7_remove 3 (0, 0) n r hh 14 [(0, qa p), (1, qi a), (2, qi i)] [] from L14 (_ + 1) (a + 1) h (⟨by omega, by omega, by omega, fun x y => by rw [if_neg (by omega)]⟩) (Nat.lt_succ_self _)
    intro N14
    induction N14 with
    | zero => intro i hh _ hN; exact absurd hN (Nat.not_lt_zero _)
    | succ N ih14 =>
      intro i hh hI14 hN14
      obtain ⟨hi0, hi1, hi2, hi3⟩ := hI14
      refine Aj.iload_n C 2 dX7_remove_14 rfl ?_
      refine Aj.aload_n C 0 dX7_remove_15 rfl ?_
      refine Aj.getIe (z := m) C lf_RX7_24 rfl L.a dX7_remove_16 (by rw [hi3, if_neg (by omega)]; exact hC) ?_
      refine Aj.icmp_ge (tgt := 84) C dX7_remove_19 (by decide) (fun c19 => ?_) (fun c19 => ?_)
      · refine Aj.aload_n C 0 dX7_remove_84 rfl ?_
        refine Aj.dup_qa C dX7_remove_85 ?_
        refine Aj.getIe (z := m) C lf_RX7_24 rfl L.a dX7_remove_86 (by rw [hi3, if_neg (by omega)]; exact hC) ?_
        refine Aj.iconst C dX7_remove_89 (by decide) ?_
        refine Aj.isub C dX7_remove_90 (by omega) ?_
        refine Aj.putI C lf_RX7_24 L.a dX7_remove_91 (fun h_2 eh_2 => ?_)
        refine Aj.aload_n C 0 dX7_remove_94 rfl ?_
        refine Aj.getIe (z := m - 1) C lf_RX7_24 rfl L.a dX7_remove_95 (by rw [eh_2]; exact hset_same _ _ _ _) ?_
        refine Aj.iret C dX7_remove_98 (by rw [hmc]; exact ⟨rfl, Nat.le_of_ble_eq_true rfl⟩) ⟨_, rfl, rfl, ?_⟩
        exact Or.inr ⟨by omega, by omega, fun x y => by
          rw [eh_2]
          simp only [hset_ap]
          rw [hi3]
          repeat' split
          all_goals first | rfl | omega | exact hx (by omega) (by omega)⟩
      · refine Aj.aload_n C 0 dX7_remove_22 rfl ?_
        refine Aj.getR C lf_RX7_9 rfl L.a L.r0 dX7_remove_23 ?_
        refine Aj.iload_n C 2 dX7_remove_26 rfl ?_
        refine Aj.iconst C dX7_remove_27 (by decide) ?_
        refine Aj.isub C dX7_remove_28 (by omega) ?_
        refine Aj.aload_n C 0 dX7_remove_29 rfl ?_
        refine Aj.getR C lf_RX7_9 rfl L.a L.r0 dX7_remove_30 ?_
        refine Aj.iload_n C 2 dX7_remove_33 rfl ?_
        refine Aj.ialde (w := h (p + 1) i) C L.a1 (by omega) dX7_remove_34 (by rw [hi3, if_neg (by omega)]) ?_
        refine Aj.iast C L.a1 (by omega) dX7_remove_35 (fun h_3 eh_3 => ?_)
        refine Aj.aload_n C 0 dX7_remove_36 rfl ?_
        refine Aj.getR C lf_RX7_15 rfl L.a L.r1 dX7_remove_37 ?_
        refine Aj.iload_n C 2 dX7_remove_40 rfl ?_
        refine Aj.iconst C dX7_remove_41 (by decide) ?_
        refine Aj.isub C dX7_remove_42 (by omega) ?_
        refine Aj.aload_n C 0 dX7_remove_43 rfl ?_
        refine Aj.getR C lf_RX7_15 rfl L.a L.r1 dX7_remove_44 ?_
        refine Aj.iload_n C 2 dX7_remove_47 rfl ?_
        refine Aj.ialde (w := h (p + 2) i) C L.a2 (by omega) dX7_remove_48 (by rw [eh_3, hset_nea _ _ _ (by omega)]; exact (by rw [hi3, if_neg (by omega)])) ?_
        refine Aj.iast C L.a2 (by omega) dX7_remove_49 (fun h_4 eh_4 => ?_)
        refine Aj.aload_n C 0 dX7_remove_50 rfl ?_
        refine Aj.getR C lf_RX7_18 rfl L.a L.r2 dX7_remove_51 ?_
        refine Aj.iload_n C 2 dX7_remove_54 rfl ?_
        refine Aj.iconst C dX7_remove_55 (by decide) ?_
        refine Aj.isub C dX7_remove_56 (by omega) ?_
        refine Aj.aload_n C 0 dX7_remove_57 rfl ?_
        refine Aj.getR C lf_RX7_18 rfl L.a L.r2 dX7_remove_58 ?_
        refine Aj.iload_n C 2 dX7_remove_61 rfl ?_
        refine Aj.ialde (w := h (p + 3) i) C L.a3 (by omega) dX7_remove_62 (by rw [eh_4, hset_nea _ _ _ (by omega)]; exact (by rw [eh_3, hset_nea _ _ _ (by omega)]; exact (by rw [hi3, if_neg (by omega)]))) ?_
        refine Aj.iast C L.a3 (by omega) dX7_remove_63 (fun h_5 eh_5 => ?_)
        refine Aj.aload_n C 0 dX7_remove_64 rfl ?_
        refine Aj.getR C lf_RX7_21 rfl L.a L.r3 dX7_remove_65 ?_
        refine Aj.iload_n C 2 dX7_remove_68 rfl ?_
        refine Aj.iconst C dX7_remove_69 (by decide) ?_
        refine Aj.isub C dX7_remove_70 (by omega) ?_
        refine Aj.aload_n C 0 dX7_remove_71 rfl ?_
        refine Aj.getR C lf_RX7_21 rfl L.a L.r3 dX7_remove_72 ?_
        refine Aj.iload_n C 2 dX7_remove_75 rfl ?_
        refine Aj.ialde (w := h (p + 4) i) C L.a4 (by omega) dX7_remove_76 (by rw [eh_5, hset_nea _ _ _ (by omega)]; exact (by rw [eh_4, hset_nea _ _ _ (by omega)]; exact (by rw [eh_3, hset_nea _ _ _ (by omega)]; exact (by rw [hi3, if_neg (by omega)])))) ?_
        refine Aj.iast C L.a4 (by omega) dX7_remove_77 (fun h_6 eh_6 => ?_)
        refine Aj.iinc (al2 := [(2, qi (i + 1)), (0, qa p), (1, qi a)]) C 2 dX7_remove_78 rfl (by decide) (by omega) rfl ?_
        refine Aj.goto (tgt := 14) C dX7_remove_81 (by decide) ?_
        refine Aj.pick (al2 := [(0, qa p), (1, qi a), (2, qi (i + 1))]) [1, 2, 0] rfl ?_
        exact ih14 (i + 1) h_6 (⟨by omega, by omega, by omega, fun x y => by
          rw [eh_6, eh_5, eh_4, eh_3]
          simp only [hset_ap]
          rw [hi3]
          repeat' split
          all_goals first | rfl | omega | exact hx (by omega) (by omega)⟩) (by omega)
  · refine Aj.iconst C dX7_remove_8 (by decide) ?_
    refine Aj.iret C dX7_remove_9 (by rw [hmc]; exact ⟨rfl, Nat.le_of_ble_eq_true rfl⟩) ⟨_, rfl, rfl, ?_⟩
    exact Or.inl ⟨by omega, rfl, rfl⟩

set_option maxHeartbeats 4000000 in
set_option maxRecDepth 100000 in
theorem c_X7_highestBar (l : Launch) {G : qG} {n : Int} {r h : qH} {p m : Int} (L : LTitles G n r p) (hC : h p 4 = m) (hm : 0 ≤ m ∧ m ≤ 20) : q_Cm l G yX7_highestBar cX7_highestBar 3 (some .int) 1 21 [qa p] n r h (q_Pi r (fun z h' => h = h' ∧ -1 ≤ z ∧ ∀ x, 0 ≤ x → (x ≤ z ↔ ∃ k, 0 ≤ k ∧ k < m ∧ x ≤ h (p + 2) k))) 0 0 := by
  refine q_enter (al := [(0, qa p)]) m_X7_highestBar rfl (Nat.le_of_ble_eq_true rfl) ?_
  intro hok X C hmc hxl hin
  refine Aj.iconst C dX7_highestBar_0 (by decide) ?_
  refine Aj.istore_n (al2 := [(1, qi (-1)), (0, qa p)]) C dX7_highestBar_1 (by decide) rfl ?_
  refine Aj.iconst C dX7_highestBar_2 (by decide) ?_
  refine Aj.istore_n (al2 := [(2, qi 0), (1, qi (-1)), (0, qa p)]) C dX7_highestBar_3 (by decide) rfl ?_
  refine Aj.pick (al2 := [(0, qa p), (1, qi (-1)), (2, qi 0)]) [2, 1, 0] rfl ?_
  suffices L4 : ∀ (N : Nat) (v i : Int) , (0 ≤ i ∧ i ≤ m ∧ -1 ≤ v ∧ ∀ x, 0 ≤ x → (x ≤ v ↔ ∃ k, 0 ≤ k ∧ k < i ∧ x ≤ h (p + 2) k)) → (m - i).toNat < N → Aj G X (q_Pi r (fun z h' => h = h' ∧ -1 ≤ z ∧ ∀ x, 0 ≤ x → (x ≤ z ↔ ∃ k, 0 ≤ k ∧ k < m ∧ x ≤ h (p + 2) k))) cX7_highestBar 3 (0, 0) n r h 4 [(0, qa p), (1, qi v), (2, qi i)] [] from L4 (_ + 1) (-1) 0 (⟨by omega, by omega, by omega, fun x hx => ⟨fun q => by omega, fun ⟨k, q1, q2, _⟩ => by omega⟩⟩) (Nat.lt_succ_self _)
  intro N4
  induction N4 with
  | zero => intro v i _ hN; exact absurd hN (Nat.not_lt_zero _)
  | succ N ih4 =>
    intro v i hI4 hN4
    obtain ⟨hi0, hi1, hi2, hi3⟩ := hI4
    refine Aj.iload_n C 2 dX7_highestBar_4 rfl ?_
    refine Aj.aload_n C 0 dX7_highestBar_5 rfl ?_
    refine Aj.getIe (z := m) C lf_RX7_24 rfl L.a dX7_highestBar_6 hC ?_
    refine Aj.icmp_ge (tgt := 29) C dX7_highestBar_9 (by decide) (fun c9 => ?_) (fun c9 => ?_)
    · refine Aj.iload_n C 1 dX7_highestBar_29 rfl ?_
      refine Aj.iret C dX7_highestBar_30 (by rw [hmc]; exact ⟨rfl, Nat.le_of_ble_eq_true rfl⟩) ⟨_, rfl, rfl, ?_⟩
      exact ⟨rfl, hi2, (show i = m by omega) ▸ hi3⟩
    · refine Aj.iload_n C 1 dX7_highestBar_12 rfl ?_
      refine Aj.aload_n C 0 dX7_highestBar_13 rfl ?_
      refine Aj.getR C lf_RX7_15 rfl L.a L.r1 dX7_highestBar_14 ?_
      refine Aj.iload_n C 2 dX7_highestBar_17 rfl ?_
      refine Aj.ialde (w := h (p + 2) i) C L.a2 (by omega) dX7_highestBar_18 rfl ?_
      refine Aj.mmax C lm_RX7_38 ⟨Nat.le_of_ble_eq_true rfl, Nat.le_of_ble_eq_true rfl⟩ (by decide) dX7_highestBar_19 ?_
      refine Aj.istore_n (al2 := [(1, qi (max v (h (p + 2) i))), (0, qa p), (2, qi i)]) C dX7_highestBar_22 (by decide) rfl ?_
      refine Aj.iinc (al2 := [(2, qi (i + 1)), (1, qi (max v (h (p + 2) i))), (0, qa p)]) C 2 dX7_highestBar_23 rfl (by decide) (by omega) rfl ?_
      refine Aj.goto (tgt := 4) C dX7_highestBar_26 (by decide) ?_
      refine Aj.pick (al2 := [(0, qa p), (1, qi (max v (h (p + 2) i))), (2, qi (i + 1))]) [2, 1, 0] rfl ?_
      exact ih4 (max v (h (p + 2) i)) (i + 1) (⟨by omega, by omega, by omega, fun x hx => ⟨fun q => by
        rcases (show x ≤ v ∨ x ≤ h (p + 2) i by omega) with q | q
        · obtain ⟨k, q1, q2, q3⟩ := (hi3 x hx).mp q
          exact ⟨k, q1, by omega, q3⟩
        · exact ⟨i, hi0, by omega, q⟩, fun ⟨k, q1, q2, q3⟩ => by
        by_cases hk : k = i
        · subst hk; omega
        · have := (hi3 x hx).mpr ⟨k, q1, by omega, q3⟩
          omega⟩⟩) (by omega)

set_option maxHeartbeats 4000000 in
set_option maxRecDepth 100000 in
theorem c_X7_copyFrom (l : Launch) {G : qG} {n : Int} {r h : qH} {p q m : Int} (L : LTitles G n r p) (K : LTitles G n r q) (hC : h q 4 = m) (hd : p + 5 ≤ q ∨ q + 5 ≤ p) : q_Cm l G yX7_copyFrom cX7_copyFrom 2 none 1 28 [qa p, qa q] n r h (q_Pv r (fun h' => ∀ x y, h' x y = if x = p ∧ y = 4 then m else if (p + 1 ≤ x ∧ x ≤ p + 4) ∧ 0 ≤ y ∧ y < 20 then h (x - p + q) y else h x y)) 0 0 := by
  refine q_enter (al := [(0, qa p), (1, qa q)]) m_X7_copyFrom rfl (Nat.le_of_ble_eq_true rfl) ?_
  intro hok X C hmc hxl hin
  refine Aj.aload_n C 0 dX7_copyFrom_0 rfl ?_
  refine Aj.aload_n C 1 dX7_copyFrom_1 rfl ?_
  refine Aj.getIe (z := m) C lf_RX7_24 rfl K.a dX7_copyFrom_2 hC ?_
  refine Aj.putI C lf_RX7_24 L.a dX7_copyFrom_5 (fun h_1 eh_1 => ?_)
  refine Aj.aload_n C 1 dX7_copyFrom_8 rfl ?_
  refine Aj.getR C lf_RX7_9 rfl K.a K.r0 dX7_copyFrom_9 ?_
  refine Aj.iconst C dX7_copyFrom_12 (by decide) ?_
  refine Aj.aload_n C 0 dX7_copyFrom_13 rfl ?_
  refine Aj.getR C lf_RX7_9 rfl L.a L.r0 dX7_copyFrom_14 ?_
  refine Aj.iconst C dX7_copyFrom_17 (by decide) ?_
  refine Aj.bipush C dX7_copyFrom_18 (by decide) (by decide) ?_
  refine Aj.acopy C lm_RX7_28 L.a1 K.a1 (by omega) (by omega) (by omega) (by omega) (by omega) ⟨Nat.le_of_ble_eq_true rfl, Nat.le_of_ble_eq_true rfl⟩ dX7_copyFrom_20 (fun h_2 eh_2 => ?_)
  refine Aj.aload_n C 1 dX7_copyFrom_23 rfl ?_
  refine Aj.getR C lf_RX7_15 rfl K.a K.r1 dX7_copyFrom_24 ?_
  refine Aj.iconst C dX7_copyFrom_27 (by decide) ?_
  refine Aj.aload_n C 0 dX7_copyFrom_28 rfl ?_
  refine Aj.getR C lf_RX7_15 rfl L.a L.r1 dX7_copyFrom_29 ?_
  refine Aj.iconst C dX7_copyFrom_32 (by decide) ?_
  refine Aj.bipush C dX7_copyFrom_33 (by decide) (by decide) ?_
  refine Aj.acopy C lm_RX7_28 L.a2 K.a2 (by omega) (by omega) (by omega) (by omega) (by omega) ⟨Nat.le_of_ble_eq_true rfl, Nat.le_of_ble_eq_true rfl⟩ dX7_copyFrom_35 (fun h_3 eh_3 => ?_)
  refine Aj.aload_n C 1 dX7_copyFrom_38 rfl ?_
  refine Aj.getR C lf_RX7_18 rfl K.a K.r2 dX7_copyFrom_39 ?_
  refine Aj.iconst C dX7_copyFrom_42 (by decide) ?_
  refine Aj.aload_n C 0 dX7_copyFrom_43 rfl ?_
  refine Aj.getR C lf_RX7_18 rfl L.a L.r2 dX7_copyFrom_44 ?_
  refine Aj.iconst C dX7_copyFrom_47 (by decide) ?_
  refine Aj.bipush C dX7_copyFrom_48 (by decide) (by decide) ?_
  refine Aj.acopy C lm_RX7_28 L.a3 K.a3 (by omega) (by omega) (by omega) (by omega) (by omega) ⟨Nat.le_of_ble_eq_true rfl, Nat.le_of_ble_eq_true rfl⟩ dX7_copyFrom_50 (fun h_4 eh_4 => ?_)
  refine Aj.aload_n C 1 dX7_copyFrom_53 rfl ?_
  refine Aj.getR C lf_RX7_21 rfl K.a K.r3 dX7_copyFrom_54 ?_
  refine Aj.iconst C dX7_copyFrom_57 (by decide) ?_
  refine Aj.aload_n C 0 dX7_copyFrom_58 rfl ?_
  refine Aj.getR C lf_RX7_21 rfl L.a L.r3 dX7_copyFrom_59 ?_
  refine Aj.iconst C dX7_copyFrom_62 (by decide) ?_
  refine Aj.bipush C dX7_copyFrom_63 (by decide) (by decide) ?_
  refine Aj.acopy C lm_RX7_28 L.a4 K.a4 (by omega) (by omega) (by omega) (by omega) (by omega) ⟨Nat.le_of_ble_eq_true rfl, Nat.le_of_ble_eq_true rfl⟩ dX7_copyFrom_65 (fun h_5 eh_5 => ?_)
  refine Aj.vret C dX7_copyFrom_68 (by rw [hmc]; exact ⟨rfl, Nat.le_of_ble_eq_true rfl⟩) ⟨rfl, rfl, ?_⟩
  intro x y
  have f : ∀ j y, 1 ≤ j → j ≤ 4 → h_1 (q + j) y = h (q + j) y ∧ h_2 (q + j) y = h (q + j) y ∧ h_3 (q + j) y = h (q + j) y ∧ h_4 (q + j) y = h (q + j) y := fun j y j1 j2 => by
    have f1 : h_1 (q + j) y = h (q + j) y := by rw [eh_1]; exact hset_nea _ _ _ (by omega)
    have f2 : h_2 (q + j) y = h (q + j) y := by rw [eh_2, hcpy_ap, if_neg (by omega), f1]
    have f3 : h_3 (q + j) y = h (q + j) y := by rw [eh_3, hcpy_ap, if_neg (by omega), f2]
    have f4 : h_4 (q + j) y = h (q + j) y := by rw [eh_4, hcpy_ap, if_neg (by omega), f3]
    exact ⟨f1, f2, f3, f4⟩
  rw [eh_5, hcpy_ap, (f 4 _ (by decide) (by decide)).2.2.2, eh_4, hcpy_ap, (f 3 _ (by decide) (by decide)).2.2.1, eh_3, hcpy_ap, (f 2 _ (by decide) (by decide)).2.1, eh_2, hcpy_ap, (f 1 _ (by decide) (by decide)).1, eh_1, hset_ap]
  repeat' split
  all_goals first | rfl | omega | exact hx (by omega) (by omega)
