set_option maxHeartbeats 4000000 in
set_option maxRecDepth 100000 in
theorem c_X6_isFull (l : Launch) {G : qG} {n : Int} {r h : qH} {p cap m : Int} {F Ls : Int → Int} (L : LSpans G n r p cap) (hcap : cap ≤ 4) (hC : CSpans h p m F Ls) (hm : 0 ≤ m ∧ m ≤ cap) : q_Cm l G yX6_isFull cX6_isFull 1 (some .boolean) 0 0 [qa p] n r h (q_Pi r (fun z h' => h = h' ∧ z = if cap ≤ m then 1 else 0)) 0 0 := by
  refine q_enter (al := [(0, qa p)]) m_X6_isFull rfl (Nat.le_of_ble_eq_true rfl) ?_
  intro hok X C hmc hxl hin
  refine Aj.aload_n C 0 dX6_isFull_0 rfl ?_
  refine Aj.getIe (z := m) C lf_RX6_24 rfl L.a dX6_isFull_1 hC.1 ?_
  refine Aj.aload_n C 0 dX6_isFull_4 rfl ?_
  refine Aj.getR C lf_RX6_9 rfl L.a L.r0 dX6_isFull_5 ?_
  refine Aj.alen C L.a1 (Or.inl rfl) (by omega) dX6_isFull_8 ?_
  refine Aj.icmp_lt (tgt := 16) C dX6_isFull_9 (by decide) (fun c9 => ?_) (fun c9 => ?_)
  · refine Aj.iconst C dX6_isFull_16 (by decide) ?_
    refine Aj.zret C dX6_isFull_17 (by omega) (by rw [hmc]; exact ⟨rfl, Nat.le_of_ble_eq_true rfl⟩) ⟨_, rfl, rfl, ?_⟩
    refine ⟨rfl, ?_⟩; split <;> omega
  · refine Aj.iconst C dX6_isFull_12 (by decide) ?_
    refine Aj.goto (tgt := 17) C dX6_isFull_13 (by decide) ?_
    refine Aj.zret C dX6_isFull_17 (by omega) (by rw [hmc]; exact ⟨rfl, Nat.le_of_ble_eq_true rfl⟩) ⟨_, rfl, rfl, ?_⟩
    refine ⟨rfl, ?_⟩; split <;> omega

set_option maxHeartbeats 4000000 in
set_option maxRecDepth 100000 in
theorem c_X6_meets (l : Launch) {G : qG} {n : Int} {r h : qH} {a b : Int} {p cap m : Int} {F Ls : Int → Int} (L : LSpans G n r p cap) (hcap : cap ≤ 4) (hC : CSpans h p m F Ls) (hm : 0 ≤ m ∧ m ≤ cap) : q_Cm l G yX6_meets cX6_meets 4 (some .boolean) 0 0 [qa p, qi a, qi b] n r h (q_Pi r (fun z h' => h = h' ∧ (z = 0 ∨ z = 1) ∧ (z = 1 ↔ ∃ k, 0 ≤ k ∧ k < m ∧ F k ≤ b ∧ a ≤ Ls k))) 0 0 := by
  refine q_enter (al := [(0, qa p), (1, qi a), (2, qi b)]) m_X6_meets rfl (Nat.le_of_ble_eq_true rfl) ?_
  intro hok X C hmc hxl hin
  refine Aj.iconst C dX6_meets_0 (by decide) ?_
  refine Aj.istore_n (al2 := [(3, qi 0), (0, qa p), (1, qi a), (2, qi b)]) C dX6_meets_1 (by decide) rfl ?_
  refine Aj.pick (al2 := [(0, qa p), (1, qi a), (2, qi b), (3, qi 0)]) [1, 2, 3, 0] rfl ?_
  suffices L2 : ∀ (N : Nat) (i : Int) , (0 ≤ i ∧ i ≤ m ∧ ∀ k, 0 ≤ k → k < i → ¬ (F k ≤ b ∧ a ≤ Ls k)) → (m - i).toNat < N → Aj G X (q_Pi r (fun z h' => h = h' ∧ (z = 0 ∨ z = 1) ∧ (z = 1 ↔ ∃ k, 0 ≤ k ∧ k < m ∧ F k ≤ b ∧ a ≤ Ls k))) cX6_meets 4 (0, 0) n r h 2 [(0, qa p), (1, qi a), (2, qi b), (3, qi i)] [] from L2 (_ + 1) 0 (⟨by omega, by omega, fun k h1 h2 => by omega⟩) (Nat.lt_succ_self _)
  intro N2
  induction N2 with
  | zero => intro i _ hN; exact absurd hN (Nat.not_lt_zero _)
  | succ N ih2 =>
    intro i hI2 hN2
    obtain ⟨hi0, hi1, hi2⟩ := hI2
    refine Aj.iload_n C 3 dX6_meets_2 rfl ?_
    refine Aj.aload_n C 0 dX6_meets_3 rfl ?_
    refine Aj.getIe (z := m) C lf_RX6_24 rfl L.a dX6_meets_4 hC.1 ?_
    refine Aj.icmp_ge (tgt := 38) C dX6_meets_7 (by decide) (fun c7 => ?_) (fun c7 => ?_)
    · refine Aj.iconst C dX6_meets_38 (by decide) ?_
      refine Aj.zret C dX6_meets_39 (by omega) (by rw [hmc]; exact ⟨rfl, Nat.le_of_ble_eq_true rfl⟩) ⟨_, rfl, rfl, ?_⟩
      refine ⟨rfl, by omega, ?_⟩
      constructor
      · first | (intro e; omega) | (intro _; exact ⟨i, hi0, by omega, by omega, by omega⟩)
      · rintro ⟨k, k1, k2, k3⟩
        first | rfl | exact absurd k3 (hi2 k k1 (by omega))
    · refine Aj.aload_n C 0 dX6_meets_10 rfl ?_
      refine Aj.getR C lf_RX6_9 rfl L.a L.r0 dX6_meets_11 ?_
      refine Aj.iload_n C 3 dX6_meets_14 rfl ?_
      refine Aj.ialde (w := F i) C L.a1 (by omega) dX6_meets_15 (hC.2 _ (by omega) (by omega)).1 ?_
      refine Aj.iload_n C 2 dX6_meets_16 rfl ?_
      refine Aj.icmp_gt (tgt := 32) C dX6_meets_17 (by decide) (fun c17 => ?_) (fun c17 => ?_)
      · refine Aj.iinc (al2 := [(3, qi (i + 1)), (0, qa p), (1, qi a), (2, qi b)]) C 3 dX6_meets_32 rfl (by decide) (by omega) rfl ?_
        refine Aj.goto (tgt := 2) C dX6_meets_35 (by decide) ?_
        refine Aj.pick (al2 := [(0, qa p), (1, qi a), (2, qi b), (3, qi (i + 1))]) [1, 2, 3, 0] rfl ?_
        exact ih2 (i + 1) (⟨by omega, by omega, fun k h1 h2 => if hk : k = i then by subst hk; omega else hi2 k h1 (by omega)⟩) (by omega)
      · refine Aj.iload_n C 1 dX6_meets_20 rfl ?_
        refine Aj.aload_n C 0 dX6_meets_21 rfl ?_
        refine Aj.getR C lf_RX6_15 rfl L.a L.r1 dX6_meets_22 ?_
        refine Aj.iload_n C 3 dX6_meets_25 rfl ?_
        refine Aj.ialde (w := Ls i) C L.a2 (by omega) dX6_meets_26 (hC.2 _ (by omega) (by omega)).2 ?_
        refine Aj.icmp_gt (tgt := 32) C dX6_meets_27 (by decide) (fun c27 => ?_) (fun c27 => ?_)
        · refine Aj.iinc (al2 := [(3, qi (i + 1)), (0, qa p), (1, qi a), (2, qi b)]) C 3 dX6_meets_32 rfl (by decide) (by omega) rfl ?_
          refine Aj.goto (tgt := 2) C dX6_meets_35 (by decide) ?_
          refine Aj.pick (al2 := [(0, qa p), (1, qi a), (2, qi b), (3, qi (i + 1))]) [1, 2, 3, 0] rfl ?_
          exact ih2 (i + 1) (⟨by omega, by omega, fun k h1 h2 => if hk : k = i then by subst hk; omega else hi2 k h1 (by omega)⟩) (by omega)
        · refine Aj.iconst C dX6_meets_30 (by decide) ?_
          refine Aj.zret C dX6_meets_31 (by omega) (by rw [hmc]; exact ⟨rfl, Nat.le_of_ble_eq_true rfl⟩) ⟨_, rfl, rfl, ?_⟩
          exact ⟨rfl, Or.inr rfl, fun _ => ⟨i, hi0, by omega, by omega, by omega⟩, fun _ => rfl⟩

set_option maxHeartbeats 4000000 in
set_option maxRecDepth 100000 in
theorem c_X6_covers (l : Launch) {G : qG} {n : Int} {r h : qH} {a : Int} {p cap m : Int} {F Ls : Int → Int} (L : LSpans G n r p cap) (hcap : cap ≤ 4) (hC : CSpans h p m F Ls) (hm : 0 ≤ m ∧ m ≤ cap) : q_Cm l G yX6_covers cX6_covers 2 (some .boolean) 1 23 [qa p, qi a] n r h (q_Pi r (fun z h' => h = h' ∧ (z = 0 ∨ z = 1) ∧ (z = 1 ↔ ∃ k, 0 ≤ k ∧ k < m ∧ F k ≤ a ∧ a ≤ Ls k))) 0 0 := by
  refine q_enter (al := [(0, qa p), (1, qi a)]) m_X6_covers rfl (Nat.le_of_ble_eq_true rfl) ?_
  intro hok X C hmc hxl hin
  refine Aj.aload_n C 0 dX6_covers_0 rfl ?_
  refine Aj.iload_n C 1 dX6_covers_1 rfl ?_
  refine Aj.iload_n C 1 dX6_covers_2 rfl ?_
  refine Aj.callVi (As := [qi a, qi a]) (st := []) C lm_RX6_38 m_X6_meets mk_X6_meets ms_X6_meets (c_X6_meets _ L hcap hC hm) L.a (t := 6) rfl rfl rfl rfl (by decide) (Nat.le_of_ble_eq_true rfl) (by decide) dX6_covers_3 (fun z3 h_1 rz3 p3 => ?_)
  obtain ⟨rfl, pz, pe⟩ := p3
  refine Aj.zret C dX6_covers_6 (by omega) (by rw [hmc]; exact ⟨rfl, Nat.le_of_ble_eq_true rfl⟩) ⟨_, rfl, rfl, ?_⟩
  exact ⟨rfl, pz, pe⟩

set_option maxHeartbeats 4000000 in
set_option maxRecDepth 100000 in
theorem c_X6_add (l : Launch) {G : qG} {n : Int} {r h : qH} {a b : Int} {p cap m : Int} {F Ls : Int → Int} (L : LSpans G n r p cap) (hcap : cap ≤ 4) (hC : CSpans h p m F Ls) (hm : 0 ≤ m ∧ m ≤ cap) : q_Cm l G yX6_add cX6_add 3 (some .int) 1 20 [qa p, qi a, qi b] n r h (q_Pi r (fun z h' => (cap ≤ m ∧ z = -4 ∧ h = h') ∨ (m < cap ∧ z = m ∧ h' = hset (hset (hset h (p + 1) m a) (p + 2) m b) p 2 (m + 1)))) 0 0 := by
  refine q_enter (al := [(0, qa p), (1, qi a), (2, qi b)]) m_X6_add rfl (Nat.le_of_ble_eq_true rfl) ?_
  intro hok X C hmc hxl hin
  refine Aj.aload_n C 0 dX6_add_0 rfl ?_
  refine Aj.callVi (As := []) (st := []) C lm_RX6_34 m_X6_isFull mk_X6_isFull ms_X6_isFull (c_X6_isFull _ L hcap hC hm) L.a (t := 6) rfl rfl rfl rfl (by decide) (Nat.le_of_ble_eq_true rfl) (by decide) dX6_add_1 (fun z1 h_1 rz1 p1 => ?_)
  obtain ⟨rfl, pz⟩ := p1
  refine Aj.if_eq (tgt := 10) C dX6_add_4 (by decide) (fun c4 => ?_) (fun c4 => ?_)
  · refine Aj.aload_n C 0 dX6_add_10 rfl ?_
    refine Aj.getR C lf_RX6_9 rfl L.a L.r0 dX6_add_11 ?_
    refine Aj.aload_n C 0 dX6_add_14 rfl ?_
    refine Aj.getIe (z := m) C lf_RX6_24 rfl L.a dX6_add_15 hC.1 ?_
    refine Aj.iload_n C 1 dX6_add_18 rfl ?_
    refine Aj.iast C L.a1 (by omega) dX6_add_19 (fun h_2 eh_2 => ?_)
    refine Aj.aload_n C 0 dX6_add_20 rfl ?_
    refine Aj.getR C lf_RX6_15 rfl L.a L.r1 dX6_add_21 ?_
    refine Aj.aload_n C 0 dX6_add_24 rfl ?_
    refine Aj.getIe (z := m) C lf_RX6_24 rfl L.a dX6_add_25 (by rw [eh_2, hset_nea _ _ _ (by omega)]; exact hC.1) ?_
    refine Aj.iload_n C 2 dX6_add_28 rfl ?_
    refine Aj.iast C L.a2 (by omega) dX6_add_29 (fun h_3 eh_3 => ?_)
    refine Aj.aload_n C 0 dX6_add_30 rfl ?_
    refine Aj.dup_qa C dX6_add_31 ?_
    refine Aj.getIe (z := m) C lf_RX6_24 rfl L.a dX6_add_32 (by rw [eh_3, hset_nea _ _ _ (by omega)]; exact (by rw [eh_2, hset_nea _ _ _ (by omega)]; exact hC.1)) ?_
    refine Aj.iconst C dX6_add_35 (by decide) ?_
    refine Aj.iadd C dX6_add_36 (by omega) ?_
    refine Aj.putI C lf_RX6_24 L.a dX6_add_37 (fun h_4 eh_4 => ?_)
    refine Aj.aload_n C 0 dX6_add_40 rfl ?_
    refine Aj.getIe (z := m + 1) C lf_RX6_24 rfl L.a dX6_add_41 (by rw [eh_4]; exact hset_same _ _ _ _) ?_
    refine Aj.iconst C dX6_add_44 (by decide) ?_
    refine Aj.isub C dX6_add_45 (by omega) ?_
    refine Aj.iret C dX6_add_46 (by rw [hmc]; exact ⟨rfl, Nat.le_of_ble_eq_true rfl⟩) ⟨_, rfl, rfl, ?_⟩
    refine Or.inr ⟨by split at pz <;> omega, by omega, ?_⟩
    rw [eh_4, eh_3, eh_2]
  · refine Aj.bipush C dX6_add_7 (by decide) (by decide) ?_
    refine Aj.iret C dX6_add_9 (by rw [hmc]; exact ⟨rfl, Nat.le_of_ble_eq_true rfl⟩) ⟨_, rfl, rfl, ?_⟩
    exact Or.inl ⟨by split at pz <;> omega, rfl, rfl⟩

set_option maxHeartbeats 4000000 in
set_option maxRecDepth 100000 in
theorem c_X6_highest (l : Launch) {G : qG} {n : Int} {r h : qH} {p cap m : Int} {F Ls : Int → Int} (L : LSpans G n r p cap) (hcap : cap ≤ 4) (hC : CSpans h p m F Ls) (hm : 0 ≤ m ∧ m ≤ cap) : q_Cm l G yX6_highest cX6_highest 3 (some .int) 1 21 [qa p] n r h (q_Pi r (fun z h' => h = h' ∧ -1 ≤ z ∧ ∀ x, 0 ≤ x → (x ≤ z ↔ ∃ k, 0 ≤ k ∧ k < m ∧ x ≤ Ls k))) 0 0 := by
  refine q_enter (al := [(0, qa p)]) m_X6_highest rfl (Nat.le_of_ble_eq_true rfl) ?_
  intro hok X C hmc hxl hin
  refine Aj.iconst C dX6_highest_0 (by decide) ?_
  refine Aj.istore_n (al2 := [(1, qi (-1)), (0, qa p)]) C dX6_highest_1 (by decide) rfl ?_
  refine Aj.iconst C dX6_highest_2 (by decide) ?_
  refine Aj.istore_n (al2 := [(2, qi 0), (1, qi (-1)), (0, qa p)]) C dX6_highest_3 (by decide) rfl ?_
  refine Aj.pick (al2 := [(0, qa p), (1, qi (-1)), (2, qi 0)]) [2, 1, 0] rfl ?_
  suffices L4 : ∀ (N : Nat) (v i : Int) , (0 ≤ i ∧ i ≤ m ∧ -1 ≤ v ∧ ∀ x, 0 ≤ x → (x ≤ v ↔ ∃ k, 0 ≤ k ∧ k < i ∧ x ≤ Ls k)) → (m - i).toNat < N → Aj G X (q_Pi r (fun z h' => h = h' ∧ -1 ≤ z ∧ ∀ x, 0 ≤ x → (x ≤ z ↔ ∃ k, 0 ≤ k ∧ k < m ∧ x ≤ Ls k))) cX6_highest 3 (0, 0) n r h 4 [(0, qa p), (1, qi v), (2, qi i)] [] from L4 (_ + 1) (-1) 0 (⟨by omega, by omega, by omega, fun x hx => ⟨fun q => by omega, fun ⟨k, q1, q2, _⟩ => by omega⟩⟩) (Nat.lt_succ_self _)
  intro N4
  induction N4 with
  | zero => intro v i _ hN; exact absurd hN (Nat.not_lt_zero _)
  | succ N ih4 =>
    intro v i hI4 hN4
    obtain ⟨hi0, hi1, hi2, hi3⟩ := hI4
    refine Aj.iload_n C 2 dX6_highest_4 rfl ?_
    refine Aj.aload_n C 0 dX6_highest_5 rfl ?_
    refine Aj.getIe (z := m) C lf_RX6_24 rfl L.a dX6_highest_6 hC.1 ?_
    refine Aj.icmp_ge (tgt := 29) C dX6_highest_9 (by decide) (fun c9 => ?_) (fun c9 => ?_)
    · refine Aj.iload_n C 1 dX6_highest_29 rfl ?_
      refine Aj.iret C dX6_highest_30 (by rw [hmc]; exact ⟨rfl, Nat.le_of_ble_eq_true rfl⟩) ⟨_, rfl, rfl, ?_⟩
      exact ⟨rfl, hi2, (show i = m by omega) ▸ hi3⟩
    · refine Aj.iload_n C 1 dX6_highest_12 rfl ?_
      refine Aj.aload_n C 0 dX6_highest_13 rfl ?_
      refine Aj.getR C lf_RX6_15 rfl L.a L.r1 dX6_highest_14 ?_
      refine Aj.iload_n C 2 dX6_highest_17 rfl ?_
      refine Aj.ialde (w := Ls i) C L.a2 (by omega) dX6_highest_18 (hC.2 _ (by omega) (by omega)).2 ?_
      refine Aj.mmax C lm_RX6_42 ⟨Nat.le_of_ble_eq_true rfl, Nat.le_of_ble_eq_true rfl⟩ (by decide) dX6_highest_19 ?_
      refine Aj.istore_n (al2 := [(1, qi (max v (Ls i))), (0, qa p), (2, qi i)]) C dX6_highest_22 (by decide) rfl ?_
      refine Aj.iinc (al2 := [(2, qi (i + 1)), (1, qi (max v (Ls i))), (0, qa p)]) C 2 dX6_highest_23 rfl (by decide) (by omega) rfl ?_
      refine Aj.goto (tgt := 4) C dX6_highest_26 (by decide) ?_
      refine Aj.pick (al2 := [(0, qa p), (1, qi (max v (Ls i))), (2, qi (i + 1))]) [2, 1, 0] rfl ?_
      exact ih4 (max v (Ls i)) (i + 1) (⟨by omega, by omega, by omega, fun x hx => ⟨fun q => by
        rcases (show x ≤ v ∨ x ≤ Ls i by omega) with q | q
        · obtain ⟨k, q1, q2, q3⟩ := (hi3 x hx).mp q
          exact ⟨k, q1, by omega, q3⟩
        · exact ⟨i, hi0, by omega, q⟩, fun ⟨k, q1, q2, q3⟩ => by
        by_cases hk : k = i
        · subst hk; omega
        · have := (hi3 x hx).mpr ⟨k, q1, by omega, q3⟩
          omega⟩⟩) (by omega)

set_option maxHeartbeats 4000000 in
set_option maxRecDepth 100000 in
theorem c_X6_backFrom (l : Launch) {G : qG} {n : Int} {r h : qH} {a : Int} (ha : a ≤ 1000) (ha0 : 0 ≤ a) {p cap m : Int} {F Ls : Int → Int} (L : LSpans G n r p cap) (hcap : cap ≤ 4) (hC : CSpans h p m F Ls) (hm : 0 ≤ m ∧ m ≤ cap) : q_Cm l G yX6_backFrom cX6_backFrom 3 (some .int) 0 0 [qa p, qi a] n r h (q_Pi r (fun z h' => h = h' ∧ ((∃ k, 0 ≤ k ∧ k < m ∧ Ls k = a ∧ z = F k ∧ ∀ j, 0 ≤ j → j < k → Ls j ≠ a) ∨ ((∀ k, 0 ≤ k → k < m → Ls k ≠ a) ∧ z = a + 1)))) 0 0 := by
  refine q_enter (al := [(0, qa p), (1, qi a)]) m_X6_backFrom rfl (Nat.le_of_ble_eq_true rfl) ?_
  intro hok X C hmc hxl hin
  refine Aj.iconst C dX6_backFrom_0 (by decide) ?_
  refine Aj.istore_n (al2 := [(2, qi 0), (0, qa p), (1, qi a)]) C dX6_backFrom_1 (by decide) rfl ?_
  refine Aj.pick (al2 := [(0, qa p), (1, qi a), (2, qi 0)]) [1, 2, 0] rfl ?_
  suffices L2 : ∀ (N : Nat) (i : Int) , (0 ≤ i ∧ i ≤ m ∧ ∀ k, 0 ≤ k → k < i → Ls k ≠ a) → (m - i).toNat < N → Aj G X (q_Pi r (fun z h' => h = h' ∧ ((∃ k, 0 ≤ k ∧ k < m ∧ Ls k = a ∧ z = F k ∧ ∀ j, 0 ≤ j → j < k → Ls j ≠ a) ∨ ((∀ k, 0 ≤ k → k < m → Ls k ≠ a) ∧ z = a + 1)))) cX6_backFrom 3 (0, 0) n r h 2 [(0, qa p), (1, qi a), (2, qi i)] [] from L2 (_ + 1) 0 (⟨by omega, by omega, fun k h1 h2 => by omega⟩) (Nat.lt_succ_self _)
  intro N2
  induction N2 with
  | zero => intro i _ hN; exact absurd hN (Nat.not_lt_zero _)
  | succ N ih2 =>
    intro i hI2 hN2
    obtain ⟨hi0, hi1, hi2⟩ := hI2
    refine Aj.iload_n C 2 dX6_backFrom_2 rfl ?_
    refine Aj.aload_n C 0 dX6_backFrom_3 rfl ?_
    refine Aj.getIe (z := m) C lf_RX6_24 rfl L.a dX6_backFrom_4 hC.1 ?_
    refine Aj.icmp_ge (tgt := 33) C dX6_backFrom_7 (by decide) (fun c7 => ?_) (fun c7 => ?_)
    · refine Aj.iload_n C 1 dX6_backFrom_33 rfl ?_
      refine Aj.iconst C dX6_backFrom_34 (by decide) ?_
      refine Aj.iadd C dX6_backFrom_35 (by omega) ?_
      refine Aj.iret C dX6_backFrom_36 (by rw [hmc]; exact ⟨rfl, Nat.le_of_ble_eq_true rfl⟩) ⟨_, rfl, rfl, ?_⟩
      first
      | exact ⟨rfl, Or.inr ⟨fun k k1 k2 => hi2 k k1 (by omega), rfl⟩⟩
      | exact ⟨rfl, Or.inl ⟨i, hi0, by omega, by omega, rfl, hi2⟩⟩
    · refine Aj.aload_n C 0 dX6_backFrom_10 rfl ?_
      refine Aj.getR C lf_RX6_15 rfl L.a L.r1 dX6_backFrom_11 ?_
      refine Aj.iload_n C 2 dX6_backFrom_14 rfl ?_
      refine Aj.ialde (w := Ls i) C L.a2 (by omega) dX6_backFrom_15 (hC.2 _ (by omega) (by omega)).2 ?_
      refine Aj.iload_n C 1 dX6_backFrom_16 rfl ?_
      refine Aj.icmp_ne (tgt := 27) C dX6_backFrom_17 (by decide) (fun c17 => ?_) (fun c17 => ?_)
      · refine Aj.iinc (al2 := [(2, qi (i + 1)), (0, qa p), (1, qi a)]) C 2 dX6_backFrom_27 rfl (by decide) (by omega) rfl ?_
        refine Aj.goto (tgt := 2) C dX6_backFrom_30 (by decide) ?_
        refine Aj.pick (al2 := [(0, qa p), (1, qi a), (2, qi (i + 1))]) [1, 2, 0] rfl ?_
        exact ih2 (i + 1) (⟨by omega, by omega, fun k h1 h2 => if hk : k = i then by subst hk; omega else hi2 k h1 (by omega)⟩) (by omega)
      · refine Aj.aload_n C 0 dX6_backFrom_20 rfl ?_
        refine Aj.getR C lf_RX6_9 rfl L.a L.r0 dX6_backFrom_21 ?_
        refine Aj.iload_n C 2 dX6_backFrom_24 rfl ?_
        refine Aj.ialde (w := F i) C L.a1 (by omega) dX6_backFrom_25 (hC.2 _ (by omega) (by omega)).1 ?_
        refine Aj.iret C dX6_backFrom_26 (by rw [hmc]; exact ⟨rfl, Nat.le_of_ble_eq_true rfl⟩) ⟨_, rfl, rfl, ?_⟩
        first
        | exact ⟨rfl, Or.inr ⟨fun k k1 k2 => hi2 k k1 (by omega), rfl⟩⟩
        | exact ⟨rfl, Or.inl ⟨i, hi0, by omega, by omega, rfl, hi2⟩⟩

set_option maxHeartbeats 4000000 in
set_option maxRecDepth 100000 in
theorem c_X6_remove (l : Launch) {G : qG} {n : Int} {r h : qH} {a : Int} {p cap m : Int} {F Ls : Int → Int} (L : LSpans G n r p cap) (hcap : cap ≤ 4) (hC : CSpans h p m F Ls) (hm : 0 ≤ m ∧ m ≤ cap) : q_Cm l G yX6_remove cX6_remove 3 (some .int) 0 0 [qa p, qi a] n r h (q_Pi r (fun z h' => (¬ (0 ≤ a ∧ a < m) ∧ z = -1 ∧ h = h') ∨ ((0 ≤ a ∧ a < m) ∧ z = m - 1 ∧ ∀ x y, h' x y = if x = p ∧ y = 2 then m - 1 else if (x = p + 1 ∨ x = p + 2) ∧ a ≤ y ∧ y < m - 1 then h x (y + 1) else h x y))) 0 0 := by
  refine q_enter (al := [(0, qa p), (1, qi a)]) m_X6_remove rfl (Nat.le_of_ble_eq_true rfl) ?_
  intro hok X C hmc hxl hin
  refine Aj.iload_n C 1 dX6_remove_0 rfl ?_
  refine Aj.if_lt (tgt := 12) C dX6_remove_1 (by decide) (fun c1 => ?_) (fun c1 => ?_)
  · refine Aj.iconst C dX6_remove_12 (by decide) ?_
    refine Aj.iret C dX6_remove_13 (by rw [hmc]; exact ⟨rfl, Nat.le_of_ble_eq_true rfl⟩) ⟨_, rfl, rfl, ?_⟩
    exact Or.inl ⟨by omega, rfl, rfl⟩
  · refine Aj.iload_n C 1 dX6_remove_4 rfl ?_
    refine Aj.aload_n C 0 dX6_remove_5 rfl ?_
    refine Aj.getIe (z := m) C lf_RX6_24 rfl L.a dX6_remove_6 hC.1 ?_
    refine Aj.icmp_lt (tgt := 14) C dX6_remove_9 (by decide) (fun c9 => ?_) (fun c9 => ?_)
    · refine Aj.iload_n C 1 dX6_remove_14 rfl ?_
      refine Aj.iconst C dX6_remove_15 (by decide) ?_
      refine Aj.iadd C dX6_remove_16 (by omega) ?_
      refine Aj.istore_n (al2 := [(2, qi (a + 1)), (0, qa p), (1, qi a)]) C dX6_remove_17 (by decide) rfl ?_
      refine Aj.pick (al2 := [(0, qa p), (1, qi a), (2, qi (a + 1))]) [1, 2, 0] rfl ?_
      suffices L18 : ∀ (N : Nat) (i : Int) (hh : qH) , (a + 1 ≤ i ∧ i ≤ m ∧ 0 ≤ a ∧ ∀ x y, hh x y = if (x = p + 1 ∨ x = p + 2) ∧ a ≤ y ∧ y < i - 1 then h x (y + 1) else h x y) → (m - i).toNat < N → Aj G X (q_Pi r (fun z h' => (¬ (0 ≤ a ∧ a < m) ∧ z = -1 ∧ h = h') ∨ ((0 ≤ a ∧ a < m) ∧ z = m - 1 ∧ ∀ x y, h' x y = if x = p ∧ y = 2 then m - 1 else if (x = p + 1 ∨ x = p + 2) ∧ a ≤ y ∧ y < m - 1 then h x (y + 1) else h x y))) cX6_remove 3 (0, 0) n r hh 18 [(0, qa p), (1, qi a), (2, qi i)] [] from L18 (_ + 1) (a + 1) h (⟨by omega, by omega, by omega, fun x y => by rw [if_neg (by omega)]⟩) (Nat.lt_succ_self _)
      intro N18
      induction N18 with
      | zero => intro i hh _ hN; exact absurd hN (Nat.not_lt_zero _)
      | succ N ih18 =>
        intro i hh hI18 hN18
        obtain ⟨hi0, hi1, hi2, hi3⟩ := hI18
        refine Aj.iload_n C 2 dX6_remove_18 rfl ?_
        refine Aj.aload_n C 0 dX6_remove_19 rfl ?_
        refine Aj.getIe (z := m) C lf_RX6_24 rfl L.a dX6_remove_20 (by rw [hi3, if_neg (by omega)]; exact hC.1) ?_
        refine Aj.icmp_ge (tgt := 60) C dX6_remove_23 (by decide) (fun c23 => ?_) (fun c23 => ?_)
        · refine Aj.aload_n C 0 dX6_remove_60 rfl ?_
          refine Aj.dup_qa C dX6_remove_61 ?_
          refine Aj.getIe (z := m) C lf_RX6_24 rfl L.a dX6_remove_62 (by rw [hi3, if_neg (by omega)]; exact hC.1) ?_
          refine Aj.iconst C dX6_remove_65 (by decide) ?_
          refine Aj.isub C dX6_remove_66 (by omega) ?_
          refine Aj.putI C lf_RX6_24 L.a dX6_remove_67 (fun h_1 eh_1 => ?_)
          refine Aj.aload_n C 0 dX6_remove_70 rfl ?_
          refine Aj.getIe (z := m - 1) C lf_RX6_24 rfl L.a dX6_remove_71 (by rw [eh_1]; exact hset_same _ _ _ _) ?_
          refine Aj.iret C dX6_remove_74 (by rw [hmc]; exact ⟨rfl, Nat.le_of_ble_eq_true rfl⟩) ⟨_, rfl, rfl, ?_⟩
          exact Or.inr ⟨by omega, by omega, fun x y => by
            rw [eh_1]
            simp only [hset_ap, hi3]
            grind⟩
        · refine Aj.aload_n C 0 dX6_remove_26 rfl ?_
          refine Aj.getR C lf_RX6_9 rfl L.a L.r0 dX6_remove_27 ?_
          refine Aj.iload_n C 2 dX6_remove_30 rfl ?_
          refine Aj.iconst C dX6_remove_31 (by decide) ?_
          refine Aj.isub C dX6_remove_32 (by omega) ?_
          refine Aj.aload_n C 0 dX6_remove_33 rfl ?_
          refine Aj.getR C lf_RX6_9 rfl L.a L.r0 dX6_remove_34 ?_
          refine Aj.iload_n C 2 dX6_remove_37 rfl ?_
          refine Aj.ialde (w := hh (p + 1) i) C L.a1 (by omega) dX6_remove_38 rfl ?_
          refine Aj.iast C L.a1 (by omega) dX6_remove_39 (fun h_2 eh_2 => ?_)
          refine Aj.aload_n C 0 dX6_remove_40 rfl ?_
          refine Aj.getR C lf_RX6_15 rfl L.a L.r1 dX6_remove_41 ?_
          refine Aj.iload_n C 2 dX6_remove_44 rfl ?_
          refine Aj.iconst C dX6_remove_45 (by decide) ?_
          refine Aj.isub C dX6_remove_46 (by omega) ?_
          refine Aj.aload_n C 0 dX6_remove_47 rfl ?_
          refine Aj.getR C lf_RX6_15 rfl L.a L.r1 dX6_remove_48 ?_
          refine Aj.iload_n C 2 dX6_remove_51 rfl ?_
          refine Aj.ialde (w := hh (p + 2) i) C L.a2 (by omega) dX6_remove_52 (by rw [eh_2]; exact hset_nea _ _ _ (by omega)) ?_
          refine Aj.iast C L.a2 (by omega) dX6_remove_53 (fun h_3 eh_3 => ?_)
          refine Aj.iinc (al2 := [(2, qi (i + 1)), (0, qa p), (1, qi a)]) C 2 dX6_remove_54 rfl (by decide) (by omega) rfl ?_
          refine Aj.goto (tgt := 18) C dX6_remove_57 (by decide) ?_
          refine Aj.pick (al2 := [(0, qa p), (1, qi a), (2, qi (i + 1))]) [1, 2, 0] rfl ?_
          exact ih18 (i + 1) h_3 (⟨by omega, by omega, by omega, fun x y => by
            rw [eh_3, eh_2]
            simp only [hset_ap, hi3]
            grind⟩) (by omega)
    · refine Aj.iconst C dX6_remove_12 (by decide) ?_
      refine Aj.iret C dX6_remove_13 (by rw [hmc]; exact ⟨rfl, Nat.le_of_ble_eq_true rfl⟩) ⟨_, rfl, rfl, ?_⟩
      exact Or.inl ⟨by omega, rfl, rfl⟩

set_option maxHeartbeats 4000000 in
set_option maxRecDepth 100000 in
theorem c_X6_copyFrom (l : Launch) {G : qG} {n : Int} {r h : qH} {p q cap m : Int} (L : LSpans G n r p cap) (K : LSpans G n r q cap) (hcap : 0 ≤ cap ∧ cap ≤ 4) (hC : h q 2 = m) (hm : 0 ≤ m ∧ m ≤ cap) (hd : p + 3 ≤ q ∨ q + 3 ≤ p) : q_Cm l G yX6_copyFrom cX6_copyFrom 3 none 1 28 [qa p, qa q] n r h (q_Pv r (fun h' => ∀ x y, h' x y = if x = p ∧ y = 2 then m else if (x = p + 1 ∨ x = p + 2) ∧ 0 ≤ y ∧ y < cap then h (x - p + q) y else h x y)) 0 0 := by
  refine q_enter (al := [(0, qa p), (1, qa q)]) m_X6_copyFrom rfl (Nat.le_of_ble_eq_true rfl) ?_
  intro hok X C hmc hxl hin
  refine Aj.aload_n C 0 dX6_copyFrom_0 rfl ?_
  refine Aj.getR C lf_RX6_9 rfl L.a L.r0 dX6_copyFrom_1 ?_
  refine Aj.alen C L.a1 (Or.inl rfl) (by omega) dX6_copyFrom_4 ?_
  refine Aj.aload_n C 1 dX6_copyFrom_5 rfl ?_
  refine Aj.getR C lf_RX6_9 rfl K.a K.r0 dX6_copyFrom_6 ?_
  refine Aj.alen C K.a1 (Or.inl rfl) (by omega) dX6_copyFrom_9 ?_
  refine Aj.mmin C lm_RX6_18 ⟨Nat.le_of_ble_eq_true rfl, Nat.le_of_ble_eq_true rfl⟩ (by decide) dX6_copyFrom_10 ?_
  refine Aj.istore_n (al2 := [(2, qi (min cap cap)), (0, qa p), (1, qa q)]) C dX6_copyFrom_13 (by decide) rfl ?_
  refine Aj.aload_n C 1 dX6_copyFrom_14 rfl ?_
  refine Aj.aload_n C 2 dX6_copyFrom_15 rfl ?_
  refine Aj.getIe (z := m) C lf_RX6_24 rfl K.a dX6_copyFrom_16 hC ?_
  refine Aj.iload_n C 0 dX6_copyFrom_19 rfl ?_
  refine Aj.mmin C lm_RX6_18 ⟨Nat.le_of_ble_eq_true rfl, Nat.le_of_ble_eq_true rfl⟩ (by decide) dX6_copyFrom_20 ?_
  refine Aj.putI C lf_RX6_24 L.a dX6_copyFrom_23 (fun h_1 eh_1 => ?_)
  refine Aj.aload_n C 2 dX6_copyFrom_26 rfl ?_
  refine Aj.getR C lf_RX6_9 rfl K.a K.r0 dX6_copyFrom_27 ?_
  refine Aj.iconst C dX6_copyFrom_30 (by decide) ?_
  refine Aj.aload_n C 1 dX6_copyFrom_31 rfl ?_
  refine Aj.getR C lf_RX6_9 rfl L.a L.r0 dX6_copyFrom_32 ?_
  refine Aj.iconst C dX6_copyFrom_35 (by decide) ?_
  refine Aj.iload_n C 0 dX6_copyFrom_36 rfl ?_
  refine Aj.acopy C lm_RX6_28 L.a1 K.a1 (by omega) (by omega) (by omega) (by omega) (by omega) ⟨Nat.le_of_ble_eq_true rfl, Nat.le_of_ble_eq_true rfl⟩ dX6_copyFrom_37 (fun h_2 eh_2 => ?_)
  refine Aj.aload_n C 2 dX6_copyFrom_40 rfl ?_
  refine Aj.getR C lf_RX6_15 rfl K.a K.r1 dX6_copyFrom_41 ?_
  refine Aj.iconst C dX6_copyFrom_44 (by decide) ?_
  refine Aj.aload_n C 1 dX6_copyFrom_45 rfl ?_
  refine Aj.getR C lf_RX6_15 rfl L.a L.r1 dX6_copyFrom_46 ?_
  refine Aj.iconst C dX6_copyFrom_49 (by decide) ?_
  refine Aj.iload_n C 0 dX6_copyFrom_50 rfl ?_
  refine Aj.acopy C lm_RX6_28 L.a2 K.a2 (by omega) (by omega) (by omega) (by omega) (by omega) ⟨Nat.le_of_ble_eq_true rfl, Nat.le_of_ble_eq_true rfl⟩ dX6_copyFrom_51 (fun h_3 eh_3 => ?_)
  refine Aj.vret C dX6_copyFrom_54 (by rw [hmc]; exact ⟨rfl, Nat.le_of_ble_eq_true rfl⟩) ⟨rfl, rfl, ?_⟩
  intro x y
  rw [eh_3, eh_2, eh_1]
  simp only [hcpy_ap, hset_ap]
  grind
