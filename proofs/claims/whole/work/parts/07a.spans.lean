set_option maxHeartbeats 4000000 in
set_option maxRecDepth 100000 in
theorem c_X6_isFull (l : Launch) {G : qG} {n : Int} {r h : qH} {p cap m : Int} {F Ls : Int → Int} (L : LSpans G n r p cap) (hcap : cap ≤ 4) (hC : CSpans h p m F Ls) (hm : 0 ≤ m ∧ m ≤ cap) : q_Cm l G yX6_isFull cX6_isFull 1 (some .boolean) 0 0 [qa p] n r h (q_Pi r (fun z h' => h' = h ∧ z = if cap ≤ m then 1 else 0)) 0 0 := by
  refine q_enter (al := [(0, qa p)]) m_X6_isFull rfl (Nat.le_of_ble_eq_true rfl) ?_
  intro hok X C hmc hxl hin
  refine Aj.aload_n C 0 dX6_isFull_0 rfl ?_
  refine Aj.getIe (z := m) C lf_RX6_24 rfl L.a dX6_isFull_1 hC.1 ?_
  refine Aj.aload_n C 0 dX6_isFull_4 rfl ?_
  refine Aj.getR C lf_RX6_9 rfl L.a L.r0 dX6_isFull_5 ?_
  refine Aj.alen C L.a1 (Or.inl rfl) (by omega) dX6_isFull_8 ?_
  refine Aj.icmp_lt (tgt := 16) C dX6_isFull_9 (by decide) (fun c9 => ?_) (fun c9 => ?_)
  · refine Aj.iconst C dX6_isFull_16 (by decide) ?_
    refine Aj.zret C dX6_isFull_17 (by omega) (by rw [hmc]; exact ⟨rfl, Nat.le_of_ble_eq_true rfl⟩) ⟨_, rfl, rfl, ?_⟩
    refine ⟨rfl, ?_⟩; split <;> omega
  · refine Aj.iconst C dX6_isFull_12 (by decide) ?_
    refine Aj.goto (tgt := 17) C dX6_isFull_13 (by decide) ?_
    refine Aj.zret C dX6_isFull_17 (by omega) (by rw [hmc]; exact ⟨rfl, Nat.le_of_ble_eq_true rfl⟩) ⟨_, rfl, rfl, ?_⟩
    refine ⟨rfl, ?_⟩; split <;> omega

set_option maxHeartbeats 4000000 in
set_option maxRecDepth 100000 in
theorem c_X6_meets (l : Launch) {G : qG} {n : Int} {r h : qH} {a b : Int} {p cap m : Int} {F Ls : Int → Int} (L : LSpans G n r p cap) (hcap : cap ≤ 4) (hC : CSpans h p m F Ls) (hm : 0 ≤ m ∧ m ≤ cap) : q_Cm l G yX6_meets cX6_meets 4 (some .boolean) 0 0 [qa p, qi a, qi b] n r h (q_Pi r (fun z h' => h' = h ∧ (z = 0 ∨ z = 1) ∧ (z = 1 ↔ ∃ k, 0 ≤ k ∧ k < m ∧ F k ≤ b ∧ a ≤ Ls k))) 0 0 := by
  refine q_enter (al := [(0, qa p), (1, qi a), (2, qi b)]) m_X6_meets rfl (Nat.le_of_ble_eq_true rfl) ?_
  intro hok X C hmc hxl hin
  refine Aj.iconst C dX6_meets_0 (by decide) ?_
  refine Aj.istore_n (al2 := [(3, qi 0), (0, qa p), (1, qi a), (2, qi b)]) C dX6_meets_1 (by decide) rfl ?_
  refine Aj.pick (al2 := [(0, qa p), (1, qi a), (2, qi b), (3, qi 0)]) [1, 2, 3, 0] rfl ?_
  suffices L2 : ∀ (N : Nat) (i : Int) , (0 ≤ i ∧ i ≤ m ∧ ∀ k, 0 ≤ k → k < i → ¬ (F k ≤ b ∧ a ≤ Ls k)) → (m - i).toNat < N → Aj G X (q_Pi r (fun z h' => h' = h ∧ (z = 0 ∨ z = 1) ∧ (z = 1 ↔ ∃ k, 0 ≤ k ∧ k < m ∧ F k ≤ b ∧ a ≤ Ls k))) cX6_meets 4 (0, 0) n r h 2 [(0, qa p), (1, qi a), (2, qi b), (3, qi i)] [] from L2 (_ + 1) 0 (⟨by omega, by omega, fun k h1 h2 => by omega⟩) (Nat.lt_succ_self _)
  intro N2
  induction N2 with
  | zero => intro i _ hN; exact absurd hN (Nat.not_lt_zero _)
  | succ N ih2 =>
    intro i hI2 hN2
    obtain ⟨hi0, hi1, hi2⟩ := hI2
    refine Aj.iload_n C 3 dX6_meets_2 rfl ?_
    refine Aj.aload_n C 0 dX6_meets_3 rfl ?_
    refine Aj.getIe (z := m) C lf_RX6_24 rfl L.a dX6_meets_4 hC.1 ?_
    refine Aj.icmp_ge (tgt := 38) C dX6_meets_7 (by decide) (fun c7 => ?_) (fun c7 => ?_)
    · refine Aj.iconst C dX6_meets_38 (by decide) ?_
      refine Aj.zret C dX6_meets_39 (by omega) (by rw [hmc]; exact ⟨rfl, Nat.le_of_ble_eq_true rfl⟩) ⟨_, rfl, rfl, ?_⟩
      refine ⟨rfl, by omega, ?_⟩
      constructor
      · first | (intro e; omega) | (intro _; exact ⟨i, hi0, by omega, by omega, by omega⟩)
      · rintro ⟨k, k1, k2, k3⟩
        first | rfl | exact absurd k3 (hi2 k k1 (by omega))
    · refine Aj.aload_n C 0 dX6_meets_10 rfl ?_
      refine Aj.getR C lf_RX6_9 rfl L.a L.r0 dX6_meets_11 ?_
      refine Aj.iload_n C 3 dX6_meets_14 rfl ?_
      refine Aj.ialde (w := F i) C L.a1 (by omega) dX6_meets_15 (hC.2 _ (by omega) (by omega)).1 ?_
      refine Aj.iload_n C 2 dX6_meets_16 rfl ?_
      refine Aj.icmp_gt (tgt := 32) C dX6_meets_17 (by decide) (fun c17 => ?_) (fun c17 => ?_)
      · refine Aj.iinc (al2 := [(3, qi (i + 1)), (0, qa p), (1, qi a), (2, qi b)]) C 3 dX6_meets_32 rfl (by decide) (by omega) rfl ?_
        refine Aj.goto (tgt := 2) C dX6_meets_35 (by decide) ?_
        refine Aj.pick (al2 := [(0, qa p), (1, qi a), (2, qi b), (3, qi (i + 1))]) [1, 2, 3, 0] rfl ?_
        exact ih2 (i + 1) (⟨by omega, by omega, fun k h1 h2 => if hk : k = i then by subst hk; omega else hi2 k h1 (by omega)⟩) (by omega)
      · refine Aj.iload_n C 1 dX6_meets_20 rfl ?_
        refine Aj.aload_n C 0 dX6_meets_21 rfl ?_
        refine Aj.getR C lf_RX6_15 rfl L.a L.r1 dX6_meets_22 ?_
        refine Aj.iload_n C 3 dX6_meets_25 rfl ?_
        refine Aj.ialde (w := Ls i) C L.a2 (by omega) dX6_meets_26 (hC.2 _ (by omega) (by omega)).2 ?_
        refine Aj.icmp_gt (tgt := 32) C dX6_meets_27 (by decide) (fun c27 => ?_) (fun c27 => ?_)
        · refine Aj.iinc (al2 := [(3, qi (i + 1)), (0, qa p), (1, qi a), (2, qi b)]) C 3 dX6_meets_32 rfl (by decide) (by omega) rfl ?_
          refine Aj.goto (tgt := 2) C dX6_meets_35 (by decide) ?_
          refine Aj.pick (al2 := [(0, qa p), (1, qi a), (2, qi b), (3, qi (i + 1))]) [1, 2, 3, 0] rfl ?_
          exact ih2 (i + 1) (⟨by omega, by omega, fun k h1 h2 => if hk : k = i then by subst hk; omega else hi2 k h1 (by omega)⟩) (by omega)
        · refine Aj.iconst C dX6_meets_30 (by decide) ?_
          refine Aj.zret C dX6_meets_31 (by omega) (by rw [hmc]; exact ⟨rfl, Nat.le_of_ble_eq_true rfl⟩) ⟨_, rfl, rfl, ?_⟩
          exact ⟨rfl, Or.inr rfl, fun _ => ⟨i, hi0, by omega, by omega, by omega⟩, fun _ => rfl⟩

set_option maxHeartbeats 4000000 in
set_option maxRecDepth 100000 in
theorem c_X6_covers (l : Launch) {G : qG} {n : Int} {r h : qH} {a : Int} {p cap m : Int} {F Ls : Int → Int} (L : LSpans G n r p cap) (hcap : cap ≤ 4) (hC : CSpans h p m F Ls) (hm : 0 ≤ m ∧ m ≤ cap) : q_Cm l G yX6_covers cX6_covers 2 (some .boolean) 1 23 [qa p, qi a] n r h (q_Pi r (fun z h' => h' = h ∧ (z = 0 ∨ z = 1) ∧ (z = 1 ↔ ∃ k, 0 ≤ k ∧ k < m ∧ F k ≤ a ∧ a ≤ Ls k))) 0 0 := by
  refine q_enter (al := [(0, qa p), (1, qi a)]) m_X6_covers rfl (Nat.le_of_ble_eq_true rfl) ?_
  intro hok X C hmc hxl hin
  refine Aj.aload_n C 0 dX6_covers_0 rfl ?_
  refine Aj.iload_n C 1 dX6_covers_1 rfl ?_
  refine Aj.iload_n C 1 dX6_covers_2 rfl ?_
  refine Aj.callVi (As := [qi a, qi a]) (st := []) C lm_RX6_38 m_X6_meets mk_X6_meets ms_X6_meets (c_X6_meets _ L hcap hC hm) L.a (t := 6) rfl rfl rfl rfl (by decide) (Nat.le_of_ble_eq_true rfl) (by decide) dX6_covers_3 (fun z3 h_1 rz3 p3 => ?_)
  obtain ⟨rfl, pz, pe⟩ := p3
  refine Aj.zret C dX6_covers_6 (by omega) (by rw [hmc]; exact ⟨rfl, Nat.le_of_ble_eq_true rfl⟩) ⟨_, rfl, rfl, ?_⟩
  exact ⟨rfl, pz, pe⟩

set_option maxHeartbeats 4000000 in
set_option maxRecDepth 100000 in
theorem c_X6_add (l : Launch) {G : qG} {n : Int} {r h : qH} {a b : Int} {p cap m : Int} {F Ls : Int → Int} (L : LSpans G n r p cap) (hcap : cap ≤ 4) (hC : CSpans h p m F Ls) (hm : 0 ≤ m ∧ m ≤ cap) : q_Cm l G yX6_add cX6_add 3 (some .int) 1 20 [qa p, qi a, qi b] n r h (q_Pi r (fun z h' => (cap ≤ m ∧ z = -4 ∧ h' = h) ∨ (m < cap ∧ z = m ∧ h' = hset (hset (hset h (p + 1) m a) (p + 2) m b) p 2 (m + 1)))) 0 0 := by
  refine q_enter (al := [(0, qa p), (1, qi a), (2, qi b)]) m_X6_add rfl (Nat.le_of_ble_eq_true rfl) ?_
  intro hok X C hmc hxl hin
  refine Aj.aload_n C 0 dX6_add_0 rfl ?_
  refine Aj.callVi (As := []) (st := []) C lm_RX6_34 m_X6_isFull mk_X6_isFull ms_X6_isFull (c_X6_isFull _ L hcap hC hm) L.a (t := 6) rfl rfl rfl rfl (by decide) (Nat.le_of_ble_eq_true rfl) (by decide) dX6_add_1 (fun z1 h_1 rz1 p1 => ?_)
  obtain ⟨rfl, pz⟩ := p1
  refine Aj.if_eq (tgt := 10) C dX6_add_4 (by decide) (fun c4 => ?_) (fun c4 => ?_)
  · refine Aj.aload_n C 0 dX6_add_10 rfl ?_
    refine Aj.getR C lf_RX6_9 rfl L.a L.r0 dX6_add_11 ?_
    refine Aj.aload_n C 0 dX6_add_14 rfl ?_
    refine Aj.getIe (z := m) C lf_RX6_24 rfl L.a dX6_add_15 hC.1 ?_
    refine Aj.iload_n C 1 dX6_add_18 rfl ?_
    refine Aj.iast C L.a1 (by omega) dX6_add_19 (fun h_2 eh_2 => ?_)
    refine Aj.aload_n C 0 dX6_add_20 rfl ?_
    refine Aj.getR C lf_RX6_15 rfl L.a L.r1 dX6_add_21 ?_
    refine Aj.aload_n C 0 dX6_add_24 rfl ?_
    refine Aj.getIe (z := m) C lf_RX6_24 rfl L.a dX6_add_25 (by rw [eh_2, hset_nea _ _ _ (by omega)]; exact hC.1) ?_
    refine Aj.iload_n C 2 dX6_add_28 rfl ?_
    refine Aj.iast C L.a2 (by omega) dX6_add_29 (fun h_3 eh_3 => ?_)
    refine Aj.aload_n C 0 dX6_add_30 rfl ?_
    refine Aj.dup_qa C dX6_add_31 ?_
    refine Aj.getIe (z := m) C lf_RX6_24 rfl L.a dX6_add_32 (by rw [eh_3, hset_nea _ _ _ (by omega)]; exact (by rw [eh_2, hset_nea _ _ _ (by omega)]; exact hC.1)) ?_
    refine Aj.iconst C dX6_add_35 (by decide) ?_
    refine Aj.iadd C dX6_add_36 (by omega) ?_
    refine Aj.putI C lf_RX6_24 L.a dX6_add_37 (fun h_4 eh_4 => ?_)
    refine Aj.aload_n C 0 dX6_add_40 rfl ?_
    refine Aj.getIe (z := m + 1) C lf_RX6_24 rfl L.a dX6_add_41 (by rw [eh_4]; exact hset_same _ _ _ _) ?_
    refine Aj.iconst C dX6_add_44 (by decide) ?_
    refine Aj.isub C dX6_add_45 (by omega) ?_
    refine Aj.iret C dX6_add_46 (by rw [hmc]; exact ⟨rfl, Nat.le_of_ble_eq_true rfl⟩) ⟨_, rfl, rfl, ?_⟩
    refine Or.inr ⟨by split at pz <;> omega, by omega, ?_⟩
    rw [eh_4, eh_3, eh_2]
  · refine Aj.bipush C dX6_add_7 (by decide) (by decide) ?_
    refine Aj.iret C dX6_add_9 (by rw [hmc]; exact ⟨rfl, Nat.le_of_ble_eq_true rfl⟩) ⟨_, rfl, rfl, ?_⟩
    exact Or.inl ⟨by split at pz <;> omega, rfl, rfl⟩
