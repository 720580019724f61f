set_option maxHeartbeats 400000 in
set_option maxRecDepth 100000 in
theorem c_X9_repeats (l : Launch) {G : qG} {n : Int} {r h : qH} {a b : Int} {M : Int} {s : Int → Int} (L : LModel G n r M) (c : IMs h M s) (g : SG s) {T : qT} (d : CP h M T) (t : TG T) (hT : T.1 ≤ 120) (ha : 0 ≤ a ∧ a ≤ b + 1) (hb : b < s 0) (hm : ∀ i : Nat, (i : Int) < b + 1 - a → (singR s a i T).1 + 1 ≤ 120) : q_Cm l G yX9_repeats cX9_repeats 4 none 3 66 [qa M, qi a, qi b] n r h (q_Pv r (fun h' => CP h' M (singR s a (b + 1 - a).toNat T) ∧ FN M h h')) 0 0 := by
  refine q_enter (al := [(0, qa M), (1, qi a), (2, qi b)]) m_X9_repeats rfl (Nat.le_of_ble_eq_true rfl) ?_
  intro hok X C hmc hxl hin
  have gn := g.n
  have t0 := t.1
  refine Aj.iload_n C 1 dX9_repeats_0 rfl ?_
  refine Aj.istore_n (al2 := [(3, qi a), (0, qa M), (1, qi a), (2, qi b)]) C dX9_repeats_1 (by decide) rfl ?_
  refine Aj.pick (al2 := [(0, qa M), (1, qi a), (2, qi b), (3, qi a)]) [1, 2, 3, 0] rfl ?_
  suffices L2 : ∀ (N : Nat) (v : Int) (h1 : qH) , (a ≤ v ∧ v ≤ b + 1 ∧ CP h1 M (singR s a (v - a).toNat T) ∧ FN M h h1) → (b + 1 - v).toNat < N → Aj G X (q_Pv r (fun h' => CP h' M (singR s a (b + 1 - a).toNat T) ∧ FN M h h')) cX9_repeats 4 (0, 0) n r h1 2 [(0, qa M), (1, qi a), (2, qi b), (3, qi v)] [] from L2 (_ + 1) a h (⟨by omega, by omega, by rw [show (a - a).toNat = 0 by omega]; exact d, FN.rf⟩) (Nat.lt_succ_self _)
  intro N2
  induction N2 with
  | zero => intro v h1 _ hN; exact absurd hN (Nat.not_lt_zero _)
  | succ N ih2 =>
    intro v h1 hI2 hN2
    obtain ⟨hv0, hv1, hv2, hv3⟩ := hI2
    have cS : IMs h1 M s := c.fs hv3.s
    refine Aj.iload_n C 3 dX9_repeats_2 rfl ?_
    refine Aj.iload_n C 2 dX9_repeats_3 rfl ?_
    refine Aj.icmp_gt (tgt := 18) C dX9_repeats_4 (by decide) (fun c4 => ?_) (fun c4 => ?_)
    · refine Aj.vret C dX9_repeats_18 (by rw [hmc]; exact ⟨rfl, Nat.le_of_ble_eq_true rfl⟩) ⟨rfl, rfl, ?_⟩
      have e : v = b + 1 := by omega
      rw [e] at hv2
      exact ⟨hv2, hv3⟩
    · have rm2 := hm (v - a).toNat (by omega)
      have tv := singR_TG g t (v - a).toNat ha.1 (by omega)
      refine Aj.aload_n C 0 dX9_repeats_7 rfl ?_
      refine Aj.iload_n C 3 dX9_repeats_8 rfl ?_
      refine Aj.callVv (As := [qi v]) (st := []) C lm_RX9_81 m_X9_sings mk_X9_sings ms_X9_sings (c_X9_sings _ ⟨by omega, by omega⟩ L cS g hv2 tv (by omega) (by omega)) L.a (t := 9) rfl rfl rfl rfl (by decide) (Nat.le_of_ble_eq_true rfl) (by decide) dX9_repeats_9 (fun h_1 p9 => ?_)
      refine Aj.iinc (al2 := [(3, qi (v + 1)), (0, qa M), (1, qi a), (2, qi b)]) C 3 dX9_repeats_12 rfl (by decide) (by omega) rfl ?_
      refine Aj.goto (tgt := 2) C dX9_repeats_15 (by decide) ?_
      refine Aj.pick (al2 := [(0, qa M), (1, qi a), (2, qi b), (3, qi (v + 1))]) [1, 2, 3, 0] rfl ?_
      exact ih2 (v + 1) h_1 (⟨by omega, by omega, by rw [singR_succ s _ _ hv0]; exact p9.1, hv3.tr p9.2⟩) (by omega)
