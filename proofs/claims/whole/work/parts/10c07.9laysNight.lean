set_option maxHeartbeats 400000 in
set_option maxRecDepth 100000 in
theorem c_X9_laysNight (l : Launch) {G : qG} {n : Int} {r h : qH} {M : Int} {s : Int → Int} (L : LModel G n r M) (c : IMs h M s) (g : SG s) : q_Cm l G yX9_laysNight cX9_laysNight 3 none 4 89 [qa M] n r h (q_Pv r (fun h' => CP h' M (nightT s) ∧ FN M h h')) 0 0 := by
  refine q_enter (al := [(0, qa M)]) m_X9_laysNight rfl (Nat.le_of_ble_eq_true rfl) ?_
  intro hok X C hmc hxl hin
  have gn := g.n
  refine Aj.aload_n C 0 dX9_laysNight_0 rfl ?_
  refine Aj.iconst C dX9_laysNight_1 (by decide) ?_
  refine Aj.putI C lf_RX9_71 L.a dX9_laysNight_2 (fun h_1 eh_1 => ?_)
  refine Aj.aload_n C 0 dX9_laysNight_5 rfl ?_
  refine Aj.iconst C dX9_laysNight_6 (by decide) ?_
  refine Aj.putI C lf_RX9_74 L.a dX9_laysNight_7 (fun h_2 eh_2 => ?_)
  refine Aj.iconst C dX9_laysNight_10 (by decide) ?_
  refine Aj.istore_n (al2 := [(1, qi 0), (0, qa M)]) C dX9_laysNight_11 (by decide) rfl ?_
  refine Aj.pick (al2 := [(0, qa M), (1, qi 0)]) [1, 0] rfl ?_
  suffices L12 : ∀ (N : Nat) (j : Int) (h1 : qH) , (0 ≤ j ∧ j ≤ s 0 ∧ CP h1 M (singTo s j.toNat) ∧ FN M h h1) → (s 0 - j).toNat < N → Aj G X (q_Pv r (fun h' => CP h' M (nightT s) ∧ FN M h h')) cX9_laysNight 3 (0, 0) n r h1 12 [(0, qa M), (1, qi j)] [] from L12 (_ + 1) 0 h_2 (⟨by omega, by omega, ⟨by rw [eh_2, eh_1, hset_neb _ _ _ (by decide), hset_same]; rfl, by rw [eh_2, hset_same]; rfl, fun k k1 k2 => by have k2 : k < 0 := k2; omega⟩, fun x y w => by rw [eh_2, eh_1, hset_ne _ _ (by omega), hset_ne _ _ (by omega)]⟩) (Nat.lt_succ_self _)
  intro N12
  induction N12 with
  | zero => intro j h1 _ hN; exact absurd hN (Nat.not_lt_zero _)
  | succ N ih12 =>
    intro j h1 hI12 hN12
    obtain ⟨hj0, hj1, hj2, hj3⟩ := hI12
    have cS : IMs h1 M s := c.fs hj3.s
    refine Aj.iload_n C 1 dX9_laysNight_12 rfl ?_
    refine Aj.aload_n C 0 dX9_laysNight_13 rfl ?_
    refine Aj.getR C lf_RX9_7 rfl L.a L.r1 dX9_laysNight_14 ?_
    refine Aj.iconst C dX9_laysNight_17 (by decide) ?_
    refine Aj.ialde (w := s 0) C L.a1 (by omega) dX9_laysNight_18 (cS _ (by omega) (by omega)) ?_
    refine Aj.icmp_ge (tgt := 84) C dX9_laysNight_19 (by decide) (fun c19 => ?_) (fun c19 => ?_)
    · refine Aj.vret C dX9_laysNight_84 (by rw [hmc]; exact ⟨rfl, Nat.le_of_ble_eq_true rfl⟩) ⟨rfl, rfl, ?_⟩
      have e : j = s 0 := by omega
      rw [e] at hj2
      exact ⟨hj2, hj3⟩
    · have hjc : ((j.toNat : Nat) : Int) = j := by omega
      have rm := sing_room g j.toNat (by omega)
      rw [hjc] at rm
      have tj := singTo_TG g j.toNat (by omega)
      clear hjc
      refine Aj.aload_n C 0 dX9_laysNight_22 rfl ?_
      refine Aj.iload_n C 1 dX9_laysNight_23 rfl ?_
      refine Aj.callVv (As := [qi j]) (st := []) C lm_RX9_81 m_X9_sings mk_X9_sings ms_X9_sings (c_X9_sings _ ⟨hj0, by omega⟩ L cS g hj2 tj (by omega) (by omega)) L.a (t := 9) rfl rfl rfl rfl (by decide) (Nat.le_of_ble_eq_true rfl) (by decide) dX9_laysNight_24 (fun h_3 p24 => ?_)
      have c24 := p24
      refine Aj.iconst C dX9_laysNight_27 (by decide) ?_
      refine Aj.istore_n (al2 := [(2, qi 0), (0, qa M), (1, qi j)]) C dX9_laysNight_28 (by decide) rfl ?_
      refine Aj.pick (al2 := [(0, qa M), (1, qi j), (2, qi 0)]) [1, 2, 0] rfl ?_
      suffices L29 : ∀ (N : Nat) (k : Int) (h2 : qH) , (0 ≤ k ∧ k ≤ s 2 ∧ CP h2 M (singR s (bkN s j k.toNat) (j + 1 - bkN s j k.toNat).toNat (sing1 s j (singTo s j.toNat))) ∧ FN M h h2) → (s 2 - k).toNat < N → Aj G X (q_Pv r (fun h' => CP h' M (nightT s) ∧ FN M h h')) cX9_laysNight 3 (0, 0) n r h2 29 [(0, qa M), (1, qi j), (2, qi k)] [] from L29 (_ + 1) 0 h_3 (⟨by omega, by omega, by show CP _ M (singR s (j + 1) (j + 1 - (j + 1)).toNat _); rw [show (j + 1 - (j + 1)).toNat = 0 by omega]; exact c24.1, hj3.tr c24.2⟩) (Nat.lt_succ_self _)
      intro N29
      induction N29 with
      | zero => intro k h2 _ hN; exact absurd hN (Nat.not_lt_zero _)
      | succ N ih29 =>
        intro k h2 hI29 hN29
        obtain ⟨hk0, hk1, hk2, hk3⟩ := hI29
        have cS2 : IMs h2 M s := c.fs hk3.s
        refine Aj.iload_n C 2 dX9_laysNight_29 rfl ?_
        refine Aj.aload_n C 0 dX9_laysNight_30 rfl ?_
        refine Aj.getR C lf_RX9_7 rfl L.a L.r1 dX9_laysNight_31 ?_
        refine Aj.iconst C dX9_laysNight_34 (by decide) ?_
        refine Aj.ialde (w := s 2) C L.a1 (by omega) dX9_laysNight_35 (cS2 _ (by omega) (by omega)) ?_
        refine Aj.icmp_ge (tgt := 78) C dX9_laysNight_36 (by decide) (fun c36 => ?_) (fun c36 => ?_)
        · refine Aj.iinc (al2 := [(1, qi (j + 1)), (0, qa M), (2, qi k)]) C 1 dX9_laysNight_78 rfl (by decide) (by omega) rfl ?_
          refine Aj.goto (tgt := 12) C dX9_laysNight_81 (by decide) ?_
          refine Aj.pick (al2 := [(0, qa M), (1, qi (j + 1))]) [1, 0] rfl ?_
          exact ih12 (j + 1) h2 (⟨by omega, by omega, by rw [singTo_succ s hj0, show bk s j = bkN s j k.toNat by rw [show k = s 2 by omega]; rfl]; exact hk2, hk3⟩) (by omega)
        · refine Aj.aload_n C 0 dX9_laysNight_39 rfl ?_
          refine Aj.getR C lf_RX9_7 rfl L.a L.r1 dX9_laysNight_40 ?_
          refine Aj.bipush C dX9_laysNight_43 (by decide) (by decide) ?_
          refine Aj.iconst C dX9_laysNight_45 (by decide) ?_
          refine Aj.iload_n C 2 dX9_laysNight_46 rfl ?_
          refine Aj.imul C dX9_laysNight_47 (by omega) ?_
          refine Aj.iadd C dX9_laysNight_48 (by omega) ?_
          refine Aj.iconst C dX9_laysNight_49 (by decide) ?_
          refine Aj.iadd C dX9_laysNight_50 (by omega) ?_
          refine Aj.ialde (w := s (127 + 2 * k)) C L.a1 (by omega) dX9_laysNight_51 ((cS2 _ (by omega) (by omega)).trans (congrArg s (by omega))) ?_
          refine Aj.iload_n C 1 dX9_laysNight_52 rfl ?_
          refine Aj.icmp_ne (tgt := 72) C dX9_laysNight_53 (by decide) (fun c53 => ?_) (fun c53 => ?_)
          · refine Aj.iinc (al2 := [(2, qi (k + 1)), (0, qa M), (1, qi j)]) C 2 dX9_laysNight_72 rfl (by decide) (by omega) rfl ?_
            refine Aj.goto (tgt := 29) C dX9_laysNight_75 (by decide) ?_
            refine Aj.pick (al2 := [(0, qa M), (1, qi j), (2, qi (k + 1))]) [1, 2, 0] rfl ?_
            exact ih29 (k + 1) h2 (⟨by omega, by omega, by rw [bkN_miss hk0 (by omega)]; exact hk2, hk3⟩) (by omega)
          · have bh := bkN_hit g (j := j) hk0 (by omega) (by omega)
            have er := g.re k hk0 (by omega)
            have eb : bk s j = s (126 + 2 * k) := by
              rcases bk_cases g j with ⟨q1, q2⟩ | ⟨i, q1, q2, q3, q4, q5, q6⟩
              · exact absurd (show s (127 + 2 * k) = j by omega) (q2 k hk0 (by omega))
              · rcases Int.lt_trichotomy i k with w | w | w
                · have d1 := g.dj i k q1 w (by omega); have d2 := g.re i q1 q2; omega
                · subst w; exact q4
                · have d1 := g.dj k i hk0 w q2; have d2 := g.re i q1 q2; omega
            have rm3 := rm.2
            rw [eb] at rm3
            have tj1 := sing1_TG g ⟨hj0, by omega⟩ tj
            have hk5 : CP h2 M (sing1 s j (singTo s j.toNat)) := by
              have hk6 := hk2
              rw [bh.1, show (j + 1 - (j + 1)).toNat = 0 by omega] at hk6
              exact hk6
            have le1 := sing1_le s j (singTo s j.toNat)
            refine Aj.aload_n C 0 dX9_laysNight_56 rfl ?_
            refine Aj.aload_n C 0 dX9_laysNight_57 rfl ?_
            refine Aj.getR C lf_RX9_7 rfl L.a L.r1 dX9_laysNight_58 ?_
            refine Aj.bipush C dX9_laysNight_61 (by decide) (by decide) ?_
            refine Aj.iconst C dX9_laysNight_63 (by decide) ?_
            refine Aj.iload_n C 2 dX9_laysNight_64 rfl ?_
            refine Aj.imul C dX9_laysNight_65 (by omega) ?_
            refine Aj.iadd C dX9_laysNight_66 (by omega) ?_
            refine Aj.ialde (w := s (126 + 2 * k)) C L.a1 (by omega) dX9_laysNight_67 ((cS2 _ (by omega) (by omega)).trans (congrArg s (by omega))) ?_
            refine Aj.iload_n C 1 dX9_laysNight_68 rfl ?_
            refine Aj.callVv (As := [qi (s (126 + 2 * k)), qi j]) (st := []) C lm_RX9_85 m_X9_repeats mk_X9_repeats ms_X9_repeats (c_X9_repeats _ (a := s (126 + 2 * k)) (b := j) L cS2 g hk5 tj1 (by omega) (by omega) (by omega) rm3) L.a (t := 9) rfl rfl rfl rfl (by decide) (Nat.le_of_ble_eq_true rfl) (by decide) dX9_laysNight_69 (fun h_4 p69 => ?_)
            refine Aj.iinc (al2 := [(2, qi (k + 1)), (0, qa M), (1, qi j)]) C 2 dX9_laysNight_72 rfl (by decide) (by omega) rfl ?_
            refine Aj.goto (tgt := 29) C dX9_laysNight_75 (by decide) ?_
            refine Aj.pick (al2 := [(0, qa M), (1, qi j), (2, qi (k + 1))]) [1, 2, 0] rfl ?_
            exact ih29 (k + 1) h_4 (⟨by omega, by omega, by rw [bh.2]; exact p69.1, hk3.tr p69.2⟩) (by omega)
