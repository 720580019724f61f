set_option maxHeartbeats 400000 in
set_option maxRecDepth 100000 in
theorem c_X9_laysShowings (l : Launch) {G : qG} {n : Int} {r h : qH} {M : Int} {s : Int → Int} (L : LModel G n r M) (c : IMs h M s) (g : SG s) : q_Cm l G yX9_laysShowings cX9_laysShowings 3 none 5 111 [qa M] n r h (q_Pv r (fun h' => CP h' M (nightT s) ∧ CU h' M (showU s) ∧ CW h' M (showW s) (showU s).1 ∧ FS M h h')) 0 0 := by
  refine q_enter (al := [(0, qa M)]) m_X9_laysShowings rfl (Nat.le_of_ble_eq_true rfl) ?_
  intro hok X C hmc hxl hin
  have gn := g.n
  have tt := night_TG g
  have tl := night_le g
  have t0 := tt.1
  refine Aj.aload_n C 0 dX9_laysShowings_0 rfl ?_
  refine Aj.callVv (As := []) (st := []) C lm_RX9_108 m_X9_laysNight mk_X9_laysNight ms_X9_laysNight (c_X9_laysNight _ L c g) L.a (t := 9) rfl rfl rfl rfl (by decide) (Nat.le_of_ble_eq_true rfl) (by decide) dX9_laysShowings_1 (fun g1 p1 => ?_)
  have q1 := p1
  refine Aj.aload_n C 0 dX9_laysShowings_4 rfl ?_
  refine Aj.iconst C dX9_laysShowings_5 (by decide) ?_
  refine Aj.putI C lf_RX9_102 L.a dX9_laysShowings_6 (fun h_1 eh_1 => ?_)
  refine Aj.iconst C dX9_laysShowings_9 (by decide) ?_
  refine Aj.istore_n (al2 := [(1, qi 0), (0, qa M)]) C dX9_laysShowings_10 (by decide) rfl ?_
  refine Aj.pick (al2 := [(0, qa M), (1, qi 0)]) [1, 0] rfl ?_
  suffices L11 : ∀ (N : Nat) (i : Int) (h1 : qH) , (0 ≤ i ∧ i ≤ (nightT s).1 ∧ CP h1 M (nightT s) ∧ CU h1 M (gathA s (nightT s) i.toNat) ∧ FS M h h1) → ((nightT s).1 - i).toNat < N → Aj G X (q_Pv r (fun h' => CP h' M (nightT s) ∧ CU h' M (showU s) ∧ CW h' M (showW s) (showU s).1 ∧ FS M h h')) cX9_laysShowings 3 (0, 0) n r h1 11 [(0, qa M), (1, qi i)] [] from L11 (_ + 1) 0 h_1 (⟨by omega, by omega, q1.1.fr (fun x y w => by rw [eh_1, hset_ne _ _ (by omega)]), ⟨by rw [eh_1, hset_same]; rfl, fun k k1 k2 => by have k2 : k < 0 := k2; omega⟩, q1.2.s.tr (fun x y w => by rw [eh_1, hset_ne _ _ (by omega)])⟩) (Nat.lt_succ_self _)
  intro N11
  induction N11 with
  | zero => intro i h1 _ hN; exact absurd hN (Nat.not_lt_zero _)
  | succ N ih11 =>
    intro i h1 hI11 hN11
    obtain ⟨hi0, hi1, hi2, hi3, hi4⟩ := hI11
    have cS1 : IMs h1 M s := c.fs hi4
    refine Aj.iload_n C 1 dX9_laysShowings_11 rfl ?_
    refine Aj.aload_n C 0 dX9_laysShowings_12 rfl ?_
    refine Aj.getIe (z := (nightT s).1) C lf_RX9_71 rfl L.a dX9_laysShowings_13 hi2.1 ?_
    refine Aj.icmp_ge (tgt := 58) C dX9_laysShowings_16 (by decide) (fun c16 => ?_) (fun c16 => ?_)
    · refine Aj.bipush C dX9_laysShowings_58 (by decide) (by decide) ?_
      refine Aj.istore_n (al2 := [(1, qi (-6)), (0, qa M)]) C dX9_laysShowings_60 (by decide) rfl ?_
      refine Aj.iconst C dX9_laysShowings_61 (by decide) ?_
      refine Aj.istore_n (al2 := [(2, qi 0), (1, qi (-6)), (0, qa M)]) C dX9_laysShowings_62 (by decide) rfl ?_
      refine Aj.pick (al2 := [(0, qa M), (1, qi (-6)), (2, qi 0)]) [2, 1, 0] rfl ?_
      suffices L63 : ∀ (N : Nat) (ah k : Int) (h3 : qH) , (0 ≤ k ∧ k ≤ (showU s).1 ∧ ah = (lookN s (nightT s) (showU s) k.toNat).2.2.2 ∧ CW h3 M (lookN s (nightT s) (showU s) k.toNat) k ∧ CP h3 M (nightT s) ∧ CU h3 M (showU s) ∧ FS M h h3) → ((showU s).1 - k).toNat < N → Aj G X (q_Pv r (fun h' => CP h' M (nightT s) ∧ CU h' M (showU s) ∧ CW h' M (showW s) (showU s).1 ∧ FS M h h')) cX9_laysShowings 3 (0, 0) n r h3 63 [(0, qa M), (1, qi ah), (2, qi k)] [] from L63 (_ + 1) (-6) 0 h1 (by
        have e : i = (nightT s).1 := by omega
        rw [e] at hi3
        exact ⟨by omega, (show_le g).1, rfl, fun k k1 k2 => by omega, hi2, hi3, hi4⟩) (Nat.lt_succ_self _)
      intro N63
      induction N63 with
      | zero => intro ah k h3 _ hN; exact absurd hN (Nat.not_lt_zero _)
      | succ N ih63 =>
        intro ah k h3 hI63 hN63
        obtain ⟨hk0, hk1, hkA, hk2, hk3, hk4, hk5⟩ := hI63
        have cS3 : IMs h3 M s := c.fs hk5
        have d3 := hk3
        have u3 := hk4
        have sl := show_le g
        have sg := show_UG g
        refine Aj.iload_n C 2 dX9_laysShowings_63 rfl ?_
        refine Aj.aload_n C 0 dX9_laysShowings_64 rfl ?_
        refine Aj.getIe (z := (showU s).1) C lf_RX9_102 rfl L.a dX9_laysShowings_65 hk4.1 ?_
        refine Aj.icmp_ge (tgt := 92) C dX9_laysShowings_68 (by decide) (fun c68 => ?_) (fun c68 => ?_)
        · refine Aj.vret C dX9_laysShowings_92 (by rw [hmc]; exact ⟨rfl, Nat.le_of_ble_eq_true rfl⟩) ⟨rfl, rfl, ?_⟩
          have e : k = (showU s).1 := by omega
          rw [e] at hk2
          exact ⟨hk3, hk4, hk2, hk5⟩
        · have wg3 := lookN_WG sg k.toNat (by omega)
          rw [show ((k.toNat : Nat) : Int) = k by omega] at wg3
          refine Aj.aload_n C 0 dX9_laysShowings_71 rfl ?_
          refine Aj.iload_n C 2 dX9_laysShowings_72 rfl ?_
          refine Aj.iload_n C 1 dX9_laysShowings_73 rfl ?_
          refine Aj.callVi (As := [qi k, qi ah]) (st := []) C lm_RX9_118 m_X9_looksAt mk_X9_looksAt ms_X9_looksAt (c_X9_looksAt2 _ hkA L cS3 g d3 tt tl u3 hk2 wg3 (by omega) sl.2 sg) L.a (t := 9) rfl rfl rfl rfl (by decide) (Nat.le_of_ble_eq_true rfl) (by decide) dX9_laysShowings_74 (fun z74 h_2 rz74 p74 => ?_)
          obtain ⟨m0, m1, m2, m3⟩ := p74
          refine Aj.if_eq (tgt := 84) C dX9_laysShowings_77 (by decide) (fun c77 => ?_) (fun c77 => ?_)
          · refine Aj.iload_n C 1 dX9_laysShowings_84 rfl ?_
            refine Aj.istore_n (al2 := [(1, qi ah), (0, qa M), (2, qi k)]) C dX9_laysShowings_85 (by decide) rfl ?_
            refine Aj.iinc (al2 := [(2, qi (k + 1)), (1, qi ah), (0, qa M)]) C 2 dX9_laysShowings_86 rfl (by decide) (by omega) rfl ?_
            refine Aj.goto (tgt := 63) C dX9_laysShowings_89 (by decide) ?_
            refine Aj.pick (al2 := [(0, qa M), (1, qi ah), (2, qi (k + 1))]) [2, 1, 0] rfl ?_
            exact ih63 ah (k + 1) h_2 (⟨by omega, by omega, by rw [lookN_succ _ _ _ hk0, look1_ahead]; rw [if_neg (fun q => by have := m1.mpr q; omega)]; exact hkA, by rw [lookN_succ _ _ _ hk0]; exact m2, hk3.fr (fun x y w => m3 x y (by omega)), hk4.fr (fun x y w => m3 x y (by omega)), hk5.tr m3.s⟩) (by omega)
          · refine Aj.iload_n C 2 dX9_laysShowings_80 rfl ?_
            refine Aj.goto (tgt := 85) C dX9_laysShowings_81 (by decide) ?_
            refine Aj.istore_n (al2 := [(1, qi k), (0, qa M), (2, qi k)]) C dX9_laysShowings_85 (by decide) rfl ?_
            refine Aj.iinc (al2 := [(2, qi (k + 1)), (1, qi k), (0, qa M)]) C 2 dX9_laysShowings_86 rfl (by decide) (by omega) rfl ?_
            refine Aj.goto (tgt := 63) C dX9_laysShowings_89 (by decide) ?_
            refine Aj.pick (al2 := [(0, qa M), (1, qi k), (2, qi (k + 1))]) [2, 1, 0] rfl ?_
            exact ih63 k (k + 1) h_2 (⟨by omega, by omega, by rw [lookN_succ _ _ _ hk0, look1_ahead]; rw [if_pos (m1.mp (by omega))], by rw [lookN_succ _ _ _ hk0]; exact m2, hk3.fr (fun x y w => m3 x y (by omega)), hk4.fr (fun x y w => m3 x y (by omega)), hk5.tr m3.s⟩) (by omega)
    · refine Aj.iconst C dX9_laysShowings_19 (by decide) ?_
      refine Aj.istore_n (al2 := [(2, qi 0), (0, qa M), (1, qi i)]) C dX9_laysShowings_20 (by decide) rfl ?_
      refine Aj.pick (al2 := [(0, qa M), (1, qi i), (2, qi 0)]) [1, 2, 0] rfl ?_
      suffices L21 : ∀ (N : Nat) (j : Int) (h2 : qH) , (0 ≤ j ∧ j ≤ s 5 ∧ CU h2 M (gathP s (nightT s) i j.toNat (gathA s (nightT s) i.toNat)) ∧ CP h2 M (nightT s) ∧ FS M h h2) → (s 5 - j).toNat < N → Aj G X (q_Pv r (fun h' => CP h' M (nightT s) ∧ CU h' M (showU s) ∧ CW h' M (showW s) (showU s).1 ∧ FS M h h')) cX9_laysShowings 3 (0, 0) n r h2 21 [(0, qa M), (1, qi i), (2, qi j)] [] from L21 (_ + 1) 0 h1 (⟨by omega, by omega, hi3, hi2, hi4⟩) (Nat.lt_succ_self _)
      intro N21
      induction N21 with
      | zero => intro j h2 _ hN; exact absurd hN (Nat.not_lt_zero _)
      | succ N ih21 =>
        intro j h2 hI21 hN21
        obtain ⟨hj0, hj1, hj2, hj3, hj4⟩ := hI21
        have cS2 : IMs h2 M s := c.fs hj4
        have d2 := hj3
        refine Aj.iload_n C 2 dX9_laysShowings_21 rfl ?_
        refine Aj.aload_n C 0 dX9_laysShowings_22 rfl ?_
        refine Aj.getR C lf_RX9_7 rfl L.a L.r1 dX9_laysShowings_23 ?_
        refine Aj.iconst C dX9_laysShowings_26 (by decide) ?_
        refine Aj.ialde (w := s 5) C L.a1 (by omega) dX9_laysShowings_27 (cS2 _ (by omega) (by omega)) ?_
        refine Aj.icmp_ge (tgt := 52) C dX9_laysShowings_28 (by decide) (fun c28 => ?_) (fun c28 => ?_)
        · refine Aj.iinc (al2 := [(1, qi (i + 1)), (0, qa M), (2, qi j)]) C 1 dX9_laysShowings_52 rfl (by decide) (by omega) rfl ?_
          refine Aj.goto (tgt := 11) C dX9_laysShowings_55 (by decide) ?_
          refine Aj.pick (al2 := [(0, qa M), (1, qi (i + 1))]) [1, 0] rfl ?_
          exact ih11 (i + 1) h2 (⟨by omega, by omega, hj3, by rw [gathA_succ _ _ hi0, show s 5 = j by omega]; exact hj2, hj4⟩) (by omega)
        · have ur := gathP_UG g tt tl (pl := i) (by omega) (gathA_UG g tt tl i.toNat (by omega)) j.toNat (by omega)
          refine Aj.aload_n C 0 dX9_laysShowings_31 rfl ?_
          refine Aj.iload_n C 2 dX9_laysShowings_32 rfl ?_
          refine Aj.iload_n C 1 dX9_laysShowings_33 rfl ?_
          refine Aj.callVi (As := [qi j, qi i]) (st := []) C lm_RX9_111 m_X9_comes mk_X9_comes ms_X9_comes (c_X9_comes _ L cS2 g d2 tt tl (by omega) (by omega)) L.a (t := 9) rfl rfl rfl rfl (by decide) (Nat.le_of_ble_eq_true rfl) (by decide) dX9_laysShowings_34 (fun z34 h_3 rz34 p34 => ?_)
          obtain ⟨rfl, pz, pe⟩ := p34
          refine Aj.if_eq (tgt := 46) C dX9_laysShowings_37 (by decide) (fun c37 => ?_) (fun c37 => ?_)
          · refine Aj.iinc (al2 := [(2, qi (j + 1)), (0, qa M), (1, qi i)]) C 2 dX9_laysShowings_46 rfl (by decide) (by omega) rfl ?_
            refine Aj.goto (tgt := 21) C dX9_laysShowings_49 (by decide) ?_
            refine Aj.pick (al2 := [(0, qa M), (1, qi i), (2, qi (j + 1))]) [1, 2, 0] rfl ?_
            exact ih21 (j + 1) h2 (⟨by omega, by omega, by rw [gathP_succ _ _ _ _ hj0, gath1_n (fun q => by have := pe.mpr q; omega)]; exact hj2, hj3, hj4⟩) (by omega)
          · have hcm := pe.mp (by omega)
            have grm := gath_room2 g rfl (i := i) (j := j) ⟨hi0, by omega⟩ ⟨hj0, by omega⟩ hcm
            refine Aj.aload_n C 0 dX9_laysShowings_40 rfl ?_
            refine Aj.iload_n C 2 dX9_laysShowings_41 rfl ?_
            refine Aj.iload_n C 1 dX9_laysShowings_42 rfl ?_
            refine Aj.callVv (As := [qi j, qi i]) (st := []) C lm_RX9_115 m_X9_laysShowing mk_X9_laysShowing ms_X9_laysShowing (c_X9_laysShowing _ L cS2 g d2 tt tl hj2 (by omega) (by omega) ⟨ur.1, grm⟩ hcm) L.a (t := 9) rfl rfl rfl rfl (by decide) (Nat.le_of_ble_eq_true rfl) (by decide) dX9_laysShowings_43 (fun h_4 p43 => ?_)
            obtain ⟨n1, n2⟩ := p43
            refine Aj.iinc (al2 := [(2, qi (j + 1)), (0, qa M), (1, qi i)]) C 2 dX9_laysShowings_46 rfl (by decide) (by omega) rfl ?_
            refine Aj.goto (tgt := 21) C dX9_laysShowings_49 (by decide) ?_
            refine Aj.pick (al2 := [(0, qa M), (1, qi i), (2, qi (j + 1))]) [1, 2, 0] rfl ?_
            exact ih21 (j + 1) h_4 (⟨by omega, by omega, by rw [gathP_succ _ _ _ _ hj0]; exact n1, hj3.fr (fun x y w => n2 x y (by omega)), hj4.tr n2.s⟩) (by omega)
