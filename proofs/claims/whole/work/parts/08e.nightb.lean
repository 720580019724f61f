set_option maxHeartbeats 4000000 in
set_option maxRecDepth 100000 in
theorem c_X1_gatherShowings (l : Launch) {G : qG} {n : Int} {r h : qH} {q : Int} {T : qT} (K : LNight G n r q) (c : CN h q T) {p : Int} {s : Int → Int} (L : LScore G n r p) (hC : CScore h p s) (g : SG s) (hd : p + 17 ≤ q ∨ q + 14 ≤ p) (eT : T = nightT s) : q_Cm l G yX1_gatherShowings cX1_gatherShowings 5 none 2 42 [qa q, qa (p + 12)] n r h (q_Pv r (fun h' => CSh1 h' (q + 6) (gathA s T T.1.toNat) ∧ FR (q + 6) 8 h h')) 0 0 := by
  refine q_enter (al := [(0, qa q), (1, qa (p + 12))]) m_X1_gatherShowings rfl (Nat.le_of_ble_eq_true rfl) ?_
  intro hok X C hmc hxl hin
  have t : TG T := eT ▸ night_TG g
  have hT : T.1 ≤ 120 := eT ▸ night_le g
  have gn := g.n
  have t0 := t.1
  have t2 := t.2.2.1
  have t3 := t.2.1
  refine Aj.aload_n C 0 dX1_gatherShowings_0 rfl ?_
  refine Aj.getR C lf_RX1_30 rfl K.a K.r5 dX1_gatherShowings_1 ?_
  refine Aj.iconst C dX1_gatherShowings_4 (by decide) ?_
  refine Aj.putI C lf_RX1_95 K.sh.a dX1_gatherShowings_5 (fun h_1 eh_1 => ?_)
  refine Aj.iconst C dX1_gatherShowings_8 (by decide) ?_
  refine Aj.istore_n (al2 := [(2, qi 0), (0, qa q), (1, qa (p + 12))]) C dX1_gatherShowings_9 (by decide) rfl ?_
  refine Aj.pick (al2 := [(0, qa q), (1, qa (p + 12)), (2, qi 0)]) [1, 2, 0] rfl ?_
  suffices L10 : ∀ (N : Nat) (i : Int) (h1 : qH) , (0 ≤ i ∧ i ≤ T.1 ∧ CSh1 h1 (q + 6) (gathA s T i.toNat) ∧ FR (q + 6) 8 h h1) → (T.1 - i).toNat < N → Aj G X (q_Pv r (fun h' => CSh1 h' (q + 6) (gathA s T T.1.toNat) ∧ FR (q + 6) 8 h h')) cX1_gatherShowings 5 (0, 0) n r h1 10 [(0, qa q), (1, qa (p + 12)), (2, qi i)] [] from L10 (_ + 1) 0 h_1 (⟨by omega, by omega, ⟨by rw [eh_1, hset_same]; rfl, fun k k1 k2 => by have k2 : k < 0 := k2; omega⟩, fun x y w => by rw [eh_1, hset_nea _ _ _ (by omega)]⟩) (Nat.lt_succ_self _)
  intro N10
  induction N10 with
  | zero => intro i h1 _ hN; exact absurd hN (Nat.not_lt_zero _)
  | succ N ih10 =>
    intro i h1 hI10 hN10
    obtain ⟨hi0, hi1, hi2, hi3⟩ := hI10
    have cN1 : CN h1 q T := c.fr (fun x y z1 z2 => hi3 x y (by omega))
    refine Aj.iload_n C 2 dX1_gatherShowings_10 rfl ?_
    refine Aj.aload_n C 0 dX1_gatherShowings_11 rfl ?_
    refine Aj.getIe (z := T.1) C lf_RX1_51 rfl K.a dX1_gatherShowings_12 cN1.1 ?_
    refine Aj.icmp_ge (tgt := 105) C dX1_gatherShowings_15 (by decide) (fun c15 => ?_) (fun c15 => ?_)
    · refine Aj.vret C dX1_gatherShowings_105 (by rw [hmc]; exact ⟨rfl, Nat.le_of_ble_eq_true rfl⟩) ⟨rfl, rfl, ?_⟩
      have e : i = T.1 := by omega
      rw [e] at hi2
      exact ⟨hi2, hi3⟩
    · refine Aj.iconst C dX1_gatherShowings_18 (by decide) ?_
      refine Aj.istore_n (al2 := [(3, qi 0), (0, qa q), (1, qa (p + 12)), (2, qi i)]) C dX1_gatherShowings_19 (by decide) rfl ?_
      refine Aj.pick (al2 := [(0, qa q), (1, qa (p + 12)), (2, qi i), (3, qi 0)]) [1, 2, 3, 0] rfl ?_
      suffices L20 : ∀ (N : Nat) (j : Int) (h2 : qH) , (0 ≤ j ∧ j ≤ s 5 ∧ CSh1 h2 (q + 6) (gathP s T i j.toNat (gathA s T i.toNat)) ∧ FR (q + 6) 8 h h2) → (s 5 - j).toNat < N → Aj G X (q_Pv r (fun h' => CSh1 h' (q + 6) (gathA s T T.1.toNat) ∧ FR (q + 6) 8 h h')) cX1_gatherShowings 5 (0, 0) n r h2 20 [(0, qa q), (1, qa (p + 12)), (2, qi i), (3, qi j)] [] from L20 (_ + 1) 0 h1 (⟨by omega, by omega, hi2, hi3⟩) (Nat.lt_succ_self _)
      intro N20
      induction N20 with
      | zero => intro j h2 _ hN; exact absurd hN (Nat.not_lt_zero _)
      | succ N ih20 =>
        intro j h2 hI20 hN20
        obtain ⟨hj0, hj1, hj2, hj3⟩ := hI20
        have cN2 : CN h2 q T := c.fr (fun x y z1 z2 => hj3 x y (by omega))
        have hQ : CScore h2 p s := hC.fr (fun x y z1 z2 => hj3 x y (by omega))
        refine Aj.iload_n C 3 dX1_gatherShowings_20 rfl ?_
        refine Aj.aload_n C 1 dX1_gatherShowings_21 rfl ?_
        refine Aj.getIe (z := s 5) C lf_RX1_98 rfl L.ti.a dX1_gatherShowings_22 hQ.2.2.2.2.2.2.1 ?_
        refine Aj.icmp_ge (tgt := 99) C dX1_gatherShowings_25 (by decide) (fun c25 => ?_) (fun c25 => ?_)
        · refine Aj.iinc (al2 := [(2, qi (i + 1)), (0, qa q), (1, qa (p + 12)), (3, qi j)]) C 2 dX1_gatherShowings_99 rfl (by decide) (by omega) rfl ?_
          refine Aj.goto (tgt := 10) C dX1_gatherShowings_102 (by decide) ?_
          refine Aj.pick (al2 := [(0, qa q), (1, qa (p + 12)), (2, qi (i + 1))]) [1, 2, 0] rfl ?_
          exact ih10 (i + 1) h2 (⟨by omega, by omega, by rw [gathA_succ s T hi0, ← (show j = s 5 by omega)]; exact hj2, hj3⟩) (by omega)
        · have gt := g.ti j hj0 (by omega)
          have ti := t.2.2.2.1 i hi0 (by omega)
          refine Aj.aload_n C 0 dX1_gatherShowings_28 rfl ?_
          refine Aj.aload_n C 1 dX1_gatherShowings_29 rfl ?_
          refine Aj.getR C lf_RX1_101 rfl L.ti.a L.ti.r0 dX1_gatherShowings_30 ?_
          refine Aj.iload_n C 3 dX1_gatherShowings_33 rfl ?_
          refine Aj.ialde (w := s (148 + 4 * j)) C L.ti.a1 (by omega) dX1_gatherShowings_34 (hQ.2.2.2.2.2.2.2 _ (by omega) (by omega)).1 ?_
          refine Aj.aload_n C 1 dX1_gatherShowings_35 rfl ?_
          refine Aj.getR C lf_RX1_104 rfl L.ti.a L.ti.r1 dX1_gatherShowings_36 ?_
          refine Aj.iload_n C 3 dX1_gatherShowings_39 rfl ?_
          refine Aj.ialde (w := s (149 + 4 * j)) C L.ti.a2 (by omega) dX1_gatherShowings_40 (hQ.2.2.2.2.2.2.2 _ (by omega) (by omega)).2.1 ?_
          refine Aj.iload_n C 2 dX1_gatherShowings_41 rfl ?_
          refine Aj.callVi (As := [qi (s (148 + 4 * j)), qi (s (149 + 4 * j)), qi i]) (st := []) C lm_RX1_107 m_X1_comesWith mk_X1_comesWith ms_X1_comesWith (c_X1_comesWith _ K cN2 t hT ⟨hi0, by omega⟩ (by omega)) K.a (t := 1) rfl rfl rfl rfl (by decide) (Nat.le_of_ble_eq_true rfl) (by decide) dX1_gatherShowings_42 (fun z42 h_2 rz42 p42 => ?_)
          obtain ⟨rfl, pz, pe⟩ := p42
          have ce : z42 = 1 ↔ comesP s T j i := by unfold comesP; omega
          clear pe
          refine Aj.if_eq (tgt := 93) C dX1_gatherShowings_45 (by decide) (fun c45 => ?_) (fun c45 => ?_)
          · refine Aj.iinc (al2 := [(3, qi (j + 1)), (0, qa q), (1, qa (p + 12)), (2, qi i)]) C 3 dX1_gatherShowings_93 rfl (by decide) (by omega) rfl ?_
            refine Aj.goto (tgt := 20) C dX1_gatherShowings_96 (by decide) ?_
            refine Aj.pick (al2 := [(0, qa q), (1, qa (p + 12)), (2, qi i), (3, qi (j + 1))]) [1, 2, 3, 0] rfl ?_
            exact ih20 (j + 1) h2 (⟨by omega, by omega, by rw [gathP_succ s T i _ hj0, gath1_n (fun w => by have := ce.mpr w; omega)]; exact hj2, hj3⟩) (by omega)
          · have cy : comesP s T j i := ce.mp (by omega)
            have rm := gath_room2 g eT ⟨hi0, by omega⟩ ⟨hj0, by omega⟩ cy
            have u0 := (gathP_UG g t hT (pl := i) ⟨hi0, by omega⟩ (gathA_UG g t hT i.toNat (by omega)) j.toNat (by omega)).1
            have lq : 0 ≤ leadP (s (148 + 4 * j)) ∧ leadP (s (148 + 4 * j)) ≤ 20 := by unfold leadP; omega
            refine Aj.iconst C dX1_gatherShowings_48 (by decide) ?_
            refine Aj.aload_n C 0 dX1_gatherShowings_49 rfl ?_
            refine Aj.getR C lf_RX1_15 rfl K.a K.r1 dX1_gatherShowings_50 ?_
            refine Aj.iload_n C 2 dX1_gatherShowings_53 rfl ?_
            refine Aj.ialde (w := T.2.2.2 i) C K.a2 (by omega) dX1_gatherShowings_54 (cN2.2.2.1 _ (by omega) (by omega)).2 ?_
            refine Aj.aload_n C 1 dX1_gatherShowings_55 rfl ?_
            refine Aj.getR C lf_RX1_101 rfl L.ti.a L.ti.r0 dX1_gatherShowings_56 ?_
            refine Aj.iload_n C 3 dX1_gatherShowings_59 rfl ?_
            refine Aj.ialde (w := s (148 + 4 * j)) C L.ti.a1 (by omega) dX1_gatherShowings_60 (hQ.2.2.2.2.2.2.2 _ (by omega) (by omega)).1 ?_
            refine Aj.callNi (As := [qi (s (148 + 4 * j))]) (st := [qi (T.2.2.2 i), qi 0]) C ln_RX1_111 m_X8_leadOf mk_X8_leadOf (c_X8_leadOf _) rfl rfl (by decide) (Nat.le_of_ble_eq_true rfl) (by decide) dX1_gatherShowings_61 (fun z61 h_3 rz61 p61 => ?_)
            obtain ⟨rfl, pl⟩ := p61
            refine Aj.isub C dX1_gatherShowings_64 (by omega) ?_
            refine Aj.mmax C lm_RX1_114 ⟨Nat.le_of_ble_eq_true rfl, Nat.le_of_ble_eq_true rfl⟩ (by decide) dX1_gatherShowings_65 ?_
            refine Aj.istore (al2 := [(4, qi (max 0 (T.2.2.2 i - z61))), (0, qa q), (1, qa (p + 12)), (2, qi i), (3, qi j)]) C dX1_gatherShowings_68 (by decide) rfl ?_
            refine Aj.aload_n C 1 dX1_gatherShowings_70 rfl ?_
            refine Aj.getR C lf_RX1_30 rfl K.a K.r5 dX1_gatherShowings_71 ?_
            refine Aj.iload_n C 4 dX1_gatherShowings_74 rfl ?_
            refine Aj.iload_n C 3 dX1_gatherShowings_75 rfl ?_
            refine Aj.iload C 0 dX1_gatherShowings_76 rfl ?_
            refine Aj.aload_n C 1 dX1_gatherShowings_78 rfl ?_
            refine Aj.iload_n C 3 dX1_gatherShowings_79 rfl ?_
            refine Aj.aload_n C 2 dX1_gatherShowings_80 rfl ?_
            refine Aj.getR C lf_RX1_119 rfl L.ti.a L.ti.r2 dX1_gatherShowings_81 ?_
            refine Aj.iload_n C 4 dX1_gatherShowings_84 rfl ?_
            refine Aj.ialde (w := s (150 + 4 * j)) C L.ti.a3 (by omega) dX1_gatherShowings_85 (hQ.2.2.2.2.2.2.2 _ (by omega) (by omega)).2.2.1 ?_
            refine Aj.iadd C dX1_gatherShowings_86 (by omega) ?_
            refine Aj.callVi (As := [qi (i + (s (150 + 4 * j)))]) (st := [qi (max 0 (T.2.2.2 i - z61)), qi i, qi j, qa (q + 6)]) C lm_RX1_122 m_X1_beginOrEnd mk_X1_beginOrEnd ms_X1_beginOrEnd (c_X1_beginOrEnd _ (by omega) K cN2 t hT) K.a (t := 1) rfl rfl rfl rfl (by decide) (Nat.le_of_ble_eq_true rfl) (by decide) dX1_gatherShowings_87 (fun z87 h_4 rz87 p87 => ?_)
            obtain ⟨rfl, pb⟩ := p87
            refine Aj.callVv (As := [qi j, qi i, qi (max 0 (T.2.2.2 i - z61)), qi z87]) (st := []) C lm_RX1_125 m_X5_add mk_X5_add ms_X5_add (c_X5_add _ K.sh hj2 (by omega) rm) K.sh.a (t := 5) rfl rfl rfl rfl (by decide) (Nat.le_of_ble_eq_true rfl) (by decide) dX1_gatherShowings_90 (fun h_5 p90 => ?_)
            have c90 := p90
            refine Aj.iinc (al2 := [(3, qi (j + 1)), (4, qi (max 0 (T.2.2.2 i - z61))), (0, qa q), (1, qa (p + 12)), (2, qi i)]) C 4 dX1_gatherShowings_93 rfl (by decide) (by omega) rfl ?_
            refine Aj.goto (tgt := 20) C dX1_gatherShowings_96 (by decide) ?_
            refine Aj.pick (al2 := [(0, qa q), (1, qa (p + 12)), (2, qi i), (3, qi (j + 1))]) [2, 3, 4, 0] rfl ?_
            exact ih20 (j + 1) h_5 (⟨by omega, by omega, by rw [gathP_succ s T i _ hj0, gath1_y cy, ← pl, ← pb]; exact c90.1, hj3.tr c90.2.1⟩) (by omega)
