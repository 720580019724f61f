set_option maxHeartbeats 4000000 in
set_option maxRecDepth 100000 in
theorem c_X1_gatherShowings (l : Launch) {G : qG} {n : Int} {r h : qH} {q : Int} {T : qT} (K : LNight G n r q) (c : CN h q T) {p : Int} {s : Int → Int} (L : LScore G n r p) (hC : CScore h p s) (g : SG s) (hd : p + 17 ≤ q ∨ q + 14 ≤ p) (eT : T = nightT s) : q_Cm l G yX1_gatherShowings cX1_gatherShowings 5 none 2 42 [qa q, qa (p + 12)] n r h (q_Pv r (fun h' => CSh1 h' (q + 6) (gathA s T T.1.toNat) ∧ FR (q + 6) 8 h h')) 0 0 := by
  refine q_enter (al := [(0, qa q), (1, qa (p + 12))]) m_X1_gatherShowings rfl (Nat.le_of_ble_eq_true rfl) ?_
  intro hok X C hmc hxl hin
  have t : TG T := eT ▸ night_TG g
  have hT : T.1 ≤ 120 := eT ▸ night_le g
  have gn := g.n
  have t0 := t.1
  have t2 := t.2.2.1
  have t3 := t.2.1
  refine Aj.aload_n C 0 dX1_gatherShowings_0 rfl ?_
  refine Aj.getR C lf_RX1_30 rfl K.a K.r5 dX1_gatherShowings_1 ?_
  refine Aj.iconst C dX1_gatherShowings_4 (by decide) ?_
  refine Aj.putI C lf_RX1_95 K.sh.a dX1_gatherShowings_5 (fun h_1 eh_1 => ?_)
  refine Aj.iconst C dX1_gatherShowings_8 (by decide) ?_
  refine Aj.istore_n (al2 := [(2, qi 0), (0, qa q), (1, qa (p + 12))]) C dX1_gatherShowings_9 (by decide) rfl ?_
  refine Aj.pick (al2 := [(0, qa q), (1, qa (p + 12)), (2, qi 0)]) [1, 2, 0] rfl ?_
  suffices L10 : ∀ (N : Nat) (i : Int) (h1 : qH) , (0 ≤ i ∧ i ≤ T.1 ∧ CSh1 h1 (q + 6) (gathA s T i.toNat) ∧ FR (q + 6) 8 h h1) → (T.1 - i).toNat < N → Aj G X (q_Pv r (fun h' => CSh1 h' (q + 6) (gathA s T T.1.toNat) ∧ FR (q + 6) 8 h h')) cX1_gatherShowings 5 (0, 0) n r h1 10 [(0, qa q), (1, qa (p + 12)), (2, qi i)] [] from L10 (_ + 1) 0 h_1 (⟨by omega, by omega, ⟨by rw [eh_1, hset_same]; rfl, fun k k1 k2 => by have k2 : k < 0 := k2; omega⟩, fun x y w => by rw [eh_1, hset_nea _ _ _ (by omega)]⟩) (Nat.lt_succ_self _)
  intro N10
  induction N10 with
  | zero => intro i h1 _ hN; exact absurd hN (Nat.not_lt_zero _)
  | succ N ih10 =>
    intro i h1 hI10 hN10
    obtain ⟨hi0, hi1, hi2, hi3⟩ := hI10
    have cN1 : CN h1 q T := c.fr (fun x y z1 z2 => hi3 x y (by omega))
    refine Aj.iload_n C 2 dX1_gatherShowings_10 rfl ?_
    refine Aj.aload_n C 0 dX1_gatherShowings_11 rfl ?_
    refine Aj.getIe (z := T.1) C lf_RX1_51 rfl K.a dX1_gatherShowings_12 cN1.1 ?_
    refine Aj.icmp_ge (tgt := 105) C dX1_gatherShowings_15 (by decide) (fun c15 => ?_) (fun c15 => ?_)
    · refine Aj.vret C dX1_gatherShowings_105 (by rw [hmc]; exact ⟨rfl, Nat.le_of_ble_eq_true rfl⟩) ⟨rfl, rfl, ?_⟩
      have e : i = T.1 := by omega
      rw [e] at hi2
      exact ⟨hi2, hi3⟩
    · refine Aj.iconst C dX1_gatherShowings_18 (by decide) ?_
      refine Aj.istore_n (al2 := [(3, qi 0), (0, qa q), (1, qa (p + 12)), (2, qi i)]) C dX1_gatherShowings_19 (by decide) rfl ?_
      refine Aj.pick (al2 := [(0, qa q), (1, qa (p + 12)), (2, qi i), (3, qi 0)]) [1, 2, 3, 0] rfl ?_
      suffices L20 : ∀ (N : Nat) (j : Int) (h2 : qH) , (0 ≤ j ∧ j ≤ s 5 ∧ CSh1 h2 (q + 6) (gathP s T i j.toNat (gathA s T i.toNat)) ∧ FR (q + 6) 8 h h2) → (s 5 - j).toNat < N → Aj G X (q_Pv r (fun h' => CSh1 h' (q + 6) (gathA s T T.1.toNat) ∧ FR (q + 6) 8 h h')) cX1_gatherShowings 5 (0, 0) n r h2 20 [(0, qa q), (1, qa (p + 12)), (2, qi i), (3, qi j)] [] from L20 (_ + 1) 0 h1 (⟨by omega, by omega, hi2, hi3⟩) (Nat.lt_succ_self _)
      intro N20
      induction N20 with
      | zero => intro j h2 _ hN; exact absurd hN (Nat.not_lt_zero _)
      | succ N ih20 =>
        intro j h2 hI20 hN20
        obtain ⟨hj0, hj1, hj2, hj3⟩ := hI20
        have cN2 : CN h2 q T := c.fr (fun x y z1 z2 => hj3 x y (by omega))
        have hQ : CScore h2 p s := hC.fr (fun x y z1 z2 => hj3 x y (by omega))
        refine Aj.iload_n C 3 dX1_gatherShowings_20 rfl ?_
        refine Aj.aload_n C 1 dX1_gatherShowings_21 rfl ?_
        refine Aj.getIe (z := s 5) C lf_RX1_98 rfl L.ti.a dX1_gatherShowings_22 hQ.2.2.2.2.2.2.1 ?_
        refine Aj.icmp_ge (tgt := 99) C dX1_gatherShowings_25 (by decide) (fun c25 => ?_) (fun c25 => ?_)
        · refine Aj.iinc (al2 := [(2, qi (i + 1)), (0, qa q), (1, qa (p + 12)), (3, qi j)]) C 2 dX1_gatherShowings_99 rfl (by decide) (by omega) rfl ?_
          refine Aj.goto (tgt := 10) C dX1_gatherShowings_102 (by decide) ?_
          refine Aj.pick (al2 := [(0, qa q), (1, qa (p + 12)), (2, qi (i + 1))]) [1, 2, 0] rfl ?_
          exact ih10 (i + 1) h2 (⟨by omega, by omega, by rw [gathA_succ s T hi0, ← (show j = s 5 by omega)]; exact hj2, hj3⟩) (by omega)
        · have gt := g.ti j hj0 (by omega)
          have ti := t.2.2.2.1 i hi0 (by omega)
          refine Aj.aload_n C 0 dX1_gatherShowings_28 rfl ?_
          refine Aj.aload_n C 1 dX1_gatherShowings_29 rfl ?_
          refine Aj.getR C lf_RX1_101 rfl L.ti.a L.ti.r0 dX1_gatherShowings_30 ?_
          refine Aj.iload_n C 3 dX1_gatherShowings_33 rfl ?_
          refine Aj.ialde (w := s (148 + 4 * j)) C L.ti.a1 (by omega) dX1_gatherShowings_34 (hQ.2.2.2.2.2.2.2 _ (by omega) (by omega)).1 ?_
          refine Aj.aload_n C 1 dX1_gatherShowings_35 rfl ?_
          refine Aj.getR C lf_RX1_104 rfl L.ti.a L.ti.r1 dX1_gatherShowings_36 ?_
          refine Aj.iload_n C 3 dX1_gatherShowings_39 rfl ?_
          refine Aj.ialde (w := s (149 + 4 * j)) C L.ti.a2 (by omega) dX1_gatherShowings_40 (hQ.2.2.2.2.2.2.2 _ (by omega) (by omega)).2.1 ?_
          refine Aj.iload_n C 2 dX1_gatherShowings_41 rfl ?_
          refine Aj.callVi (As := [qi (s (148 + 4 * j)), qi (s (149 + 4 * j)), qi i]) (st := []) C lm_RX1_107 m_X1_comesWith mk_X1_comesWith ms_X1_comesWith (c_X1_comesWith _ K cN2 t hT ⟨hi0, by omega⟩ (by omega)) K.a (t := 1) rfl rfl rfl rfl (by decide) (Nat.le_of_ble_eq_true rfl) (by decide) dX1_gatherShowings_42 (fun z42 h_2 rz42 p42 => ?_)
          obtain ⟨rfl, pz, pe⟩ := p42
          have ce : z42 = 1 ↔ comesP s T j i := by unfold comesP; omega
          clear pe
          refine Aj.if_eq (tgt := 93) C dX1_gatherShowings_45 (by decide) (fun c45 => ?_) (fun c45 => ?_)
          · refine Aj.iinc (al2 := [(3, qi (j + 1)), (0, qa q), (1, qa (p + 12)), (2, qi i)]) C 3 dX1_gatherShowings_93 rfl (by decide) (by omega) rfl ?_
            refine Aj.goto (tgt := 20) C dX1_gatherShowings_96 (by decide) ?_
            refine Aj.pick (al2 := [(0, qa q), (1, qa (p + 12)), (2, qi i), (3, qi (j + 1))]) [1, 2, 3, 0] rfl ?_
            exact ih20 (j + 1) h2 (⟨by omega, by omega, by rw [gathP_succ s T i _ hj0, gath1_n (fun w => by have := ce.mpr w; omega)]; exact hj2, hj3⟩) (by omega)
          · have cy : comesP s T j i := ce.mp (by omega)
            have rm := gath_room2 g eT ⟨hi0, by omega⟩ ⟨hj0, by omega⟩ cy
            have u0 := (gathP_UG g t hT (pl := i) ⟨hi0, by omega⟩ (gathA_UG g t hT i.toNat (by omega)) j.toNat (by omega)).1
            have lq : 0 ≤ leadP (s (148 + 4 * j)) ∧ leadP (s (148 + 4 * j)) ≤ 20 := by unfold leadP; omega
            refine Aj.iconst C dX1_gatherShowings_48 (by decide) ?_
            refine Aj.aload_n C 0 dX1_gatherShowings_49 rfl ?_
            refine Aj.getR C lf_RX1_15 rfl K.a K.r1 dX1_gatherShowings_50 ?_
            refine Aj.iload_n C 2 dX1_gatherShowings_53 rfl ?_
            refine Aj.ialde (w := T.2.2.2 i) C K.a2 (by omega) dX1_gatherShowings_54 (cN2.2.2.1 _ (by omega) (by omega)).2 ?_
            refine Aj.aload_n C 1 dX1_gatherShowings_55 rfl ?_
            refine Aj.getR C lf_RX1_101 rfl L.ti.a L.ti.r0 dX1_gatherShowings_56 ?_
            refine Aj.iload_n C 3 dX1_gatherShowings_59 rfl ?_
            refine Aj.ialde (w := s (148 + 4 * j)) C L.ti.a1 (by omega) dX1_gatherShowings_60 (hQ.2.2.2.2.2.2.2 _ (by omega) (by omega)).1 ?_
            refine Aj.callNi (As := [qi (s (148 + 4 * j))]) (st := [qi (T.2.2.2 i), qi 0]) C ln_RX1_111 m_X8_leadOf mk_X8_leadOf (c_X8_leadOf _) rfl rfl (by decide) (Nat.le_of_ble_eq_true rfl) (by decide) dX1_gatherShowings_61 (fun z61 h_3 rz61 p61 => ?_)
            obtain ⟨rfl, pl⟩ := p61
            refine Aj.isub C dX1_gatherShowings_64 (by omega) ?_
            refine Aj.mmax C lm_RX1_114 ⟨Nat.le_of_ble_eq_true rfl, Nat.le_of_ble_eq_true rfl⟩ (by decide) dX1_gatherShowings_65 ?_
            refine Aj.istore (al2 := [(4, qi (max 0 (T.2.2.2 i - z61))), (0, qa q), (1, qa (p + 12)), (2, qi i), (3, qi j)]) C dX1_gatherShowings_68 (by decide) rfl ?_
            refine Aj.aload_n C 1 dX1_gatherShowings_70 rfl ?_
            refine Aj.getR C lf_RX1_30 rfl K.a K.r5 dX1_gatherShowings_71 ?_
            refine Aj.iload_n C 4 dX1_gatherShowings_74 rfl ?_
            refine Aj.iload_n C 3 dX1_gatherShowings_75 rfl ?_
            refine Aj.iload C 0 dX1_gatherShowings_76 rfl ?_
            refine Aj.aload_n C 1 dX1_gatherShowings_78 rfl ?_
            refine Aj.iload_n C 3 dX1_gatherShowings_79 rfl ?_
            refine Aj.aload_n C 2 dX1_gatherShowings_80 rfl ?_
            refine Aj.getR C lf_RX1_119 rfl L.ti.a L.ti.r2 dX1_gatherShowings_81 ?_
            refine Aj.iload_n C 4 dX1_gatherShowings_84 rfl ?_
            refine Aj.ialde (w := s (150 + 4 * j)) C L.ti.a3 (by omega) dX1_gatherShowings_85 (hQ.2.2.2.2.2.2.2 _ (by omega) (by omega)).2.2.1 ?_
            refine Aj.iadd C dX1_gatherShowings_86 (by omega) ?_
            refine Aj.callVi (As := [qi (i + (s (150 + 4 * j)))]) (st := [qi (max 0 (T.2.2.2 i - z61)), qi i, qi j, qa (q + 6)]) C lm_RX1_122 m_X1_beginOrEnd mk_X1_beginOrEnd ms_X1_beginOrEnd (c_X1_beginOrEnd _ (by omega) K cN2 t hT) K.a (t := 1) rfl rfl rfl rfl (by decide) (Nat.le_of_ble_eq_true rfl) (by decide) dX1_gatherShowings_87 (fun z87 h_4 rz87 p87 => ?_)
            obtain ⟨rfl, pb⟩ := p87
            refine Aj.callVv (As := [qi j, qi i, qi (max 0 (T.2.2.2 i - z61)), qi z87]) (st := []) C lm_RX1_125 m_X5_add mk_X5_add ms_X5_add (c_X5_add _ K.sh hj2 (by omega) rm) K.sh.a (t := 5) rfl rfl rfl rfl (by decide) (Nat.le_of_ble_eq_true rfl) (by decide) dX1_gatherShowings_90 (fun h_5 p90 => ?_)
            have c90 := p90
            refine Aj.iinc (al2 := [(3, qi (j + 1)), (4, qi (max 0 (T.2.2.2 i - z61))), (0, qa q), (1, qa (p + 12)), (2, qi i)]) C 4 dX1_gatherShowings_93 rfl (by decide) (by omega) rfl ?_
            refine Aj.goto (tgt := 20) C dX1_gatherShowings_96 (by decide) ?_
            refine Aj.pick (al2 := [(0, qa q), (1, qa (p + 12)), (2, qi i), (3, qi (j + 1))]) [2, 3, 4, 0] rfl ?_
            exact ih20 (j + 1) h_5 (⟨by omega, by omega, by rw [gathP_succ s T i _ hj0, gath1_y cy, ← pl, ← pb]; exact c90.1, hj3.tr c90.2.1⟩) (by omega)

set_option maxHeartbeats 4000000 in
set_option maxRecDepth 100000 in
theorem c_X1_lookAtShowings (l : Launch) {G : qG} {n : Int} {r h : qH} {q : Int} {T : qT} (K : LNight G n r q) (c : CN h q T) {p : Int} {s : Int → Int} (L : LScore G n r p) (hC : CScore h p s) (g : SG s) (hd : p + 17 ≤ q ∨ q + 14 ≤ p) (t : TG T) (hT : T.1 ≤ 120) {U : qU} (d1 : CSh1 h (q + 6) U) (uG : UG s T U) (hu : U.1 ≤ 40) : q_Cm l G yX1_lookAtShowings cX1_lookAtShowings 5 none 3 66 [qa q, qa p] n r h (q_Pv r (fun h' => CSh2 h' (q + 6) (lookN s T U U.1.toNat) U.1 ∧ FR (q + 11) 3 h h')) 0 0 := by
  refine q_enter (al := [(0, qa q), (1, qa p)]) m_X1_lookAtShowings rfl (Nat.le_of_ble_eq_true rfl) ?_
  intro hok X C hmc hxl hin
  have gn := g.n
  have u0 := uG.1
  refine Aj.bipush C dX1_lookAtShowings_0 (by decide) (by decide) ?_
  refine Aj.istore_n (al2 := [(2, qi (-6)), (0, qa q), (1, qa p)]) C dX1_lookAtShowings_2 (by decide) rfl ?_
  refine Aj.iconst C dX1_lookAtShowings_3 (by decide) ?_
  refine Aj.istore_n (al2 := [(3, qi 0), (2, qi (-6)), (0, qa q), (1, qa p)]) C dX1_lookAtShowings_4 (by decide) rfl ?_
  refine Aj.pick (al2 := [(0, qa q), (1, qa p), (2, qi (-6)), (3, qi 0)]) [2, 3, 1, 0] rfl ?_
  suffices L5 : ∀ (N : Nat) (a i : Int) (h1 : qH) , (0 ≤ i ∧ i ≤ U.1 ∧ a = (lookN s T U i.toNat).2.2.2 ∧ CSh2 h1 (q + 6) (lookN s T U i.toNat) i ∧ FR (q + 6 + 5) 3 h h1) → (U.1 - i).toNat < N → Aj G X (q_Pv r (fun h' => CSh2 h' (q + 6) (lookN s T U U.1.toNat) U.1 ∧ FR (q + 11) 3 h h')) cX1_lookAtShowings 5 (0, 0) n r h1 5 [(0, qa q), (1, qa p), (2, qi a), (3, qi i)] [] from L5 (_ + 1) (-6) 0 h (⟨by omega, by omega, rfl, fun k k1 k2 => by omega, FR.rf⟩) (Nat.lt_succ_self _)
  intro N5
  induction N5 with
  | zero => intro a i h1 _ hN; exact absurd hN (Nat.not_lt_zero _)
  | succ N ih5 =>
    intro a i h1 hI5 hN5
    obtain ⟨hi0, hi1, ea, hi3, hi4⟩ := hI5
    have cN1 : CN h1 q T := c.fr (fun x y z1 z2 => hi4 x y (by omega))
    have hQ : CScore h1 p s := hC.fr (fun x y z1 z2 => hi4 x y (by omega))
    have d2 : CSh1 h1 (q + 6) U := d1.fr (fun x y z1 z2 => hi4 x y (by omega))
    refine Aj.iload_n C 3 dX1_lookAtShowings_5 rfl ?_
    refine Aj.aload_n C 0 dX1_lookAtShowings_6 rfl ?_
    refine Aj.getR C lf_RX1_30 rfl K.a K.r5 dX1_lookAtShowings_7 ?_
    refine Aj.getIe (z := U.1) C lf_RX1_95 rfl K.sh.a dX1_lookAtShowings_10 d2.1 ?_
    refine Aj.icmp_ge (tgt := 111) C dX1_lookAtShowings_13 (by decide) (fun c13 => ?_) (fun c13 => ?_)
    · refine Aj.vret C dX1_lookAtShowings_111 (by rw [hmc]; exact ⟨rfl, Nat.le_of_ble_eq_true rfl⟩) ⟨rfl, rfl, ?_⟩
      have e : i = U.1 := by omega
      rw [e] at hi3
      exact ⟨hi3, fun x y w => hi4 x y (by omega)⟩
    · subst ea
      have ui := uG.2 i hi0 (by omega)
      have wg : WG i (lookN s T U i.toNat) := by
        have w := lookN_WG uG i.toNat (by omega)
        rwa [show ((i.toNat : Nat) : Int) = i by omega] at w
      refine Aj.aload_n C 0 dX1_lookAtShowings_16 rfl ?_
      refine Aj.aload_n C 1 dX1_lookAtShowings_17 rfl ?_
      refine Aj.getR C lf_RX1_129 rfl L.a L.r6 dX1_lookAtShowings_18 ?_
      refine Aj.aload_n C 0 dX1_lookAtShowings_21 rfl ?_
      refine Aj.getR C lf_RX1_30 rfl K.a K.r5 dX1_lookAtShowings_22 ?_
      refine Aj.getR C lf_RX1_132 rfl K.sh.a K.sh.r2 dX1_lookAtShowings_25 ?_
      refine Aj.iload_n C 3 dX1_lookAtShowings_28 rfl ?_
      refine Aj.ialde (w := U.2.2.2.1 i) C K.sh.a3 (by omega) dX1_lookAtShowings_29 (d2.2 _ (by omega) (by omega)).2.2.1 ?_
      refine Aj.callVi (As := [qa (p + 9), qi (U.2.2.2.1 i)]) (st := []) C lm_RX1_135 m_X1_isBlackAt mk_X1_isBlackAt ms_X1_isBlackAt (c_X1_isBlackAt _ K cN1 t hT L hQ g) K.a (t := 1) rfl rfl rfl rfl (by decide) (Nat.le_of_ble_eq_true rfl) (by decide) dX1_lookAtShowings_30 (fun z30 h_1 rz30 p30 => ?_)
      obtain ⟨rfl, pz, pe⟩ := p30
      refine Aj.if_eq (tgt := 49) C dX1_lookAtShowings_33 (by decide) (fun c33 => ?_) (fun c33 => ?_)
      · refine Aj.aload_n C 1 dX1_lookAtShowings_49 rfl ?_
        refine Aj.getR C lf_RX1_38 rfl L.a L.r7 dX1_lookAtShowings_50 ?_
        refine Aj.getR C lf_RX1_101 rfl L.ti.a L.ti.r0 dX1_lookAtShowings_53 ?_
        refine Aj.aload_n C 0 dX1_lookAtShowings_56 rfl ?_
        refine Aj.getR C lf_RX1_30 rfl K.a K.r5 dX1_lookAtShowings_57 ?_
        refine Aj.getR C lf_RX1_142 rfl K.sh.a K.sh.r0 dX1_lookAtShowings_60 ?_
        refine Aj.iload_n C 3 dX1_lookAtShowings_63 rfl ?_
        refine Aj.ialde (w := U.2.1 i) C K.sh.a1 (by omega) dX1_lookAtShowings_64 (d2.2 _ (by omega) (by omega)).1 ?_
        refine Aj.ialde (w := s (148 + 4 * (U.2.1 i))) C L.ti.a1 (by omega) dX1_lookAtShowings_65 (hQ.2.2.2.2.2.2.2 _ (by omega) (by omega)).1 ?_
        refine Aj.iconst C dX1_lookAtShowings_66 (by decide) ?_
        refine Aj.icmp_eq (tgt := 74) C dX1_lookAtShowings_67 (by decide) (fun c67 => ?_) (fun c67 => ?_)
        · have ew : waitI s U i = 0 := if_pos c67
          refine Aj.iconst C dX1_lookAtShowings_74 (by decide) ?_
          refine Aj.istore (al2 := [(4, qi 0), (0, qa q), (1, qa p), (2, qi ((lookN s T U i.toNat).2.2.2)), (3, qi i)]) C dX1_lookAtShowings_75 (by decide) rfl ?_
          refine Aj.aload_n C 1 dX1_lookAtShowings_77 rfl ?_
          refine Aj.getR C lf_RX1_30 rfl K.a K.r5 dX1_lookAtShowings_78 ?_
          refine Aj.iload_n C 4 dX1_lookAtShowings_81 rfl ?_
          refine Aj.iload_n C 3 dX1_lookAtShowings_82 rfl ?_
          refine Aj.iload C 0 dX1_lookAtShowings_83 rfl ?_
          refine Aj.aload_n C 2 dX1_lookAtShowings_85 rfl ?_
          refine Aj.getIe (z := s 1) C lf_RX1_145 rfl L.a dX1_lookAtShowings_86 hQ.2.1 ?_
          refine Aj.callVv (As := [qi i, qi ((lookN s T U i.toNat).2.2.2), qi 0, qi (s 1)]) (st := []) C lm_RX1_148 m_X5_lookAt mk_X5_lookAt ms_X5_lookAt (c_X5_lookAt _ K.sh d2 ⟨u0, hu⟩ hi3 wg ⟨hi0, by omega⟩ (by omega) (by omega)) K.sh.a (t := 5) rfl rfl rfl rfl (by decide) (Nat.le_of_ble_eq_true rfl) (by decide) dX1_lookAtShowings_89 (fun h_2 p89 => ?_)
          have w2 : CSh2 h_2 (q + 6) (look1 s T U i (lookN s T U i.toNat)) (i + 1) := by rw [look1_n (fun w => by have := pe.mpr w; omega), ew]; exact p89.1
          have f2 : FR (q + 6 + 5) 3 h1 h_2 := p89.2
          have dd : CSh1 h_2 (q + 6) U := d2.fr (fun x y z1 z2 => f2 x y (by omega))
          refine Aj.aload_n C 1 dX1_lookAtShowings_92 rfl ?_
          refine Aj.getR C lf_RX1_30 rfl K.a K.r5 dX1_lookAtShowings_93 ?_
          refine Aj.iload_n C 4 dX1_lookAtShowings_96 rfl ?_
          refine Aj.callVi (As := [qi i]) (st := []) C lm_RX1_152 m_X5_shows mk_X5_shows ms_X5_shows (c_X5_shows _ K.sh dd ⟨u0, hu⟩ w2 (fun _ _ => by omega)) K.sh.a (t := 5) rfl rfl rfl rfl (by decide) (Nat.le_of_ble_eq_true rfl) (by decide) dX1_lookAtShowings_97 (fun z97 h_3 rz97 p97 => ?_)
          obtain ⟨rfl, pz2, ps⟩ := p97
          refine Aj.if_eq (tgt := 105) C dX1_lookAtShowings_100 (by decide) (fun c100 => ?_) (fun c100 => ?_)
          · refine Aj.iinc (al2 := [(3, qi (i + 1)), (4, qi 0), (0, qa q), (1, qa p), (2, qi ((lookN s T U i.toNat).2.2.2))]) C 4 dX1_lookAtShowings_105 rfl (by decide) (by omega) rfl ?_
            refine Aj.goto (tgt := 5) C dX1_lookAtShowings_108 (by decide) ?_
            refine Aj.pick (al2 := [(0, qa q), (1, qa p), (2, qi ((lookN s T U i.toNat).2.2.2)), (3, qi (i + 1))]) [2, 3, 4, 0] rfl ?_
            exact ih5 ((lookN s T U i.toNat).2.2.2) (i + 1) h_2 (⟨by omega, by omega, by rw [lookN_succ s T U hi0, look1_ahead]; exact (if_neg (fun w => by have := ps.mpr ⟨hi0, by omega, w⟩; omega)).symm, by rw [lookN_succ s T U hi0]; exact w2, hi4.tr f2⟩) (by omega)
          · refine Aj.iload_n C 4 dX1_lookAtShowings_103 rfl ?_
            refine Aj.istore_n (al2 := [(2, qi i), (4, qi 0), (0, qa q), (1, qa p), (3, qi i)]) C dX1_lookAtShowings_104 (by decide) rfl ?_
            refine Aj.iinc (al2 := [(3, qi (i + 1)), (2, qi i), (4, qi 0), (0, qa q), (1, qa p)]) C 4 dX1_lookAtShowings_105 rfl (by decide) (by omega) rfl ?_
            refine Aj.goto (tgt := 5) C dX1_lookAtShowings_108 (by decide) ?_
            refine Aj.pick (al2 := [(0, qa q), (1, qa p), (2, qi i), (3, qi (i + 1))]) [3, 4, 1, 0] rfl ?_
            exact ih5 i (i + 1) h_2 (⟨by omega, by omega, by rw [lookN_succ s T U hi0, look1_ahead]; exact (if_pos (ps.mp (by omega)).2.2).symm, by rw [lookN_succ s T U hi0]; exact w2, hi4.tr f2⟩) (by omega)
        · have ew : waitI s U i = 1 := if_neg c67
          refine Aj.iconst C dX1_lookAtShowings_70 (by decide) ?_
          refine Aj.goto (tgt := 75) C dX1_lookAtShowings_71 (by decide) ?_
          refine Aj.istore (al2 := [(4, qi 1), (0, qa q), (1, qa p), (2, qi ((lookN s T U i.toNat).2.2.2)), (3, qi i)]) C dX1_lookAtShowings_75 (by decide) rfl ?_
          refine Aj.aload_n C 1 dX1_lookAtShowings_77 rfl ?_
          refine Aj.getR C lf_RX1_30 rfl K.a K.r5 dX1_lookAtShowings_78 ?_
          refine Aj.iload_n C 4 dX1_lookAtShowings_81 rfl ?_
          refine Aj.iload_n C 3 dX1_lookAtShowings_82 rfl ?_
          refine Aj.iload C 0 dX1_lookAtShowings_83 rfl ?_
          refine Aj.aload_n C 2 dX1_lookAtShowings_85 rfl ?_
          refine Aj.getIe (z := s 1) C lf_RX1_145 rfl L.a dX1_lookAtShowings_86 hQ.2.1 ?_
          refine Aj.callVv (As := [qi i, qi ((lookN s T U i.toNat).2.2.2), qi 1, qi (s 1)]) (st := []) C lm_RX1_148 m_X5_lookAt mk_X5_lookAt ms_X5_lookAt (c_X5_lookAt _ K.sh d2 ⟨u0, hu⟩ hi3 wg ⟨hi0, by omega⟩ (by omega) (by omega)) K.sh.a (t := 5) rfl rfl rfl rfl (by decide) (Nat.le_of_ble_eq_true rfl) (by decide) dX1_lookAtShowings_89 (fun h_4 p89 => ?_)
          have w2 : CSh2 h_4 (q + 6) (look1 s T U i (lookN s T U i.toNat)) (i + 1) := by rw [look1_n (fun w => by have := pe.mpr w; omega), ew]; exact p89.1
          have f2 : FR (q + 6 + 5) 3 h1 h_4 := p89.2
          have dd : CSh1 h_4 (q + 6) U := d2.fr (fun x y z1 z2 => f2 x y (by omega))
          refine Aj.aload_n C 1 dX1_lookAtShowings_92 rfl ?_
          refine Aj.getR C lf_RX1_30 rfl K.a K.r5 dX1_lookAtShowings_93 ?_
          refine Aj.iload_n C 4 dX1_lookAtShowings_96 rfl ?_
          refine Aj.callVi (As := [qi i]) (st := []) C lm_RX1_152 m_X5_shows mk_X5_shows ms_X5_shows (c_X5_shows _ K.sh dd ⟨u0, hu⟩ w2 (fun _ _ => by omega)) K.sh.a (t := 5) rfl rfl rfl rfl (by decide) (Nat.le_of_ble_eq_true rfl) (by decide) dX1_lookAtShowings_97 (fun z97 h_5 rz97 p97 => ?_)
          obtain ⟨rfl, pz2, ps⟩ := p97
          refine Aj.if_eq (tgt := 105) C dX1_lookAtShowings_100 (by decide) (fun c100 => ?_) (fun c100 => ?_)
          · refine Aj.iinc (al2 := [(3, qi (i + 1)), (4, qi 1), (0, qa q), (1, qa p), (2, qi ((lookN s T U i.toNat).2.2.2))]) C 4 dX1_lookAtShowings_105 rfl (by decide) (by omega) rfl ?_
            refine Aj.goto (tgt := 5) C dX1_lookAtShowings_108 (by decide) ?_
            refine Aj.pick (al2 := [(0, qa q), (1, qa p), (2, qi ((lookN s T U i.toNat).2.2.2)), (3, qi (i + 1))]) [2, 3, 4, 0] rfl ?_
            exact ih5 ((lookN s T U i.toNat).2.2.2) (i + 1) h_4 (⟨by omega, by omega, by rw [lookN_succ s T U hi0, look1_ahead]; exact (if_neg (fun w => by have := ps.mpr ⟨hi0, by omega, w⟩; omega)).symm, by rw [lookN_succ s T U hi0]; exact w2, hi4.tr f2⟩) (by omega)
          · refine Aj.iload_n C 4 dX1_lookAtShowings_103 rfl ?_
            refine Aj.istore_n (al2 := [(2, qi i), (4, qi 1), (0, qa q), (1, qa p), (3, qi i)]) C dX1_lookAtShowings_104 (by decide) rfl ?_
            refine Aj.iinc (al2 := [(3, qi (i + 1)), (2, qi i), (4, qi 1), (0, qa q), (1, qa p)]) C 4 dX1_lookAtShowings_105 rfl (by decide) (by omega) rfl ?_
            refine Aj.goto (tgt := 5) C dX1_lookAtShowings_108 (by decide) ?_
            refine Aj.pick (al2 := [(0, qa q), (1, qa p), (2, qi i), (3, qi (i + 1))]) [3, 4, 1, 0] rfl ?_
            exact ih5 i (i + 1) h_4 (⟨by omega, by omega, by rw [lookN_succ s T U hi0, look1_ahead]; exact (if_pos (ps.mp (by omega)).2.2).symm, by rw [lookN_succ s T U hi0]; exact w2, hi4.tr f2⟩) (by omega)
      · refine Aj.aload_n C 0 dX1_lookAtShowings_36 rfl ?_
        refine Aj.getR C lf_RX1_30 rfl K.a K.r5 dX1_lookAtShowings_37 ?_
        refine Aj.getR C lf_RX1_139 rfl K.sh.a K.sh.r4 dX1_lookAtShowings_40 ?_
        refine Aj.iload_n C 3 dX1_lookAtShowings_43 rfl ?_
        refine Aj.iconst C dX1_lookAtShowings_44 (by decide) ?_
        refine Aj.iast C K.sh.a5 (by omega) dX1_lookAtShowings_45 (fun h_6 eh_6 => ?_)
        refine Aj.goto (tgt := 92) C dX1_lookAtShowings_46 (by decide) ?_
        have w2 : CSh2 h_6 (q + 6) (look1 s T U i (lookN s T U i.toNat)) (i + 1) := by rw [look1_y (pe.mp (by omega))]; exact hi3.non eh_6 (by decide)
        have f2 : FR (q + 6 + 5) 3 h1 h_6 := fun x y w => by rw [eh_6, hset_nea _ _ _ (by omega)]
        have dd : CSh1 h_6 (q + 6) U := d2.fr (fun x y z1 z2 => f2 x y (by omega))
        refine Aj.aload_n C 0 dX1_lookAtShowings_92 rfl ?_
        refine Aj.getR C lf_RX1_30 rfl K.a K.r5 dX1_lookAtShowings_93 ?_
        refine Aj.iload_n C 3 dX1_lookAtShowings_96 rfl ?_
        refine Aj.callVi (As := [qi i]) (st := []) C lm_RX1_152 m_X5_shows mk_X5_shows ms_X5_shows (c_X5_shows _ K.sh dd ⟨u0, hu⟩ w2 (fun _ _ => by omega)) K.sh.a (t := 5) rfl rfl rfl rfl (by decide) (Nat.le_of_ble_eq_true rfl) (by decide) dX1_lookAtShowings_97 (fun z97 h_7 rz97 p97 => ?_)
        obtain ⟨rfl, pz2, ps⟩ := p97
        refine Aj.if_eq (tgt := 105) C dX1_lookAtShowings_100 (by decide) (fun c100 => ?_) (fun c100 => ?_)
        · refine Aj.iinc (al2 := [(3, qi (i + 1)), (0, qa q), (1, qa p), (2, qi ((lookN s T U i.toNat).2.2.2))]) C 3 dX1_lookAtShowings_105 rfl (by decide) (by omega) rfl ?_
          refine Aj.goto (tgt := 5) C dX1_lookAtShowings_108 (by decide) ?_
          refine Aj.pick (al2 := [(0, qa q), (1, qa p), (2, qi ((lookN s T U i.toNat).2.2.2)), (3, qi (i + 1))]) [1, 2, 3, 0] rfl ?_
          exact ih5 ((lookN s T U i.toNat).2.2.2) (i + 1) h_6 (⟨by omega, by omega, by rw [lookN_succ s T U hi0, look1_ahead]; exact (if_neg (fun w => by have := ps.mpr ⟨hi0, by omega, w⟩; omega)).symm, by rw [lookN_succ s T U hi0]; exact w2, hi4.tr f2⟩) (by omega)
        · refine Aj.iload_n C 3 dX1_lookAtShowings_103 rfl ?_
          refine Aj.istore_n (al2 := [(2, qi i), (0, qa q), (1, qa p), (3, qi i)]) C dX1_lookAtShowings_104 (by decide) rfl ?_
          refine Aj.iinc (al2 := [(3, qi (i + 1)), (2, qi i), (0, qa q), (1, qa p)]) C 3 dX1_lookAtShowings_105 rfl (by decide) (by omega) rfl ?_
          refine Aj.goto (tgt := 5) C dX1_lookAtShowings_108 (by decide) ?_
          refine Aj.pick (al2 := [(0, qa q), (1, qa p), (2, qi i), (3, qi (i + 1))]) [2, 3, 1, 0] rfl ?_
          exact ih5 i (i + 1) h_6 (⟨by omega, by omega, by rw [lookN_succ s T U hi0, look1_ahead]; exact (if_pos (ps.mp (by omega)).2.2).symm, by rw [lookN_succ s T U hi0]; exact w2, hi4.tr f2⟩) (by omega)

set_option maxHeartbeats 4000000 in
set_option maxRecDepth 100000 in
theorem c_X1_endIfAllAt (l : Launch) {G : qG} {n : Int} {r h : qH} {x : Int} {q : Int} {T : qT} (K : LNight G n r q) (c : CN h q T) {p : Int} {s : Int → Int} (L : LScore G n r p) (hC : CScore h p s) (g : SG s) (hd : p + 17 ≤ q ∨ q + 14 ≤ p) (t : TG T) (hT : T.1 ≤ 120) (hx : 1 ≤ x) : q_Cm l G yX1_endIfAllAt cX1_endIfAllAt 5 (some .int) 1 21 [qa q, qa p, qi x] n r h (q_Pi r (fun z h' => h = h' ∧ z = endN s T x (s 0).toNat)) 0 0 := by
  refine q_enter (al := [(0, qa q), (1, qa p), (2, qi x)]) m_X1_endIfAllAt rfl (Nat.le_of_ble_eq_true rfl) ?_
  intro hok X C hmc hxl hin
  have gn := g.n
  have t0 := t.1
  refine Aj.iconst C dX1_endIfAllAt_0 (by decide) ?_
  refine Aj.istore_n (al2 := [(3, qi 0), (0, qa q), (1, qa p), (2, qi x)]) C dX1_endIfAllAt_1 (by decide) rfl ?_
  refine Aj.iconst C dX1_endIfAllAt_2 (by decide) ?_
  refine Aj.istore (al2 := [(4, qi 0), (3, qi 0), (0, qa q), (1, qa p), (2, qi x)]) C dX1_endIfAllAt_3 (by decide) rfl ?_
  refine Aj.pick (al2 := [(0, qa q), (1, qa p), (2, qi x), (3, qi 0), (4, qi 0)]) [2, 3, 4, 1, 0] rfl ?_
  suffices L5 : ∀ (N : Nat) (v i : Int) , (0 ≤ i ∧ i ≤ s 0 ∧ v = endN s T x i.toNat) → (s 0 - i).toNat < N → Aj G X (q_Pi r (fun z h' => h = h' ∧ z = endN s T x (s 0).toNat)) cX1_endIfAllAt 5 (0, 0) n r h 5 [(0, qa q), (1, qa p), (2, qi x), (3, qi v), (4, qi i)] [] from L5 (_ + 1) 0 0 (⟨by omega, by omega, rfl⟩) (Nat.lt_succ_self _)
  intro N5
  induction N5 with
  | zero => intro v i _ hN; exact absurd hN (Nat.not_lt_zero _)
  | succ N ih5 =>
    intro v i hI5 hN5
    obtain ⟨hi0, hi1, hi2⟩ := hI5
    have ev := endN_in g t0 hT hx i.toNat (by omega)
    refine Aj.iload C 4 dX1_endIfAllAt_5 rfl ?_
    refine Aj.aload_n C 1 dX1_endIfAllAt_7 rfl ?_
    refine Aj.getIe (z := s 0) C lf_RX1_55 rfl L.a dX1_endIfAllAt_8 hC.1 ?_
    refine Aj.icmp_ge (tgt := 42) C dX1_endIfAllAt_11 (by decide) (fun c11 => ?_) (fun c11 => ?_)
    · refine Aj.iload_n C 3 dX1_endIfAllAt_42 rfl ?_
      refine Aj.iret C dX1_endIfAllAt_43 (by rw [hmc]; exact ⟨rfl, Nat.le_of_ble_eq_true rfl⟩) ⟨_, rfl, rfl, ?_⟩
      exact ⟨rfl, (show i = s 0 by omega) ▸ hi2⟩
    · have gb := g.b i hi0 (by omega)
      have em := endN_term g t0 hT hx (b := i) ⟨hi0, by omega⟩
      refine Aj.iload_n C 3 dX1_endIfAllAt_14 rfl ?_
      refine Aj.aload_n C 0 dX1_endIfAllAt_15 rfl ?_
      refine Aj.getR C lf_RX1_18 rfl K.a K.r2 dX1_endIfAllAt_16 ?_
      refine Aj.iload C 4 dX1_endIfAllAt_19 rfl ?_
      refine Aj.ialde (w := cntN T.2.2.1 i T.1.toNat) C K.a3 (by omega) dX1_endIfAllAt_21 (c.2.2.2 _ (by omega) (by omega)).1 ?_
      refine Aj.aload_n C 1 dX1_endIfAllAt_22 rfl ?_
      refine Aj.getR C lf_RX1_58 rfl L.a L.r2 dX1_endIfAllAt_23 ?_
      refine Aj.iload C 4 dX1_endIfAllAt_26 rfl ?_
      refine Aj.ialde (w := s (6 + i)) C L.a1 (by omega) dX1_endIfAllAt_28 (hC.2.2.1 _ (by omega) (by omega)).1 ?_
      refine Aj.iload_n C 2 dX1_endIfAllAt_29 rfl ?_
      refine Aj.callNi (As := [qi (s (6 + i)), qi x]) (st := [qi (cntN T.2.2.1 i T.1.toNat), qi v]) C ln_RX1_61 m_X8_tenthsFor mk_X8_tenthsFor (c_X8_tenthsFor _ (by omega) hx) rfl rfl (by decide) (Nat.le_of_ble_eq_true rfl) (by decide) dX1_endIfAllAt_30 (fun z30 h_1 rz30 p30 => ?_)
      obtain ⟨rfl, pt⟩ := p30
      rw [← pt] at em
      refine Aj.imul C dX1_endIfAllAt_33 (by omega) ?_
      refine Aj.iadd C dX1_endIfAllAt_34 (by omega) ?_
      refine Aj.istore_n (al2 := [(3, qi (v + ((cntN T.2.2.1 i T.1.toNat) * z30))), (0, qa q), (1, qa p), (2, qi x), (4, qi i)]) C dX1_endIfAllAt_35 (by decide) rfl ?_
      refine Aj.iinc (al2 := [(4, qi (i + 1)), (3, qi (v + ((cntN T.2.2.1 i T.1.toNat) * z30))), (0, qa q), (1, qa p), (2, qi x)]) C 4 dX1_endIfAllAt_36 rfl (by decide) (by omega) rfl ?_
      refine Aj.goto (tgt := 5) C dX1_endIfAllAt_39 (by decide) ?_
      refine Aj.pick (al2 := [(0, qa q), (1, qa p), (2, qi x), (3, qi (v + ((cntN T.2.2.1 i T.1.toNat) * z30))), (4, qi (i + 1))]) [2, 3, 4, 1, 0] rfl ?_
      exact ih5 (v + ((cntN T.2.2.1 i T.1.toNat) * z30)) (i + 1) (⟨by omega, by omega, by rw [endN_succ s T x hi0, pt, hi2]⟩) (by omega)

set_option maxHeartbeats 4000000 in
set_option maxRecDepth 100000 in
theorem c_X1_workOut (l : Launch) {G : qG} {n : Int} {r h : qH} {q : Int} (K : LNight G n r q) {p : Int} {s : Int → Int} (L : LScore G n r p) (hC : CScore h p s) (g : SG s) (hd : p + 17 ≤ q ∨ q + 14 ≤ p) : q_Cm l G yX1_workOut cX1_workOut 2 none 4 90 [qa q, qa p] n r h (q_Pv r (fun h' => CN h' q (nightT s) ∧ CSh1 h' (q + 6) (showU s) ∧ CSh2 h' (q + 6) (showW s) (showU s).1 ∧ FR q 14 h h')) 0 0 := by
  refine q_enter (al := [(0, qa q), (1, qa p)]) m_X1_workOut rfl (Nat.le_of_ble_eq_true rfl) ?_
  intro hok X C hmc hxl hin
  refine Aj.aload_n C 0 dX1_workOut_0 rfl ?_
  refine Aj.aload_n C 1 dX1_workOut_1 rfl ?_
  refine Aj.callVv (As := [qa p]) (st := []) C lm_RX1_34 m_X1_singAll mk_X1_singAll ms_X1_singAll (c_X1_singAll _ K L hC g hd) K.a (t := 1) rfl rfl rfl rfl (by decide) (Nat.le_of_ble_eq_true rfl) (by decide) dX1_workOut_2 (fun d2 p2 => ?_)
  have c2 := p2
  have hC2 : CScore d2 p s := hC.fr (fun x y z1 z2 => c2.2 x y (by omega))
  refine Aj.aload_n C 0 dX1_workOut_5 rfl ?_
  refine Aj.aload_n C 1 dX1_workOut_6 rfl ?_
  refine Aj.getR C lf_RX1_38 rfl L.a L.r7 dX1_workOut_7 ?_
  refine Aj.callVv (As := [qa (p + 12)]) (st := []) C lm_RX1_44 m_X1_gatherShowings mk_X1_gatherShowings ms_X1_gatherShowings (c_X1_gatherShowings _ K c2.1 L hC2 g hd rfl) K.a (t := 1) rfl rfl rfl rfl (by decide) (Nat.le_of_ble_eq_true rfl) (by decide) dX1_workOut_10 (fun d3 p10 => ?_)
  have c3 := p10
  have hC3 : CScore d3 p s := hC2.fr (fun x y z1 z2 => c3.2 x y (by omega))
  have cN3 : CN d3 q (nightT s) := c2.1.fr (fun x y z1 z2 => c3.2 x y (by omega))
  refine Aj.aload_n C 0 dX1_workOut_13 rfl ?_
  refine Aj.aload_n C 1 dX1_workOut_14 rfl ?_
  refine Aj.callVv (As := [qa p]) (st := []) C lm_RX1_48 m_X1_lookAtShowings mk_X1_lookAtShowings ms_X1_lookAtShowings (c_X1_lookAtShowings _ K cN3 L hC3 g hd (night_TG g) (night_le g) (U := showU s) c3.1 (show_UG g) (show_le g).2) K.a (t := 1) rfl rfl rfl rfl (by decide) (Nat.le_of_ble_eq_true rfl) (by decide) dX1_workOut_15 (fun d4 p15 => ?_)
  have c4 := p15
  refine Aj.vret C dX1_workOut_18 (by rw [hmc]; exact ⟨rfl, Nat.le_of_ble_eq_true rfl⟩) ⟨rfl, rfl, ?_⟩
  exact ⟨cN3.fr (fun x y z1 z2 => c4.2 x y (by omega)), c3.1.fr (fun x y z1 z2 => c4.2 x y (by omega)), c4.1, fun x y w => (c4.2 x y (by omega)).trans ((c3.2 x y (by omega)).trans (c2.2 x y (by omega)))⟩
