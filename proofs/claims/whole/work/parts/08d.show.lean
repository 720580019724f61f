set_option maxHeartbeats 4000000 in
set_option maxRecDepth 100000 in
theorem c_X5_has (l : Launch) {G : qG} {n : Int} {r h : qH} {a : Int} {u : Int} {U : qU} (K : LShow G n r u) (d1 : CSh1 h u U) (hu : 0 ≤ U.1 ∧ U.1 ≤ 40) : q_Cm l G yX5_has cX5_has 2 (some .boolean) 0 0 [qa u, qi a] n r h (q_Pi r (fun z h' => h = h' ∧ (z = 0 ∨ z = 1) ∧ (z = 1 ↔ 0 ≤ a ∧ a < U.1))) 0 0 := by
  refine q_enter (al := [(0, qa u), (1, qi a)]) m_X5_has rfl (Nat.le_of_ble_eq_true rfl) ?_
  intro hok X C hmc hxl hin
  refine Aj.iload_n C 1 dX5_has_0 rfl ?_
  refine Aj.if_lt (tgt := 16) C dX5_has_1 (by decide) (fun c1 => ?_) (fun c1 => ?_)
  · refine Aj.iconst C dX5_has_16 (by decide) ?_
    refine Aj.zret C dX5_has_17 (by omega) (by rw [hmc]; exact ⟨rfl, Nat.le_of_ble_eq_true rfl⟩) ⟨_, rfl, rfl, ?_⟩
    exact ⟨rfl, by omega, by omega⟩
  · refine Aj.iload_n C 1 dX5_has_4 rfl ?_
    refine Aj.aload_n C 0 dX5_has_5 rfl ?_
    refine Aj.getIe (z := U.1) C lf_RX5_33 rfl K.a dX5_has_6 d1.1 ?_
    refine Aj.icmp_ge (tgt := 16) C dX5_has_9 (by decide) (fun c9 => ?_) (fun c9 => ?_)
    · refine Aj.iconst C dX5_has_16 (by decide) ?_
      refine Aj.zret C dX5_has_17 (by omega) (by rw [hmc]; exact ⟨rfl, Nat.le_of_ble_eq_true rfl⟩) ⟨_, rfl, rfl, ?_⟩
      exact ⟨rfl, by omega, by omega⟩
    · refine Aj.iconst C dX5_has_12 (by decide) ?_
      refine Aj.goto (tgt := 17) C dX5_has_13 (by decide) ?_
      refine Aj.zret C dX5_has_17 (by omega) (by rw [hmc]; exact ⟨rfl, Nat.le_of_ble_eq_true rfl⟩) ⟨_, rfl, rfl, ?_⟩
      exact ⟨rfl, by omega, by omega⟩

set_option maxHeartbeats 4000000 in
set_option maxRecDepth 100000 in
theorem c_X5_shows (l : Launch) {G : qG} {n : Int} {r h : qH} {a : Int} {u : Int} {U : qU} (K : LShow G n r u) (d1 : CSh1 h u U) (hu : 0 ≤ U.1 ∧ U.1 ≤ 40) {W : qW} {m : Int} (d2 : CSh2 h u W m) (ha : 0 ≤ a → a < U.1 → a < m) : q_Cm l G yX5_shows cX5_shows 2 (some .boolean) 1 21 [qa u, qi a] n r h (q_Pi r (fun z h' => h = h' ∧ (z = 0 ∨ z = 1) ∧ (z = 1 ↔ 0 ≤ a ∧ a < U.1 ∧ W.1 a = 0))) 0 0 := by
  refine q_enter (al := [(0, qa u), (1, qi a)]) m_X5_shows rfl (Nat.le_of_ble_eq_true rfl) ?_
  intro hok X C hmc hxl hin
  refine Aj.aload_n C 0 dX5_shows_0 rfl ?_
  refine Aj.iload_n C 1 dX5_shows_1 rfl ?_
  refine Aj.callVi (As := [qi a]) (st := []) C lm_RX5_37 m_X5_has mk_X5_has ms_X5_has (c_X5_has _ K d1 hu) K.a (t := 5) rfl rfl rfl rfl (by decide) (Nat.le_of_ble_eq_true rfl) (by decide) dX5_shows_2 (fun z2 h_1 rz2 p2 => ?_)
  obtain ⟨rfl, pz, pe⟩ := p2
  refine Aj.if_eq (tgt := 21) C dX5_shows_5 (by decide) (fun c5 => ?_) (fun c5 => ?_)
  · refine Aj.iconst C dX5_shows_21 (by decide) ?_
    refine Aj.zret C dX5_shows_22 (by omega) (by rw [hmc]; exact ⟨rfl, Nat.le_of_ble_eq_true rfl⟩) ⟨_, rfl, rfl, ?_⟩
    refine ⟨rfl, by omega, ?_⟩
    first
    | (constructor <;> intro q <;> omega)
    | (have := pe.mp (by omega); constructor <;> intro q <;> omega)
  · refine Aj.aload_n C 0 dX5_shows_8 rfl ?_
    refine Aj.getR C lf_RX5_24 rfl K.a K.r4 dX5_shows_9 ?_
    refine Aj.iload_n C 1 dX5_shows_12 rfl ?_
    refine Aj.ialde (w := W.1 a) C K.a5 (by omega) dX5_shows_13 (d2 _ (by omega) (by omega)).1 ?_
    refine Aj.if_ne (tgt := 21) C dX5_shows_14 (by decide) (fun c14 => ?_) (fun c14 => ?_)
    · refine Aj.iconst C dX5_shows_21 (by decide) ?_
      refine Aj.zret C dX5_shows_22 (by omega) (by rw [hmc]; exact ⟨rfl, Nat.le_of_ble_eq_true rfl⟩) ⟨_, rfl, rfl, ?_⟩
      refine ⟨rfl, by omega, ?_⟩
      first
      | (constructor <;> intro q <;> omega)
      | (have := pe.mp (by omega); constructor <;> intro q <;> omega)
    · refine Aj.iconst C dX5_shows_17 (by decide) ?_
      refine Aj.goto (tgt := 22) C dX5_shows_18 (by decide) ?_
      refine Aj.zret C dX5_shows_22 (by omega) (by rw [hmc]; exact ⟨rfl, Nat.le_of_ble_eq_true rfl⟩) ⟨_, rfl, rfl, ?_⟩
      refine ⟨rfl, by omega, ?_⟩
      first
      | (constructor <;> intro q <;> omega)
      | (have := pe.mp (by omega); constructor <;> intro q <;> omega)

set_option maxHeartbeats 4000000 in
set_option maxRecDepth 100000 in
theorem c_X5_add (l : Launch) {G : qG} {n : Int} {r h : qH} {a b c d : Int} {u : Int} {U : qU} (K : LShow G n r u) (d1 : CSh1 h u U) (hu : 0 ≤ U.1 ∧ U.1 ≤ 40) (hr : U.1 + 1 ≤ 40) : q_Cm l G yX5_add cX5_add 5 none 0 0 [qa u, qi a, qi b, qi c, qi d] n r h (q_Pv r (fun h' => CSh1 h' u (U.1 + 1, sset U.2.1 U.1 a, sset U.2.2.1 U.1 b, sset U.2.2.2.1 U.1 c, sset U.2.2.2.2 U.1 d) ∧ FR u 8 h h' ∧ ∀ x y, u + 5 ≤ x → h' x y = h x y)) 0 0 := by
  refine q_enter (al := [(0, qa u), (1, qi a), (2, qi b), (3, qi c), (4, qi d)]) m_X5_add rfl (Nat.le_of_ble_eq_true rfl) ?_
  intro hok X C hmc hxl hin
  refine Aj.aload_n C 0 dX5_add_0 rfl ?_
  refine Aj.getIe (z := U.1) C lf_RX5_33 rfl K.a dX5_add_1 d1.1 ?_
  refine Aj.bipush C dX5_add_4 (by decide) (by decide) ?_
  refine Aj.icmp_lt (tgt := 10) C dX5_add_6 (by decide) (fun c6 => ?_) (fun c6 => ?_)
  · refine Aj.aload_n C 0 dX5_add_10 rfl ?_
    refine Aj.getR C lf_RX5_9 rfl K.a K.r0 dX5_add_11 ?_
    refine Aj.aload_n C 0 dX5_add_14 rfl ?_
    refine Aj.getIe (z := U.1) C lf_RX5_33 rfl K.a dX5_add_15 d1.1 ?_
    refine Aj.iload_n C 1 dX5_add_18 rfl ?_
    refine Aj.iast C K.a1 (by omega) dX5_add_19 (fun h_1 eh_1 => ?_)
    refine Aj.aload_n C 0 dX5_add_20 rfl ?_
    refine Aj.getR C lf_RX5_15 rfl K.a K.r1 dX5_add_21 ?_
    refine Aj.aload_n C 0 dX5_add_24 rfl ?_
    refine Aj.getIe (z := U.1) C lf_RX5_33 rfl K.a dX5_add_25 (by rw [eh_1, hset_nea _ _ _ (by omega)]; exact d1.1) ?_
    refine Aj.iload_n C 2 dX5_add_28 rfl ?_
    refine Aj.iast C K.a2 (by omega) dX5_add_29 (fun h_2 eh_2 => ?_)
    refine Aj.aload_n C 0 dX5_add_30 rfl ?_
    refine Aj.getR C lf_RX5_18 rfl K.a K.r2 dX5_add_31 ?_
    refine Aj.aload_n C 0 dX5_add_34 rfl ?_
    refine Aj.getIe (z := U.1) C lf_RX5_33 rfl K.a dX5_add_35 (by rw [eh_2, hset_nea _ _ _ (by omega)]; exact (by rw [eh_1, hset_nea _ _ _ (by omega)]; exact d1.1)) ?_
    refine Aj.iload_n C 3 dX5_add_38 rfl ?_
    refine Aj.iast C K.a3 (by omega) dX5_add_39 (fun h_3 eh_3 => ?_)
    refine Aj.aload_n C 0 dX5_add_40 rfl ?_
    refine Aj.getR C lf_RX5_21 rfl K.a K.r3 dX5_add_41 ?_
    refine Aj.aload_n C 0 dX5_add_44 rfl ?_
    refine Aj.getIe (z := U.1) C lf_RX5_33 rfl K.a dX5_add_45 (by rw [eh_3, hset_nea _ _ _ (by omega)]; exact (by rw [eh_2, hset_nea _ _ _ (by omega)]; exact (by rw [eh_1, hset_nea _ _ _ (by omega)]; exact d1.1))) ?_
    refine Aj.iload C 4 dX5_add_48 rfl ?_
    refine Aj.iast C K.a4 (by omega) dX5_add_50 (fun h_4 eh_4 => ?_)
    refine Aj.aload_n C 0 dX5_add_51 rfl ?_
    refine Aj.dup_qa C dX5_add_52 ?_
    refine Aj.getIe (z := U.1) C lf_RX5_33 rfl K.a dX5_add_53 (by rw [eh_4, hset_nea _ _ _ (by omega)]; exact (by rw [eh_3, hset_nea _ _ _ (by omega)]; exact (by rw [eh_2, hset_nea _ _ _ (by omega)]; exact (by rw [eh_1, hset_nea _ _ _ (by omega)]; exact d1.1)))) ?_
    refine Aj.iconst C dX5_add_56 (by decide) ?_
    refine Aj.iadd C dX5_add_57 (by omega) ?_
    refine Aj.putI C lf_RX5_33 K.a dX5_add_58 (fun h_5 eh_5 => ?_)
    refine Aj.vret C dX5_add_61 (by rw [hmc]; exact ⟨rfl, Nat.le_of_ble_eq_true rfl⟩) ⟨rfl, rfl, ?_⟩
    have e : ∀ x y, (x < u ∨ u + 5 ≤ x) → h_5 x y = h x y := fun x y z => by rw [eh_5, eh_4, eh_3, eh_2, eh_1, hset_nea _ _ _ (by omega), hset_nea _ _ _ (by omega), hset_nea _ _ _ (by omega), hset_nea _ _ _ (by omega), hset_nea _ _ _ (by omega)]
    refine ⟨⟨by rw [eh_5, eh_4, eh_3, eh_2, eh_1, hset_same], fun k k1 k2 => ?_⟩, fun x y z => e x y (by omega), fun x y z => e x y (by omega)⟩
    have k2 : k < U.1 + 1 := k2
    show _ = sset U.2.1 U.1 a k ∧ _ = sset U.2.2.1 U.1 b k ∧ _ = sset U.2.2.2.1 U.1 c k ∧ _ = sset U.2.2.2.2 U.1 d k
    by_cases q : k = U.1
    · rw [q, sset_same, sset_same, sset_same, sset_same]
      refine ⟨?_, ?_, ?_, ?_⟩
      · rw [eh_5, eh_4, eh_3, eh_2, eh_1, hset_nea _ _ _ (by omega), hset_nea _ _ _ (by omega), hset_nea _ _ _ (by omega), hset_nea _ _ _ (by omega), hset_same]
      · rw [eh_5, eh_4, eh_3, eh_2, eh_1, hset_nea _ _ _ (by omega), hset_nea _ _ _ (by omega), hset_nea _ _ _ (by omega), hset_same]
      · rw [eh_5, eh_4, eh_3, eh_2, eh_1, hset_nea _ _ _ (by omega), hset_nea _ _ _ (by omega), hset_same]
      · rw [eh_5, eh_4, eh_3, eh_2, eh_1, hset_nea _ _ _ (by omega), hset_same]
    · have en : ∀ x, x ≠ u → h_5 x k = h x k := fun x z => by rw [eh_5, eh_4, eh_3, eh_2, eh_1, hset_nea _ _ _ z, hset_neb _ _ _ q, hset_neb _ _ _ q, hset_neb _ _ _ q, hset_neb _ _ _ q]
      rw [sset_ne _ _ q, sset_ne _ _ q, sset_ne _ _ q, sset_ne _ _ q, en _ (by omega), en _ (by omega), en _ (by omega), en _ (by omega)]
      exact d1.2 k k1 (by omega)
  · refine Aj.vret C dX5_add_9 (by rw [hmc]; exact ⟨rfl, Nat.le_of_ble_eq_true rfl⟩) ⟨rfl, rfl, ?_⟩
    exact absurd c6 (by omega)

set_option maxHeartbeats 4000000 in
set_option maxRecDepth 100000 in
theorem c_X5_lookAt (l : Launch) {G : qG} {n : Int} {r h : qH} {k w sh : Int} {u : Int} {U : qU} (K : LShow G n r u) (d1 : CSh1 h u U) (hu : 0 ≤ U.1 ∧ U.1 ≤ 40) {W : qW} (d2 : CSh2 h u W k) (wg : WG k W) (hk : 0 ≤ k ∧ k < U.1) (h1 : 0 ≤ U.2.2.2.1 k ∧ U.2.2.2.1 k ≤ 48000) (h2 : 0 ≤ U.2.2.2.2 k ∧ U.2.2.2.2 k ≤ 48000) : q_Cm l G yX5_lookAt cX5_lookAt 7 none 1 21 [qa u, qi k, qi W.2.2.2, qi w, qi sh] n r h (q_Pv r (fun h' => CSh2 h' u (lookV w sh U k W) (k + 1) ∧ FR (u + 5) 3 h h')) 0 0 := by
  refine q_enter (al := [(0, qa u), (1, qi k), (2, qi W.2.2.2), (3, qi w), (4, qi sh)]) m_X5_lookAt rfl (Nat.le_of_ble_eq_true rfl) ?_
  intro hok X C hmc hxl hin
  have hah : W.2.2.2 ≠ -6 → W.1 W.2.2.2 = 0 := fun q => wg.1.elim (fun e => absurd e q) (fun e => e.2.2)
  have hrw : W.2.2.2 = -6 ∨ (0 ≤ W.2.2.2 ∧ W.2.2.2 < k) := wg.1.elim Or.inl (fun e => Or.inr ⟨e.1, e.2.1⟩)
  have hen : W.2.2.2 ≠ -6 → 0 ≤ W.2.1 W.2.2.2 ∧ W.2.1 W.2.2.2 ≤ W.2.2.1 W.2.2.2 ∧ W.2.2.1 W.2.2.2 ≤ 48000 := fun q => wg.1.elim (fun e => absurd e q) (fun e => (wg.2 _ e.1 e.2.1).2.1 e.2.2)
  refine Aj.aload_n C 0 dX5_lookAt_0 rfl ?_
  refine Aj.getR C lf_RX5_18 rfl K.a K.r2 dX5_lookAt_1 ?_
  refine Aj.iload_n C 1 dX5_lookAt_4 rfl ?_
  refine Aj.ialde (w := U.2.2.2.1 k) C K.a3 (by omega) dX5_lookAt_5 (d1.2 _ (by omega) (by omega)).2.2.1 ?_
  refine Aj.istore (al2 := [(5, qi (U.2.2.2.1 k)), (0, qa u), (1, qi k), (2, qi W.2.2.2), (3, qi w), (4, qi sh)]) C dX5_lookAt_6 (by decide) rfl ?_
  refine Aj.aload_n C 1 dX5_lookAt_8 rfl ?_
  refine Aj.iload_n C 3 dX5_lookAt_9 rfl ?_
  refine Aj.callVi (As := [qi W.2.2.2]) (st := []) C lm_RX5_37 m_X5_has mk_X5_has ms_X5_has (c_X5_has _ K d1 hu) K.a (t := 5) rfl rfl rfl rfl (by decide) (Nat.le_of_ble_eq_true rfl) (by decide) dX5_lookAt_10 (fun z10 h_1 rz10 p10 => ?_)
  obtain ⟨rfl, pz, pe⟩ := p10
  refine Aj.if_eq (tgt := 42) C dX5_lookAt_13 (by decide) (fun c13 => ?_) (fun c13 => ?_)
  · have hB : lookB w U k W = U.2.2.2.1 k := by unfold lookB; rw [if_pos (by omega)]
    have hbd := lookB_in (w := w) (k := k) wg (by omega)
    rw [hB] at hbd
    refine Aj.iload C 0 dX5_lookAt_42 rfl ?_
    refine Aj.aload_n C 1 dX5_lookAt_44 rfl ?_
    refine Aj.getR C lf_RX5_21 rfl K.a K.r3 dX5_lookAt_45 ?_
    refine Aj.iload_n C 2 dX5_lookAt_48 rfl ?_
    refine Aj.ialde (w := U.2.2.2.2 k) C K.a4 (by omega) dX5_lookAt_49 (d1.2 _ (by omega) (by omega)).2.2.2 ?_
    refine Aj.mmax C lm_RX5_41 ⟨Nat.le_of_ble_eq_true rfl, Nat.le_of_ble_eq_true rfl⟩ (by decide) dX5_lookAt_50 ?_
    refine Aj.istore (al2 := [(6, qi (max (U.2.2.2.1 k) (U.2.2.2.2 k))), (5, qi (U.2.2.2.1 k)), (0, qa u), (1, qi k), (2, qi W.2.2.2), (3, qi w), (4, qi sh)]) C dX5_lookAt_53 (by decide) rfl ?_
    refine Aj.iload C 0 dX5_lookAt_55 rfl ?_
    refine Aj.iload C 1 dX5_lookAt_57 rfl ?_
    refine Aj.isub C dX5_lookAt_59 (by omega) ?_
    refine Aj.iload C 6 dX5_lookAt_60 rfl ?_
    refine Aj.icmp_ge (tgt := 73) C dX5_lookAt_62 (by decide) (fun c62 => ?_) (fun c62 => ?_)
    · refine Aj.aload_n C 2 dX5_lookAt_73 rfl ?_
      refine Aj.iload_n C 4 dX5_lookAt_74 rfl ?_
      refine Aj.callVi (As := [qi W.2.2.2]) (st := []) C lm_RX5_37 m_X5_has mk_X5_has ms_X5_has (c_X5_has _ K d1 hu) K.a (t := 5) rfl rfl rfl rfl (by decide) (Nat.le_of_ble_eq_true rfl) (by decide) dX5_lookAt_75 (fun z75 h_2 rz75 p75 => ?_)
      obtain ⟨rfl, pz2, pe2⟩ := p75
      refine Aj.if_eq (tgt := 98) C dX5_lookAt_78 (by decide) (fun c78 => ?_) (fun c78 => ?_)
      · refine Aj.aload_n C 2 dX5_lookAt_98 rfl ?_
        refine Aj.getR C lf_RX5_24 rfl K.a K.r4 dX5_lookAt_99 ?_
        refine Aj.iload_n C 3 dX5_lookAt_102 rfl ?_
        refine Aj.iconst C dX5_lookAt_103 (by decide) ?_
        refine Aj.iast C K.a5 (by omega) dX5_lookAt_104 (fun h_3 eh_3 => ?_)
        refine Aj.aload_n C 2 dX5_lookAt_105 rfl ?_
        refine Aj.getR C lf_RX5_27 rfl K.a K.r5 dX5_lookAt_106 ?_
        refine Aj.iload_n C 3 dX5_lookAt_109 rfl ?_
        refine Aj.iload C 1 dX5_lookAt_110 rfl ?_
        refine Aj.iast C K.a6 (by omega) dX5_lookAt_112 (fun h_4 eh_4 => ?_)
        refine Aj.aload_n C 2 dX5_lookAt_113 rfl ?_
        refine Aj.getR C lf_RX5_30 rfl K.a K.r6 dX5_lookAt_114 ?_
        refine Aj.iload_n C 3 dX5_lookAt_117 rfl ?_
        refine Aj.iload C 0 dX5_lookAt_118 rfl ?_
        refine Aj.iast C K.a7 (by omega) dX5_lookAt_120 (fun h_5 eh_5 => ?_)
        refine Aj.vret C dX5_lookAt_121 (by rw [hmc]; exact ⟨rfl, Nat.le_of_ble_eq_true rfl⟩) ⟨rfl, rfl, ?_⟩
        exact CSh2.lookV (h1 := h) d2 wg (Or.inr ⟨by rw [hB]; omega, Or.inl ⟨by omega, rfl⟩, by rw [hB, eh_5, eh_4, eh_3]⟩)
      · refine Aj.aload_n C 2 dX5_lookAt_81 rfl ?_
        refine Aj.getR C lf_RX5_30 rfl K.a K.r6 dX5_lookAt_82 ?_
        refine Aj.iload_n C 4 dX5_lookAt_85 rfl ?_
        refine Aj.aload_n C 2 dX5_lookAt_86 rfl ?_
        refine Aj.getR C lf_RX5_30 rfl K.a K.r6 dX5_lookAt_87 ?_
        refine Aj.iload_n C 4 dX5_lookAt_90 rfl ?_
        refine Aj.ialde (w := W.2.2.1 W.2.2.2) C K.a7 (by omega) dX5_lookAt_91 ((d2 _ (by omega) (by omega)).2 (hah (by omega))).2 ?_
        refine Aj.iload C 1 dX5_lookAt_92 rfl ?_
        refine Aj.mmin C lm_RX5_47 ⟨Nat.le_of_ble_eq_true rfl, Nat.le_of_ble_eq_true rfl⟩ (by decide) dX5_lookAt_94 ?_
        refine Aj.iast C K.a7 (by omega) dX5_lookAt_97 (fun h_6 eh_6 => ?_)
        refine Aj.aload_n C 2 dX5_lookAt_98 rfl ?_
        refine Aj.getR C lf_RX5_24 rfl K.a K.r4 dX5_lookAt_99 ?_
        refine Aj.iload_n C 3 dX5_lookAt_102 rfl ?_
        refine Aj.iconst C dX5_lookAt_103 (by decide) ?_
        refine Aj.iast C K.a5 (by omega) dX5_lookAt_104 (fun h_7 eh_7 => ?_)
        refine Aj.aload_n C 2 dX5_lookAt_105 rfl ?_
        refine Aj.getR C lf_RX5_27 rfl K.a K.r5 dX5_lookAt_106 ?_
        refine Aj.iload_n C 3 dX5_lookAt_109 rfl ?_
        refine Aj.iload C 1 dX5_lookAt_110 rfl ?_
        refine Aj.iast C K.a6 (by omega) dX5_lookAt_112 (fun h_8 eh_8 => ?_)
        refine Aj.aload_n C 2 dX5_lookAt_113 rfl ?_
        refine Aj.getR C lf_RX5_30 rfl K.a K.r6 dX5_lookAt_114 ?_
        refine Aj.iload_n C 3 dX5_lookAt_117 rfl ?_
        refine Aj.iload C 0 dX5_lookAt_118 rfl ?_
        refine Aj.iast C K.a7 (by omega) dX5_lookAt_120 (fun h_9 eh_9 => ?_)
        refine Aj.vret C dX5_lookAt_121 (by rw [hmc]; exact ⟨rfl, Nat.le_of_ble_eq_true rfl⟩) ⟨rfl, rfl, ?_⟩
        exact CSh2.lookV (h1 := h_6) d2 wg (Or.inr ⟨by rw [hB]; omega, Or.inr ⟨by omega, by rw [hB, eh_6]⟩, by rw [hB, eh_9, eh_8, eh_7]⟩)
    · refine Aj.aload_n C 2 dX5_lookAt_65 rfl ?_
      refine Aj.getR C lf_RX5_24 rfl K.a K.r4 dX5_lookAt_66 ?_
      refine Aj.iload_n C 3 dX5_lookAt_69 rfl ?_
      refine Aj.iconst C dX5_lookAt_70 (by decide) ?_
      refine Aj.iast C K.a5 (by omega) dX5_lookAt_71 (fun h_10 eh_10 => ?_)
      refine Aj.vret C dX5_lookAt_72 (by rw [hmc]; exact ⟨rfl, Nat.le_of_ble_eq_true rfl⟩) ⟨rfl, rfl, ?_⟩
      exact CSh2.lookV (h1 := h) d2 wg (Or.inl ⟨by rw [hB]; omega, by rw [eh_10]⟩)
  · refine Aj.iload C 0 dX5_lookAt_16 rfl ?_
    refine Aj.iload_n C 4 dX5_lookAt_18 rfl ?_
    refine Aj.if_eq (tgt := 31) C dX5_lookAt_19 (by decide) (fun c19 => ?_) (fun c19 => ?_)
    · refine Aj.aload_n C 1 dX5_lookAt_31 rfl ?_
      refine Aj.getR C lf_RX5_27 rfl K.a K.r5 dX5_lookAt_32 ?_
      refine Aj.iload_n C 3 dX5_lookAt_35 rfl ?_
      refine Aj.ialde (w := W.2.1 W.2.2.2) C K.a6 (by omega) dX5_lookAt_36 ((d2 _ (by omega) (by omega)).2 (hah (by omega))).1 ?_
      refine Aj.mmax C lm_RX5_41 ⟨Nat.le_of_ble_eq_true rfl, Nat.le_of_ble_eq_true rfl⟩ (by decide) dX5_lookAt_37 ?_
      refine Aj.istore (al2 := [(5, qi (max (U.2.2.2.1 k) (W.2.1 W.2.2.2))), (0, qa u), (1, qi k), (2, qi W.2.2.2), (3, qi w), (4, qi sh)]) C dX5_lookAt_40 (by decide) rfl ?_
      have hB : lookB w U k W = max (U.2.2.2.1 k) (W.2.1 W.2.2.2) := by unfold lookB; rw [if_neg (by omega), if_neg (by omega)]
      have hbd := lookB_in (w := w) (k := k) wg (by omega)
      rw [hB] at hbd
      refine Aj.iload C 0 dX5_lookAt_42 rfl ?_
      refine Aj.aload_n C 1 dX5_lookAt_44 rfl ?_
      refine Aj.getR C lf_RX5_21 rfl K.a K.r3 dX5_lookAt_45 ?_
      refine Aj.iload_n C 2 dX5_lookAt_48 rfl ?_
      refine Aj.ialde (w := U.2.2.2.2 k) C K.a4 (by omega) dX5_lookAt_49 (d1.2 _ (by omega) (by omega)).2.2.2 ?_
      refine Aj.mmax C lm_RX5_41 ⟨Nat.le_of_ble_eq_true rfl, Nat.le_of_ble_eq_true rfl⟩ (by decide) dX5_lookAt_50 ?_
      refine Aj.istore (al2 := [(6, qi (max (max (U.2.2.2.1 k) (W.2.1 W.2.2.2)) (U.2.2.2.2 k))), (5, qi (max (U.2.2.2.1 k) (W.2.1 W.2.2.2))), (0, qa u), (1, qi k), (2, qi W.2.2.2), (3, qi w), (4, qi sh)]) C dX5_lookAt_53 (by decide) rfl ?_
      refine Aj.iload C 0 dX5_lookAt_55 rfl ?_
      refine Aj.iload C 1 dX5_lookAt_57 rfl ?_
      refine Aj.isub C dX5_lookAt_59 (by omega) ?_
      refine Aj.iload C 6 dX5_lookAt_60 rfl ?_
      refine Aj.icmp_ge (tgt := 73) C dX5_lookAt_62 (by decide) (fun c62 => ?_) (fun c62 => ?_)
      · refine Aj.aload_n C 2 dX5_lookAt_73 rfl ?_
        refine Aj.iload_n C 4 dX5_lookAt_74 rfl ?_
        refine Aj.callVi (As := [qi W.2.2.2]) (st := []) C lm_RX5_37 m_X5_has mk_X5_has ms_X5_has (c_X5_has _ K d1 hu) K.a (t := 5) rfl rfl rfl rfl (by decide) (Nat.le_of_ble_eq_true rfl) (by decide) dX5_lookAt_75 (fun z75 h_11 rz75 p75 => ?_)
        obtain ⟨rfl, pz2, pe2⟩ := p75
        refine Aj.if_eq (tgt := 98) C dX5_lookAt_78 (by decide) (fun c78 => ?_) (fun c78 => ?_)
        · refine Aj.aload_n C 2 dX5_lookAt_98 rfl ?_
          refine Aj.getR C lf_RX5_24 rfl K.a K.r4 dX5_lookAt_99 ?_
          refine Aj.iload_n C 3 dX5_lookAt_102 rfl ?_
          refine Aj.iconst C dX5_lookAt_103 (by decide) ?_
          refine Aj.iast C K.a5 (by omega) dX5_lookAt_104 (fun h_12 eh_12 => ?_)
          refine Aj.aload_n C 2 dX5_lookAt_105 rfl ?_
          refine Aj.getR C lf_RX5_27 rfl K.a K.r5 dX5_lookAt_106 ?_
          refine Aj.iload_n C 3 dX5_lookAt_109 rfl ?_
          refine Aj.iload C 1 dX5_lookAt_110 rfl ?_
          refine Aj.iast C K.a6 (by omega) dX5_lookAt_112 (fun h_13 eh_13 => ?_)
          refine Aj.aload_n C 2 dX5_lookAt_113 rfl ?_
          refine Aj.getR C lf_RX5_30 rfl K.a K.r6 dX5_lookAt_114 ?_
          refine Aj.iload_n C 3 dX5_lookAt_117 rfl ?_
          refine Aj.iload C 0 dX5_lookAt_118 rfl ?_
          refine Aj.iast C K.a7 (by omega) dX5_lookAt_120 (fun h_14 eh_14 => ?_)
          refine Aj.vret C dX5_lookAt_121 (by rw [hmc]; exact ⟨rfl, Nat.le_of_ble_eq_true rfl⟩) ⟨rfl, rfl, ?_⟩
          exact CSh2.lookV (h1 := h) d2 wg (Or.inr ⟨by rw [hB]; omega, Or.inl ⟨by omega, rfl⟩, by rw [hB, eh_14, eh_13, eh_12]⟩)
        · refine Aj.aload_n C 2 dX5_lookAt_81 rfl ?_
          refine Aj.getR C lf_RX5_30 rfl K.a K.r6 dX5_lookAt_82 ?_
          refine Aj.iload_n C 4 dX5_lookAt_85 rfl ?_
          refine Aj.aload_n C 2 dX5_lookAt_86 rfl ?_
          refine Aj.getR C lf_RX5_30 rfl K.a K.r6 dX5_lookAt_87 ?_
          refine Aj.iload_n C 4 dX5_lookAt_90 rfl ?_
          refine Aj.ialde (w := W.2.2.1 W.2.2.2) C K.a7 (by omega) dX5_lookAt_91 ((d2 _ (by omega) (by omega)).2 (hah (by omega))).2 ?_
          refine Aj.iload C 1 dX5_lookAt_92 rfl ?_
          refine Aj.mmin C lm_RX5_47 ⟨Nat.le_of_ble_eq_true rfl, Nat.le_of_ble_eq_true rfl⟩ (by decide) dX5_lookAt_94 ?_
          refine Aj.iast C K.a7 (by omega) dX5_lookAt_97 (fun h_15 eh_15 => ?_)
          refine Aj.aload_n C 2 dX5_lookAt_98 rfl ?_
          refine Aj.getR C lf_RX5_24 rfl K.a K.r4 dX5_lookAt_99 ?_
          refine Aj.iload_n C 3 dX5_lookAt_102 rfl ?_
          refine Aj.iconst C dX5_lookAt_103 (by decide) ?_
          refine Aj.iast C K.a5 (by omega) dX5_lookAt_104 (fun h_16 eh_16 => ?_)
          refine Aj.aload_n C 2 dX5_lookAt_105 rfl ?_
          refine Aj.getR C lf_RX5_27 rfl K.a K.r5 dX5_lookAt_106 ?_
          refine Aj.iload_n C 3 dX5_lookAt_109 rfl ?_
          refine Aj.iload C 1 dX5_lookAt_110 rfl ?_
          refine Aj.iast C K.a6 (by omega) dX5_lookAt_112 (fun h_17 eh_17 => ?_)
          refine Aj.aload_n C 2 dX5_lookAt_113 rfl ?_
          refine Aj.getR C lf_RX5_30 rfl K.a K.r6 dX5_lookAt_114 ?_
          refine Aj.iload_n C 3 dX5_lookAt_117 rfl ?_
          refine Aj.iload C 0 dX5_lookAt_118 rfl ?_
          refine Aj.iast C K.a7 (by omega) dX5_lookAt_120 (fun h_18 eh_18 => ?_)
          refine Aj.vret C dX5_lookAt_121 (by rw [hmc]; exact ⟨rfl, Nat.le_of_ble_eq_true rfl⟩) ⟨rfl, rfl, ?_⟩
          exact CSh2.lookV (h1 := h_15) d2 wg (Or.inr ⟨by rw [hB]; omega, Or.inr ⟨by omega, by rw [hB, eh_15]⟩, by rw [hB, eh_18, eh_17, eh_16]⟩)
      · refine Aj.aload_n C 2 dX5_lookAt_65 rfl ?_
        refine Aj.getR C lf_RX5_24 rfl K.a K.r4 dX5_lookAt_66 ?_
        refine Aj.iload_n C 3 dX5_lookAt_69 rfl ?_
        refine Aj.iconst C dX5_lookAt_70 (by decide) ?_
        refine Aj.iast C K.a5 (by omega) dX5_lookAt_71 (fun h_19 eh_19 => ?_)
        refine Aj.vret C dX5_lookAt_72 (by rw [hmc]; exact ⟨rfl, Nat.le_of_ble_eq_true rfl⟩) ⟨rfl, rfl, ?_⟩
        exact CSh2.lookV (h1 := h) d2 wg (Or.inl ⟨by rw [hB]; omega, by rw [eh_19]⟩)
    · refine Aj.aload_n C 1 dX5_lookAt_22 rfl ?_
      refine Aj.getR C lf_RX5_30 rfl K.a K.r6 dX5_lookAt_23 ?_
      refine Aj.iload_n C 3 dX5_lookAt_26 rfl ?_
      refine Aj.ialde (w := W.2.2.1 W.2.2.2) C K.a7 (by omega) dX5_lookAt_27 ((d2 _ (by omega) (by omega)).2 (hah (by omega))).2 ?_
      refine Aj.goto (tgt := 37) C dX5_lookAt_28 (by decide) ?_
      refine Aj.mmax C lm_RX5_41 ⟨Nat.le_of_ble_eq_true rfl, Nat.le_of_ble_eq_true rfl⟩ (by decide) dX5_lookAt_37 ?_
      refine Aj.istore (al2 := [(5, qi (max (U.2.2.2.1 k) (W.2.2.1 W.2.2.2))), (0, qa u), (1, qi k), (2, qi W.2.2.2), (3, qi w), (4, qi sh)]) C dX5_lookAt_40 (by decide) rfl ?_
      have hB : lookB w U k W = max (U.2.2.2.1 k) (W.2.2.1 W.2.2.2) := by unfold lookB; rw [if_neg (by omega), if_pos (by omega)]
      have hbd := lookB_in (w := w) (k := k) wg (by omega)
      rw [hB] at hbd
      refine Aj.iload C 0 dX5_lookAt_42 rfl ?_
      refine Aj.aload_n C 1 dX5_lookAt_44 rfl ?_
      refine Aj.getR C lf_RX5_21 rfl K.a K.r3 dX5_lookAt_45 ?_
      refine Aj.iload_n C 2 dX5_lookAt_48 rfl ?_
      refine Aj.ialde (w := U.2.2.2.2 k) C K.a4 (by omega) dX5_lookAt_49 (d1.2 _ (by omega) (by omega)).2.2.2 ?_
      refine Aj.mmax C lm_RX5_41 ⟨Nat.le_of_ble_eq_true rfl, Nat.le_of_ble_eq_true rfl⟩ (by decide) dX5_lookAt_50 ?_
      refine Aj.istore (al2 := [(6, qi (max (max (U.2.2.2.1 k) (W.2.2.1 W.2.2.2)) (U.2.2.2.2 k))), (5, qi (max (U.2.2.2.1 k) (W.2.2.1 W.2.2.2))), (0, qa u), (1, qi k), (2, qi W.2.2.2), (3, qi w), (4, qi sh)]) C dX5_lookAt_53 (by decide) rfl ?_
      refine Aj.iload C 0 dX5_lookAt_55 rfl ?_
      refine Aj.iload C 1 dX5_lookAt_57 rfl ?_
      refine Aj.isub C dX5_lookAt_59 (by omega) ?_
      refine Aj.iload C 6 dX5_lookAt_60 rfl ?_
      refine Aj.icmp_ge (tgt := 73) C dX5_lookAt_62 (by decide) (fun c62 => ?_) (fun c62 => ?_)
      · refine Aj.aload_n C 2 dX5_lookAt_73 rfl ?_
        refine Aj.iload_n C 4 dX5_lookAt_74 rfl ?_
        refine Aj.callVi (As := [qi W.2.2.2]) (st := []) C lm_RX5_37 m_X5_has mk_X5_has ms_X5_has (c_X5_has _ K d1 hu) K.a (t := 5) rfl rfl rfl rfl (by decide) (Nat.le_of_ble_eq_true rfl) (by decide) dX5_lookAt_75 (fun z75 h_20 rz75 p75 => ?_)
        obtain ⟨rfl, pz2, pe2⟩ := p75
        refine Aj.if_eq (tgt := 98) C dX5_lookAt_78 (by decide) (fun c78 => ?_) (fun c78 => ?_)
        · refine Aj.aload_n C 2 dX5_lookAt_98 rfl ?_
          refine Aj.getR C lf_RX5_24 rfl K.a K.r4 dX5_lookAt_99 ?_
          refine Aj.iload_n C 3 dX5_lookAt_102 rfl ?_
          refine Aj.iconst C dX5_lookAt_103 (by decide) ?_
          refine Aj.iast C K.a5 (by omega) dX5_lookAt_104 (fun h_21 eh_21 => ?_)
          refine Aj.aload_n C 2 dX5_lookAt_105 rfl ?_
          refine Aj.getR C lf_RX5_27 rfl K.a K.r5 dX5_lookAt_106 ?_
          refine Aj.iload_n C 3 dX5_lookAt_109 rfl ?_
          refine Aj.iload C 1 dX5_lookAt_110 rfl ?_
          refine Aj.iast C K.a6 (by omega) dX5_lookAt_112 (fun h_22 eh_22 => ?_)
          refine Aj.aload_n C 2 dX5_lookAt_113 rfl ?_
          refine Aj.getR C lf_RX5_30 rfl K.a K.r6 dX5_lookAt_114 ?_
          refine Aj.iload_n C 3 dX5_lookAt_117 rfl ?_
          refine Aj.iload C 0 dX5_lookAt_118 rfl ?_
          refine Aj.iast C K.a7 (by omega) dX5_lookAt_120 (fun h_23 eh_23 => ?_)
          refine Aj.vret C dX5_lookAt_121 (by rw [hmc]; exact ⟨rfl, Nat.le_of_ble_eq_true rfl⟩) ⟨rfl, rfl, ?_⟩
          exact CSh2.lookV (h1 := h) d2 wg (Or.inr ⟨by rw [hB]; omega, Or.inl ⟨by omega, rfl⟩, by rw [hB, eh_23, eh_22, eh_21]⟩)
        · refine Aj.aload_n C 2 dX5_lookAt_81 rfl ?_
          refine Aj.getR C lf_RX5_30 rfl K.a K.r6 dX5_lookAt_82 ?_
          refine Aj.iload_n C 4 dX5_lookAt_85 rfl ?_
          refine Aj.aload_n C 2 dX5_lookAt_86 rfl ?_
          refine Aj.getR C lf_RX5_30 rfl K.a K.r6 dX5_lookAt_87 ?_
          refine Aj.iload_n C 4 dX5_lookAt_90 rfl ?_
          refine Aj.ialde (w := W.2.2.1 W.2.2.2) C K.a7 (by omega) dX5_lookAt_91 ((d2 _ (by omega) (by omega)).2 (hah (by omega))).2 ?_
          refine Aj.iload C 1 dX5_lookAt_92 rfl ?_
          refine Aj.mmin C lm_RX5_47 ⟨Nat.le_of_ble_eq_true rfl, Nat.le_of_ble_eq_true rfl⟩ (by decide) dX5_lookAt_94 ?_
          refine Aj.iast C K.a7 (by omega) dX5_lookAt_97 (fun h_24 eh_24 => ?_)
          refine Aj.aload_n C 2 dX5_lookAt_98 rfl ?_
          refine Aj.getR C lf_RX5_24 rfl K.a K.r4 dX5_lookAt_99 ?_
          refine Aj.iload_n C 3 dX5_lookAt_102 rfl ?_
          refine Aj.iconst C dX5_lookAt_103 (by decide) ?_
          refine Aj.iast C K.a5 (by omega) dX5_lookAt_104 (fun h_25 eh_25 => ?_)
          refine Aj.aload_n C 2 dX5_lookAt_105 rfl ?_
          refine Aj.getR C lf_RX5_27 rfl K.a K.r5 dX5_lookAt_106 ?_
          refine Aj.iload_n C 3 dX5_lookAt_109 rfl ?_
          refine Aj.iload C 1 dX5_lookAt_110 rfl ?_
          refine Aj.iast C K.a6 (by omega) dX5_lookAt_112 (fun h_26 eh_26 => ?_)
          refine Aj.aload_n C 2 dX5_lookAt_113 rfl ?_
          refine Aj.getR C lf_RX5_30 rfl K.a K.r6 dX5_lookAt_114 ?_
          refine Aj.iload_n C 3 dX5_lookAt_117 rfl ?_
          refine Aj.iload C 0 dX5_lookAt_118 rfl ?_
          refine Aj.iast C K.a7 (by omega) dX5_lookAt_120 (fun h_27 eh_27 => ?_)
          refine Aj.vret C dX5_lookAt_121 (by rw [hmc]; exact ⟨rfl, Nat.le_of_ble_eq_true rfl⟩) ⟨rfl, rfl, ?_⟩
          exact CSh2.lookV (h1 := h_24) d2 wg (Or.inr ⟨by rw [hB]; omega, Or.inr ⟨by omega, by rw [hB, eh_24]⟩, by rw [hB, eh_27, eh_26, eh_25]⟩)
      · refine Aj.aload_n C 2 dX5_lookAt_65 rfl ?_
        refine Aj.getR C lf_RX5_24 rfl K.a K.r4 dX5_lookAt_66 ?_
        refine Aj.iload_n C 3 dX5_lookAt_69 rfl ?_
        refine Aj.iconst C dX5_lookAt_70 (by decide) ?_
        refine Aj.iast C K.a5 (by omega) dX5_lookAt_71 (fun h_28 eh_28 => ?_)
        refine Aj.vret C dX5_lookAt_72 (by rw [hmc]; exact ⟨rfl, Nat.le_of_ble_eq_true rfl⟩) ⟨rfl, rfl, ?_⟩
        exact CSh2.lookV (h1 := h) d2 wg (Or.inl ⟨by rw [hB]; omega, by rw [eh_28]⟩)

set_option maxHeartbeats 4000000 in
set_option maxRecDepth 100000 in
theorem c_X5_countWith (l : Launch) {G : qG} {n : Int} {r h : qH} {a : Int} {u : Int} {U : qU} (K : LShow G n r u) (d1 : CSh1 h u U) (hu : 0 ≤ U.1 ∧ U.1 ≤ 40) {W : qW} (d2 : CSh2 h u W U.1) : q_Cm l G yX5_countWith cX5_countWith 4 (some .int) 0 0 [qa u, qi a] n r h (q_Pi r (fun z h' => h = h' ∧ z = cntN W.1 a U.1.toNat)) 0 0 := by
  refine q_enter (al := [(0, qa u), (1, qi a)]) m_X5_countWith rfl (Nat.le_of_ble_eq_true rfl) ?_
  intro hok X C hmc hxl hin
  refine Aj.iconst C dX5_countWith_0 (by decide) ?_
  refine Aj.istore_n (al2 := [(2, qi 0), (0, qa u), (1, qi a)]) C dX5_countWith_1 (by decide) rfl ?_
  refine Aj.iconst C dX5_countWith_2 (by decide) ?_
  refine Aj.istore_n (al2 := [(3, qi 0), (2, qi 0), (0, qa u), (1, qi a)]) C dX5_countWith_3 (by decide) rfl ?_
  refine Aj.pick (al2 := [(0, qa u), (1, qi a), (2, qi 0), (3, qi 0)]) [2, 3, 1, 0] rfl ?_
  suffices L4 : ∀ (N : Nat) (v i : Int) , (0 ≤ i ∧ i ≤ U.1 ∧ v = cntN W.1 a i.toNat) → (U.1 - i).toNat < N → Aj G X (q_Pi r (fun z h' => h = h' ∧ z = cntN W.1 a U.1.toNat)) cX5_countWith 4 (0, 0) n r h 4 [(0, qa u), (1, qi a), (2, qi v), (3, qi i)] [] from L4 (_ + 1) 0 0 (⟨by omega, by omega, rfl⟩) (Nat.lt_succ_self _)
  intro N4
  induction N4 with
  | zero => intro v i _ hN; exact absurd hN (Nat.not_lt_zero _)
  | succ N ih4 =>
    intro v i hI4 hN4
    obtain ⟨hi0, hi1, hi2⟩ := hI4
    have ci := cntN_in W.1 a hi0
    refine Aj.iload_n C 3 dX5_countWith_4 rfl ?_
    refine Aj.aload_n C 0 dX5_countWith_5 rfl ?_
    refine Aj.getIe (z := U.1) C lf_RX5_33 rfl K.a dX5_countWith_6 d1.1 ?_
    refine Aj.icmp_ge (tgt := 31) C dX5_countWith_9 (by decide) (fun c9 => ?_) (fun c9 => ?_)
    · refine Aj.iload_n C 2 dX5_countWith_31 rfl ?_
      refine Aj.iret C dX5_countWith_32 (by rw [hmc]; exact ⟨rfl, Nat.le_of_ble_eq_true rfl⟩) ⟨_, rfl, rfl, ?_⟩
      exact ⟨rfl, (show i = U.1 by omega) ▸ hi2⟩
    · refine Aj.aload_n C 0 dX5_countWith_12 rfl ?_
      refine Aj.getR C lf_RX5_24 rfl K.a K.r4 dX5_countWith_13 ?_
      refine Aj.iload_n C 3 dX5_countWith_16 rfl ?_
      refine Aj.ialde (w := W.1 i) C K.a5 (by omega) dX5_countWith_17 (d2 _ (by omega) (by omega)).1 ?_
      refine Aj.iload_n C 1 dX5_countWith_18 rfl ?_
      refine Aj.icmp_ne (tgt := 25) C dX5_countWith_19 (by decide) (fun c19 => ?_) (fun c19 => ?_)
      · refine Aj.iinc (al2 := [(3, qi (i + 1)), (0, qa u), (1, qi a), (2, qi v)]) C 3 dX5_countWith_25 rfl (by decide) (by omega) rfl ?_
        refine Aj.goto (tgt := 4) C dX5_countWith_28 (by decide) ?_
        refine Aj.pick (al2 := [(0, qa u), (1, qi a), (2, qi v), (3, qi (i + 1))]) [1, 2, 3, 0] rfl ?_
        exact ih4 v (i + 1) (⟨by omega, by omega, by rw [cntN_s hi0]; split <;> omega⟩) (by omega)
      · refine Aj.iinc (al2 := [(2, qi (v + 1)), (0, qa u), (1, qi a), (3, qi i)]) C 2 dX5_countWith_22 rfl (by decide) (by omega) rfl ?_
        refine Aj.iinc (al2 := [(3, qi (i + 1)), (2, qi (v + 1)), (0, qa u), (1, qi a)]) C 3 dX5_countWith_25 rfl (by decide) (by omega) rfl ?_
        refine Aj.goto (tgt := 4) C dX5_countWith_28 (by decide) ?_
        refine Aj.pick (al2 := [(0, qa u), (1, qi a), (2, qi (v + 1)), (3, qi (i + 1))]) [2, 3, 1, 0] rfl ?_
        exact ih4 (v + 1) (i + 1) (⟨by omega, by omega, by rw [cntN_s hi0]; split <;> omega⟩) (by omega)

set_option maxHeartbeats 4000000 in
set_option maxRecDepth 100000 in
theorem c_X5_countOf (l : Launch) {G : qG} {n : Int} {r h : qH} {a : Int} {u : Int} {U : qU} (K : LShow G n r u) (d1 : CSh1 h u U) (hu : 0 ≤ U.1 ∧ U.1 ≤ 40) {W : qW} (d2 : CSh2 h u W U.1) : q_Cm l G yX5_countOf cX5_countOf 4 (some .int) 0 0 [qa u, qi a] n r h (q_Pi r (fun z h' => h = h' ∧ z = cntN U.2.1 a U.1.toNat)) 0 0 := by
  refine q_enter (al := [(0, qa u), (1, qi a)]) m_X5_countOf rfl (Nat.le_of_ble_eq_true rfl) ?_
  intro hok X C hmc hxl hin
  refine Aj.iconst C dX5_countOf_0 (by decide) ?_
  refine Aj.istore_n (al2 := [(2, qi 0), (0, qa u), (1, qi a)]) C dX5_countOf_1 (by decide) rfl ?_
  refine Aj.iconst C dX5_countOf_2 (by decide) ?_
  refine Aj.istore_n (al2 := [(3, qi 0), (2, qi 0), (0, qa u), (1, qi a)]) C dX5_countOf_3 (by decide) rfl ?_
  refine Aj.pick (al2 := [(0, qa u), (1, qi a), (2, qi 0), (3, qi 0)]) [2, 3, 1, 0] rfl ?_
  suffices L4 : ∀ (N : Nat) (v i : Int) , (0 ≤ i ∧ i ≤ U.1 ∧ v = cntN U.2.1 a i.toNat) → (U.1 - i).toNat < N → Aj G X (q_Pi r (fun z h' => h = h' ∧ z = cntN U.2.1 a U.1.toNat)) cX5_countOf 4 (0, 0) n r h 4 [(0, qa u), (1, qi a), (2, qi v), (3, qi i)] [] from L4 (_ + 1) 0 0 (⟨by omega, by omega, rfl⟩) (Nat.lt_succ_self _)
  intro N4
  induction N4 with
  | zero => intro v i _ hN; exact absurd hN (Nat.not_lt_zero _)
  | succ N ih4 =>
    intro v i hI4 hN4
    obtain ⟨hi0, hi1, hi2⟩ := hI4
    have ci := cntN_in U.2.1 a hi0
    refine Aj.iload_n C 3 dX5_countOf_4 rfl ?_
    refine Aj.aload_n C 0 dX5_countOf_5 rfl ?_
    refine Aj.getIe (z := U.1) C lf_RX5_33 rfl K.a dX5_countOf_6 d1.1 ?_
    refine Aj.icmp_ge (tgt := 31) C dX5_countOf_9 (by decide) (fun c9 => ?_) (fun c9 => ?_)
    · refine Aj.iload_n C 2 dX5_countOf_31 rfl ?_
      refine Aj.iret C dX5_countOf_32 (by rw [hmc]; exact ⟨rfl, Nat.le_of_ble_eq_true rfl⟩) ⟨_, rfl, rfl, ?_⟩
      exact ⟨rfl, (show i = U.1 by omega) ▸ hi2⟩
    · refine Aj.aload_n C 0 dX5_countOf_12 rfl ?_
      refine Aj.getR C lf_RX5_9 rfl K.a K.r0 dX5_countOf_13 ?_
      refine Aj.iload_n C 3 dX5_countOf_16 rfl ?_
      refine Aj.ialde (w := U.2.1 i) C K.a1 (by omega) dX5_countOf_17 (d1.2 _ (by omega) (by omega)).1 ?_
      refine Aj.iload_n C 1 dX5_countOf_18 rfl ?_
      refine Aj.icmp_ne (tgt := 25) C dX5_countOf_19 (by decide) (fun c19 => ?_) (fun c19 => ?_)
      · refine Aj.iinc (al2 := [(3, qi (i + 1)), (0, qa u), (1, qi a), (2, qi v)]) C 3 dX5_countOf_25 rfl (by decide) (by omega) rfl ?_
        refine Aj.goto (tgt := 4) C dX5_countOf_28 (by decide) ?_
        refine Aj.pick (al2 := [(0, qa u), (1, qi a), (2, qi v), (3, qi (i + 1))]) [1, 2, 3, 0] rfl ?_
        exact ih4 v (i + 1) (⟨by omega, by omega, by rw [cntN_s hi0]; split <;> omega⟩) (by omega)
      · refine Aj.iinc (al2 := [(2, qi (v + 1)), (0, qa u), (1, qi a), (3, qi i)]) C 2 dX5_countOf_22 rfl (by decide) (by omega) rfl ?_
        refine Aj.iinc (al2 := [(3, qi (i + 1)), (2, qi (v + 1)), (0, qa u), (1, qi a)]) C 3 dX5_countOf_25 rfl (by decide) (by omega) rfl ?_
        refine Aj.goto (tgt := 4) C dX5_countOf_28 (by decide) ?_
        refine Aj.pick (al2 := [(0, qa u), (1, qi a), (2, qi (v + 1)), (3, qi (i + 1))]) [2, 3, 1, 0] rfl ?_
        exact ih4 (v + 1) (i + 1) (⟨by omega, by omega, by rw [cntN_s hi0]; split <;> omega⟩) (by omega)

set_option maxHeartbeats 4000000 in
set_option maxRecDepth 100000 in
theorem c_X5_countShownOf (l : Launch) {G : qG} {n : Int} {r h : qH} {a : Int} {u : Int} {U : qU} (K : LShow G n r u) (d1 : CSh1 h u U) (hu : 0 ≤ U.1 ∧ U.1 ≤ 40) {W : qW} (d2 : CSh2 h u W U.1) : q_Cm l G yX5_countShownOf cX5_countShownOf 4 (some .int) 0 0 [qa u, qi a] n r h (q_Pi r (fun z h' => h = h' ∧ z = shcN U W a U.1.toNat)) 0 0 := by
  refine q_enter (al := [(0, qa u), (1, qi a)]) m_X5_countShownOf rfl (Nat.le_of_ble_eq_true rfl) ?_
  intro hok X C hmc hxl hin
  refine Aj.iconst C dX5_countShownOf_0 (by decide) ?_
  refine Aj.istore_n (al2 := [(2, qi 0), (0, qa u), (1, qi a)]) C dX5_countShownOf_1 (by decide) rfl ?_
  refine Aj.iconst C dX5_countShownOf_2 (by decide) ?_
  refine Aj.istore_n (al2 := [(3, qi 0), (2, qi 0), (0, qa u), (1, qi a)]) C dX5_countShownOf_3 (by decide) rfl ?_
  refine Aj.pick (al2 := [(0, qa u), (1, qi a), (2, qi 0), (3, qi 0)]) [2, 3, 1, 0] rfl ?_
  suffices L4 : ∀ (N : Nat) (v i : Int) , (0 ≤ i ∧ i ≤ U.1 ∧ v = shcN U W a i.toNat) → (U.1 - i).toNat < N → Aj G X (q_Pi r (fun z h' => h = h' ∧ z = shcN U W a U.1.toNat)) cX5_countShownOf 4 (0, 0) n r h 4 [(0, qa u), (1, qi a), (2, qi v), (3, qi i)] [] from L4 (_ + 1) 0 0 (⟨by omega, by omega, rfl⟩) (Nat.lt_succ_self _)
  intro N4
  induction N4 with
  | zero => intro v i _ hN; exact absurd hN (Nat.not_lt_zero _)
  | succ N ih4 =>
    intro v i hI4 hN4
    obtain ⟨hi0, hi1, hi2⟩ := hI4
    have ci := shcN_in U W a i.toNat
    refine Aj.iload_n C 3 dX5_countShownOf_4 rfl ?_
    refine Aj.aload_n C 0 dX5_countShownOf_5 rfl ?_
    refine Aj.getIe (z := U.1) C lf_RX5_33 rfl K.a dX5_countShownOf_6 d1.1 ?_
    refine Aj.icmp_ge (tgt := 40) C dX5_countShownOf_9 (by decide) (fun c9 => ?_) (fun c9 => ?_)
    · refine Aj.iload_n C 2 dX5_countShownOf_40 rfl ?_
      refine Aj.iret C dX5_countShownOf_41 (by rw [hmc]; exact ⟨rfl, Nat.le_of_ble_eq_true rfl⟩) ⟨_, rfl, rfl, ?_⟩
      exact ⟨rfl, (show i = U.1 by omega) ▸ hi2⟩
    · refine Aj.aload_n C 0 dX5_countShownOf_12 rfl ?_
      refine Aj.getR C lf_RX5_9 rfl K.a K.r0 dX5_countShownOf_13 ?_
      refine Aj.iload_n C 3 dX5_countShownOf_16 rfl ?_
      refine Aj.ialde (w := U.2.1 i) C K.a1 (by omega) dX5_countShownOf_17 (d1.2 _ (by omega) (by omega)).1 ?_
      refine Aj.iload_n C 1 dX5_countShownOf_18 rfl ?_
      refine Aj.icmp_ne (tgt := 34) C dX5_countShownOf_19 (by decide) (fun c19 => ?_) (fun c19 => ?_)
      · refine Aj.iinc (al2 := [(3, qi (i + 1)), (0, qa u), (1, qi a), (2, qi v)]) C 3 dX5_countShownOf_34 rfl (by decide) (by omega) rfl ?_
        refine Aj.goto (tgt := 4) C dX5_countShownOf_37 (by decide) ?_
        refine Aj.pick (al2 := [(0, qa u), (1, qi a), (2, qi v), (3, qi (i + 1))]) [1, 2, 3, 0] rfl ?_
        exact ih4 v (i + 1) (⟨by omega, by omega, by rw [shcN_s hi0]; split <;> omega⟩) (by omega)
      · refine Aj.aload_n C 0 dX5_countShownOf_22 rfl ?_
        refine Aj.getR C lf_RX5_24 rfl K.a K.r4 dX5_countShownOf_23 ?_
        refine Aj.iload_n C 3 dX5_countShownOf_26 rfl ?_
        refine Aj.ialde (w := W.1 i) C K.a5 (by omega) dX5_countShownOf_27 (d2 _ (by omega) (by omega)).1 ?_
        refine Aj.if_ne (tgt := 34) C dX5_countShownOf_28 (by decide) (fun c28 => ?_) (fun c28 => ?_)
        · refine Aj.iinc (al2 := [(3, qi (i + 1)), (0, qa u), (1, qi a), (2, qi v)]) C 3 dX5_countShownOf_34 rfl (by decide) (by omega) rfl ?_
          refine Aj.goto (tgt := 4) C dX5_countShownOf_37 (by decide) ?_
          refine Aj.pick (al2 := [(0, qa u), (1, qi a), (2, qi v), (3, qi (i + 1))]) [1, 2, 3, 0] rfl ?_
          exact ih4 v (i + 1) (⟨by omega, by omega, by rw [shcN_s hi0]; split <;> omega⟩) (by omega)
        · refine Aj.iinc (al2 := [(2, qi (v + 1)), (0, qa u), (1, qi a), (3, qi i)]) C 2 dX5_countShownOf_31 rfl (by decide) (by omega) rfl ?_
          refine Aj.iinc (al2 := [(3, qi (i + 1)), (2, qi (v + 1)), (0, qa u), (1, qi a)]) C 3 dX5_countShownOf_34 rfl (by decide) (by omega) rfl ?_
          refine Aj.goto (tgt := 4) C dX5_countShownOf_37 (by decide) ?_
          refine Aj.pick (al2 := [(0, qa u), (1, qi a), (2, qi (v + 1)), (3, qi (i + 1))]) [2, 3, 1, 0] rfl ?_
          exact ih4 (v + 1) (i + 1) (⟨by omega, by omega, by rw [shcN_s hi0]; split <;> omega⟩) (by omega)

set_option maxHeartbeats 4000000 in
set_option maxRecDepth 100000 in
theorem c_X5_shownTenths (l : Launch) {G : qG} {n : Int} {r h : qH} {a : Int} {u : Int} {U : qU} (K : LShow G n r u) (d1 : CSh1 h u U) (hu : 0 ≤ U.1 ∧ U.1 ≤ 40) {W : qW} (d2 : CSh2 h u W U.1) (wg : WG U.1 W) (ha : 0 ≤ a ∧ a < U.1) : q_Cm l G yX5_shownTenths cX5_shownTenths 2 (some .int) 2 42 [qa u, qi a] n r h (q_Pi r (fun z h' => h = h' ∧ z = if W.1 a = 0 then W.2.2.1 a - W.2.1 a else 0)) 0 0 := by
  refine q_enter (al := [(0, qa u), (1, qi a)]) m_X5_shownTenths rfl (Nat.le_of_ble_eq_true rfl) ?_
  intro hok X C hmc hxl hin
  refine Aj.aload_n C 0 dX5_shownTenths_0 rfl ?_
  refine Aj.iload_n C 1 dX5_shownTenths_1 rfl ?_
  refine Aj.callVi (As := [qi a]) (st := []) C lm_RX5_54 m_X5_shows mk_X5_shows ms_X5_shows (c_X5_shows _ K d1 hu d2 (fun _ q => q)) K.a (t := 5) rfl rfl rfl rfl (by decide) (Nat.le_of_ble_eq_true rfl) (by decide) dX5_shownTenths_2 (fun z2 h_1 rz2 p2 => ?_)
  obtain ⟨rfl, pz, pe⟩ := p2
  have wa := wg.2 a ha.1 ha.2
  refine Aj.if_eq (tgt := 24) C dX5_shownTenths_5 (by decide) (fun c5 => ?_) (fun c5 => ?_)
  · refine Aj.iconst C dX5_shownTenths_24 (by decide) ?_
    refine Aj.iret C dX5_shownTenths_25 (by rw [hmc]; exact ⟨rfl, Nat.le_of_ble_eq_true rfl⟩) ⟨_, rfl, rfl, ?_⟩
    refine ⟨rfl, ?_⟩
    split <;> omega
  · refine Aj.aload_n C 0 dX5_shownTenths_8 rfl ?_
    refine Aj.getR C lf_RX5_30 rfl K.a K.r6 dX5_shownTenths_9 ?_
    refine Aj.iload_n C 1 dX5_shownTenths_12 rfl ?_
    refine Aj.ialde (w := W.2.2.1 a) C K.a7 (by omega) dX5_shownTenths_13 ((d2 _ (by omega) (by omega)).2 (by omega)).2 ?_
    refine Aj.aload_n C 0 dX5_shownTenths_14 rfl ?_
    refine Aj.getR C lf_RX5_27 rfl K.a K.r5 dX5_shownTenths_15 ?_
    refine Aj.iload_n C 1 dX5_shownTenths_18 rfl ?_
    refine Aj.ialde (w := W.2.1 a) C K.a6 (by omega) dX5_shownTenths_19 ((d2 _ (by omega) (by omega)).2 (by omega)).1 ?_
    refine Aj.isub C dX5_shownTenths_20 (by omega) ?_
    refine Aj.goto (tgt := 25) C dX5_shownTenths_21 (by decide) ?_
    refine Aj.iret C dX5_shownTenths_25 (by rw [hmc]; exact ⟨rfl, Nat.le_of_ble_eq_true rfl⟩) ⟨_, rfl, rfl, ?_⟩
    refine ⟨rfl, ?_⟩
    split <;> omega

set_option maxHeartbeats 4000000 in
set_option maxRecDepth 100000 in
theorem c_X5_tenthsOf (l : Launch) {G : qG} {n : Int} {r h : qH} {a : Int} {u : Int} {U : qU} (K : LShow G n r u) (d1 : CSh1 h u U) (hu : 0 ≤ U.1 ∧ U.1 ≤ 40) {W : qW} (d2 : CSh2 h u W U.1) (wg : WG U.1 W) : q_Cm l G yX5_tenthsOf cX5_tenthsOf 4 (some .int) 3 63 [qa u, qi a] n r h (q_Pi r (fun z h' => h = h' ∧ z = tenN U W a U.1.toNat)) 0 0 := by
  refine q_enter (al := [(0, qa u), (1, qi a)]) m_X5_tenthsOf rfl (Nat.le_of_ble_eq_true rfl) ?_
  intro hok X C hmc hxl hin
  refine Aj.iconst C dX5_tenthsOf_0 (by decide) ?_
  refine Aj.istore_n (al2 := [(2, qi 0), (0, qa u), (1, qi a)]) C dX5_tenthsOf_1 (by decide) rfl ?_
  refine Aj.iconst C dX5_tenthsOf_2 (by decide) ?_
  refine Aj.istore_n (al2 := [(3, qi 0), (2, qi 0), (0, qa u), (1, qi a)]) C dX5_tenthsOf_3 (by decide) rfl ?_
  refine Aj.pick (al2 := [(0, qa u), (1, qi a), (2, qi 0), (3, qi 0)]) [2, 3, 1, 0] rfl ?_
  suffices L4 : ∀ (N : Nat) (v i : Int) , (0 ≤ i ∧ i ≤ U.1 ∧ v = tenN U W a i.toNat) → (U.1 - i).toNat < N → Aj G X (q_Pi r (fun z h' => h = h' ∧ z = tenN U W a U.1.toNat)) cX5_tenthsOf 4 (0, 0) n r h 4 [(0, qa u), (1, qi a), (2, qi v), (3, qi i)] [] from L4 (_ + 1) 0 0 (⟨by omega, by omega, rfl⟩) (Nat.lt_succ_self _)
  intro N4
  induction N4 with
  | zero => intro v i _ hN; exact absurd hN (Nat.not_lt_zero _)
  | succ N ih4 =>
    intro v i hI4 hN4
    obtain ⟨hi0, hi1, hi2⟩ := hI4
    have ci := tenN_in (U := U) (t := a) wg i.toNat (by omega)
    refine Aj.iload_n C 3 dX5_tenthsOf_4 rfl ?_
    refine Aj.aload_n C 0 dX5_tenthsOf_5 rfl ?_
    refine Aj.getIe (z := U.1) C lf_RX5_33 rfl K.a dX5_tenthsOf_6 d1.1 ?_
    refine Aj.icmp_ge (tgt := 36) C dX5_tenthsOf_9 (by decide) (fun c9 => ?_) (fun c9 => ?_)
    · refine Aj.iload_n C 2 dX5_tenthsOf_36 rfl ?_
      refine Aj.iret C dX5_tenthsOf_37 (by rw [hmc]; exact ⟨rfl, Nat.le_of_ble_eq_true rfl⟩) ⟨_, rfl, rfl, ?_⟩
      exact ⟨rfl, (show i = U.1 by omega) ▸ hi2⟩
    · refine Aj.aload_n C 0 dX5_tenthsOf_12 rfl ?_
      refine Aj.getR C lf_RX5_9 rfl K.a K.r0 dX5_tenthsOf_13 ?_
      refine Aj.iload_n C 3 dX5_tenthsOf_16 rfl ?_
      refine Aj.ialde (w := U.2.1 i) C K.a1 (by omega) dX5_tenthsOf_17 (d1.2 _ (by omega) (by omega)).1 ?_
      refine Aj.iload_n C 1 dX5_tenthsOf_18 rfl ?_
      refine Aj.icmp_ne (tgt := 30) C dX5_tenthsOf_19 (by decide) (fun c19 => ?_) (fun c19 => ?_)
      · refine Aj.iinc (al2 := [(3, qi (i + 1)), (0, qa u), (1, qi a), (2, qi v)]) C 3 dX5_tenthsOf_30 rfl (by decide) (by omega) rfl ?_
        refine Aj.goto (tgt := 4) C dX5_tenthsOf_33 (by decide) ?_
        refine Aj.pick (al2 := [(0, qa u), (1, qi a), (2, qi v), (3, qi (i + 1))]) [1, 2, 3, 0] rfl ?_
        exact ih4 v (i + 1) (⟨by omega, by omega, by
          rw [tenN_s hi0]
          first
          | rw [if_neg (by omega), hi2]; omega
          | (rw [pt, hi2]; by_cases q : W.1 i = 0
             · rw [if_pos q, if_pos ⟨by omega, q⟩]
             · rw [if_neg q, if_neg (fun w => q w.2)])⟩) (by omega)
      · refine Aj.iload_n C 2 dX5_tenthsOf_22 rfl ?_
        refine Aj.aload_n C 0 dX5_tenthsOf_23 rfl ?_
        refine Aj.iload_n C 3 dX5_tenthsOf_24 rfl ?_
        refine Aj.callVi (As := [qi i]) (st := [qi v]) C lm_RX5_50 m_X5_shownTenths mk_X5_shownTenths ms_X5_shownTenths (c_X5_shownTenths _ K d1 hu d2 wg (by omega)) K.a (t := 5) rfl rfl rfl rfl (by decide) (Nat.le_of_ble_eq_true rfl) (by decide) dX5_tenthsOf_25 (fun z25 h_1 rz25 p25 => ?_)
        obtain ⟨rfl, pt⟩ := p25
        have wa := wg.2 i hi0 (by omega)
        have pb : 0 ≤ z25 ∧ z25 ≤ 48000 := by rw [pt]; split <;> omega
        refine Aj.iadd C dX5_tenthsOf_28 (by omega) ?_
        refine Aj.istore_n (al2 := [(2, qi (v + z25)), (0, qa u), (1, qi a), (3, qi i)]) C dX5_tenthsOf_29 (by decide) rfl ?_
        refine Aj.iinc (al2 := [(3, qi (i + 1)), (2, qi (v + z25)), (0, qa u), (1, qi a)]) C 3 dX5_tenthsOf_30 rfl (by decide) (by omega) rfl ?_
        refine Aj.goto (tgt := 4) C dX5_tenthsOf_33 (by decide) ?_
        refine Aj.pick (al2 := [(0, qa u), (1, qi a), (2, qi (v + z25)), (3, qi (i + 1))]) [2, 3, 1, 0] rfl ?_
        exact ih4 (v + z25) (i + 1) (⟨by omega, by omega, by
          rw [tenN_s hi0]
          first
          | rw [if_neg (by omega), hi2]; omega
          | (rw [pt, hi2]; by_cases q : W.1 i = 0
             · rw [if_pos q, if_pos ⟨by omega, q⟩]
             · rw [if_neg q, if_neg (fun w => q w.2)])⟩) (by omega)

set_option maxHeartbeats 4000000 in
set_option maxRecDepth 100000 in
theorem c_X5_tenthsOfAll (l : Launch) {G : qG} {n : Int} {r h : qH} {u : Int} {U : qU} (K : LShow G n r u) (d1 : CSh1 h u U) (hu : 0 ≤ U.1 ∧ U.1 ≤ 40) {W : qW} (d2 : CSh2 h u W U.1) (wg : WG U.1 W) : q_Cm l G yX5_tenthsOfAll cX5_tenthsOfAll 3 (some .int) 3 63 [qa u] n r h (q_Pi r (fun z h' => h = h' ∧ z = tenA W U.1.toNat)) 0 0 := by
  refine q_enter (al := [(0, qa u)]) m_X5_tenthsOfAll rfl (Nat.le_of_ble_eq_true rfl) ?_
  intro hok X C hmc hxl hin
  refine Aj.iconst C dX5_tenthsOfAll_0 (by decide) ?_
  refine Aj.istore_n (al2 := [(1, qi 0), (0, qa u)]) C dX5_tenthsOfAll_1 (by decide) rfl ?_
  refine Aj.iconst C dX5_tenthsOfAll_2 (by decide) ?_
  refine Aj.istore_n (al2 := [(2, qi 0), (1, qi 0), (0, qa u)]) C dX5_tenthsOfAll_3 (by decide) rfl ?_
  refine Aj.pick (al2 := [(0, qa u), (1, qi 0), (2, qi 0)]) [2, 1, 0] rfl ?_
  suffices L4 : ∀ (N : Nat) (v i : Int) , (0 ≤ i ∧ i ≤ U.1 ∧ v = tenA W i.toNat) → (U.1 - i).toNat < N → Aj G X (q_Pi r (fun z h' => h = h' ∧ z = tenA W U.1.toNat)) cX5_tenthsOfAll 3 (0, 0) n r h 4 [(0, qa u), (1, qi v), (2, qi i)] [] from L4 (_ + 1) 0 0 (⟨by omega, by omega, rfl⟩) (Nat.lt_succ_self _)
  intro N4
  induction N4 with
  | zero => intro v i _ hN; exact absurd hN (Nat.not_lt_zero _)
  | succ N ih4 =>
    intro v i hI4 hN4
    obtain ⟨hi0, hi1, hi2⟩ := hI4
    have ci := tenA_in wg i.toNat (by omega)
    refine Aj.iload_n C 2 dX5_tenthsOfAll_4 rfl ?_
    refine Aj.aload_n C 0 dX5_tenthsOfAll_5 rfl ?_
    refine Aj.getIe (z := U.1) C lf_RX5_33 rfl K.a dX5_tenthsOfAll_6 d1.1 ?_
    refine Aj.icmp_ge (tgt := 26) C dX5_tenthsOfAll_9 (by decide) (fun c9 => ?_) (fun c9 => ?_)
    · refine Aj.iload_n C 1 dX5_tenthsOfAll_26 rfl ?_
      refine Aj.iret C dX5_tenthsOfAll_27 (by rw [hmc]; exact ⟨rfl, Nat.le_of_ble_eq_true rfl⟩) ⟨_, rfl, rfl, ?_⟩
      exact ⟨rfl, (show i = U.1 by omega) ▸ hi2⟩
    · refine Aj.iload_n C 1 dX5_tenthsOfAll_12 rfl ?_
      refine Aj.aload_n C 0 dX5_tenthsOfAll_13 rfl ?_
      refine Aj.iload_n C 2 dX5_tenthsOfAll_14 rfl ?_
      refine Aj.callVi (As := [qi i]) (st := [qi v]) C lm_RX5_50 m_X5_shownTenths mk_X5_shownTenths ms_X5_shownTenths (c_X5_shownTenths _ K d1 hu d2 wg (by omega)) K.a (t := 5) rfl rfl rfl rfl (by decide) (Nat.le_of_ble_eq_true rfl) (by decide) dX5_tenthsOfAll_15 (fun z15 h_1 rz15 p15 => ?_)
      obtain ⟨rfl, pt⟩ := p15
      have wa := wg.2 i hi0 (by omega)
      have pb : 0 ≤ z15 ∧ z15 ≤ 48000 := by rw [pt]; split <;> omega
      refine Aj.iadd C dX5_tenthsOfAll_18 (by omega) ?_
      refine Aj.istore_n (al2 := [(1, qi (v + z15)), (0, qa u), (2, qi i)]) C dX5_tenthsOfAll_19 (by decide) rfl ?_
      refine Aj.iinc (al2 := [(2, qi (i + 1)), (1, qi (v + z15)), (0, qa u)]) C 2 dX5_tenthsOfAll_20 rfl (by decide) (by omega) rfl ?_
      refine Aj.goto (tgt := 4) C dX5_tenthsOfAll_23 (by decide) ?_
      refine Aj.pick (al2 := [(0, qa u), (1, qi (v + z15)), (2, qi (i + 1))]) [2, 1, 0] rfl ?_
      exact ih4 (v + z15) (i + 1) (⟨by omega, by omega, by rw [tenA_s hi0, pt, hi2]⟩) (by omega)

set_option maxHeartbeats 4000000 in
set_option maxRecDepth 100000 in
theorem c_X5_titleAt (l : Launch) {G : qG} {n : Int} {r h : qH} {a : Int} {u : Int} {U : qU} (K : LShow G n r u) (d1 : CSh1 h u U) (hu : 0 ≤ U.1 ∧ U.1 ≤ 40) {W : qW} (d2 : CSh2 h u W U.1) : q_Cm l G yX5_titleAt cX5_titleAt 3 (some .int) 0 0 [qa u, qi a] n r h (q_Pi r (fun z h' => h = h' ∧ atP U W a z)) 0 0 := by
  refine q_enter (al := [(0, qa u), (1, qi a)]) m_X5_titleAt rfl (Nat.le_of_ble_eq_true rfl) ?_
  intro hok X C hmc hxl hin
  refine Aj.iconst C dX5_titleAt_0 (by decide) ?_
  refine Aj.istore_n (al2 := [(2, qi 0), (0, qa u), (1, qi a)]) C dX5_titleAt_1 (by decide) rfl ?_
  refine Aj.pick (al2 := [(0, qa u), (1, qi a), (2, qi 0)]) [1, 2, 0] rfl ?_
  suffices L2 : ∀ (N : Nat) (i : Int) , (0 ≤ i ∧ i ≤ U.1 ∧ ∀ k, 0 ≤ k → k < i → ¬ hitP W a k) → (U.1 - i).toNat < N → Aj G X (q_Pi r (fun z h' => h = h' ∧ atP U W a z)) cX5_titleAt 3 (0, 0) n r h 2 [(0, qa u), (1, qi a), (2, qi i)] [] from L2 (_ + 1) 0 (⟨by omega, by omega, fun k k1 k2 => by omega⟩) (Nat.lt_succ_self _)
  intro N2
  induction N2 with
  | zero => intro i _ hN; exact absurd hN (Nat.not_lt_zero _)
  | succ N ih2 =>
    intro i hI2 hN2
    obtain ⟨hi0, hi1, hi2⟩ := hI2
    refine Aj.iload_n C 2 dX5_titleAt_2 rfl ?_
    refine Aj.aload_n C 0 dX5_titleAt_3 rfl ?_
    refine Aj.getIe (z := U.1) C lf_RX5_33 rfl K.a dX5_titleAt_4 d1.1 ?_
    refine Aj.icmp_ge (tgt := 52) C dX5_titleAt_7 (by decide) (fun c7 => ?_) (fun c7 => ?_)
    · refine Aj.bipush C dX5_titleAt_52 (by decide) (by decide) ?_
      refine Aj.iret C dX5_titleAt_54 (by rw [hmc]; exact ⟨rfl, Nat.le_of_ble_eq_true rfl⟩) ⟨_, rfl, rfl, ?_⟩
      first
      | exact ⟨rfl, Or.inr ⟨fun k k1 k2 => hi2 k k1 (by omega), rfl⟩⟩
      | exact ⟨rfl, Or.inl ⟨i, hi0, by omega, ⟨by omega, by omega, by omega⟩, rfl, hi2⟩⟩
    · refine Aj.aload_n C 0 dX5_titleAt_10 rfl ?_
      refine Aj.getR C lf_RX5_24 rfl K.a K.r4 dX5_titleAt_11 ?_
      refine Aj.iload_n C 2 dX5_titleAt_14 rfl ?_
      refine Aj.ialde (w := W.1 i) C K.a5 (by omega) dX5_titleAt_15 (d2 _ (by omega) (by omega)).1 ?_
      refine Aj.if_ne (tgt := 46) C dX5_titleAt_16 (by decide) (fun c16 => ?_) (fun c16 => ?_)
      · refine Aj.iinc (al2 := [(2, qi (i + 1)), (0, qa u), (1, qi a)]) C 2 dX5_titleAt_46 rfl (by decide) (by omega) rfl ?_
        refine Aj.goto (tgt := 2) C dX5_titleAt_49 (by decide) ?_
        refine Aj.pick (al2 := [(0, qa u), (1, qi a), (2, qi (i + 1))]) [1, 2, 0] rfl ?_
        exact ih2 (i + 1) (⟨by omega, by omega, fun k k1 k2 => if hk : k = i then by subst hk; intro q; unfold hitP at q; omega else hi2 k k1 (by omega)⟩) (by omega)
      · refine Aj.aload_n C 0 dX5_titleAt_19 rfl ?_
        refine Aj.getR C lf_RX5_27 rfl K.a K.r5 dX5_titleAt_20 ?_
        refine Aj.iload_n C 2 dX5_titleAt_23 rfl ?_
        refine Aj.ialde (w := W.2.1 i) C K.a6 (by omega) dX5_titleAt_24 ((d2 _ (by omega) (by omega)).2 (by omega)).1 ?_
        refine Aj.iload_n C 1 dX5_titleAt_25 rfl ?_
        refine Aj.icmp_gt (tgt := 46) C dX5_titleAt_26 (by decide) (fun c26 => ?_) (fun c26 => ?_)
        · refine Aj.iinc (al2 := [(2, qi (i + 1)), (0, qa u), (1, qi a)]) C 2 dX5_titleAt_46 rfl (by decide) (by omega) rfl ?_
          refine Aj.goto (tgt := 2) C dX5_titleAt_49 (by decide) ?_
          refine Aj.pick (al2 := [(0, qa u), (1, qi a), (2, qi (i + 1))]) [1, 2, 0] rfl ?_
          exact ih2 (i + 1) (⟨by omega, by omega, fun k k1 k2 => if hk : k = i then by subst hk; intro q; unfold hitP at q; omega else hi2 k k1 (by omega)⟩) (by omega)
        · refine Aj.iload_n C 1 dX5_titleAt_29 rfl ?_
          refine Aj.aload_n C 0 dX5_titleAt_30 rfl ?_
          refine Aj.getR C lf_RX5_30 rfl K.a K.r6 dX5_titleAt_31 ?_
          refine Aj.iload_n C 2 dX5_titleAt_34 rfl ?_
          refine Aj.ialde (w := W.2.2.1 i) C K.a7 (by omega) dX5_titleAt_35 ((d2 _ (by omega) (by omega)).2 (by omega)).2 ?_
          refine Aj.icmp_ge (tgt := 46) C dX5_titleAt_36 (by decide) (fun c36 => ?_) (fun c36 => ?_)
          · refine Aj.iinc (al2 := [(2, qi (i + 1)), (0, qa u), (1, qi a)]) C 2 dX5_titleAt_46 rfl (by decide) (by omega) rfl ?_
            refine Aj.goto (tgt := 2) C dX5_titleAt_49 (by decide) ?_
            refine Aj.pick (al2 := [(0, qa u), (1, qi a), (2, qi (i + 1))]) [1, 2, 0] rfl ?_
            exact ih2 (i + 1) (⟨by omega, by omega, fun k k1 k2 => if hk : k = i then by subst hk; intro q; unfold hitP at q; omega else hi2 k k1 (by omega)⟩) (by omega)
          · refine Aj.aload_n C 0 dX5_titleAt_39 rfl ?_
            refine Aj.getR C lf_RX5_9 rfl K.a K.r0 dX5_titleAt_40 ?_
            refine Aj.iload_n C 2 dX5_titleAt_43 rfl ?_
            refine Aj.ialde (w := U.2.1 i) C K.a1 (by omega) dX5_titleAt_44 (d1.2 _ (by omega) (by omega)).1 ?_
            refine Aj.iret C dX5_titleAt_45 (by rw [hmc]; exact ⟨rfl, Nat.le_of_ble_eq_true rfl⟩) ⟨_, rfl, rfl, ?_⟩
            first
            | exact ⟨rfl, Or.inr ⟨fun k k1 k2 => hi2 k k1 (by omega), rfl⟩⟩
            | exact ⟨rfl, Or.inl ⟨i, hi0, by omega, ⟨by omega, by omega, by omega⟩, rfl, hi2⟩⟩
