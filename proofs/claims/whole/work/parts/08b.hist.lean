set_option maxHeartbeats 4000000 in
set_option maxRecDepth 100000 in
theorem c_X0_rowAt (l : Launch) {G : qG} {n : Int} {r h : qH} {a : Int} (ha : 0 ≤ a ∧ a ≤ 6) {q o sz : Int} (L : LHist G n r q) (ho : h q 1 = o) (hs : h q 2 = sz) (hb : 0 ≤ o ∧ o < 7 ∧ 0 ≤ sz ∧ sz ≤ 6) : q_Cm l G yX0_rowAt cX0_rowAt 3 (some (.object "TitleCaller$Score")) 0 0 [qa q, qi a] n r h (q_Pq r (fun z h' => h = h' ∧ z = q + 2 + 17 * ((o + a) % 7))) 0 0 := by
  refine q_enter (al := [(0, qa q), (1, qi a)]) m_X0_rowAt rfl (Nat.le_of_ble_eq_true rfl) ?_
  intro hok X C hmc hxl hin
  refine Aj.aload_n C 0 dX0_rowAt_0 rfl ?_
  refine Aj.getIe (z := o) C lf_RX0_30 rfl L.a dX0_rowAt_1 ho ?_
  refine Aj.iload_n C 1 dX0_rowAt_4 rfl ?_
  refine Aj.iadd C dX0_rowAt_5 (by omega) ?_
  refine Aj.bipush C dX0_rowAt_6 (by decide) (by decide) ?_
  refine Aj.irem C dX0_rowAt_8 (by omega) (by omega) ?_
  refine Aj.istore_n (al2 := [(2, qi ((o + a) % 7)), (0, qa q), (1, qi a)]) C dX0_rowAt_9 (by decide) rfl ?_
  refine Aj.iload_n C 0 dX0_rowAt_10 rfl ?_
  refine Aj.if_lt (tgt := 29) C dX0_rowAt_11 (by decide) (fun c11 => ?_) (fun c11 => ?_)
  · refine Aj.anull C dX0_rowAt_29 ?_
    refine Aj.aret C dX0_rowAt_30 (by rw [hmc]; exact ⟨rfl, Nat.le_of_ble_eq_true rfl⟩) ⟨_, rfl, rfl, ?_⟩
    exfalso; omega
  · refine Aj.iload_n C 0 dX0_rowAt_14 rfl ?_
    refine Aj.bipush C dX0_rowAt_15 (by decide) (by decide) ?_
    refine Aj.icmp_ge (tgt := 29) C dX0_rowAt_17 (by decide) (fun c17 => ?_) (fun c17 => ?_)
    · refine Aj.anull C dX0_rowAt_29 ?_
      refine Aj.aret C dX0_rowAt_30 (by rw [hmc]; exact ⟨rfl, Nat.le_of_ble_eq_true rfl⟩) ⟨_, rfl, rfl, ?_⟩
      exfalso; omega
    · refine Aj.aload_n C 1 dX0_rowAt_20 rfl ?_
      refine Aj.getR C lf_RX0_13 rfl L.a L.r0 dX0_rowAt_21 ?_
      refine Aj.iload_n C 0 dX0_rowAt_24 rfl ?_
      refine Aj.aald (w := q + 2 + 17 * ((o + a) % 7)) C L.a1 (by omega) (L.rr (by omega) (by omega)) dX0_rowAt_25 ?_
      refine Aj.goto (tgt := 30) C dX0_rowAt_26 (by decide) ?_
      refine Aj.aret C dX0_rowAt_30 (by rw [hmc]; exact ⟨rfl, Nat.le_of_ble_eq_true rfl⟩) ⟨_, rfl, rfl, ?_⟩
      exact ⟨rfl, rfl⟩

set_option maxHeartbeats 4000000 in
set_option maxRecDepth 100000 in
theorem c_X0_prepare (l : Launch) {G : qG} {n : Int} {r h : qH} {p : Int} {s : Int → Int} {q o sz : Int} (L : LHist G n r q) (ho : h q 1 = o) (hs : h q 2 = sz) (hb : 0 ≤ o ∧ o < 7 ∧ 0 ≤ sz ∧ sz ≤ 6) (K : LScore G n r p) (hC : CScore h p s) (g : SG s) (hd : p + 17 ≤ q + 2 ∨ q + 121 ≤ p) : q_Cm l G yX0_prepare cX0_prepare 3 none 3 71 [qa q, qa p] n r h (q_Pv r (fun h' => CScore h' (q + 2 + 17 * ((o + sz) % 7)) s ∧ FR (q + 2 + 17 * ((o + sz) % 7)) 17 h h')) 0 0 := by
  refine q_enter (al := [(0, qa q), (1, qa p)]) m_X0_prepare rfl (Nat.le_of_ble_eq_true rfl) ?_
  intro hok X C hmc hxl hin
  refine Aj.aload_n C 0 dX0_prepare_0 rfl ?_
  refine Aj.aload_n C 0 dX0_prepare_1 rfl ?_
  refine Aj.getIe (z := sz) C lf_RX0_18 rfl L.a dX0_prepare_2 hs ?_
  refine Aj.callVq (As := [qi sz]) (st := []) C lm_RX0_22 m_X0_rowAt mk_X0_rowAt ms_X0_rowAt (c_X0_rowAt _ (by omega) L ho hs hb) L.a (t := 0) rfl rfl rfl rfl (by decide) (Nat.le_of_ble_eq_true rfl) (by decide) dX0_prepare_5 (fun z5 h_1 p5 => ?_)
  obtain ⟨rfl, pz⟩ := p5
  subst pz
  refine Aj.astore_n (al2 := [(2, qa (q + 2 + 17 * ((o + sz) % 7))), (0, qa q), (1, qa p)]) C dX0_prepare_8 (by decide) rfl ?_
  refine Aj.aload_n C 0 dX0_prepare_9 rfl ?_
  refine Aj.ifnull (tgt := 18) C dX0_prepare_10 (by decide) (fun c10 => ?_) (fun c10 => ?_)
  · refine Aj.vret C dX0_prepare_18 (by rw [hmc]; exact ⟨rfl, Nat.le_of_ble_eq_true rfl⟩) ⟨rfl, rfl, ?_⟩
    exfalso; have := L.a.1; omega
  · refine Aj.aload_n C 0 dX0_prepare_13 rfl ?_
    refine Aj.aload_n C 2 dX0_prepare_14 rfl ?_
    refine Aj.callVv (As := [qa p]) (st := []) C lm_RX0_26 m_X4_copyFrom mk_X4_copyFrom ms_X4_copyFrom (c_X4_copyFrom _ (L.s (by omega) (by omega)) K hC g (by omega)) (L.s (by omega) (by omega)).a (t := 4) rfl rfl rfl rfl (by decide) (Nat.le_of_ble_eq_true rfl) (by decide) dX0_prepare_15 (fun h_2 p15 => ?_)
    refine Aj.vret C dX0_prepare_18 (by rw [hmc]; exact ⟨rfl, Nat.le_of_ble_eq_true rfl⟩) ⟨rfl, rfl, ?_⟩
    exact p15

set_option maxHeartbeats 4000000 in
set_option maxRecDepth 100000 in
theorem c_X0_record (l : Launch) {G : qG} {n : Int} {r h : qH} {q o sz : Int} (L : LHist G n r q) (ho : h q 1 = o) (hs : h q 2 = sz) (hb : 0 ≤ o ∧ o < 7 ∧ 0 ≤ sz ∧ sz ≤ 6) : q_Cm l G yX0_record cX0_record 1 none 0 0 [qa q] n r h (q_Pv r (fun h' => (sz < 6 ∧ h' = hset h q 2 (sz + 1)) ∨ (sz = 6 ∧ h' = hset h q 1 ((o + 1) % 7)))) 0 0 := by
  refine q_enter (al := [(0, qa q)]) m_X0_record rfl (Nat.le_of_ble_eq_true rfl) ?_
  intro hok X C hmc hxl hin
  refine Aj.aload_n C 0 dX0_record_0 rfl ?_
  refine Aj.getIe (z := sz) C lf_RX0_18 rfl L.a dX0_record_1 hs ?_
  refine Aj.bipush C dX0_record_4 (by decide) (by decide) ?_
  refine Aj.icmp_ge (tgt := 22) C dX0_record_6 (by decide) (fun c6 => ?_) (fun c6 => ?_)
  · refine Aj.aload_n C 0 dX0_record_22 rfl ?_
    refine Aj.aload_n C 0 dX0_record_23 rfl ?_
    refine Aj.getIe (z := o) C lf_RX0_30 rfl L.a dX0_record_24 ho ?_
    refine Aj.iconst C dX0_record_27 (by decide) ?_
    refine Aj.iadd C dX0_record_28 (by omega) ?_
    refine Aj.bipush C dX0_record_29 (by decide) (by decide) ?_
    refine Aj.irem C dX0_record_31 (by omega) (by omega) ?_
    refine Aj.putI C lf_RX0_30 L.a dX0_record_32 (fun h_1 eh_1 => ?_)
    refine Aj.vret C dX0_record_35 (by rw [hmc]; exact ⟨rfl, Nat.le_of_ble_eq_true rfl⟩) ⟨rfl, rfl, ?_⟩
    first
    | exact Or.inl ⟨by omega, by rw [eh_1]⟩
    | exact Or.inr ⟨by omega, by rw [eh_1]⟩
  · refine Aj.aload_n C 0 dX0_record_9 rfl ?_
    refine Aj.dup_qa C dX0_record_10 ?_
    refine Aj.getIe (z := sz) C lf_RX0_18 rfl L.a dX0_record_11 hs ?_
    refine Aj.iconst C dX0_record_14 (by decide) ?_
    refine Aj.iadd C dX0_record_15 (by omega) ?_
    refine Aj.putI C lf_RX0_18 L.a dX0_record_16 (fun h_2 eh_2 => ?_)
    refine Aj.goto (tgt := 35) C dX0_record_19 (by decide) ?_
    refine Aj.vret C dX0_record_35 (by rw [hmc]; exact ⟨rfl, Nat.le_of_ble_eq_true rfl⟩) ⟨rfl, rfl, ?_⟩
    first
    | exact Or.inl ⟨by omega, by rw [eh_2]⟩
    | exact Or.inr ⟨by omega, by rw [eh_2]⟩

set_option maxHeartbeats 4000000 in
set_option maxRecDepth 100000 in
theorem c_X0_takeLatest (l : Launch) {G : qG} {n : Int} {r h : qH} {q o sz : Int} (L : LHist G n r q) (ho : h q 1 = o) (hs : h q 2 = sz) (hb : 0 ≤ o ∧ o < 7 ∧ 0 ≤ sz ∧ sz ≤ 6) : q_Cm l G yX0_takeLatest cX0_takeLatest 1 (some (.object "TitleCaller$Score")) 1 22 [qa q] n r h (q_Pq r (fun z h' => (sz = 0 ∧ z = 0 ∧ h = h') ∨ (0 < sz ∧ z = q + 2 + 17 * ((o + (sz - 1)) % 7) ∧ h' = hset h q 2 (sz - 1)))) 0 0 := by
  refine q_enter (al := [(0, qa q)]) m_X0_takeLatest rfl (Nat.le_of_ble_eq_true rfl) ?_
  intro hok X C hmc hxl hin
  refine Aj.aload_n C 0 dX0_takeLatest_0 rfl ?_
  refine Aj.getIe (z := sz) C lf_RX0_18 rfl L.a dX0_takeLatest_1 hs ?_
  refine Aj.if_gt (tgt := 9) C dX0_takeLatest_4 (by decide) (fun c4 => ?_) (fun c4 => ?_)
  · refine Aj.aload_n C 0 dX0_takeLatest_9 rfl ?_
    refine Aj.dup_qa C dX0_takeLatest_10 ?_
    refine Aj.getIe (z := sz) C lf_RX0_18 rfl L.a dX0_takeLatest_11 hs ?_
    refine Aj.iconst C dX0_takeLatest_14 (by decide) ?_
    refine Aj.isub C dX0_takeLatest_15 (by omega) ?_
    refine Aj.putI C lf_RX0_18 L.a dX0_takeLatest_16 (fun h_1 eh_1 => ?_)
    refine Aj.aload_n C 0 dX0_takeLatest_19 rfl ?_
    refine Aj.aload_n C 0 dX0_takeLatest_20 rfl ?_
    refine Aj.getIe (z := sz - 1) C lf_RX0_18 rfl L.a dX0_takeLatest_21 (by rw [eh_1]; exact hset_same _ _ _ _) ?_
    refine Aj.callVq (As := [qi (sz - 1)]) (st := []) C lm_RX0_22 m_X0_rowAt mk_X0_rowAt ms_X0_rowAt (c_X0_rowAt _ (o := o) (sz := sz - 1) (by omega) L (by rw [eh_1]; rw [hset_neb _ _ _ (by decide)]; exact ho) (by rw [eh_1]; exact hset_same _ _ _ _) (by omega)) L.a (t := 0) rfl rfl rfl rfl (by decide) (Nat.le_of_ble_eq_true rfl) (by decide) dX0_takeLatest_24 (fun z24 h_2 p24 => ?_)
    obtain ⟨rfl, pz⟩ := p24
    refine Aj.aret C dX0_takeLatest_27 (by rw [hmc]; exact ⟨rfl, Nat.le_of_ble_eq_true rfl⟩) ⟨_, rfl, rfl, ?_⟩
    exact Or.inr ⟨by omega, pz, by rw [eh_1]⟩
  · refine Aj.anull C dX0_takeLatest_7 ?_
    refine Aj.aret C dX0_takeLatest_8 (by rw [hmc]; exact ⟨rfl, Nat.le_of_ble_eq_true rfl⟩) ⟨_, rfl, rfl, ?_⟩
    exact Or.inl ⟨by omega, rfl, rfl⟩
