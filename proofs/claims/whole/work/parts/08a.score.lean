set_option maxHeartbeats 4000000 in
set_option maxRecDepth 100000 in
theorem c_X8_isWithin (l : Launch) {G : qG} {n : Int} {r h : qH} {a b c : Int} : q_Cm l G yX8_isWithin cX8_isWithin 3 (some .boolean) 0 0 [qi a, qi b, qi c] n r h (q_Pi r (fun z h' => h = h' ∧ (z = 0 ∨ z = 1) ∧ (z = 1 ↔ b ≤ a ∧ a ≤ c))) 0 0 := by
  refine q_enter (al := [(0, qi a), (1, qi b), (2, qi c)]) m_X8_isWithin rfl (Nat.le_of_ble_eq_true rfl) ?_
  intro hok X C hmc hxl hin
  refine Aj.iload_n C 0 dX8_isWithin_0 rfl ?_
  refine Aj.iload_n C 1 dX8_isWithin_1 rfl ?_
  refine Aj.icmp_lt (tgt := 14) C dX8_isWithin_2 (by decide) (fun c2 => ?_) (fun c2 => ?_)
  · refine Aj.iconst C dX8_isWithin_14 (by decide) ?_
    refine Aj.zret C dX8_isWithin_15 (by omega) (by rw [hmc]; exact ⟨rfl, Nat.le_of_ble_eq_true rfl⟩) ⟨_, rfl, rfl, ?_⟩
    exact ⟨rfl, by omega, by omega⟩
  · refine Aj.iload_n C 0 dX8_isWithin_5 rfl ?_
    refine Aj.iload_n C 2 dX8_isWithin_6 rfl ?_
    refine Aj.icmp_gt (tgt := 14) C dX8_isWithin_7 (by decide) (fun c7 => ?_) (fun c7 => ?_)
    · refine Aj.iconst C dX8_isWithin_14 (by decide) ?_
      refine Aj.zret C dX8_isWithin_15 (by omega) (by rw [hmc]; exact ⟨rfl, Nat.le_of_ble_eq_true rfl⟩) ⟨_, rfl, rfl, ?_⟩
      exact ⟨rfl, by omega, by omega⟩
    · refine Aj.iconst C dX8_isWithin_10 (by decide) ?_
      refine Aj.goto (tgt := 15) C dX8_isWithin_11 (by decide) ?_
      refine Aj.zret C dX8_isWithin_15 (by omega) (by rw [hmc]; exact ⟨rfl, Nat.le_of_ble_eq_true rfl⟩) ⟨_, rfl, rfl, ?_⟩
      exact ⟨rfl, by omega, by omega⟩

set_option maxHeartbeats 4000000 in
set_option maxRecDepth 100000 in
theorem c_X8_tenthsFor (l : Launch) {G : qG} {n : Int} {r h : qH} {a b : Int} (ha : 0 ≤ a ∧ a ≤ 12) (hb : 1 ≤ b) : q_Cm l G yX8_tenthsFor cX8_tenthsFor 2 (some .int) 0 0 [qi a, qi b] n r h (q_Pi r (fun z h' => h = h' ∧ z = 600 * a / b)) 0 0 := by
  refine q_enter (al := [(0, qi a), (1, qi b)]) m_X8_tenthsFor rfl (Nat.le_of_ble_eq_true rfl) ?_
  intro hok X C hmc hxl hin
  refine Aj.iload_n C 1 dX8_tenthsFor_0 rfl ?_
  refine Aj.if_gt (tgt := 8) C dX8_tenthsFor_1 (by decide) (fun c1 => ?_) (fun c1 => ?_)
  · refine Aj.sipush C dX8_tenthsFor_8 (by decide) (by decide) ?_
    refine Aj.iload_n C 0 dX8_tenthsFor_11 rfl ?_
    refine Aj.imul C dX8_tenthsFor_12 (by omega) ?_
    refine Aj.iload_n C 1 dX8_tenthsFor_13 rfl ?_
    refine Aj.idiv C dX8_tenthsFor_14 (by omega) (by omega) ?_
    refine Aj.iret C dX8_tenthsFor_15 (by rw [hmc]; exact ⟨rfl, Nat.le_of_ble_eq_true rfl⟩) ⟨_, rfl, rfl, ?_⟩
    exact ⟨rfl, rfl⟩
  · refine Aj.iconst C dX8_tenthsFor_4 (by decide) ?_
    refine Aj.goto (tgt := 15) C dX8_tenthsFor_5 (by decide) ?_
    refine Aj.iret C dX8_tenthsFor_15 (by rw [hmc]; exact ⟨rfl, Nat.le_of_ble_eq_true rfl⟩) ⟨_, rfl, rfl, ?_⟩
    exact absurd c1 (by omega)

set_option maxHeartbeats 4000000 in
set_option maxRecDepth 100000 in
theorem c_X8_leadOf (l : Launch) {G : qG} {n : Int} {r h : qH} {a : Int} : q_Cm l G yX8_leadOf cX8_leadOf 1 (some .int) 0 0 [qi a] n r h (q_Pi r (fun z h' => h = h' ∧ z = leadP a)) 0 0 := by
  refine q_enter (al := [(0, qi a)]) m_X8_leadOf rfl (Nat.le_of_ble_eq_true rfl) ?_
  intro hok X C hmc hxl hin
  refine Aj.iload_n C 0 dX8_leadOf_0 rfl ?_
  rcases (show a = 0 ∨ a = 2 ∨ (a ≠ 0 ∧ a ≠ 2) by omega) with c1 | c1 | c1
  · refine Aj.lookup C (27) dX8_leadOf_1 (by decide) (by rw [c1]; decide) (tgt := 28) (by decide) ?_
    refine Aj.iconst C dX8_leadOf_28 (by decide) ?_
    refine Aj.iret C dX8_leadOf_29 (by rw [hmc]; exact ⟨rfl, Nat.le_of_ble_eq_true rfl⟩) ⟨_, rfl, rfl, ?_⟩
    exact ⟨rfl, by unfold leadP; omega⟩
  · refine Aj.lookup C (29) dX8_leadOf_1 (by decide) (by rw [c1]; decide) (tgt := 30) (by decide) ?_
    refine Aj.bipush C dX8_leadOf_30 (by decide) (by decide) ?_
    refine Aj.iret C dX8_leadOf_32 (by rw [hmc]; exact ⟨rfl, Nat.le_of_ble_eq_true rfl⟩) ⟨_, rfl, rfl, ?_⟩
    exact ⟨rfl, by unfold leadP; omega⟩
  · refine Aj.lookup C (32) dX8_leadOf_1 (by decide) (q_lkd _ _ _ (by simp; omega)) (tgt := 33) (by decide) ?_
    refine Aj.iconst C dX8_leadOf_33 (by decide) ?_
    refine Aj.iret C dX8_leadOf_34 (by rw [hmc]; exact ⟨rfl, Nat.le_of_ble_eq_true rfl⟩) ⟨_, rfl, rfl, ?_⟩
    exact ⟨rfl, by unfold leadP; omega⟩

set_option maxHeartbeats 4000000 in
set_option maxRecDepth 100000 in
theorem c_X4_hasBar (l : Launch) {G : qG} {n : Int} {r h : qH} {a : Int} {p : Int} {s : Int → Int} (L : LScore G n r p) (hC : CScore h p s) (g : SG s) : q_Cm l G yX4_hasBar cX4_hasBar 2 (some .boolean) 0 0 [qa p, qi a] n r h (q_Pi r (fun z h' => h = h' ∧ (z = 0 ∨ z = 1) ∧ (z = 1 ↔ barP s a))) 0 0 := by
  refine q_enter (al := [(0, qa p), (1, qi a)]) m_X4_hasBar rfl (Nat.le_of_ble_eq_true rfl) ?_
  intro hok X C hmc hxl hin
  have gn := g.n
  refine Aj.iload_n C 1 dX4_hasBar_0 rfl ?_
  refine Aj.if_lt (tgt := 16) C dX4_hasBar_1 (by decide) (fun c1 => ?_) (fun c1 => ?_)
  · refine Aj.iconst C dX4_hasBar_16 (by decide) ?_
    refine Aj.zret C dX4_hasBar_17 (by omega) (by rw [hmc]; exact ⟨rfl, Nat.le_of_ble_eq_true rfl⟩) ⟨_, rfl, rfl, ?_⟩
    exact ⟨rfl, by omega, by unfold barP; omega⟩
  · refine Aj.iload_n C 1 dX4_hasBar_4 rfl ?_
    refine Aj.aload_n C 0 dX4_hasBar_5 rfl ?_
    refine Aj.getIe (z := s 0) C lf_RX4_9 rfl L.a dX4_hasBar_6 hC.1 ?_
    refine Aj.icmp_ge (tgt := 16) C dX4_hasBar_9 (by decide) (fun c9 => ?_) (fun c9 => ?_)
    · refine Aj.iconst C dX4_hasBar_16 (by decide) ?_
      refine Aj.zret C dX4_hasBar_17 (by omega) (by rw [hmc]; exact ⟨rfl, Nat.le_of_ble_eq_true rfl⟩) ⟨_, rfl, rfl, ?_⟩
      exact ⟨rfl, by omega, by unfold barP; omega⟩
    · refine Aj.iconst C dX4_hasBar_12 (by decide) ?_
      refine Aj.goto (tgt := 17) C dX4_hasBar_13 (by decide) ?_
      refine Aj.zret C dX4_hasBar_17 (by omega) (by rw [hmc]; exact ⟨rfl, Nat.le_of_ble_eq_true rfl⟩) ⟨_, rfl, rfl, ?_⟩
      exact ⟨rfl, by omega, by unfold barP; omega⟩

set_option maxHeartbeats 4000000 in
set_option maxRecDepth 100000 in
theorem c_X4_tenthsOf (l : Launch) {G : qG} {n : Int} {r h : qH} {a : Int} {p : Int} {s : Int → Int} (L : LScore G n r p) (hC : CScore h p s) (g : SG s) (hb : barP s a) : q_Cm l G yX4_tenthsOf cX4_tenthsOf 2 (some .int) 1 21 [qa p, qi a] n r h (q_Pi r (fun z h' => h = h' ∧ z = 600 * s (6 + a) / s (66 + a))) 0 0 := by
  refine q_enter (al := [(0, qa p), (1, qi a)]) m_X4_tenthsOf rfl (Nat.le_of_ble_eq_true rfl) ?_
  intro hok X C hmc hxl hin
  have gn := g.n
  have hb2 : 0 ≤ a ∧ a < s 0 := hb
  have gb := g.b a (by omega) (by omega)
  refine Aj.aload_n C 0 dX4_tenthsOf_0 rfl ?_
  refine Aj.iload_n C 1 dX4_tenthsOf_1 rfl ?_
  refine Aj.callVi (As := [qi a]) (st := []) C lm_RX4_60 m_X4_hasBar mk_X4_hasBar ms_X4_hasBar (c_X4_hasBar _ L hC g) L.a (t := 4) rfl rfl rfl rfl (by decide) (Nat.le_of_ble_eq_true rfl) (by decide) dX4_tenthsOf_2 (fun z2 h_1 rz2 p2 => ?_)
  obtain ⟨rfl, pz, pe⟩ := p2
  refine Aj.if_eq (tgt := 26) C dX4_tenthsOf_5 (by decide) (fun c5 => ?_) (fun c5 => ?_)
  · have := pe.mpr hb; omega
  · refine Aj.aload_n C 0 dX4_tenthsOf_8 rfl ?_
    refine Aj.getR C lf_RX4_18 rfl L.a L.r2 dX4_tenthsOf_9 ?_
    refine Aj.iload_n C 1 dX4_tenthsOf_12 rfl ?_
    refine Aj.ialde (w := s (6 + a)) C L.a1 (by omega) dX4_tenthsOf_13 (hC.2.2.1 _ (by omega) (by omega)).1 ?_
    refine Aj.aload_n C 0 dX4_tenthsOf_14 rfl ?_
    refine Aj.getR C lf_RX4_22 rfl L.a L.r3 dX4_tenthsOf_15 ?_
    refine Aj.iload_n C 1 dX4_tenthsOf_18 rfl ?_
    refine Aj.ialde (w := s (66 + a)) C L.a2 (by omega) dX4_tenthsOf_19 (hC.2.2.1 _ (by omega) (by omega)).2 ?_
    refine Aj.callNi (As := [qi (s (6 + a)), qi (s (66 + a))]) (st := []) C ln_RX4_64 m_X8_tenthsFor mk_X8_tenthsFor (c_X8_tenthsFor _ (by omega) (by omega)) rfl rfl (by decide) (Nat.le_of_ble_eq_true rfl) (by decide) dX4_tenthsOf_20 (fun z20 h_2 rz20 p20 => ?_)
    obtain ⟨rfl, pt⟩ := p20
    refine Aj.goto (tgt := 27) C dX4_tenthsOf_23 (by decide) ?_
    refine Aj.iret C dX4_tenthsOf_27 (by rw [hmc]; exact ⟨rfl, Nat.le_of_ble_eq_true rfl⟩) ⟨_, rfl, rfl, ?_⟩
    exact ⟨rfl, pt⟩

set_option maxHeartbeats 4000000 in
set_option maxRecDepth 100000 in
theorem c_X4_spanError (l : Launch) {G : qG} {n : Int} {r h : qH} {a b : Int} {p : Int} {s : Int → Int} (L : LScore G n r p) (hC : CScore h p s) (g : SG s) : q_Cm l G yX4_spanError cX4_spanError 3 (some .int) 1 21 [qa p, qi a, qi b] n r h (q_Pi r (fun z h' => h = h' ∧ ((¬ (barP s a ∧ barP s b) ∧ z = -1) ∨ ((barP s a ∧ barP s b) ∧ b < a ∧ z = -2) ∨ ((barP s a ∧ barP s b) ∧ a ≤ b ∧ z = 0)))) 0 0 := by
  refine q_enter (al := [(0, qa p), (1, qi a), (2, qi b)]) m_X4_spanError rfl (Nat.le_of_ble_eq_true rfl) ?_
  intro hok X C hmc hxl hin
  have gn := g.n
  refine Aj.aload_n C 0 dX4_spanError_0 rfl ?_
  refine Aj.iload_n C 1 dX4_spanError_1 rfl ?_
  refine Aj.callVi (As := [qi a]) (st := []) C lm_RX4_60 m_X4_hasBar mk_X4_hasBar ms_X4_hasBar (c_X4_hasBar _ L hC g) L.a (t := 4) rfl rfl rfl rfl (by decide) (Nat.le_of_ble_eq_true rfl) (by decide) dX4_spanError_2 (fun z2 h_1 rz2 p2 => ?_)
  obtain ⟨rfl, pz1, pe1⟩ := p2
  refine Aj.if_eq (tgt := 16) C dX4_spanError_5 (by decide) (fun c5 => ?_) (fun c5 => ?_)
  · refine Aj.iconst C dX4_spanError_16 (by decide) ?_
    refine Aj.iret C dX4_spanError_17 (by rw [hmc]; exact ⟨rfl, Nat.le_of_ble_eq_true rfl⟩) ⟨_, rfl, rfl, ?_⟩
    refine ⟨rfl, ?_⟩
    first
    | exact Or.inl ⟨fun q => by have := pe1.mpr q.1; omega, rfl⟩
    | exact Or.inl ⟨fun q => by have := pe2.mpr q.2; omega, rfl⟩
    | exact Or.inr (Or.inl ⟨⟨pe1.mp (by omega), pe2.mp (by omega)⟩, by omega, rfl⟩)
    | exact Or.inr (Or.inr ⟨⟨pe1.mp (by omega), pe2.mp (by omega)⟩, by omega, rfl⟩)
  · refine Aj.aload_n C 0 dX4_spanError_8 rfl ?_
    refine Aj.iload_n C 2 dX4_spanError_9 rfl ?_
    refine Aj.callVi (As := [qi b]) (st := []) C lm_RX4_60 m_X4_hasBar mk_X4_hasBar ms_X4_hasBar (c_X4_hasBar _ L hC g) L.a (t := 4) rfl rfl rfl rfl (by decide) (Nat.le_of_ble_eq_true rfl) (by decide) dX4_spanError_10 (fun z10 h_2 rz10 p10 => ?_)
    obtain ⟨rfl, pz2, pe2⟩ := p10
    refine Aj.if_ne (tgt := 18) C dX4_spanError_13 (by decide) (fun c13 => ?_) (fun c13 => ?_)
    · refine Aj.iload_n C 2 dX4_spanError_18 rfl ?_
      refine Aj.iload_n C 1 dX4_spanError_19 rfl ?_
      refine Aj.icmp_ge (tgt := 28) C dX4_spanError_20 (by decide) (fun c20 => ?_) (fun c20 => ?_)
      · refine Aj.iconst C dX4_spanError_28 (by decide) ?_
        refine Aj.iret C dX4_spanError_29 (by rw [hmc]; exact ⟨rfl, Nat.le_of_ble_eq_true rfl⟩) ⟨_, rfl, rfl, ?_⟩
        refine ⟨rfl, ?_⟩
        first
        | exact Or.inl ⟨fun q => by have := pe1.mpr q.1; omega, rfl⟩
        | exact Or.inl ⟨fun q => by have := pe2.mpr q.2; omega, rfl⟩
        | exact Or.inr (Or.inl ⟨⟨pe1.mp (by omega), pe2.mp (by omega)⟩, by omega, rfl⟩)
        | exact Or.inr (Or.inr ⟨⟨pe1.mp (by omega), pe2.mp (by omega)⟩, by omega, rfl⟩)
      · refine Aj.bipush C dX4_spanError_23 (by decide) (by decide) ?_
        refine Aj.goto (tgt := 29) C dX4_spanError_25 (by decide) ?_
        refine Aj.iret C dX4_spanError_29 (by rw [hmc]; exact ⟨rfl, Nat.le_of_ble_eq_true rfl⟩) ⟨_, rfl, rfl, ?_⟩
        refine ⟨rfl, ?_⟩
        first
        | exact Or.inl ⟨fun q => by have := pe1.mpr q.1; omega, rfl⟩
        | exact Or.inl ⟨fun q => by have := pe2.mpr q.2; omega, rfl⟩
        | exact Or.inr (Or.inl ⟨⟨pe1.mp (by omega), pe2.mp (by omega)⟩, by omega, rfl⟩)
        | exact Or.inr (Or.inr ⟨⟨pe1.mp (by omega), pe2.mp (by omega)⟩, by omega, rfl⟩)
    · refine Aj.iconst C dX4_spanError_16 (by decide) ?_
      refine Aj.iret C dX4_spanError_17 (by rw [hmc]; exact ⟨rfl, Nat.le_of_ble_eq_true rfl⟩) ⟨_, rfl, rfl, ?_⟩
      refine ⟨rfl, ?_⟩
      first
      | exact Or.inl ⟨fun q => by have := pe1.mpr q.1; omega, rfl⟩
      | exact Or.inl ⟨fun q => by have := pe2.mpr q.2; omega, rfl⟩
      | exact Or.inr (Or.inl ⟨⟨pe1.mp (by omega), pe2.mp (by omega)⟩, by omega, rfl⟩)
      | exact Or.inr (Or.inr ⟨⟨pe1.mp (by omega), pe2.mp (by omega)⟩, by omega, rfl⟩)

set_option maxHeartbeats 4000000 in
set_option maxRecDepth 100000 in
theorem c_X4_highestBarInUse (l : Launch) {G : qG} {n : Int} {r h : qH} {p : Int} {s : Int → Int} (L : LScore G n r p) (hC : CScore h p s) (g : SG s) : q_Cm l G yX4_highestBarInUse cX4_highestBarInUse 1 (some .int) 2 43 [qa p] n r h (q_Pi r (fun z h' => h = h' ∧ ∀ x, 0 ≤ x → (x ≤ z ↔ beyP s x))) 0 0 := by
  refine q_enter (al := [(0, qa p)]) m_X4_highestBarInUse rfl (Nat.le_of_ble_eq_true rfl) ?_
  intro hok X C hmc hxl hin
  have gn := g.n
  refine Aj.aload_n C 0 dX4_highestBarInUse_0 rfl ?_
  refine Aj.getR C lf_RX4_43 rfl L.a L.r7 dX4_highestBarInUse_1 ?_
  refine Aj.callVi (As := []) (st := []) C lm_RX4_101 m_X7_highestBar mk_X7_highestBar ms_X7_highestBar (c_X7_highestBar _ L.ti hC.2.2.2.2.2.2.1 (by omega)) L.ti.a (t := 7) rfl rfl rfl rfl (by decide) (Nat.le_of_ble_eq_true rfl) (by decide) dX4_highestBarInUse_4 (fun z4 h_1 rz4 p4 => ?_)
  obtain ⟨rfl, t1, t2⟩ := p4
  refine Aj.aload_n C 0 dX4_highestBarInUse_7 rfl ?_
  refine Aj.getR C lf_RX4_30 rfl L.a L.r4 dX4_highestBarInUse_8 ?_
  refine Aj.callVi (As := []) (st := [qi z4]) C lm_RX4_104 m_X6_highest mk_X6_highest ms_X6_highest (c_X6_highest _ L.re (by decide) hC.2.2.2.1 (by omega)) L.re.a (t := 6) rfl rfl rfl rfl (by decide) (Nat.le_of_ble_eq_true rfl) (by decide) dX4_highestBarInUse_11 (fun z11 h_2 rz11 p11 => ?_)
  obtain ⟨rfl, u1, u2⟩ := p11
  refine Aj.aload_n C 0 dX4_highestBarInUse_14 rfl ?_
  refine Aj.getR C lf_RX4_34 rfl L.a L.r5 dX4_highestBarInUse_15 ?_
  refine Aj.callVi (As := []) (st := [qi z11, qi z4]) C lm_RX4_104 m_X6_highest mk_X6_highest ms_X6_highest (c_X6_highest _ L.cu (by decide) hC.2.2.2.2.1 (by omega)) L.cu.a (t := 6) rfl rfl rfl rfl (by decide) (Nat.le_of_ble_eq_true rfl) (by decide) dX4_highestBarInUse_18 (fun z18 h_3 rz18 p18 => ?_)
  obtain ⟨rfl, v1, v2⟩ := p18
  refine Aj.mmax C lm_RX4_107 ⟨Nat.le_of_ble_eq_true rfl, Nat.le_of_ble_eq_true rfl⟩ (by decide) dX4_highestBarInUse_21 ?_
  refine Aj.mmax C lm_RX4_107 ⟨Nat.le_of_ble_eq_true rfl, Nat.le_of_ble_eq_true rfl⟩ (by decide) dX4_highestBarInUse_24 ?_
  refine Aj.iret C dX4_highestBarInUse_27 (by rw [hmc]; exact ⟨rfl, Nat.le_of_ble_eq_true rfl⟩) ⟨_, rfl, rfl, ?_⟩
  refine ⟨rfl, fun x hx => ?_⟩
  have a1 := t2 x hx
  have a2 := u2 x hx
  have a3 := v2 x hx
  unfold beyP
  have a4 : (∃ k, 0 ≤ k ∧ k < s 5 ∧ x ≤ h (p + 12 + 2) k) ↔ (∃ k, 0 ≤ k ∧ k < s 5 ∧ x ≤ s (149 + 4 * k)) := by
    constructor
    · rintro ⟨k, k1, k2, k3⟩
      exact ⟨k, k1, k2, by rw [(hC.2.2.2.2.2.2.2 k k1 k2).2.1] at k3; exact k3⟩
    · rintro ⟨k, k1, k2, k3⟩
      exact ⟨k, k1, k2, by rw [(hC.2.2.2.2.2.2.2 k k1 k2).2.1]; exact k3⟩
  rw [← a4, ← a1, ← a2, ← a3]
  omega

set_option maxHeartbeats 4000000 in
set_option maxRecDepth 100000 in
theorem c_X4_changeBars (l : Launch) {G : qG} {n : Int} {r h : qH} {a : Int} {p : Int} {s : Int → Int} (L : LScore G n r p) (hC : CScore h p s) (g : SG s) : q_Cm l G yX4_changeBars cX4_changeBars 3 (some .int) 3 63 [qa p, qi a] n r h (q_Pi r (fun z h' => ∃ s2, O_bars s a z s2 ∧ CScore h' p s2 ∧ FR p 17 h h')) 0 0 := by
  refine q_enter (al := [(0, qa p), (1, qi a)]) m_X4_changeBars rfl (Nat.le_of_ble_eq_true rfl) ?_
  intro hok X C hmc hxl hin
  have gn := g.n
  refine Aj.iload_n C 1 dX4_changeBars_0 rfl ?_
  refine Aj.iconst C dX4_changeBars_1 (by decide) ?_
  refine Aj.bipush C dX4_changeBars_2 (by decide) (by decide) ?_
  refine Aj.callNi (As := [qi a, qi 1, qi 60]) (st := []) C ln_RX4_68 m_X8_isWithin mk_X8_isWithin (c_X8_isWithin _) rfl rfl (by decide) (Nat.le_of_ble_eq_true rfl) (by decide) dX4_changeBars_4 (fun z4 h_1 rz4 p4 => ?_)
  obtain ⟨rfl, qz, qe⟩ := p4
  refine Aj.if_ne (tgt := 13) C dX4_changeBars_7 (by decide) (fun c7 => ?_) (fun c7 => ?_)
  · refine Aj.aload_n C 0 dX4_changeBars_13 rfl ?_
    refine Aj.callVi (As := []) (st := []) C lm_RX4_72 m_X4_highestBarInUse mk_X4_highestBarInUse ms_X4_highestBarInUse (c_X4_highestBarInUse _ L hC g) L.a (t := 4) rfl rfl rfl rfl (by decide) (Nat.le_of_ble_eq_true rfl) (by decide) dX4_changeBars_14 (fun z14 h_2 rz14 p14 => ?_)
    obtain ⟨rfl, pb⟩ := p14
    refine Aj.iload_n C 1 dX4_changeBars_17 rfl ?_
    refine Aj.icmp_lt (tgt := 24) C dX4_changeBars_18 (by decide) (fun c18 => ?_) (fun c18 => ?_)
    · refine Aj.aload_n C 0 dX4_changeBars_24 rfl ?_
      refine Aj.getIe (z := s 0) C lf_RX4_9 rfl L.a dX4_changeBars_25 hC.1 ?_
      refine Aj.istore_n (al2 := [(2, qi (s 0)), (0, qa p), (1, qi a)]) C dX4_changeBars_28 (by decide) rfl ?_
      refine Aj.aload_n C 1 dX4_changeBars_29 rfl ?_
      refine Aj.iload_n C 2 dX4_changeBars_30 rfl ?_
      refine Aj.putI C lf_RX4_9 L.a dX4_changeBars_31 (fun h_3 eh_3 => ?_)
      refine Aj.iload_n C 0 dX4_changeBars_34 rfl ?_
      refine Aj.iret C dX4_changeBars_35 (by rw [hmc]; exact ⟨rfl, Nat.le_of_ble_eq_true rfl⟩) ⟨_, rfl, rfl, ?_⟩
      rw [eh_3]
      exact ⟨_, Or.inr (Or.inr ⟨qe.mp (by omega), fun q => by have := (pb a (by omega)).mpr q; omega, rfl, rfl⟩), hC.set0 g, fun x y q => hset_nea _ _ _ (by omega)⟩
    · refine Aj.bipush C dX4_changeBars_21 (by decide) (by decide) ?_
      refine Aj.iret C dX4_changeBars_23 (by rw [hmc]; exact ⟨rfl, Nat.le_of_ble_eq_true rfl⟩) ⟨_, rfl, rfl, ?_⟩
      first
      | exact ⟨s, Or.inl ⟨fun q => by have := qe.mpr q; omega, rfl, rfl⟩, hC, FR.rf⟩
      | exact ⟨s, Or.inr (Or.inl ⟨qe.mp (by omega), (pb a (by omega)).mp (by omega), rfl, rfl⟩), hC, FR.rf⟩
  · refine Aj.bipush C dX4_changeBars_10 (by decide) (by decide) ?_
    refine Aj.iret C dX4_changeBars_12 (by rw [hmc]; exact ⟨rfl, Nat.le_of_ble_eq_true rfl⟩) ⟨_, rfl, rfl, ?_⟩
    first
    | exact ⟨s, Or.inl ⟨fun q => by have := qe.mpr q; omega, rfl, rfl⟩, hC, FR.rf⟩
    | exact ⟨s, Or.inr (Or.inl ⟨qe.mp (by omega), (pb a (by omega)).mp (by omega), rfl, rfl⟩), hC, FR.rf⟩

set_option maxHeartbeats 4000000 in
set_option maxRecDepth 100000 in
theorem c_X4_changeShortest (l : Launch) {G : qG} {n : Int} {r h : qH} {a : Int} {p : Int} {s : Int → Int} (L : LScore G n r p) (hC : CScore h p s) (g : SG s) : q_Cm l G yX4_changeShortest cX4_changeShortest 3 (some .int) 1 22 [qa p, qi a] n r h (q_Pi r (fun z h' => ∃ s2, O_short s a z s2 ∧ CScore h' p s2 ∧ FR p 17 h h')) 0 0 := by
  refine q_enter (al := [(0, qa p), (1, qi a)]) m_X4_changeShortest rfl (Nat.le_of_ble_eq_true rfl) ?_
  intro hok X C hmc hxl hin
  have gn := g.n
  refine Aj.iload_n C 1 dX4_changeShortest_0 rfl ?_
  refine Aj.iconst C dX4_changeShortest_1 (by decide) ?_
  refine Aj.bipush C dX4_changeShortest_2 (by decide) (by decide) ?_
  refine Aj.callNi (As := [qi a, qi 0, qi 50]) (st := []) C ln_RX4_68 m_X8_isWithin mk_X8_isWithin (c_X8_isWithin _) rfl rfl (by decide) (Nat.le_of_ble_eq_true rfl) (by decide) dX4_changeShortest_4 (fun z4 h_1 rz4 p4 => ?_)
  obtain ⟨rfl, qz, qe⟩ := p4
  refine Aj.if_ne (tgt := 13) C dX4_changeShortest_7 (by decide) (fun c7 => ?_) (fun c7 => ?_)
  · refine Aj.aload_n C 0 dX4_changeShortest_13 rfl ?_
    refine Aj.getIe (z := s 1) C lf_RX4_15 rfl L.a dX4_changeShortest_14 hC.2.1 ?_
    refine Aj.istore_n (al2 := [(2, qi (s 1)), (0, qa p), (1, qi a)]) C dX4_changeShortest_17 (by decide) rfl ?_
    refine Aj.aload_n C 1 dX4_changeShortest_18 rfl ?_
    refine Aj.iload_n C 2 dX4_changeShortest_19 rfl ?_
    refine Aj.putI C lf_RX4_15 L.a dX4_changeShortest_20 (fun h_2 eh_2 => ?_)
    refine Aj.iload_n C 0 dX4_changeShortest_23 rfl ?_
    refine Aj.iret C dX4_changeShortest_24 (by rw [hmc]; exact ⟨rfl, Nat.le_of_ble_eq_true rfl⟩) ⟨_, rfl, rfl, ?_⟩
    rw [eh_2]
    exact ⟨_, Or.inr ⟨qe.mp (by omega), rfl, rfl⟩, hC.set1 g, fun x y q => hset_nea _ _ _ (by omega)⟩
  · refine Aj.bipush C dX4_changeShortest_10 (by decide) (by decide) ?_
    refine Aj.iret C dX4_changeShortest_12 (by rw [hmc]; exact ⟨rfl, Nat.le_of_ble_eq_true rfl⟩) ⟨_, rfl, rfl, ?_⟩
    exact ⟨s, Or.inl ⟨fun q => by have := qe.mpr q; omega, rfl, rfl⟩, hC, FR.rf⟩

set_option maxHeartbeats 4000000 in
set_option maxRecDepth 100000 in
theorem c_X4_changeBar (l : Launch) {G : qG} {n : Int} {r h : qH} {a b c : Int} {p : Int} {s : Int → Int} (L : LScore G n r p) (hC : CScore h p s) (g : SG s) : q_Cm l G yX4_changeBar cX4_changeBar 4 (some .int) 2 42 [qa p, qi a, qi b, qi c] n r h (q_Pi r (fun z h' => ∃ s2, O_bar s a b c z s2 ∧ CScore h' p s2 ∧ FR p 17 h h')) 0 0 := by
  refine q_enter (al := [(0, qa p), (1, qi a), (2, qi b), (3, qi c)]) m_X4_changeBar rfl (Nat.le_of_ble_eq_true rfl) ?_
  intro hok X C hmc hxl hin
  have gn := g.n
  refine Aj.aload_n C 0 dX4_changeBar_0 rfl ?_
  refine Aj.iload_n C 1 dX4_changeBar_1 rfl ?_
  refine Aj.callVi (As := [qi a]) (st := []) C lm_RX4_60 m_X4_hasBar mk_X4_hasBar ms_X4_hasBar (c_X4_hasBar _ L hC g) L.a (t := 4) rfl rfl rfl rfl (by decide) (Nat.le_of_ble_eq_true rfl) (by decide) dX4_changeBar_2 (fun z2 h_1 rz2 p2 => ?_)
  obtain ⟨rfl, pz, pe⟩ := p2
  refine Aj.if_ne (tgt := 10) C dX4_changeBar_5 (by decide) (fun c5 => ?_) (fun c5 => ?_)
  · refine Aj.iload_n C 2 dX4_changeBar_10 rfl ?_
    refine Aj.iconst C dX4_changeBar_11 (by decide) ?_
    refine Aj.bipush C dX4_changeBar_12 (by decide) (by decide) ?_
    refine Aj.callNi (As := [qi b, qi 1, qi 12]) (st := []) C ln_RX4_68 m_X8_isWithin mk_X8_isWithin (c_X8_isWithin _) rfl rfl (by decide) (Nat.le_of_ble_eq_true rfl) (by decide) dX4_changeBar_14 (fun z14 h_2 rz14 p14 => ?_)
    obtain ⟨rfl, qz1, qe1⟩ := p14
    refine Aj.if_eq (tgt := 32) C dX4_changeBar_17 (by decide) (fun c17 => ?_) (fun c17 => ?_)
    · refine Aj.bipush C dX4_changeBar_32 (by decide) (by decide) ?_
      refine Aj.iret C dX4_changeBar_34 (by rw [hmc]; exact ⟨rfl, Nat.le_of_ble_eq_true rfl⟩) ⟨_, rfl, rfl, ?_⟩
      first
      | exact ⟨s, Or.inl ⟨fun q => by have := pe.mpr q; omega, rfl, rfl⟩, hC, FR.rf⟩
      | exact ⟨s, Or.inr (Or.inl ⟨pe.mp (by omega), fun q => by have := qe1.mpr q.1; omega, rfl, rfl⟩), hC, FR.rf⟩
      | exact ⟨s, Or.inr (Or.inl ⟨pe.mp (by omega), fun q => by have := qe2.mpr q.2; omega, rfl, rfl⟩), hC, FR.rf⟩
    · refine Aj.iload_n C 3 dX4_changeBar_20 rfl ?_
      refine Aj.bipush C dX4_changeBar_21 (by decide) (by decide) ?_
      refine Aj.sipush C dX4_changeBar_23 (by decide) (by decide) ?_
      refine Aj.callNi (As := [qi c, qi 20, qi 240]) (st := []) C ln_RX4_68 m_X8_isWithin mk_X8_isWithin (c_X8_isWithin _) rfl rfl (by decide) (Nat.le_of_ble_eq_true rfl) (by decide) dX4_changeBar_26 (fun z26 h_3 rz26 p26 => ?_)
      obtain ⟨rfl, qz2, qe2⟩ := p26
      refine Aj.if_ne (tgt := 35) C dX4_changeBar_29 (by decide) (fun c29 => ?_) (fun c29 => ?_)
      · have hb4 : barP s a := pe.mp (by omega)
        have hb3 : 0 ≤ a ∧ a < s 0 := hb4
        refine Aj.aload_n C 0 dX4_changeBar_35 rfl ?_
        refine Aj.getR C lf_RX4_18 rfl L.a L.r2 dX4_changeBar_36 ?_
        refine Aj.iload_n C 1 dX4_changeBar_39 rfl ?_
        refine Aj.iload_n C 2 dX4_changeBar_40 rfl ?_
        refine Aj.iast C L.a1 (by omega) dX4_changeBar_41 (fun h_4 eh_4 => ?_)
        refine Aj.aload_n C 0 dX4_changeBar_42 rfl ?_
        refine Aj.getR C lf_RX4_22 rfl L.a L.r3 dX4_changeBar_43 ?_
        refine Aj.iload_n C 1 dX4_changeBar_46 rfl ?_
        refine Aj.iload_n C 3 dX4_changeBar_47 rfl ?_
        refine Aj.iast C L.a2 (by omega) dX4_changeBar_48 (fun h_5 eh_5 => ?_)
        have hv : (1 ≤ b ∧ b ≤ 12) ∧ (20 ≤ c ∧ c ≤ 240) := ⟨qe1.mp (by omega), qe2.mp (by omega)⟩
        have oo : O_bar s a b c (600 * b / c) (sset (sset s (6 + a) b) (66 + a) c) := Or.inr (Or.inr ⟨hb4, hv, rfl, rfl⟩)
        have gg := O_bar.good g oo
        have hC5 : CScore h_5 p (sset (sset s (6 + a) b) (66 + a) c) := by rw [eh_5, eh_4]; exact hC.setB g ⟨by omega, by omega⟩
        have hb5 : barP (sset (sset s (6 + a) b) (66 + a) c) a := by unfold barP; rw [sset_ap, if_neg (by omega), sset_ap, if_neg (by omega)]; exact hb4
        refine Aj.aload_n C 0 dX4_changeBar_49 rfl ?_
        refine Aj.iload_n C 1 dX4_changeBar_50 rfl ?_
        refine Aj.callVi (As := [qi a]) (st := []) C lm_RX4_76 m_X4_tenthsOf mk_X4_tenthsOf ms_X4_tenthsOf (c_X4_tenthsOf _ L hC5 gg hb5) L.a (t := 4) rfl rfl rfl rfl (by decide) (Nat.le_of_ble_eq_true rfl) (by decide) dX4_changeBar_51 (fun z51 h_6 rz51 p51 => ?_)
        obtain ⟨rfl, pt⟩ := p51
        refine Aj.iret C dX4_changeBar_54 (by rw [hmc]; exact ⟨rfl, Nat.le_of_ble_eq_true rfl⟩) ⟨_, rfl, rfl, ?_⟩
        rw [sset_ap, if_neg (by omega), sset_ap, if_pos rfl, sset_ap, if_pos rfl] at pt
        refine ⟨_, by rw [pt]; exact oo, hC5, ?_⟩
        rw [eh_5, eh_4]
        exact fun x y q => by rw [hset_nea _ _ _ (by omega), hset_nea _ _ _ (by omega)]
      · refine Aj.bipush C dX4_changeBar_32 (by decide) (by decide) ?_
        refine Aj.iret C dX4_changeBar_34 (by rw [hmc]; exact ⟨rfl, Nat.le_of_ble_eq_true rfl⟩) ⟨_, rfl, rfl, ?_⟩
        first
        | exact ⟨s, Or.inl ⟨fun q => by have := pe.mpr q; omega, rfl, rfl⟩, hC, FR.rf⟩
        | exact ⟨s, Or.inr (Or.inl ⟨pe.mp (by omega), fun q => by have := qe1.mpr q.1; omega, rfl, rfl⟩), hC, FR.rf⟩
        | exact ⟨s, Or.inr (Or.inl ⟨pe.mp (by omega), fun q => by have := qe2.mpr q.2; omega, rfl, rfl⟩), hC, FR.rf⟩
  · refine Aj.iconst C dX4_changeBar_8 (by decide) ?_
    refine Aj.iret C dX4_changeBar_9 (by rw [hmc]; exact ⟨rfl, Nat.le_of_ble_eq_true rfl⟩) ⟨_, rfl, rfl, ?_⟩
    first
    | exact ⟨s, Or.inl ⟨fun q => by have := pe.mpr q; omega, rfl, rfl⟩, hC, FR.rf⟩
    | exact ⟨s, Or.inr (Or.inl ⟨pe.mp (by omega), fun q => by have := qe1.mpr q.1; omega, rfl, rfl⟩), hC, FR.rf⟩
    | exact ⟨s, Or.inr (Or.inl ⟨pe.mp (by omega), fun q => by have := qe2.mpr q.2; omega, rfl, rfl⟩), hC, FR.rf⟩

set_option maxHeartbeats 4000000 in
set_option maxRecDepth 100000 in
theorem c_X4_addRepeat (l : Launch) {G : qG} {n : Int} {r h : qH} {a b : Int} {p : Int} {s : Int → Int} (L : LScore G n r p) (hC : CScore h p s) (g : SG s) : q_Cm l G yX4_addRepeat cX4_addRepeat 4 (some .int) 2 43 [qa p, qi a, qi b] n r h (q_Pi r (fun z h' => ∃ s2, O_repeat s a b z s2 ∧ CScore h' p s2 ∧ FR p 17 h h')) 0 0 := by
  refine q_enter (al := [(0, qa p), (1, qi a), (2, qi b)]) m_X4_addRepeat rfl (Nat.le_of_ble_eq_true rfl) ?_
  intro hok X C hmc hxl hin
  have gn := g.n
  refine Aj.aload_n C 0 dX4_addRepeat_0 rfl ?_
  refine Aj.iload_n C 1 dX4_addRepeat_1 rfl ?_
  refine Aj.iload_n C 2 dX4_addRepeat_2 rfl ?_
  refine Aj.callVi (As := [qi a, qi b]) (st := []) C lm_RX4_80 m_X4_spanError mk_X4_spanError ms_X4_spanError (c_X4_spanError _ L hC g) L.a (t := 4) rfl rfl rfl rfl (by decide) (Nat.le_of_ble_eq_true rfl) (by decide) dX4_addRepeat_3 (fun z3 h_1 rz3 p3 => ?_)
  obtain ⟨rfl, pe⟩ := p3
  refine Aj.istore_n (al2 := [(3, qi z3), (0, qa p), (1, qi a), (2, qi b)]) C dX4_addRepeat_6 (by decide) rfl ?_
  refine Aj.iload_n C 0 dX4_addRepeat_7 rfl ?_
  refine Aj.if_ge (tgt := 13) C dX4_addRepeat_8 (by decide) (fun c8 => ?_) (fun c8 => ?_)
  · refine Aj.aload_n C 1 dX4_addRepeat_13 rfl ?_
    refine Aj.getR C lf_RX4_30 rfl L.a L.r4 dX4_addRepeat_14 ?_
    refine Aj.callVi (As := []) (st := []) C lm_RX4_83 m_X6_isFull mk_X6_isFull ms_X6_isFull (c_X6_isFull _ L.re (by decide) hC.2.2.2.1 (by omega)) L.re.a (t := 6) rfl rfl rfl rfl (by decide) (Nat.le_of_ble_eq_true rfl) (by decide) dX4_addRepeat_17 (fun z17 h_2 rz17 p17 => ?_)
    obtain ⟨rfl, pf⟩ := p17
    refine Aj.if_eq (tgt := 26) C dX4_addRepeat_20 (by decide) (fun c20 => ?_) (fun c20 => ?_)
    · refine Aj.aload_n C 1 dX4_addRepeat_26 rfl ?_
      refine Aj.getR C lf_RX4_30 rfl L.a L.r4 dX4_addRepeat_27 ?_
      refine Aj.iload_n C 2 dX4_addRepeat_30 rfl ?_
      refine Aj.iload_n C 3 dX4_addRepeat_31 rfl ?_
      refine Aj.callVi (As := [qi a, qi b]) (st := []) C lm_RX4_87 m_X6_meets mk_X6_meets ms_X6_meets (c_X6_meets _ L.re (by decide) hC.2.2.2.1 (by omega)) L.re.a (t := 6) rfl rfl rfl rfl (by decide) (Nat.le_of_ble_eq_true rfl) (by decide) dX4_addRepeat_32 (fun z32 h_3 rz32 p32 => ?_)
      obtain ⟨rfl, pm, pn⟩ := p32
      have pn2 : (z32 = 1 ↔ meetR s a b) := pn
      refine Aj.if_eq (tgt := 43) C dX4_addRepeat_35 (by decide) (fun c35 => ?_) (fun c35 => ?_)
      · refine Aj.aload_n C 1 dX4_addRepeat_43 rfl ?_
        refine Aj.getR C lf_RX4_30 rfl L.a L.r4 dX4_addRepeat_44 ?_
        refine Aj.iload_n C 2 dX4_addRepeat_47 rfl ?_
        refine Aj.iload_n C 3 dX4_addRepeat_48 rfl ?_
        refine Aj.callVi (As := [qi a, qi b]) (st := []) C lm_RX4_91 m_X6_add mk_X6_add ms_X6_add (c_X6_add _ L.re (by decide) hC.2.2.2.1 (by omega)) L.re.a (t := 6) rfl rfl rfl rfl (by decide) (Nat.le_of_ble_eq_true rfl) (by decide) dX4_addRepeat_49 (fun z49 h_4 rz49 p49 => ?_)
        refine Aj.iret C dX4_addRepeat_52 (by rw [hmc]; exact ⟨rfl, Nat.le_of_ble_eq_true rfl⟩) ⟨_, rfl, rfl, ?_⟩
        have e3 : (barP s a ∧ barP s b) ∧ a ≤ b := by rcases pe with ⟨e1, e2⟩ | ⟨e1, e2, e3⟩ | ⟨e1, e2, e3⟩ <;> first | (exfalso; omega) | exact ⟨e1, e2⟩
        rcases p49 with ⟨q1, q2, q3⟩ | ⟨q1, q2, q3⟩
        · exfalso; split at pf <;> omega
        · obtain ⟨k1, k2⟩ := hC.addR g q1 q3
          exact ⟨_, Or.inr (Or.inr (Or.inr (Or.inr ⟨e3.1, e3.2, q1, fun q => by have := pn2.mpr q; omega, q2, rfl⟩))), k1, k2⟩
      · refine Aj.bipush C dX4_addRepeat_38 (by decide) (by decide) ?_
        refine Aj.goto (tgt := 52) C dX4_addRepeat_40 (by decide) ?_
        refine Aj.iret C dX4_addRepeat_52 (by rw [hmc]; exact ⟨rfl, Nat.le_of_ble_eq_true rfl⟩) ⟨_, rfl, rfl, ?_⟩
        have e3 : (barP s a ∧ barP s b) ∧ a ≤ b := by rcases pe with ⟨e1, e2⟩ | ⟨e1, e2, e3⟩ | ⟨e1, e2, e3⟩ <;> first | (exfalso; omega) | exact ⟨e1, e2⟩
        exact ⟨s, Or.inr (Or.inr (Or.inr (Or.inl ⟨e3.1, e3.2, by split at pf <;> omega, pn2.mp (by omega), rfl, rfl⟩))), hC, FR.rf⟩
    · refine Aj.bipush C dX4_addRepeat_23 (by decide) (by decide) ?_
      refine Aj.iret C dX4_addRepeat_25 (by rw [hmc]; exact ⟨rfl, Nat.le_of_ble_eq_true rfl⟩) ⟨_, rfl, rfl, ?_⟩
      have e3 : (barP s a ∧ barP s b) ∧ a ≤ b := by rcases pe with ⟨e1, e2⟩ | ⟨e1, e2, e3⟩ | ⟨e1, e2, e3⟩ <;> first | (exfalso; omega) | exact ⟨e1, e2⟩
      exact ⟨s, Or.inr (Or.inr (Or.inl ⟨e3.1, e3.2, by split at pf <;> omega, rfl, rfl⟩)), hC, FR.rf⟩
  · refine Aj.iload_n C 0 dX4_addRepeat_11 rfl ?_
    refine Aj.iret C dX4_addRepeat_12 (by rw [hmc]; exact ⟨rfl, Nat.le_of_ble_eq_true rfl⟩) ⟨_, rfl, rfl, ?_⟩
    rcases pe with ⟨e1, e2⟩ | ⟨e1, e2, e3⟩ | ⟨e1, e2, e3⟩
    · exact ⟨s, Or.inl ⟨e1, e2, rfl⟩, hC, FR.rf⟩
    · exact ⟨s, Or.inr (Or.inl ⟨e1, e2, e3, rfl⟩), hC, FR.rf⟩
    · exact absurd e3 (by omega)

set_option maxHeartbeats 4000000 in
set_option maxRecDepth 100000 in
theorem c_X4_addCut (l : Launch) {G : qG} {n : Int} {r h : qH} {a b : Int} {p : Int} {s : Int → Int} (L : LScore G n r p) (hC : CScore h p s) (g : SG s) : q_Cm l G yX4_addCut cX4_addCut 4 (some .int) 2 43 [qa p, qi a, qi b] n r h (q_Pi r (fun z h' => ∃ s2, O_cut s a b z s2 ∧ CScore h' p s2 ∧ FR p 17 h h')) 0 0 := by
  refine q_enter (al := [(0, qa p), (1, qi a), (2, qi b)]) m_X4_addCut rfl (Nat.le_of_ble_eq_true rfl) ?_
  intro hok X C hmc hxl hin
  have gn := g.n
  refine Aj.aload_n C 0 dX4_addCut_0 rfl ?_
  refine Aj.iload_n C 1 dX4_addCut_1 rfl ?_
  refine Aj.iload_n C 2 dX4_addCut_2 rfl ?_
  refine Aj.callVi (As := [qi a, qi b]) (st := []) C lm_RX4_80 m_X4_spanError mk_X4_spanError ms_X4_spanError (c_X4_spanError _ L hC g) L.a (t := 4) rfl rfl rfl rfl (by decide) (Nat.le_of_ble_eq_true rfl) (by decide) dX4_addCut_3 (fun z3 h_1 rz3 p3 => ?_)
  obtain ⟨rfl, pe⟩ := p3
  refine Aj.istore_n (al2 := [(3, qi z3), (0, qa p), (1, qi a), (2, qi b)]) C dX4_addCut_6 (by decide) rfl ?_
  refine Aj.iload_n C 0 dX4_addCut_7 rfl ?_
  refine Aj.if_ge (tgt := 15) C dX4_addCut_8 (by decide) (fun c8 => ?_) (fun c8 => ?_)
  · refine Aj.aload_n C 1 dX4_addCut_15 rfl ?_
    refine Aj.getR C lf_RX4_34 rfl L.a L.r5 dX4_addCut_16 ?_
    refine Aj.iload_n C 2 dX4_addCut_19 rfl ?_
    refine Aj.iload_n C 3 dX4_addCut_20 rfl ?_
    refine Aj.callVi (As := [qi a, qi b]) (st := []) C lm_RX4_91 m_X6_add mk_X6_add ms_X6_add (c_X6_add _ L.cu (by decide) hC.2.2.2.2.1 (by omega)) L.cu.a (t := 6) rfl rfl rfl rfl (by decide) (Nat.le_of_ble_eq_true rfl) (by decide) dX4_addCut_21 (fun z21 h_2 rz21 p21 => ?_)
    refine Aj.iret C dX4_addCut_24 (by rw [hmc]; exact ⟨rfl, Nat.le_of_ble_eq_true rfl⟩) ⟨_, rfl, rfl, ?_⟩
    have e3 : (barP s a ∧ barP s b) ∧ a ≤ b := by rcases pe with ⟨e1, e2⟩ | ⟨e1, e2, e3⟩ | ⟨e1, e2, e3⟩ <;> first | (exfalso; omega) | exact ⟨e1, e2⟩
    rcases p21 with ⟨q1, q2, q3⟩ | ⟨q1, q2, q3⟩
    · rw [← q3]
      exact ⟨s, Or.inr (Or.inr (Or.inl ⟨e3.1, e3.2, by omega, q2, rfl⟩)), hC, FR.rf⟩
    · obtain ⟨k1, k2⟩ := hC.addC g q1 q3
      exact ⟨_, Or.inr (Or.inr (Or.inr ⟨e3.1, e3.2, q1, q2, rfl⟩)), k1, k2⟩
  · refine Aj.iload_n C 0 dX4_addCut_11 rfl ?_
    refine Aj.goto (tgt := 24) C dX4_addCut_12 (by decide) ?_
    refine Aj.iret C dX4_addCut_24 (by rw [hmc]; exact ⟨rfl, Nat.le_of_ble_eq_true rfl⟩) ⟨_, rfl, rfl, ?_⟩
    rcases pe with ⟨e1, e2⟩ | ⟨e1, e2, e3⟩ | ⟨e1, e2, e3⟩
    · exact ⟨s, Or.inl ⟨e1, e2, rfl⟩, hC, FR.rf⟩
    · exact ⟨s, Or.inr (Or.inl ⟨e1, e2, e3, rfl⟩), hC, FR.rf⟩
    · exact absurd e3 (by omega)

set_option maxHeartbeats 4000000 in
set_option maxRecDepth 100000 in
theorem c_X4_addBlackout (l : Launch) {G : qG} {n : Int} {r h : qH} {a b : Int} {p : Int} {s : Int → Int} (L : LScore G n r p) (hC : CScore h p s) (g : SG s) : q_Cm l G yX4_addBlackout cX4_addBlackout 3 (some .int) 2 42 [qa p, qi a, qi b] n r h (q_Pi r (fun z h' => ∃ s2, O_black s a b z s2 ∧ CScore h' p s2 ∧ FR p 17 h h')) 0 0 := by
  refine q_enter (al := [(0, qa p), (1, qi a), (2, qi b)]) m_X4_addBlackout rfl (Nat.le_of_ble_eq_true rfl) ?_
  intro hok X C hmc hxl hin
  have gn := g.n
  refine Aj.iload_n C 1 dX4_addBlackout_0 rfl ?_
  refine Aj.if_lt (tgt := 16) C dX4_addBlackout_1 (by decide) (fun c1 => ?_) (fun c1 => ?_)
  · refine Aj.bipush C dX4_addBlackout_16 (by decide) (by decide) ?_
    refine Aj.iret C dX4_addBlackout_18 (by rw [hmc]; exact ⟨rfl, Nat.le_of_ble_eq_true rfl⟩) ⟨_, rfl, rfl, ?_⟩
    exact ⟨s, Or.inl ⟨by omega, rfl, rfl⟩, hC, FR.rf⟩
  · refine Aj.iload_n C 2 dX4_addBlackout_4 rfl ?_
    refine Aj.iload_n C 1 dX4_addBlackout_5 rfl ?_
    refine Aj.icmp_lt (tgt := 16) C dX4_addBlackout_6 (by decide) (fun c6 => ?_) (fun c6 => ?_)
    · refine Aj.bipush C dX4_addBlackout_16 (by decide) (by decide) ?_
      refine Aj.iret C dX4_addBlackout_18 (by rw [hmc]; exact ⟨rfl, Nat.le_of_ble_eq_true rfl⟩) ⟨_, rfl, rfl, ?_⟩
      exact ⟨s, Or.inl ⟨by omega, rfl, rfl⟩, hC, FR.rf⟩
    · refine Aj.iload_n C 2 dX4_addBlackout_9 rfl ?_
      refine Aj.sipush C dX4_addBlackout_10 (by decide) (by decide) ?_
      refine Aj.icmp_le (tgt := 19) C dX4_addBlackout_13 (by decide) (fun c13 => ?_) (fun c13 => ?_)
      · refine Aj.aload_n C 0 dX4_addBlackout_19 rfl ?_
        refine Aj.getR C lf_RX4_37 rfl L.a L.r6 dX4_addBlackout_20 ?_
        refine Aj.iload_n C 1 dX4_addBlackout_23 rfl ?_
        refine Aj.iload_n C 2 dX4_addBlackout_24 rfl ?_
        refine Aj.callVi (As := [qi a, qi b]) (st := []) C lm_RX4_91 m_X6_add mk_X6_add ms_X6_add (c_X6_add _ L.bl (by decide) hC.2.2.2.2.2.1 (by omega)) L.bl.a (t := 6) rfl rfl rfl rfl (by decide) (Nat.le_of_ble_eq_true rfl) (by decide) dX4_addBlackout_25 (fun z25 h_1 rz25 p25 => ?_)
        refine Aj.iret C dX4_addBlackout_28 (by rw [hmc]; exact ⟨rfl, Nat.le_of_ble_eq_true rfl⟩) ⟨_, rfl, rfl, ?_⟩
        rcases p25 with ⟨q1, q2, q3⟩ | ⟨q1, q2, q3⟩
        · rw [← q3]
          exact ⟨s, Or.inr (Or.inl ⟨by omega, by omega, q2, rfl⟩), hC, FR.rf⟩
        · obtain ⟨k1, k2⟩ := hC.addB g q1 q3
          exact ⟨_, Or.inr (Or.inr ⟨by omega, q1, q2, rfl⟩), k1, k2⟩
      · refine Aj.bipush C dX4_addBlackout_16 (by decide) (by decide) ?_
        refine Aj.iret C dX4_addBlackout_18 (by rw [hmc]; exact ⟨rfl, Nat.le_of_ble_eq_true rfl⟩) ⟨_, rfl, rfl, ?_⟩
        exact ⟨s, Or.inl ⟨by omega, rfl, rfl⟩, hC, FR.rf⟩

set_option maxHeartbeats 4000000 in
set_option maxRecDepth 100000 in
theorem c_X4_removeSpan (l : Launch) {G : qG} {n : Int} {r h : qH} {a b : Int} {p : Int} {s : Int → Int} (L : LScore G n r p) (hC : CScore h p s) (g : SG s) : q_Cm l G yX4_removeSpan cX4_removeSpan 3 (some .int) 1 22 [qa p, qi a, qi b] n r h (q_Pi r (fun z h' => ∃ s2, O_undoSpan s a b z s2 ∧ CScore h' p s2 ∧ FR p 17 h h')) 0 0 := by
  refine q_enter (al := [(0, qa p), (1, qi a), (2, qi b)]) m_X4_removeSpan rfl (Nat.le_of_ble_eq_true rfl) ?_
  intro hok X C hmc hxl hin
  have gn := g.n
  refine Aj.iload_n C 1 dX4_removeSpan_0 rfl ?_
  rcases (show a = 0 ∨ a = 1 ∨ a = 2 ∨ (a < 0 ∨ 2 < a) by omega) with c1 | c1 | c1 | c1
  · refine Aj.tableIn C (27) dX4_removeSpan_1 (by omega) (by rw [c1]; rfl) (tgt := 28) (by decide) ?_
    refine Aj.aload_n C 0 dX4_removeSpan_28 rfl ?_
    refine Aj.getR C lf_RX4_30 rfl L.a L.r4 dX4_removeSpan_29 ?_
    refine Aj.iload_n C 2 dX4_removeSpan_32 rfl ?_
    refine Aj.callVi (As := [qi b]) (st := []) C lm_RX4_94 m_X6_remove mk_X6_remove ms_X6_remove (c_X6_remove _ L.re (by decide) hC.2.2.2.1 (by omega)) L.re.a (t := 6) rfl rfl rfl rfl (by decide) (Nat.le_of_ble_eq_true rfl) (by decide) dX4_removeSpan_33 (fun z33 h_1 rz33 p33 => ?_)
    refine Aj.iret C dX4_removeSpan_36 (by rw [hmc]; exact ⟨rfl, Nat.le_of_ble_eq_true rfl⟩) ⟨_, rfl, rfl, ?_⟩
    obtain rfl : a = 0 := by omega
    rcases p33 with ⟨q1, q2, q3⟩ | ⟨q1, q2, q3⟩
    · rw [← q3]
      exact ⟨s, Or.inr (Or.inl ⟨by omega, q1, q2, rfl⟩), hC, FR.rf⟩
    · obtain ⟨k1, k2⟩ := hC.rm g (w := 0) (q := p + 3) (by omega) q1 q3
      exact ⟨_, Or.inr (Or.inr ⟨by omega, q1, q2, rfl⟩), k1, k2⟩
  · refine Aj.tableIn C (36) dX4_removeSpan_1 (by omega) (by rw [c1]; rfl) (tgt := 37) (by decide) ?_
    refine Aj.aload_n C 0 dX4_removeSpan_37 rfl ?_
    refine Aj.getR C lf_RX4_34 rfl L.a L.r5 dX4_removeSpan_38 ?_
    refine Aj.iload_n C 2 dX4_removeSpan_41 rfl ?_
    refine Aj.callVi (As := [qi b]) (st := []) C lm_RX4_94 m_X6_remove mk_X6_remove ms_X6_remove (c_X6_remove _ L.cu (by decide) hC.2.2.2.2.1 (by omega)) L.cu.a (t := 6) rfl rfl rfl rfl (by decide) (Nat.le_of_ble_eq_true rfl) (by decide) dX4_removeSpan_42 (fun z42 h_2 rz42 p42 => ?_)
    refine Aj.iret C dX4_removeSpan_45 (by rw [hmc]; exact ⟨rfl, Nat.le_of_ble_eq_true rfl⟩) ⟨_, rfl, rfl, ?_⟩
    obtain rfl : a = 1 := by omega
    rcases p42 with ⟨q1, q2, q3⟩ | ⟨q1, q2, q3⟩
    · rw [← q3]
      exact ⟨s, Or.inr (Or.inl ⟨by omega, q1, q2, rfl⟩), hC, FR.rf⟩
    · obtain ⟨k1, k2⟩ := hC.rm g (w := 1) (q := p + 6) (by omega) q1 q3
      exact ⟨_, Or.inr (Or.inr ⟨by omega, q1, q2, rfl⟩), k1, k2⟩
  · refine Aj.tableIn C (45) dX4_removeSpan_1 (by omega) (by rw [c1]; rfl) (tgt := 46) (by decide) ?_
    refine Aj.aload_n C 0 dX4_removeSpan_46 rfl ?_
    refine Aj.getR C lf_RX4_37 rfl L.a L.r6 dX4_removeSpan_47 ?_
    refine Aj.iload_n C 2 dX4_removeSpan_50 rfl ?_
    refine Aj.callVi (As := [qi b]) (st := []) C lm_RX4_94 m_X6_remove mk_X6_remove ms_X6_remove (c_X6_remove _ L.bl (by decide) hC.2.2.2.2.2.1 (by omega)) L.bl.a (t := 6) rfl rfl rfl rfl (by decide) (Nat.le_of_ble_eq_true rfl) (by decide) dX4_removeSpan_51 (fun z51 h_3 rz51 p51 => ?_)
    refine Aj.iret C dX4_removeSpan_54 (by rw [hmc]; exact ⟨rfl, Nat.le_of_ble_eq_true rfl⟩) ⟨_, rfl, rfl, ?_⟩
    obtain rfl : a = 2 := by omega
    rcases p51 with ⟨q1, q2, q3⟩ | ⟨q1, q2, q3⟩
    · rw [← q3]
      exact ⟨s, Or.inr (Or.inl ⟨by omega, q1, q2, rfl⟩), hC, FR.rf⟩
    · obtain ⟨k1, k2⟩ := hC.rm g (w := 2) (q := p + 9) (by omega) q1 q3
      exact ⟨_, Or.inr (Or.inr ⟨by omega, q1, q2, rfl⟩), k1, k2⟩
  · refine Aj.tableOut (tgt := 55) C dX4_removeSpan_1 c1 (by decide) ?_
    refine Aj.bipush C dX4_removeSpan_55 (by decide) (by decide) ?_
    refine Aj.iret C dX4_removeSpan_57 (by rw [hmc]; exact ⟨rfl, Nat.le_of_ble_eq_true rfl⟩) ⟨_, rfl, rfl, ?_⟩
    exact ⟨s, Or.inl ⟨by omega, rfl, rfl⟩, hC, FR.rf⟩

set_option maxHeartbeats 4000000 in
set_option maxRecDepth 100000 in
theorem c_X4_addTitle (l : Launch) {G : qG} {n : Int} {r h : qH} {a b c d : Int} {p : Int} {s : Int → Int} (L : LScore G n r p) (hC : CScore h p s) (g : SG s) : q_Cm l G yX4_addTitle cX4_addTitle 6 (some .int) 1 24 [qa p, qi a, qi b, qi c, qi d] n r h (q_Pi r (fun z h' => ∃ s2, O_title s a b c d z s2 ∧ CScore h' p s2 ∧ FR p 17 h h')) 0 0 := by
  refine q_enter (al := [(0, qa p), (1, qi a), (2, qi b), (3, qi c), (4, qi d)]) m_X4_addTitle rfl (Nat.le_of_ble_eq_true rfl) ?_
  intro hok X C hmc hxl hin
  have gn := g.n
  refine Aj.aload_n C 0 dX4_addTitle_0 rfl ?_
  refine Aj.iload_n C 2 dX4_addTitle_1 rfl ?_
  refine Aj.callVi (As := [qi b]) (st := []) C lm_RX4_60 m_X4_hasBar mk_X4_hasBar ms_X4_hasBar (c_X4_hasBar _ L hC g) L.a (t := 4) rfl rfl rfl rfl (by decide) (Nat.le_of_ble_eq_true rfl) (by decide) dX4_addTitle_2 (fun z2 h_1 rz2 p2 => ?_)
  obtain ⟨rfl, pz, pe⟩ := p2
  refine Aj.if_ne (tgt := 10) C dX4_addTitle_5 (by decide) (fun c5 => ?_) (fun c5 => ?_)
  · refine Aj.iload_n C 1 dX4_addTitle_10 rfl ?_
    refine Aj.iconst C dX4_addTitle_11 (by decide) ?_
    refine Aj.iconst C dX4_addTitle_12 (by decide) ?_
    refine Aj.callNi (As := [qi a, qi 0, qi 2]) (st := []) C ln_RX4_68 m_X8_isWithin mk_X8_isWithin (c_X8_isWithin _) rfl rfl (by decide) (Nat.le_of_ble_eq_true rfl) (by decide) dX4_addTitle_13 (fun z13 h_2 rz13 p13 => ?_)
    obtain ⟨rfl, qz1, qe1⟩ := p13
    refine Aj.if_eq (tgt := 44) C dX4_addTitle_16 (by decide) (fun c16 => ?_) (fun c16 => ?_)
    · refine Aj.iconst C dX4_addTitle_44 (by decide) ?_
      refine Aj.istore (al2 := [(5, qi 0), (0, qa p), (1, qi a), (2, qi b), (3, qi c), (4, qi d)]) C dX4_addTitle_45 (by decide) rfl ?_
      refine Aj.iload C 0 dX4_addTitle_47 rfl ?_
      refine Aj.if_eq (tgt := 67) C dX4_addTitle_49 (by decide) (fun c49 => ?_) (fun c49 => ?_)
      · refine Aj.bipush C dX4_addTitle_67 (by decide) (by decide) ?_
        refine Aj.iret C dX4_addTitle_69 (by rw [hmc]; exact ⟨rfl, Nat.le_of_ble_eq_true rfl⟩) ⟨_, rfl, rfl, ?_⟩
        first
        | exact ⟨s, Or.inl ⟨fun q => by have := pe.mpr q; omega, rfl, rfl⟩, hC, FR.rf⟩
        | exact ⟨s, Or.inr (Or.inl ⟨pe.mp (by omega), fun q => by have := qe1.mpr q.1; omega, rfl, rfl⟩), hC, FR.rf⟩
        | exact ⟨s, Or.inr (Or.inl ⟨pe.mp (by omega), fun q => by have := qe2.mpr q.2.1; omega, rfl, rfl⟩), hC, FR.rf⟩
        | exact ⟨s, Or.inr (Or.inl ⟨pe.mp (by omega), fun q => by have := qe3.mpr q.2.2; omega, rfl, rfl⟩), hC, FR.rf⟩
      · exact absurd c49 (by decide)
    · refine Aj.iload_n C 3 dX4_addTitle_19 rfl ?_
      refine Aj.iconst C dX4_addTitle_20 (by decide) ?_
      refine Aj.bipush C dX4_addTitle_21 (by decide) (by decide) ?_
      refine Aj.callNi (As := [qi c, qi 1, qi 20]) (st := []) C ln_RX4_68 m_X8_isWithin mk_X8_isWithin (c_X8_isWithin _) rfl rfl (by decide) (Nat.le_of_ble_eq_true rfl) (by decide) dX4_addTitle_23 (fun z23 h_3 rz23 p23 => ?_)
      obtain ⟨rfl, qz2, qe2⟩ := p23
      refine Aj.if_eq (tgt := 44) C dX4_addTitle_26 (by decide) (fun c26 => ?_) (fun c26 => ?_)
      · refine Aj.iconst C dX4_addTitle_44 (by decide) ?_
        refine Aj.istore (al2 := [(5, qi 0), (0, qa p), (1, qi a), (2, qi b), (3, qi c), (4, qi d)]) C dX4_addTitle_45 (by decide) rfl ?_
        refine Aj.iload C 0 dX4_addTitle_47 rfl ?_
        refine Aj.if_eq (tgt := 67) C dX4_addTitle_49 (by decide) (fun c49 => ?_) (fun c49 => ?_)
        · refine Aj.bipush C dX4_addTitle_67 (by decide) (by decide) ?_
          refine Aj.iret C dX4_addTitle_69 (by rw [hmc]; exact ⟨rfl, Nat.le_of_ble_eq_true rfl⟩) ⟨_, rfl, rfl, ?_⟩
          first
          | exact ⟨s, Or.inl ⟨fun q => by have := pe.mpr q; omega, rfl, rfl⟩, hC, FR.rf⟩
          | exact ⟨s, Or.inr (Or.inl ⟨pe.mp (by omega), fun q => by have := qe1.mpr q.1; omega, rfl, rfl⟩), hC, FR.rf⟩
          | exact ⟨s, Or.inr (Or.inl ⟨pe.mp (by omega), fun q => by have := qe2.mpr q.2.1; omega, rfl, rfl⟩), hC, FR.rf⟩
          | exact ⟨s, Or.inr (Or.inl ⟨pe.mp (by omega), fun q => by have := qe3.mpr q.2.2; omega, rfl, rfl⟩), hC, FR.rf⟩
        · exact absurd c49 (by decide)
      · refine Aj.iload C 4 dX4_addTitle_29 rfl ?_
        refine Aj.iconst C dX4_addTitle_31 (by decide) ?_
        refine Aj.bipush C dX4_addTitle_32 (by decide) (by decide) ?_
        refine Aj.callNi (As := [qi d, qi 1, qi 80]) (st := []) C ln_RX4_68 m_X8_isWithin mk_X8_isWithin (c_X8_isWithin _) rfl rfl (by decide) (Nat.le_of_ble_eq_true rfl) (by decide) dX4_addTitle_34 (fun z34 h_4 rz34 p34 => ?_)
        obtain ⟨rfl, qz3, qe3⟩ := p34
        refine Aj.if_eq (tgt := 44) C dX4_addTitle_37 (by decide) (fun c37 => ?_) (fun c37 => ?_)
        · refine Aj.iconst C dX4_addTitle_44 (by decide) ?_
          refine Aj.istore (al2 := [(5, qi 0), (0, qa p), (1, qi a), (2, qi b), (3, qi c), (4, qi d)]) C dX4_addTitle_45 (by decide) rfl ?_
          refine Aj.iload C 0 dX4_addTitle_47 rfl ?_
          refine Aj.if_eq (tgt := 67) C dX4_addTitle_49 (by decide) (fun c49 => ?_) (fun c49 => ?_)
          · refine Aj.bipush C dX4_addTitle_67 (by decide) (by decide) ?_
            refine Aj.iret C dX4_addTitle_69 (by rw [hmc]; exact ⟨rfl, Nat.le_of_ble_eq_true rfl⟩) ⟨_, rfl, rfl, ?_⟩
            first
            | exact ⟨s, Or.inl ⟨fun q => by have := pe.mpr q; omega, rfl, rfl⟩, hC, FR.rf⟩
            | exact ⟨s, Or.inr (Or.inl ⟨pe.mp (by omega), fun q => by have := qe1.mpr q.1; omega, rfl, rfl⟩), hC, FR.rf⟩
            | exact ⟨s, Or.inr (Or.inl ⟨pe.mp (by omega), fun q => by have := qe2.mpr q.2.1; omega, rfl, rfl⟩), hC, FR.rf⟩
            | exact ⟨s, Or.inr (Or.inl ⟨pe.mp (by omega), fun q => by have := qe3.mpr q.2.2; omega, rfl, rfl⟩), hC, FR.rf⟩
          · exact absurd c49 (by decide)
        · refine Aj.iconst C dX4_addTitle_40 (by decide) ?_
          refine Aj.goto (tgt := 45) C dX4_addTitle_41 (by decide) ?_
          refine Aj.istore (al2 := [(5, qi 1), (0, qa p), (1, qi a), (2, qi b), (3, qi c), (4, qi d)]) C dX4_addTitle_45 (by decide) rfl ?_
          refine Aj.iload C 0 dX4_addTitle_47 rfl ?_
          refine Aj.if_eq (tgt := 67) C dX4_addTitle_49 (by decide) (fun c49 => ?_) (fun c49 => ?_)
          · exact absurd c49 (by decide)
          · refine Aj.aload_n C 1 dX4_addTitle_52 rfl ?_
            refine Aj.getR C lf_RX4_43 rfl L.a L.r7 dX4_addTitle_53 ?_
            refine Aj.iload_n C 2 dX4_addTitle_56 rfl ?_
            refine Aj.iload_n C 3 dX4_addTitle_57 rfl ?_
            refine Aj.iload_n C 4 dX4_addTitle_58 rfl ?_
            refine Aj.iload C 5 dX4_addTitle_59 rfl ?_
            refine Aj.callVi (As := [qi a, qi b, qi c, qi d]) (st := []) C lm_RX4_97 m_X7_add mk_X7_add ms_X7_add (c_X7_add _ L.ti hC.2.2.2.2.2.2.1 (by omega)) L.ti.a (t := 7) rfl rfl rfl rfl (by decide) (Nat.le_of_ble_eq_true rfl) (by decide) dX4_addTitle_61 (fun z61 h_5 rz61 p61 => ?_)
            refine Aj.goto (tgt := 69) C dX4_addTitle_64 (by decide) ?_
            refine Aj.iret C dX4_addTitle_69 (by rw [hmc]; exact ⟨rfl, Nat.le_of_ble_eq_true rfl⟩) ⟨_, rfl, rfl, ?_⟩
            have ok : okT a c d := ⟨qe1.mp (by omega), qe2.mp (by omega), qe3.mp (by omega)⟩
            rcases p61 with ⟨q1, q2, q3⟩ | ⟨q1, q2, q3⟩
            · rw [← q3]
              exact ⟨s, Or.inr (Or.inr (Or.inl ⟨pe.mp (by omega), ok, by omega, q2, rfl⟩)), hC, FR.rf⟩
            · obtain ⟨k1, k2⟩ := hC.addT g q1 q3
              exact ⟨_, Or.inr (Or.inr (Or.inr ⟨pe.mp (by omega), ok, q1, q2, rfl⟩)), k1, k2⟩
  · refine Aj.iconst C dX4_addTitle_8 (by decide) ?_
    refine Aj.iret C dX4_addTitle_9 (by rw [hmc]; exact ⟨rfl, Nat.le_of_ble_eq_true rfl⟩) ⟨_, rfl, rfl, ?_⟩
    first
    | exact ⟨s, Or.inl ⟨fun q => by have := pe.mpr q; omega, rfl, rfl⟩, hC, FR.rf⟩
    | exact ⟨s, Or.inr (Or.inl ⟨pe.mp (by omega), fun q => by have := qe1.mpr q.1; omega, rfl, rfl⟩), hC, FR.rf⟩
    | exact ⟨s, Or.inr (Or.inl ⟨pe.mp (by omega), fun q => by have := qe2.mpr q.2.1; omega, rfl, rfl⟩), hC, FR.rf⟩
    | exact ⟨s, Or.inr (Or.inl ⟨pe.mp (by omega), fun q => by have := qe3.mpr q.2.2; omega, rfl, rfl⟩), hC, FR.rf⟩

set_option maxHeartbeats 4000000 in
set_option maxRecDepth 100000 in
theorem c_X4_removeTitle (l : Launch) {G : qG} {n : Int} {r h : qH} {a : Int} {p : Int} {s : Int → Int} (L : LScore G n r p) (hC : CScore h p s) (g : SG s) : q_Cm l G yX4_removeTitle cX4_removeTitle 2 (some .int) 2 43 [qa p, qi a] n r h (q_Pi r (fun z h' => ∃ s2, O_drop s a z s2 ∧ CScore h' p s2 ∧ FR p 17 h h')) 0 0 := by
  refine q_enter (al := [(0, qa p), (1, qi a)]) m_X4_removeTitle rfl (Nat.le_of_ble_eq_true rfl) ?_
  intro hok X C hmc hxl hin
  have gn := g.n
  refine Aj.aload_n C 0 dX4_removeTitle_0 rfl ?_
  refine Aj.getR C lf_RX4_43 rfl L.a L.r7 dX4_removeTitle_1 ?_
  refine Aj.iload_n C 1 dX4_removeTitle_4 rfl ?_
  refine Aj.callVi (As := [qi a]) (st := []) C lm_RX4_100 m_X7_remove mk_X7_remove ms_X7_remove (c_X7_remove _ L.ti hC.2.2.2.2.2.2.1 (by omega)) L.ti.a (t := 7) rfl rfl rfl rfl (by decide) (Nat.le_of_ble_eq_true rfl) (by decide) dX4_removeTitle_5 (fun z5 h_1 rz5 p5 => ?_)
  refine Aj.iret C dX4_removeTitle_8 (by rw [hmc]; exact ⟨rfl, Nat.le_of_ble_eq_true rfl⟩) ⟨_, rfl, rfl, ?_⟩
  rcases p5 with ⟨q1, q2, q3⟩ | ⟨q1, q2, q3⟩
  · rw [← q3]
    exact ⟨s, Or.inl ⟨q1, q2, rfl⟩, hC, FR.rf⟩
  · obtain ⟨k1, k2⟩ := hC.rmT g q1 q3
    exact ⟨_, Or.inr ⟨q1, q2, rfl⟩, k1, k2⟩

set_option maxHeartbeats 4000000 in
set_option maxRecDepth 100000 in
theorem c_X4_copyFrom (l : Launch) {G : qG} {n : Int} {r h : qH} {p q : Int} {s : Int → Int} (L : LScore G n r p) (K : LScore G n r q) (hC : CScore h q s) (g : SG s) (hd : p + 17 ≤ q ∨ q + 17 ≤ p) : q_Cm l G yX4_copyFrom cX4_copyFrom 2 none 2 50 [qa p, qa q] n r h (q_Pv r (fun h' => CScore h' p s ∧ FR p 17 h h')) 0 0 := by
  refine q_enter (al := [(0, qa p), (1, qa q)]) m_X4_copyFrom rfl (Nat.le_of_ble_eq_true rfl) ?_
  intro hok X C hmc hxl hin
  have gn := g.n
  refine Aj.aload_n C 0 dX4_copyFrom_0 rfl ?_
  refine Aj.aload_n C 1 dX4_copyFrom_1 rfl ?_
  refine Aj.getIe (z := s 0) C lf_RX4_9 rfl K.a dX4_copyFrom_2 hC.1 ?_
  refine Aj.putI C lf_RX4_9 L.a dX4_copyFrom_5 (fun h_1 eh_1 => ?_)
  refine Aj.aload_n C 0 dX4_copyFrom_8 rfl ?_
  refine Aj.aload_n C 1 dX4_copyFrom_9 rfl ?_
  refine Aj.getIe (z := h_1 q 1) C lf_RX4_15 rfl K.a dX4_copyFrom_10 rfl ?_
  refine Aj.putI C lf_RX4_15 L.a dX4_copyFrom_13 (fun h_2 eh_2 => ?_)
  refine Aj.aload_n C 1 dX4_copyFrom_16 rfl ?_
  refine Aj.getR C lf_RX4_18 rfl K.a K.r2 dX4_copyFrom_17 ?_
  refine Aj.iconst C dX4_copyFrom_20 (by decide) ?_
  refine Aj.aload_n C 0 dX4_copyFrom_21 rfl ?_
  refine Aj.getR C lf_RX4_18 rfl L.a L.r2 dX4_copyFrom_22 ?_
  refine Aj.iconst C dX4_copyFrom_25 (by decide) ?_
  refine Aj.bipush C dX4_copyFrom_26 (by decide) (by decide) ?_
  refine Aj.acopy C lm_RX4_47 L.a1 K.a1 (by omega) (by omega) (by omega) (by omega) (by omega) ⟨Nat.le_of_ble_eq_true rfl, Nat.le_of_ble_eq_true rfl⟩ dX4_copyFrom_28 (fun h_3 eh_3 => ?_)
  refine Aj.aload_n C 1 dX4_copyFrom_31 rfl ?_
  refine Aj.getR C lf_RX4_22 rfl K.a K.r3 dX4_copyFrom_32 ?_
  refine Aj.iconst C dX4_copyFrom_35 (by decide) ?_
  refine Aj.aload_n C 0 dX4_copyFrom_36 rfl ?_
  refine Aj.getR C lf_RX4_22 rfl L.a L.r3 dX4_copyFrom_37 ?_
  refine Aj.iconst C dX4_copyFrom_40 (by decide) ?_
  refine Aj.bipush C dX4_copyFrom_41 (by decide) (by decide) ?_
  refine Aj.acopy C lm_RX4_47 L.a2 K.a2 (by omega) (by omega) (by omega) (by omega) (by omega) ⟨Nat.le_of_ble_eq_true rfl, Nat.le_of_ble_eq_true rfl⟩ dX4_copyFrom_43 (fun h_4 eh_4 => ?_)
  refine Aj.aload_n C 0 dX4_copyFrom_46 rfl ?_
  refine Aj.getR C lf_RX4_30 rfl L.a L.r4 dX4_copyFrom_47 ?_
  refine Aj.aload_n C 1 dX4_copyFrom_50 rfl ?_
  refine Aj.getR C lf_RX4_30 rfl K.a K.r4 dX4_copyFrom_51 ?_
  have hF0 : FR p 3 h h_4 := fun x y z => by rw [eh_4, hcpy_ap, if_neg (by omega), eh_3, hcpy_ap, if_neg (by omega), eh_2, hset_nea _ _ _ (by omega), eh_1, hset_nea _ _ _ (by omega)]
  have hQ0 : CScore h_4 q s := hC.fr (fun x y z1 z2 => hF0 x y (by omega))
  have hA : h_4 p 0 = s 0 ∧ h_4 p 1 = s 1 ∧ ∀ k, 0 ≤ k → k < 60 → h_4 (p + 1) k = s (6 + k) ∧ h_4 (p + 2) k = s (66 + k) := by
    refine ⟨?_, ?_, fun k k1 k2 => ⟨?_, ?_⟩⟩
    · rw [eh_4, hcpy_ap, if_neg (by omega), eh_3, hcpy_ap, if_neg (by omega), eh_2, hset_neb _ _ _ (by decide), eh_1, hset_same]
    · rw [eh_4, hcpy_ap, if_neg (by omega), eh_3, hcpy_ap, if_neg (by omega), eh_2, hset_same, eh_1, hset_nea _ _ _ (by omega)]
      exact hC.2.1
    · rw [eh_4, hcpy_ap, if_neg (by omega), eh_3, hcpy_ap, if_pos (by omega), eh_2, hset_nea _ _ _ (by omega), eh_1, hset_nea _ _ _ (by omega), show (0 : Int) + (k - 0) = k by omega]
      exact (hC.2.2.1 k k1 k2).1
    · rw [eh_4, hcpy_ap, if_pos (by omega), eh_3, hcpy_ap, if_neg (by omega), eh_2, hset_nea _ _ _ (by omega), eh_1, hset_nea _ _ _ (by omega), show (0 : Int) + (k - 0) = k by omega]
      exact (hC.2.2.1 k k1 k2).2
  refine Aj.callVv (As := [qa (q + 3)]) (st := []) C lm_RX4_53 m_X6_copyFrom mk_X6_copyFrom ms_X6_copyFrom (c_X6_copyFrom _ L.re K.re (by decide) hQ0.2.2.2.1.1 (by omega) (by omega)) L.re.a (t := 6) rfl rfl rfl rfl (by decide) (Nat.le_of_ble_eq_true rfl) (by decide) dX4_copyFrom_54 (fun h_5 p54 => ?_)
  obtain ⟨hS0, hF1⟩ := hQ0.2.2.2.1.cp (by omega) p54
  have hQ1 : CScore h_5 q s := hQ0.fr (fun x y z1 z2 => hF1 x y (by omega))
  refine Aj.aload_n C 0 dX4_copyFrom_57 rfl ?_
  refine Aj.getR C lf_RX4_34 rfl L.a L.r5 dX4_copyFrom_58 ?_
  refine Aj.aload_n C 1 dX4_copyFrom_61 rfl ?_
  refine Aj.getR C lf_RX4_34 rfl K.a K.r5 dX4_copyFrom_62 ?_
  refine Aj.callVv (As := [qa (q + 6)]) (st := []) C lm_RX4_53 m_X6_copyFrom mk_X6_copyFrom ms_X6_copyFrom (c_X6_copyFrom _ L.cu K.cu (by decide) hQ1.2.2.2.2.1.1 (by omega) (by omega)) L.cu.a (t := 6) rfl rfl rfl rfl (by decide) (Nat.le_of_ble_eq_true rfl) (by decide) dX4_copyFrom_65 (fun h_6 p65 => ?_)
  obtain ⟨hS1, hF2⟩ := hQ1.2.2.2.2.1.cp (by omega) p65
  have hQ2 : CScore h_6 q s := hQ1.fr (fun x y z1 z2 => hF2 x y (by omega))
  refine Aj.aload_n C 0 dX4_copyFrom_68 rfl ?_
  refine Aj.getR C lf_RX4_37 rfl L.a L.r6 dX4_copyFrom_69 ?_
  refine Aj.aload_n C 1 dX4_copyFrom_72 rfl ?_
  refine Aj.getR C lf_RX4_37 rfl K.a K.r6 dX4_copyFrom_73 ?_
  refine Aj.callVv (As := [qa (q + 9)]) (st := []) C lm_RX4_53 m_X6_copyFrom mk_X6_copyFrom ms_X6_copyFrom (c_X6_copyFrom _ L.bl K.bl (by decide) hQ2.2.2.2.2.2.1.1 (by omega) (by omega)) L.bl.a (t := 6) rfl rfl rfl rfl (by decide) (Nat.le_of_ble_eq_true rfl) (by decide) dX4_copyFrom_76 (fun h_7 p76 => ?_)
  obtain ⟨hS2, hF3⟩ := hQ2.2.2.2.2.2.1.cp (by omega) p76
  have hQ3 : CScore h_7 q s := hQ2.fr (fun x y z1 z2 => hF3 x y (by omega))
  refine Aj.aload_n C 0 dX4_copyFrom_79 rfl ?_
  refine Aj.getR C lf_RX4_43 rfl L.a L.r7 dX4_copyFrom_80 ?_
  refine Aj.aload_n C 1 dX4_copyFrom_83 rfl ?_
  refine Aj.getR C lf_RX4_43 rfl K.a K.r7 dX4_copyFrom_84 ?_
  refine Aj.callVv (As := [qa (q + 12)]) (st := []) C lm_RX4_57 m_X7_copyFrom mk_X7_copyFrom ms_X7_copyFrom (c_X7_copyFrom _ L.ti K.ti hQ3.2.2.2.2.2.2.1 (by omega)) L.ti.a (t := 7) rfl rfl rfl rfl (by decide) (Nat.le_of_ble_eq_true rfl) (by decide) dX4_copyFrom_87 (fun h_8 p87 => ?_)
  obtain ⟨hS3, hF4⟩ := hQ3.2.2.2.2.2.2.cp rfl (by omega) p87
  refine Aj.vret C dX4_copyFrom_90 (by rw [hmc]; exact ⟨rfl, Nat.le_of_ble_eq_true rfl⟩) ⟨rfl, rfl, ?_⟩
  have w1 : FR p 17 h h_4 := hF0.wd (by omega) (by omega)
  have w2 := (hF1.tr (p := p + 3) (k := 3) FR.rf)
  refine ⟨⟨?_, ?_, fun k k1 k2 => ?_, ?_, ?_, ?_, hS3⟩, fun x y z => ?_⟩
  · rw [hF4 _ _ (by omega), hF3 _ _ (by omega), hF2 _ _ (by omega), hF1 _ _ (by omega)]; exact hA.1
  · rw [hF4 _ _ (by omega), hF3 _ _ (by omega), hF2 _ _ (by omega), hF1 _ _ (by omega)]; exact hA.2.1
  · rw [hF4 _ _ (by omega), hF3 _ _ (by omega), hF2 _ _ (by omega), hF1 _ _ (by omega), hF4 _ _ (by omega), hF3 _ _ (by omega), hF2 _ _ (by omega), hF1 _ _ (by omega)]; exact hA.2.2 k k1 k2
  · exact hS0.to (fun x y z1 z2 => by rw [hF4 _ _ (by omega), hF3 _ _ (by omega), hF2 _ _ (by omega)]) rfl (fun _ _ _ => ⟨rfl, rfl⟩)
  · exact hS1.to (fun x y z1 z2 => by rw [hF4 _ _ (by omega), hF3 _ _ (by omega)]) rfl (fun _ _ _ => ⟨rfl, rfl⟩)
  · exact hS2.to (fun x y z1 z2 => by rw [hF4 _ _ (by omega)]) rfl (fun _ _ _ => ⟨rfl, rfl⟩)
  · rw [hF4 _ _ (by omega), hF3 _ _ (by omega), hF2 _ _ (by omega), hF1 _ _ (by omega), w1 _ _ (by omega)]
