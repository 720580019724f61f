set_option maxHeartbeats 4000000 in
set_option maxRecDepth 100000 in
theorem c_X3_start (l : Launch) {G : qG} {n : Int} {r h : qH} {x : Int} (K : LRead G n r x) : q_Cm l G yX3_start cX3_start 2 none 0 0 [qa x] n r h (q_Pv r (fun h' => CRead h' x D0 ∧ FR x 2 h h')) 0 0 := by
  refine q_enter (al := [(0, qa x)]) m_X3_start rfl (Nat.le_of_ble_eq_true rfl) ?_
  intro hok X C hmc hxl hin
  refine Aj.aload_n C 0 dX3_start_0 rfl ?_
  refine Aj.iconst C dX3_start_1 (by decide) ?_
  refine Aj.putI C lf_RX3_15 K.a dX3_start_2 (fun h_1 eh_1 => ?_)
  refine Aj.aload_n C 0 dX3_start_5 rfl ?_
  refine Aj.iconst C dX3_start_6 (by decide) ?_
  refine Aj.putI C lf_RX3_19 K.a dX3_start_7 (fun h_2 eh_2 => ?_)
  refine Aj.aload_n C 0 dX3_start_10 rfl ?_
  refine Aj.iconst C dX3_start_11 (by decide) ?_
  refine Aj.putI C lf_RX3_22 K.a dX3_start_12 (fun h_3 eh_3 => ?_)
  refine Aj.iconst C dX3_start_15 (by decide) ?_
  refine Aj.istore_n (al2 := [(1, qi 0), (0, qa x)]) C dX3_start_16 (by decide) rfl ?_
  refine Aj.pick (al2 := [(0, qa x), (1, qi 0)]) [1, 0] rfl ?_
  suffices L17 : ∀ (N : Nat) (i : Int) (hh : qH) , (0 ≤ i ∧ i ≤ 3 ∧ (hh x 1 = 0 ∧ hh x 2 = 0 ∧ hh x 3 = 0) ∧ (∀ k, 0 ≤ k → k < i → hh (x + 1) k = 0) ∧ FR x 2 h hh) → (3 - i).toNat < N → Aj G X (q_Pv r (fun h' => CRead h' x D0 ∧ FR x 2 h h')) cX3_start 2 (0, 0) n r hh 17 [(0, qa x), (1, qi i)] [] from L17 (_ + 1) 0 h_3 (⟨by omega, by omega, ⟨by rw [eh_3, eh_2, eh_1, hset_neb _ _ _ (by decide), hset_neb _ _ _ (by decide), hset_same], by rw [eh_3, eh_2, hset_neb _ _ _ (by decide), hset_same], by rw [eh_3, hset_same]⟩, fun k k1 k2 => by omega, fun a b w => by rw [eh_3, eh_2, eh_1, hset_nea _ _ _ (by omega), hset_nea _ _ _ (by omega), hset_nea _ _ _ (by omega)]⟩) (Nat.lt_succ_self _)
  intro N17
  induction N17 with
  | zero => intro i hh _ hN; exact absurd hN (Nat.not_lt_zero _)
  | succ N ih17 =>
    intro i hh hI17 hN17
    obtain ⟨hi0, hi1, hi2, hi3, hi4⟩ := hI17
    refine Aj.iload_n C 1 dX3_start_17 rfl ?_
    refine Aj.aload_n C 0 dX3_start_18 rfl ?_
    refine Aj.getR C lf_RX3_9 rfl K.a K.r0 dX3_start_19 ?_
    refine Aj.alen C K.a1 (Or.inl rfl) (by omega) dX3_start_22 ?_
    refine Aj.icmp_ge (tgt := 39) C dX3_start_23 (by decide) (fun c23 => ?_) (fun c23 => ?_)
    · refine Aj.vret C dX3_start_39 (by rw [hmc]; exact ⟨rfl, Nat.le_of_ble_eq_true rfl⟩) ⟨rfl, rfl, ?_⟩
      exact ⟨CRead.st (h := h) hi2 (fun k k1 k2 => hi3 k k1 (by omega)), hi4⟩
    · refine Aj.aload_n C 0 dX3_start_26 rfl ?_
      refine Aj.getR C lf_RX3_9 rfl K.a K.r0 dX3_start_27 ?_
      refine Aj.iload_n C 1 dX3_start_30 rfl ?_
      refine Aj.iconst C dX3_start_31 (by decide) ?_
      refine Aj.iast C K.a1 (by omega) dX3_start_32 (fun h_4 eh_4 => ?_)
      refine Aj.iinc (al2 := [(1, qi (i + 1)), (0, qa x)]) C 1 dX3_start_33 rfl (by decide) (by omega) rfl ?_
      refine Aj.goto (tgt := 17) C dX3_start_36 (by decide) ?_
      refine Aj.pick (al2 := [(0, qa x), (1, qi (i + 1))]) [1, 0] rfl ?_
      exact ih17 (i + 1) h_4 (⟨by omega, by omega, ⟨by rw [eh_4, hset_nea _ _ _ (by omega)]; exact hi2.1, by rw [eh_4, hset_nea _ _ _ (by omega)]; exact hi2.2.1, by rw [eh_4, hset_nea _ _ _ (by omega)]; exact hi2.2.2⟩, fun k k1 k2 => by
        rw [eh_4, hset_ap]
        by_cases e : k = i
        · rw [if_pos ⟨rfl, e⟩]
        · rw [if_neg (by omega)]; exact hi3 k k1 (by omega), fun a b w => by rw [eh_4, hset_nea _ _ _ (by omega)]; exact hi4 a b w⟩) (by omega)

set_option maxHeartbeats 4000000 in
set_option maxRecDepth 100000 in
theorem c_X3_signBehindNumber (l : Launch) {G : qG} {n : Int} {r h : qH} {x : Int} {D : qD} (K : LRead G n r x) (d1 : CRead h x D) (g : RG D) : q_Cm l G yX3_signBehindNumber cX3_signBehindNumber 1 (some .int) 0 0 [qa x] n r h (q_Pi r (fun z h' => h = h' ∧ z = sigR D)) 0 0 := by
  refine q_enter (al := [(0, qa x)]) m_X3_signBehindNumber rfl (Nat.le_of_ble_eq_true rfl) ?_
  intro hok X C hmc hxl hin
  obtain ⟨g1, g2, g3, g4, g5, g6, g7, g8, g9⟩ := id g
  have g10 := g4 D.2.1 (by omega) (by omega)
  refine Aj.aload_n C 0 dX3_signBehindNumber_0 rfl ?_
  refine Aj.getIe (z := D.1) C lf_RX3_15 rfl K.a dX3_signBehindNumber_1 d1.1 ?_
  rcases (show D.1 = 45 ∨ D.1 = 98 ∨ D.1 = 114 ∨ D.1 = 120 ∨ (D.1 ≠ 45 ∧ D.1 ≠ 98 ∧ D.1 ≠ 114 ∧ D.1 ≠ 120) by omega) with c4 | c4 | c4 | c4 | c4
  · refine Aj.lookup C (87) dX3_signBehindNumber_4 (by decide) (by rw [c4]; decide) (tgt := 91) (by decide) ?_
    refine Aj.bipush C dX3_signBehindNumber_91 (by decide) (by decide) ?_
    refine Aj.iret C dX3_signBehindNumber_93 (by rw [hmc]; exact ⟨rfl, Nat.le_of_ble_eq_true rfl⟩) ⟨_, rfl, rfl, ?_⟩
    refine ⟨rfl, ?_⟩
    unfold sigR
    repeat (first | rw [if_pos (by omega)] | rw [if_neg (by omega)])
  · refine Aj.lookup C (44) dX3_signBehindNumber_4 (by decide) (by rw [c4]; decide) (tgt := 48) (by decide) ?_
    refine Aj.aload_n C 0 dX3_signBehindNumber_48 rfl ?_
    refine Aj.getIe (z := D.2.1) C lf_RX3_19 rfl K.a dX3_signBehindNumber_49 d1.2.1 ?_
    refine Aj.if_ne (tgt := 60) C dX3_signBehindNumber_52 (by decide) (fun c52 => ?_) (fun c52 => ?_)
    · refine Aj.aload_n C 0 dX3_signBehindNumber_60 rfl ?_
      refine Aj.getIe (z := D.2.1) C lf_RX3_19 rfl K.a dX3_signBehindNumber_61 d1.2.1 ?_
      refine Aj.iconst C dX3_signBehindNumber_64 (by decide) ?_
      refine Aj.icmp_ne (tgt := 73) C dX3_signBehindNumber_65 (by decide) (fun c65 => ?_) (fun c65 => ?_)
      · refine Aj.bipush C dX3_signBehindNumber_73 (by decide) (by decide) ?_
        refine Aj.iret C dX3_signBehindNumber_75 (by rw [hmc]; exact ⟨rfl, Nat.le_of_ble_eq_true rfl⟩) ⟨_, rfl, rfl, ?_⟩
        refine ⟨rfl, ?_⟩
        unfold sigR
        repeat (first | rw [if_pos (by omega)] | rw [if_neg (by omega)])
      · refine Aj.bipush C dX3_signBehindNumber_68 (by decide) (by decide) ?_
        refine Aj.goto (tgt := 75) C dX3_signBehindNumber_70 (by decide) ?_
        refine Aj.iret C dX3_signBehindNumber_75 (by rw [hmc]; exact ⟨rfl, Nat.le_of_ble_eq_true rfl⟩) ⟨_, rfl, rfl, ?_⟩
        refine ⟨rfl, ?_⟩
        unfold sigR
        repeat (first | rw [if_pos (by omega)] | rw [if_neg (by omega)])
    · refine Aj.bipush C dX3_signBehindNumber_55 (by decide) (by decide) ?_
      refine Aj.goto (tgt := 75) C dX3_signBehindNumber_57 (by decide) ?_
      refine Aj.iret C dX3_signBehindNumber_75 (by rw [hmc]; exact ⟨rfl, Nat.le_of_ble_eq_true rfl⟩) ⟨_, rfl, rfl, ?_⟩
      refine ⟨rfl, ?_⟩
      unfold sigR
      repeat (first | rw [if_pos (by omega)] | rw [if_neg (by omega)])
  · refine Aj.lookup C (72) dX3_signBehindNumber_4 (by decide) (by rw [c4]; decide) (tgt := 76) (by decide) ?_
    refine Aj.aload_n C 0 dX3_signBehindNumber_76 rfl ?_
    refine Aj.getIe (z := D.2.1) C lf_RX3_19 rfl K.a dX3_signBehindNumber_77 d1.2.1 ?_
    refine Aj.if_ne (tgt := 88) C dX3_signBehindNumber_80 (by decide) (fun c80 => ?_) (fun c80 => ?_)
    · refine Aj.bipush C dX3_signBehindNumber_88 (by decide) (by decide) ?_
      refine Aj.iret C dX3_signBehindNumber_90 (by rw [hmc]; exact ⟨rfl, Nat.le_of_ble_eq_true rfl⟩) ⟨_, rfl, rfl, ?_⟩
      refine ⟨rfl, ?_⟩
      unfold sigR
      repeat (first | rw [if_pos (by omega)] | rw [if_neg (by omega)])
    · refine Aj.bipush C dX3_signBehindNumber_83 (by decide) (by decide) ?_
      refine Aj.goto (tgt := 90) C dX3_signBehindNumber_85 (by decide) ?_
      refine Aj.iret C dX3_signBehindNumber_90 (by rw [hmc]; exact ⟨rfl, Nat.le_of_ble_eq_true rfl⟩) ⟨_, rfl, rfl, ?_⟩
      refine ⟨rfl, ?_⟩
      unfold sigR
      repeat (first | rw [if_pos (by omega)] | rw [if_neg (by omega)])
  · refine Aj.lookup C (72) dX3_signBehindNumber_4 (by decide) (by rw [c4]; decide) (tgt := 76) (by decide) ?_
    refine Aj.aload_n C 0 dX3_signBehindNumber_76 rfl ?_
    refine Aj.getIe (z := D.2.1) C lf_RX3_19 rfl K.a dX3_signBehindNumber_77 d1.2.1 ?_
    refine Aj.if_ne (tgt := 88) C dX3_signBehindNumber_80 (by decide) (fun c80 => ?_) (fun c80 => ?_)
    · refine Aj.bipush C dX3_signBehindNumber_88 (by decide) (by decide) ?_
      refine Aj.iret C dX3_signBehindNumber_90 (by rw [hmc]; exact ⟨rfl, Nat.le_of_ble_eq_true rfl⟩) ⟨_, rfl, rfl, ?_⟩
      refine ⟨rfl, ?_⟩
      unfold sigR
      repeat (first | rw [if_pos (by omega)] | rw [if_neg (by omega)])
    · refine Aj.bipush C dX3_signBehindNumber_83 (by decide) (by decide) ?_
      refine Aj.goto (tgt := 90) C dX3_signBehindNumber_85 (by decide) ?_
      refine Aj.iret C dX3_signBehindNumber_90 (by rw [hmc]; exact ⟨rfl, Nat.le_of_ble_eq_true rfl⟩) ⟨_, rfl, rfl, ?_⟩
      refine ⟨rfl, ?_⟩
      unfold sigR
      repeat (first | rw [if_pos (by omega)] | rw [if_neg (by omega)])
  · refine Aj.lookup C (90) dX3_signBehindNumber_4 (by decide) (q_lkd _ _ _ (by simp; omega)) (tgt := 94) (by decide) ?_
    refine Aj.aload_n C 0 dX3_signBehindNumber_94 rfl ?_
    refine Aj.getIe (z := D.2.1) C lf_RX3_19 rfl K.a dX3_signBehindNumber_95 d1.2.1 ?_
    refine Aj.if_ne (tgt := 106) C dX3_signBehindNumber_98 (by decide) (fun c98 => ?_) (fun c98 => ?_)
    · refine Aj.aload_n C 0 dX3_signBehindNumber_106 rfl ?_
      refine Aj.getIe (z := D.2.1) C lf_RX3_19 rfl K.a dX3_signBehindNumber_107 d1.2.1 ?_
      refine Aj.iconst C dX3_signBehindNumber_110 (by decide) ?_
      refine Aj.icmp_ne (tgt := 119) C dX3_signBehindNumber_111 (by decide) (fun c111 => ?_) (fun c111 => ?_)
      · refine Aj.bipush C dX3_signBehindNumber_119 (by decide) (by decide) ?_
        refine Aj.iret C dX3_signBehindNumber_121 (by rw [hmc]; exact ⟨rfl, Nat.le_of_ble_eq_true rfl⟩) ⟨_, rfl, rfl, ?_⟩
        refine ⟨rfl, ?_⟩
        unfold sigR
        repeat (first | rw [if_pos (by omega)] | rw [if_neg (by omega)])
      · refine Aj.bipush C dX3_signBehindNumber_114 (by decide) (by decide) ?_
        refine Aj.goto (tgt := 121) C dX3_signBehindNumber_116 (by decide) ?_
        refine Aj.iret C dX3_signBehindNumber_121 (by rw [hmc]; exact ⟨rfl, Nat.le_of_ble_eq_true rfl⟩) ⟨_, rfl, rfl, ?_⟩
        refine ⟨rfl, ?_⟩
        unfold sigR
        repeat (first | rw [if_pos (by omega)] | rw [if_neg (by omega)])
    · refine Aj.bipush C dX3_signBehindNumber_101 (by decide) (by decide) ?_
      refine Aj.goto (tgt := 121) C dX3_signBehindNumber_103 (by decide) ?_
      refine Aj.iret C dX3_signBehindNumber_121 (by rw [hmc]; exact ⟨rfl, Nat.le_of_ble_eq_true rfl⟩) ⟨_, rfl, rfl, ?_⟩
      refine ⟨rfl, ?_⟩
      unfold sigR
      repeat (first | rw [if_pos (by omega)] | rw [if_neg (by omega)])

set_option maxHeartbeats 4000000 in
set_option maxRecDepth 100000 in
theorem c_X3_canEnd (l : Launch) {G : qG} {n : Int} {r h : qH} {x : Int} {D : qD} (K : LRead G n r x) (d1 : CRead h x D) (g : RG D) : q_Cm l G yX3_canEnd cX3_canEnd 1 (some .boolean) 1 20 [qa x] n r h (q_Pi r (fun z h' => h = h' ∧ (z = 0 ∨ z = 1) ∧ (z = 1 ↔ endP D))) 0 0 := by
  refine q_enter (al := [(0, qa x)]) m_X3_canEnd rfl (Nat.le_of_ble_eq_true rfl) ?_
  intro hok X C hmc hxl hin
  obtain ⟨g1, g2, g3, g4, g5, g6, g7, g8, g9⟩ := id g
  have g10 := g4 D.2.1 (by omega) (by omega)
  refine Aj.aload_n C 0 dX3_canEnd_0 rfl ?_
  refine Aj.getIe (z := D.1) C lf_RX3_15 rfl K.a dX3_canEnd_1 d1.1 ?_
  refine Aj.if_eq (tgt := 27) C dX3_canEnd_4 (by decide) (fun c4 => ?_) (fun c4 => ?_)
  · refine Aj.iconst C dX3_canEnd_27 (by decide) ?_
    refine Aj.zret C dX3_canEnd_28 (by omega) (by rw [hmc]; exact ⟨rfl, Nat.le_of_ble_eq_true rfl⟩) ⟨_, rfl, rfl, ?_⟩
    exact ⟨rfl, by omega, by unfold endP; omega⟩
  · refine Aj.aload_n C 0 dX3_canEnd_7 rfl ?_
    refine Aj.getIe (z := D.2.2.1) C lf_RX3_22 rfl K.a dX3_canEnd_8 d1.2.2.1 ?_
    refine Aj.if_le (tgt := 27) C dX3_canEnd_11 (by decide) (fun c11 => ?_) (fun c11 => ?_)
    · refine Aj.iconst C dX3_canEnd_27 (by decide) ?_
      refine Aj.zret C dX3_canEnd_28 (by omega) (by rw [hmc]; exact ⟨rfl, Nat.le_of_ble_eq_true rfl⟩) ⟨_, rfl, rfl, ?_⟩
      exact ⟨rfl, by omega, by unfold endP; omega⟩
    · refine Aj.aload_n C 0 dX3_canEnd_14 rfl ?_
      refine Aj.callVi (As := []) (st := []) C lm_RX3_57 m_X3_signBehindNumber mk_X3_signBehindNumber ms_X3_signBehindNumber (c_X3_signBehindNumber _ K d1 g) K.a (t := 3) rfl rfl rfl rfl (by decide) (Nat.le_of_ble_eq_true rfl) (by decide) dX3_canEnd_15 (fun z15 h_1 rz15 p15 => ?_)
      obtain ⟨rfl, ps⟩ := p15
      refine Aj.bipush C dX3_canEnd_18 (by decide) (by decide) ?_
      refine Aj.icmp_ne (tgt := 27) C dX3_canEnd_20 (by decide) (fun c20 => ?_) (fun c20 => ?_)
      · refine Aj.iconst C dX3_canEnd_27 (by decide) ?_
        refine Aj.zret C dX3_canEnd_28 (by omega) (by rw [hmc]; exact ⟨rfl, Nat.le_of_ble_eq_true rfl⟩) ⟨_, rfl, rfl, ?_⟩
        exact ⟨rfl, by omega, by unfold endP; omega⟩
      · refine Aj.iconst C dX3_canEnd_23 (by decide) ?_
        refine Aj.goto (tgt := 28) C dX3_canEnd_24 (by decide) ?_
        refine Aj.zret C dX3_canEnd_28 (by omega) (by rw [hmc]; exact ⟨rfl, Nat.le_of_ble_eq_true rfl⟩) ⟨_, rfl, rfl, ?_⟩
        exact ⟨rfl, by omega, by unfold endP; omega⟩

set_option maxHeartbeats 4000000 in
set_option maxRecDepth 100000 in
theorem c_X3_open (l : Launch) {G : qG} {n : Int} {r h : qH} {c : Int} {x : Int} {D : qD} (K : LRead G n r x) (d1 : CRead h x D) (g : RG D) : q_Cm l G yX3_open cX3_open 2 (some .boolean) 0 0 [qa x, qi c] n r h (q_Pi r (fun z h' => (z = 0 ∨ z = 1) ∧ (z = 1 ↔ openP c) ∧ (z = 0 → h = h') ∧ (z = 1 → CRead h' x (c, D.2)) ∧ FR x 2 h h')) 0 0 := by
  refine q_enter (al := [(0, qa x), (1, qi c)]) m_X3_open rfl (Nat.le_of_ble_eq_true rfl) ?_
  intro hok X C hmc hxl hin
  obtain ⟨g1, g2, g3, g4, g5, g6, g7, g8, g9⟩ := id g
  have g10 := g4 D.2.1 (by omega) (by omega)
  refine Aj.iload_n C 1 dX3_open_0 rfl ?_
  rcases (show c = 45 ∨ c = 98 ∨ c = 101 ∨ c = 108 ∨ c = 110 ∨ c = 114 ∨ c = 120 ∨ (c ≠ 45 ∧ c ≠ 98 ∧ c ≠ 101 ∧ c ≠ 108 ∧ c ≠ 110 ∧ c ≠ 114 ∧ c ≠ 120) by omega) with c1 | c1 | c1 | c1 | c1 | c1 | c1 | c1
  · refine Aj.lookup C (67) dX3_open_1 (by decide) (by rw [c1]; decide) (tgt := 68) (by decide) ?_
    refine Aj.aload_n C 0 dX3_open_68 rfl ?_
    refine Aj.iload_n C 1 dX3_open_69 rfl ?_
    refine Aj.putI C lf_RX3_15 K.a dX3_open_70 (fun h_1 eh_1 => ?_)
    refine Aj.iconst C dX3_open_73 (by decide) ?_
    refine Aj.zret C dX3_open_74 (by omega) (by rw [hmc]; exact ⟨rfl, Nat.le_of_ble_eq_true rfl⟩) ⟨_, rfl, rfl, ?_⟩
    exact ⟨by omega, by unfold openP; omega, fun w => absurd w (by decide), fun _ => ⟨by rw [eh_1, hset_same], by rw [eh_1, hset_neb _ _ _ (by decide)]; exact d1.2.1, by rw [eh_1, hset_neb _ _ _ (by decide)]; exact d1.2.2.1, fun k k1 k2 => by rw [eh_1, hset_nea _ _ _ (by omega)]; exact d1.2.2.2 k k1 k2⟩, fun a b w => by rw [eh_1, hset_nea _ _ _ (by omega)]⟩
  · refine Aj.lookup C (67) dX3_open_1 (by decide) (by rw [c1]; decide) (tgt := 68) (by decide) ?_
    refine Aj.aload_n C 0 dX3_open_68 rfl ?_
    refine Aj.iload_n C 1 dX3_open_69 rfl ?_
    refine Aj.putI C lf_RX3_15 K.a dX3_open_70 (fun h_2 eh_2 => ?_)
    refine Aj.iconst C dX3_open_73 (by decide) ?_
    refine Aj.zret C dX3_open_74 (by omega) (by rw [hmc]; exact ⟨rfl, Nat.le_of_ble_eq_true rfl⟩) ⟨_, rfl, rfl, ?_⟩
    exact ⟨by omega, by unfold openP; omega, fun w => absurd w (by decide), fun _ => ⟨by rw [eh_2, hset_same], by rw [eh_2, hset_neb _ _ _ (by decide)]; exact d1.2.1, by rw [eh_2, hset_neb _ _ _ (by decide)]; exact d1.2.2.1, fun k k1 k2 => by rw [eh_2, hset_nea _ _ _ (by omega)]; exact d1.2.2.2 k k1 k2⟩, fun a b w => by rw [eh_2, hset_nea _ _ _ (by omega)]⟩
  · refine Aj.lookup C (67) dX3_open_1 (by decide) (by rw [c1]; decide) (tgt := 68) (by decide) ?_
    refine Aj.aload_n C 0 dX3_open_68 rfl ?_
    refine Aj.iload_n C 1 dX3_open_69 rfl ?_
    refine Aj.putI C lf_RX3_15 K.a dX3_open_70 (fun h_3 eh_3 => ?_)
    refine Aj.iconst C dX3_open_73 (by decide) ?_
    refine Aj.zret C dX3_open_74 (by omega) (by rw [hmc]; exact ⟨rfl, Nat.le_of_ble_eq_true rfl⟩) ⟨_, rfl, rfl, ?_⟩
    exact ⟨by omega, by unfold openP; omega, fun w => absurd w (by decide), fun _ => ⟨by rw [eh_3, hset_same], by rw [eh_3, hset_neb _ _ _ (by decide)]; exact d1.2.1, by rw [eh_3, hset_neb _ _ _ (by decide)]; exact d1.2.2.1, fun k k1 k2 => by rw [eh_3, hset_nea _ _ _ (by omega)]; exact d1.2.2.2 k k1 k2⟩, fun a b w => by rw [eh_3, hset_nea _ _ _ (by omega)]⟩
  · refine Aj.lookup C (67) dX3_open_1 (by decide) (by rw [c1]; decide) (tgt := 68) (by decide) ?_
    refine Aj.aload_n C 0 dX3_open_68 rfl ?_
    refine Aj.iload_n C 1 dX3_open_69 rfl ?_
    refine Aj.putI C lf_RX3_15 K.a dX3_open_70 (fun h_4 eh_4 => ?_)
    refine Aj.iconst C dX3_open_73 (by decide) ?_
    refine Aj.zret C dX3_open_74 (by omega) (by rw [hmc]; exact ⟨rfl, Nat.le_of_ble_eq_true rfl⟩) ⟨_, rfl, rfl, ?_⟩
    exact ⟨by omega, by unfold openP; omega, fun w => absurd w (by decide), fun _ => ⟨by rw [eh_4, hset_same], by rw [eh_4, hset_neb _ _ _ (by decide)]; exact d1.2.1, by rw [eh_4, hset_neb _ _ _ (by decide)]; exact d1.2.2.1, fun k k1 k2 => by rw [eh_4, hset_nea _ _ _ (by omega)]; exact d1.2.2.2 k k1 k2⟩, fun a b w => by rw [eh_4, hset_nea _ _ _ (by omega)]⟩
  · refine Aj.lookup C (67) dX3_open_1 (by decide) (by rw [c1]; decide) (tgt := 68) (by decide) ?_
    refine Aj.aload_n C 0 dX3_open_68 rfl ?_
    refine Aj.iload_n C 1 dX3_open_69 rfl ?_
    refine Aj.putI C lf_RX3_15 K.a dX3_open_70 (fun h_5 eh_5 => ?_)
    refine Aj.iconst C dX3_open_73 (by decide) ?_
    refine Aj.zret C dX3_open_74 (by omega) (by rw [hmc]; exact ⟨rfl, Nat.le_of_ble_eq_true rfl⟩) ⟨_, rfl, rfl, ?_⟩
    exact ⟨by omega, by unfold openP; omega, fun w => absurd w (by decide), fun _ => ⟨by rw [eh_5, hset_same], by rw [eh_5, hset_neb _ _ _ (by decide)]; exact d1.2.1, by rw [eh_5, hset_neb _ _ _ (by decide)]; exact d1.2.2.1, fun k k1 k2 => by rw [eh_5, hset_nea _ _ _ (by omega)]; exact d1.2.2.2 k k1 k2⟩, fun a b w => by rw [eh_5, hset_nea _ _ _ (by omega)]⟩
  · refine Aj.lookup C (67) dX3_open_1 (by decide) (by rw [c1]; decide) (tgt := 68) (by decide) ?_
    refine Aj.aload_n C 0 dX3_open_68 rfl ?_
    refine Aj.iload_n C 1 dX3_open_69 rfl ?_
    refine Aj.putI C lf_RX3_15 K.a dX3_open_70 (fun h_6 eh_6 => ?_)
    refine Aj.iconst C dX3_open_73 (by decide) ?_
    refine Aj.zret C dX3_open_74 (by omega) (by rw [hmc]; exact ⟨rfl, Nat.le_of_ble_eq_true rfl⟩) ⟨_, rfl, rfl, ?_⟩
    exact ⟨by omega, by unfold openP; omega, fun w => absurd w (by decide), fun _ => ⟨by rw [eh_6, hset_same], by rw [eh_6, hset_neb _ _ _ (by decide)]; exact d1.2.1, by rw [eh_6, hset_neb _ _ _ (by decide)]; exact d1.2.2.1, fun k k1 k2 => by rw [eh_6, hset_nea _ _ _ (by omega)]; exact d1.2.2.2 k k1 k2⟩, fun a b w => by rw [eh_6, hset_nea _ _ _ (by omega)]⟩
  · refine Aj.lookup C (67) dX3_open_1 (by decide) (by rw [c1]; decide) (tgt := 68) (by decide) ?_
    refine Aj.aload_n C 0 dX3_open_68 rfl ?_
    refine Aj.iload_n C 1 dX3_open_69 rfl ?_
    refine Aj.putI C lf_RX3_15 K.a dX3_open_70 (fun h_7 eh_7 => ?_)
    refine Aj.iconst C dX3_open_73 (by decide) ?_
    refine Aj.zret C dX3_open_74 (by omega) (by rw [hmc]; exact ⟨rfl, Nat.le_of_ble_eq_true rfl⟩) ⟨_, rfl, rfl, ?_⟩
    exact ⟨by omega, by unfold openP; omega, fun w => absurd w (by decide), fun _ => ⟨by rw [eh_7, hset_same], by rw [eh_7, hset_neb _ _ _ (by decide)]; exact d1.2.1, by rw [eh_7, hset_neb _ _ _ (by decide)]; exact d1.2.2.1, fun k k1 k2 => by rw [eh_7, hset_nea _ _ _ (by omega)]; exact d1.2.2.2 k k1 k2⟩, fun a b w => by rw [eh_7, hset_nea _ _ _ (by omega)]⟩
  · refine Aj.lookup C (74) dX3_open_1 (by decide) (q_lkd _ _ _ (by simp; omega)) (tgt := 75) (by decide) ?_
    refine Aj.iconst C dX3_open_75 (by decide) ?_
    refine Aj.zret C dX3_open_76 (by omega) (by rw [hmc]; exact ⟨rfl, Nat.le_of_ble_eq_true rfl⟩) ⟨_, rfl, rfl, ?_⟩
    exact ⟨by omega, by unfold openP; omega, fun _ => rfl, fun w => absurd w (by decide), FR.rf⟩

set_option maxHeartbeats 4000000 in
set_option maxRecDepth 100000 in
theorem c_X3_takeDigit (l : Launch) {G : qG} {n : Int} {r h : qH} {c : Int} {x : Int} {D : qD} (K : LRead G n r x) (d1 : CRead h x D) (g : RG D) (hc : 0 ≤ c ∧ c ≤ 9) : q_Cm l G yX3_takeDigit cX3_takeDigit 4 (some .boolean) 0 0 [qa x, qi c] n r h (q_Pi r (fun z h' => (z = 0 ∨ z = 1) ∧ (z = 1 ↔ ¬ (0 < D.2.2.1 ∧ D.2.2.2 D.2.1 = 0) ∧ D.2.2.2 D.2.1 ≤ 99) ∧ (z = 0 → h = h') ∧ (z = 1 → CRead h' x (D.1, D.2.1, D.2.2.1 + 1, sset D.2.2.2 D.2.1 (10 * D.2.2.2 D.2.1 + c))) ∧ FR x 2 h h')) 0 0 := by
  refine q_enter (al := [(0, qa x), (1, qi c)]) m_X3_takeDigit rfl (Nat.le_of_ble_eq_true rfl) ?_
  intro hok X C hmc hxl hin
  obtain ⟨g1, g2, g3, g4, g5, g6, g7, g8, g9⟩ := id g
  have g10 := g4 D.2.1 (by omega) (by omega)
  refine Aj.aload_n C 0 dX3_takeDigit_0 rfl ?_
  refine Aj.getIe (z := D.2.1) C lf_RX3_19 rfl K.a dX3_takeDigit_1 d1.2.1 ?_
  refine Aj.if_lt (tgt := 19) C dX3_takeDigit_4 (by decide) (fun c4 => ?_) (fun c4 => ?_)
  · refine Aj.iconst C dX3_takeDigit_19 (by decide) ?_
    refine Aj.zret C dX3_takeDigit_20 (by omega) (by rw [hmc]; exact ⟨rfl, Nat.le_of_ble_eq_true rfl⟩) ⟨_, rfl, rfl, ?_⟩
    exact ⟨by omega, by omega, fun _ => rfl, fun w => absurd w (by decide), FR.rf⟩
  · refine Aj.aload_n C 0 dX3_takeDigit_7 rfl ?_
    refine Aj.getIe (z := D.2.1) C lf_RX3_19 rfl K.a dX3_takeDigit_8 d1.2.1 ?_
    refine Aj.aload_n C 0 dX3_takeDigit_11 rfl ?_
    refine Aj.getR C lf_RX3_9 rfl K.a K.r0 dX3_takeDigit_12 ?_
    refine Aj.alen C K.a1 (Or.inl rfl) (by omega) dX3_takeDigit_15 ?_
    refine Aj.icmp_lt (tgt := 21) C dX3_takeDigit_16 (by decide) (fun c16 => ?_) (fun c16 => ?_)
    · refine Aj.aload_n C 0 dX3_takeDigit_21 rfl ?_
      refine Aj.getR C lf_RX3_9 rfl K.a K.r0 dX3_takeDigit_22 ?_
      refine Aj.aload_n C 0 dX3_takeDigit_25 rfl ?_
      refine Aj.getIe (z := D.2.1) C lf_RX3_19 rfl K.a dX3_takeDigit_26 d1.2.1 ?_
      refine Aj.ialde (w := D.2.2.2 D.2.1) C K.a1 (by omega) dX3_takeDigit_29 (d1.2.2.2 _ (by omega) (by omega)) ?_
      refine Aj.istore_n (al2 := [(2, qi (D.2.2.2 D.2.1)), (0, qa x), (1, qi c)]) C dX3_takeDigit_30 (by decide) rfl ?_
      refine Aj.aload_n C 1 dX3_takeDigit_31 rfl ?_
      refine Aj.getIe (z := D.2.2.1) C lf_RX3_22 rfl K.a dX3_takeDigit_32 d1.2.2.1 ?_
      refine Aj.if_le (tgt := 46) C dX3_takeDigit_35 (by decide) (fun c35 => ?_) (fun c35 => ?_)
      · refine Aj.iconst C dX3_takeDigit_46 (by decide) ?_
        refine Aj.istore_n (al2 := [(3, qi 0), (2, qi (D.2.2.2 D.2.1)), (0, qa x), (1, qi c)]) C dX3_takeDigit_47 (by decide) rfl ?_
        refine Aj.iload_n C 0 dX3_takeDigit_48 rfl ?_
        refine Aj.if_ne (tgt := 58) C dX3_takeDigit_49 (by decide) (fun c49 => ?_) (fun c49 => ?_)
        · exact absurd c49 (by decide)
        · refine Aj.iload_n C 1 dX3_takeDigit_52 rfl ?_
          refine Aj.bipush C dX3_takeDigit_53 (by decide) (by decide) ?_
          refine Aj.icmp_le (tgt := 60) C dX3_takeDigit_55 (by decide) (fun c55 => ?_) (fun c55 => ?_)
          · refine Aj.aload_n C 2 dX3_takeDigit_60 rfl ?_
            refine Aj.getR C lf_RX3_9 rfl K.a K.r0 dX3_takeDigit_61 ?_
            refine Aj.aload_n C 2 dX3_takeDigit_64 rfl ?_
            refine Aj.getIe (z := D.2.1) C lf_RX3_19 rfl K.a dX3_takeDigit_65 d1.2.1 ?_
            refine Aj.bipush C dX3_takeDigit_68 (by decide) (by decide) ?_
            refine Aj.iload_n C 1 dX3_takeDigit_70 rfl ?_
            refine Aj.imul C dX3_takeDigit_71 (by omega) ?_
            refine Aj.iload_n C 3 dX3_takeDigit_72 rfl ?_
            refine Aj.iadd C dX3_takeDigit_73 (by omega) ?_
            refine Aj.iast C K.a1 (by omega) dX3_takeDigit_74 (fun h_1 eh_1 => ?_)
            refine Aj.aload_n C 2 dX3_takeDigit_75 rfl ?_
            refine Aj.dup_qa C dX3_takeDigit_76 ?_
            refine Aj.getIe (z := D.2.2.1) C lf_RX3_22 rfl K.a dX3_takeDigit_77 (by rw [eh_1, hset_nea _ _ _ (by omega)]; exact d1.2.2.1) ?_
            refine Aj.iconst C dX3_takeDigit_80 (by decide) ?_
            refine Aj.iadd C dX3_takeDigit_81 (by omega) ?_
            refine Aj.putI C lf_RX3_22 K.a dX3_takeDigit_82 (fun h_2 eh_2 => ?_)
            refine Aj.iconst C dX3_takeDigit_85 (by decide) ?_
            refine Aj.zret C dX3_takeDigit_86 (by omega) (by rw [hmc]; exact ⟨rfl, Nat.le_of_ble_eq_true rfl⟩) ⟨_, rfl, rfl, ?_⟩
            exact ⟨by omega, by omega, fun w => absurd w (by decide), fun _ => ⟨by rw [eh_2, eh_1, hset_neb _ _ _ (by decide), hset_nea _ _ _ (by omega)]; exact d1.1, by rw [eh_2, eh_1, hset_neb _ _ _ (by decide), hset_nea _ _ _ (by omega)]; exact d1.2.1, by rw [eh_2, hset_same], fun k k1 k2 => by
              show _ = sset D.2.2.2 D.2.1 (10 * D.2.2.2 D.2.1 + c) k
              rw [eh_2, eh_1, hset_nea _ _ _ (by omega), hset_ap, sset_ap]
              by_cases e : k = D.2.1
              · rw [if_pos ⟨rfl, e⟩, if_pos e]
              · rw [if_neg (by omega), if_neg e]; exact d1.2.2.2 k k1 k2⟩, fun a b w => by rw [eh_2, eh_1, hset_nea _ _ _ (by omega), hset_nea _ _ _ (by omega)]⟩
          · refine Aj.iconst C dX3_takeDigit_58 (by decide) ?_
            refine Aj.zret C dX3_takeDigit_59 (by omega) (by rw [hmc]; exact ⟨rfl, Nat.le_of_ble_eq_true rfl⟩) ⟨_, rfl, rfl, ?_⟩
            exact ⟨by omega, by omega, fun _ => rfl, fun w => absurd w (by decide), FR.rf⟩
      · refine Aj.iload_n C 0 dX3_takeDigit_38 rfl ?_
        refine Aj.if_ne (tgt := 46) C dX3_takeDigit_39 (by decide) (fun c39 => ?_) (fun c39 => ?_)
        · refine Aj.iconst C dX3_takeDigit_46 (by decide) ?_
          refine Aj.istore_n (al2 := [(3, qi 0), (2, qi (D.2.2.2 D.2.1)), (0, qa x), (1, qi c)]) C dX3_takeDigit_47 (by decide) rfl ?_
          refine Aj.iload_n C 0 dX3_takeDigit_48 rfl ?_
          refine Aj.if_ne (tgt := 58) C dX3_takeDigit_49 (by decide) (fun c49 => ?_) (fun c49 => ?_)
          · exact absurd c49 (by decide)
          · refine Aj.iload_n C 1 dX3_takeDigit_52 rfl ?_
            refine Aj.bipush C dX3_takeDigit_53 (by decide) (by decide) ?_
            refine Aj.icmp_le (tgt := 60) C dX3_takeDigit_55 (by decide) (fun c55 => ?_) (fun c55 => ?_)
            · refine Aj.aload_n C 2 dX3_takeDigit_60 rfl ?_
              refine Aj.getR C lf_RX3_9 rfl K.a K.r0 dX3_takeDigit_61 ?_
              refine Aj.aload_n C 2 dX3_takeDigit_64 rfl ?_
              refine Aj.getIe (z := D.2.1) C lf_RX3_19 rfl K.a dX3_takeDigit_65 d1.2.1 ?_
              refine Aj.bipush C dX3_takeDigit_68 (by decide) (by decide) ?_
              refine Aj.iload_n C 1 dX3_takeDigit_70 rfl ?_
              refine Aj.imul C dX3_takeDigit_71 (by omega) ?_
              refine Aj.iload_n C 3 dX3_takeDigit_72 rfl ?_
              refine Aj.iadd C dX3_takeDigit_73 (by omega) ?_
              refine Aj.iast C K.a1 (by omega) dX3_takeDigit_74 (fun h_3 eh_3 => ?_)
              refine Aj.aload_n C 2 dX3_takeDigit_75 rfl ?_
              refine Aj.dup_qa C dX3_takeDigit_76 ?_
              refine Aj.getIe (z := D.2.2.1) C lf_RX3_22 rfl K.a dX3_takeDigit_77 (by rw [eh_3, hset_nea _ _ _ (by omega)]; exact d1.2.2.1) ?_
              refine Aj.iconst C dX3_takeDigit_80 (by decide) ?_
              refine Aj.iadd C dX3_takeDigit_81 (by omega) ?_
              refine Aj.putI C lf_RX3_22 K.a dX3_takeDigit_82 (fun h_4 eh_4 => ?_)
              refine Aj.iconst C dX3_takeDigit_85 (by decide) ?_
              refine Aj.zret C dX3_takeDigit_86 (by omega) (by rw [hmc]; exact ⟨rfl, Nat.le_of_ble_eq_true rfl⟩) ⟨_, rfl, rfl, ?_⟩
              exact ⟨by omega, by omega, fun w => absurd w (by decide), fun _ => ⟨by rw [eh_4, eh_3, hset_neb _ _ _ (by decide), hset_nea _ _ _ (by omega)]; exact d1.1, by rw [eh_4, eh_3, hset_neb _ _ _ (by decide), hset_nea _ _ _ (by omega)]; exact d1.2.1, by rw [eh_4, hset_same], fun k k1 k2 => by
                show _ = sset D.2.2.2 D.2.1 (10 * D.2.2.2 D.2.1 + c) k
                rw [eh_4, eh_3, hset_nea _ _ _ (by omega), hset_ap, sset_ap]
                by_cases e : k = D.2.1
                · rw [if_pos ⟨rfl, e⟩, if_pos e]
                · rw [if_neg (by omega), if_neg e]; exact d1.2.2.2 k k1 k2⟩, fun a b w => by rw [eh_4, eh_3, hset_nea _ _ _ (by omega), hset_nea _ _ _ (by omega)]⟩
            · refine Aj.iconst C dX3_takeDigit_58 (by decide) ?_
              refine Aj.zret C dX3_takeDigit_59 (by omega) (by rw [hmc]; exact ⟨rfl, Nat.le_of_ble_eq_true rfl⟩) ⟨_, rfl, rfl, ?_⟩
              exact ⟨by omega, by omega, fun _ => rfl, fun w => absurd w (by decide), FR.rf⟩
        · refine Aj.iconst C dX3_takeDigit_42 (by decide) ?_
          refine Aj.goto (tgt := 47) C dX3_takeDigit_43 (by decide) ?_
          refine Aj.istore_n (al2 := [(3, qi 1), (2, qi (D.2.2.2 D.2.1)), (0, qa x), (1, qi c)]) C dX3_takeDigit_47 (by decide) rfl ?_
          refine Aj.iload_n C 0 dX3_takeDigit_48 rfl ?_
          refine Aj.if_ne (tgt := 58) C dX3_takeDigit_49 (by decide) (fun c49 => ?_) (fun c49 => ?_)
          · refine Aj.iconst C dX3_takeDigit_58 (by decide) ?_
            refine Aj.zret C dX3_takeDigit_59 (by omega) (by rw [hmc]; exact ⟨rfl, Nat.le_of_ble_eq_true rfl⟩) ⟨_, rfl, rfl, ?_⟩
            exact ⟨by omega, by omega, fun _ => rfl, fun w => absurd w (by decide), FR.rf⟩
          · exact absurd c49 (by decide)
    · refine Aj.iconst C dX3_takeDigit_19 (by decide) ?_
      refine Aj.zret C dX3_takeDigit_20 (by omega) (by rw [hmc]; exact ⟨rfl, Nat.le_of_ble_eq_true rfl⟩) ⟨_, rfl, rfl, ?_⟩
      exact ⟨by omega, by omega, fun _ => rfl, fun w => absurd w (by decide), FR.rf⟩

set_option maxHeartbeats 4000000 in
set_option maxRecDepth 100000 in
theorem c_X3_takeSign (l : Launch) {G : qG} {n : Int} {r h : qH} {c : Int} {x : Int} {D : qD} (K : LRead G n r x) (d1 : CRead h x D) (g : RG D) (h0 : D.1 ≠ 0) : q_Cm l G yX3_takeSign cX3_takeSign 2 (some .boolean) 1 21 [qa x, qi c] n r h (q_Pi r (fun z h' => (z = 0 ∨ z = 1) ∧ (z = 1 ↔ D.2.2.1 ≠ 0 ∧ c = sigR D) ∧ (z = 0 → h = h') ∧ (z = 1 → CRead h' x (if c = 59 then D0 else (D.1, D.2.1 + 1, 0, D.2.2.2))) ∧ FR x 2 h h')) 0 0 := by
  refine q_enter (al := [(0, qa x), (1, qi c)]) m_X3_takeSign rfl (Nat.le_of_ble_eq_true rfl) ?_
  intro hok X C hmc hxl hin
  obtain ⟨g1, g2, g3, g4, g5, g6, g7, g8, g9⟩ := id g
  have g10 := g4 D.2.1 (by omega) (by omega)
  refine Aj.aload_n C 0 dX3_takeSign_0 rfl ?_
  refine Aj.getIe (z := D.2.2.1) C lf_RX3_22 rfl K.a dX3_takeSign_1 d1.2.2.1 ?_
  refine Aj.if_eq (tgt := 15) C dX3_takeSign_4 (by decide) (fun c4 => ?_) (fun c4 => ?_)
  · refine Aj.iconst C dX3_takeSign_15 (by decide) ?_
    refine Aj.zret C dX3_takeSign_16 (by omega) (by rw [hmc]; exact ⟨rfl, Nat.le_of_ble_eq_true rfl⟩) ⟨_, rfl, rfl, ?_⟩
    exact ⟨by omega, by omega, fun _ => rfl, fun w => absurd w (by decide), FR.rf⟩
  · refine Aj.iload_n C 1 dX3_takeSign_7 rfl ?_
    refine Aj.aload_n C 0 dX3_takeSign_8 rfl ?_
    refine Aj.callVi (As := []) (st := [qi c]) C lm_RX3_57 m_X3_signBehindNumber mk_X3_signBehindNumber ms_X3_signBehindNumber (c_X3_signBehindNumber _ K d1 g) K.a (t := 3) rfl rfl rfl rfl (by decide) (Nat.le_of_ble_eq_true rfl) (by decide) dX3_takeSign_9 (fun z9 h_1 rz9 p9 => ?_)
    obtain ⟨rfl, ps⟩ := p9
    refine Aj.icmp_eq (tgt := 17) C dX3_takeSign_12 (by decide) (fun c12 => ?_) (fun c12 => ?_)
    · refine Aj.iload_n C 1 dX3_takeSign_17 rfl ?_
      refine Aj.bipush C dX3_takeSign_18 (by decide) (by decide) ?_
      refine Aj.icmp_ne (tgt := 30) C dX3_takeSign_20 (by decide) (fun c20 => ?_) (fun c20 => ?_)
      · refine Aj.aload_n C 0 dX3_takeSign_30 rfl ?_
        refine Aj.dup_qa C dX3_takeSign_31 ?_
        refine Aj.getIe (z := D.2.1) C lf_RX3_19 rfl K.a dX3_takeSign_32 d1.2.1 ?_
        refine Aj.iconst C dX3_takeSign_35 (by decide) ?_
        refine Aj.iadd C dX3_takeSign_36 (by omega) ?_
        refine Aj.putI C lf_RX3_19 K.a dX3_takeSign_37 (fun h_2 eh_2 => ?_)
        refine Aj.aload_n C 0 dX3_takeSign_40 rfl ?_
        refine Aj.iconst C dX3_takeSign_41 (by decide) ?_
        refine Aj.putI C lf_RX3_22 K.a dX3_takeSign_42 (fun h_3 eh_3 => ?_)
        refine Aj.iconst C dX3_takeSign_45 (by decide) ?_
        refine Aj.zret C dX3_takeSign_46 (by omega) (by rw [hmc]; exact ⟨rfl, Nat.le_of_ble_eq_true rfl⟩) ⟨_, rfl, rfl, ?_⟩
        exact ⟨by omega, by omega, fun w => absurd w (by decide), fun _ => by
          rw [if_neg (by omega)]
          exact ⟨by rw [eh_3, eh_2, hset_neb _ _ _ (by decide), hset_neb _ _ _ (by decide)]; exact d1.1, by rw [eh_3, eh_2, hset_neb _ _ _ (by decide), hset_same], by rw [eh_3, hset_same], fun k k1 k2 => by rw [eh_3, eh_2, hset_nea _ _ _ (by omega), hset_nea _ _ _ (by omega)]; exact d1.2.2.2 k k1 k2⟩, fun a b w => by rw [eh_3, eh_2, hset_nea _ _ _ (by omega), hset_nea _ _ _ (by omega)]⟩
      · refine Aj.aload_n C 0 dX3_takeSign_23 rfl ?_
        refine Aj.callVv (As := []) (st := []) C lm_RX3_25 m_X3_start mk_X3_start ms_X3_start (c_X3_start _ K) K.a (t := 3) rfl rfl rfl rfl (by decide) (Nat.le_of_ble_eq_true rfl) (by decide) dX3_takeSign_24 (fun d2 p24 => ?_)
        have q2 := p24
        refine Aj.goto (tgt := 45) C dX3_takeSign_27 (by decide) ?_
        refine Aj.iconst C dX3_takeSign_45 (by decide) ?_
        refine Aj.zret C dX3_takeSign_46 (by omega) (by rw [hmc]; exact ⟨rfl, Nat.le_of_ble_eq_true rfl⟩) ⟨_, rfl, rfl, ?_⟩
        exact ⟨by omega, by omega, fun w => absurd w (by decide), fun _ => by rw [if_pos (by omega)]; exact q2.1, q2.2⟩
    · refine Aj.iconst C dX3_takeSign_15 (by decide) ?_
      refine Aj.zret C dX3_takeSign_16 (by omega) (by rw [hmc]; exact ⟨rfl, Nat.le_of_ble_eq_true rfl⟩) ⟨_, rfl, rfl, ?_⟩
      exact ⟨by omega, by omega, fun _ => rfl, fun w => absurd w (by decide), FR.rf⟩

set_option maxHeartbeats 4000000 in
set_option maxRecDepth 100000 in
theorem c_X3_take (l : Launch) {G : qG} {n : Int} {r h : qH} {c : Int} {x : Int} {D : qD} (K : LRead G n r x) (d1 : CRead h x D) (g : RG D) : q_Cm l G yX3_take cX3_take 2 (some .boolean) 2 42 [qa x, qi c] n r h (q_Pi r (fun z h' => (z = 0 ∨ z = 1) ∧ (z = 1 ↔ takC D c) ∧ (z = 0 → h = h') ∧ (z = 1 → CRead h' x (takD D c)) ∧ FR x 2 h h')) 0 0 := by
  refine q_enter (al := [(0, qa x), (1, qi c)]) m_X3_take rfl (Nat.le_of_ble_eq_true rfl) ?_
  intro hok X C hmc hxl hin
  obtain ⟨g1, g2, g3, g4, g5, g6, g7, g8, g9⟩ := id g
  have g10 := g4 D.2.1 (by omega) (by omega)
  refine Aj.aload_n C 0 dX3_take_0 rfl ?_
  refine Aj.getIe (z := D.1) C lf_RX3_15 rfl K.a dX3_take_1 d1.1 ?_
  refine Aj.if_ne (tgt := 13) C dX3_take_4 (by decide) (fun c4 => ?_) (fun c4 => ?_)
  · refine Aj.iload_n C 1 dX3_take_13 rfl ?_
    refine Aj.bipush C dX3_take_14 (by decide) (by decide) ?_
    refine Aj.bipush C dX3_take_16 (by decide) (by decide) ?_
    refine Aj.callNi (As := [qi c, qi 48, qi 57]) (st := []) C ln_RX3_47 m_X8_isWithin mk_X8_isWithin (c_X8_isWithin _) rfl rfl (by decide) (Nat.le_of_ble_eq_true rfl) (by decide) dX3_take_18 (fun z18 h_1 rz18 p18 => ?_)
    obtain ⟨rfl, pz, pe⟩ := p18
    refine Aj.if_eq (tgt := 35) C dX3_take_21 (by decide) (fun c21 => ?_) (fun c21 => ?_)
    · refine Aj.aload_n C 0 dX3_take_35 rfl ?_
      refine Aj.iload_n C 1 dX3_take_36 rfl ?_
      refine Aj.callVi (As := [qi c]) (st := []) C lm_RX3_54 m_X3_takeSign mk_X3_takeSign ms_X3_takeSign (c_X3_takeSign _ K d1 g (by omega)) K.a (t := 3) rfl rfl rfl rfl (by decide) (Nat.le_of_ble_eq_true rfl) (by decide) dX3_take_37 (fun z37 e4 rz37 p37 => ?_)
      obtain ⟨q1, q2, q3, q4, q5⟩ := p37
      refine Aj.zret C dX3_take_40 (by omega) (by rw [hmc]; exact ⟨rfl, Nat.le_of_ble_eq_true rfl⟩) ⟨_, rfl, rfl, ?_⟩
      exact ⟨q1, ⟨fun w => Or.inr (Or.inr ⟨by omega, by omega, q2.mp w⟩), fun w => q2.mpr (w.elim (fun v => absurd v.1 (by omega)) (fun w => w.elim (fun v => absurd v.2.1 (by omega)) (fun v => v.2.2)))⟩, q3, fun w => by
        unfold takD
        rw [if_neg (by omega), if_neg (by omega)]
        exact q4 w, q5⟩
    · refine Aj.aload_n C 0 dX3_take_24 rfl ?_
      refine Aj.iload_n C 1 dX3_take_25 rfl ?_
      refine Aj.bipush C dX3_take_26 (by decide) (by decide) ?_
      refine Aj.isub C dX3_take_28 (by omega) ?_
      refine Aj.callVi (As := [qi (c - 48)]) (st := []) C lm_RX3_51 m_X3_takeDigit mk_X3_takeDigit ms_X3_takeDigit (c_X3_takeDigit _ K d1 g (by omega)) K.a (t := 3) rfl rfl rfl rfl (by decide) (Nat.le_of_ble_eq_true rfl) (by decide) dX3_take_29 (fun z29 e3 rz29 p29 => ?_)
      obtain ⟨q1, q2, q3, q4, q5⟩ := p29
      refine Aj.goto (tgt := 40) C dX3_take_32 (by decide) ?_
      refine Aj.zret C dX3_take_40 (by omega) (by rw [hmc]; exact ⟨rfl, Nat.le_of_ble_eq_true rfl⟩) ⟨_, rfl, rfl, ?_⟩
      exact ⟨q1, ⟨fun w => Or.inr (Or.inl ⟨by omega, by omega, q2.mp w⟩), fun w => q2.mpr (w.elim (fun v => absurd v.1 (by omega)) (fun w => w.elim (fun v => v.2.2) (fun v => absurd (show 48 ≤ c ∧ c ≤ 57 by omega) v.2.1)))⟩, q3, fun w => by
        unfold takD
        rw [if_neg (by omega), if_pos (by omega)]
        exact q4 w, q5⟩
  · refine Aj.aload_n C 0 dX3_take_7 rfl ?_
    refine Aj.iload_n C 1 dX3_take_8 rfl ?_
    refine Aj.callVi (As := [qi c]) (st := []) C lm_RX3_44 m_X3_open mk_X3_open ms_X3_open (c_X3_open _ K d1 g) K.a (t := 3) rfl rfl rfl rfl (by decide) (Nat.le_of_ble_eq_true rfl) (by decide) dX3_take_9 (fun z9 e2 rz9 p9 => ?_)
    obtain ⟨q1, q2, q3, q4, q5⟩ := p9
    refine Aj.zret C dX3_take_12 (by omega) (by rw [hmc]; exact ⟨rfl, Nat.le_of_ble_eq_true rfl⟩) ⟨_, rfl, rfl, ?_⟩
    exact ⟨q1, ⟨fun w => Or.inl ⟨by omega, q2.mp w⟩, fun w => q2.mpr (w.elim (fun v => v.2) (fun w => w.elim (fun v => absurd v.1 (by omega)) (fun v => absurd v.1 (by omega))))⟩, q3, fun w => by
      unfold takD
      rw [if_pos (by omega)]
      exact q4 w, q5⟩

set_option maxHeartbeats 4000000 in
set_option maxRecDepth 100000 in
theorem c_X3_faultOf (l : Launch) {G : qG} {n : Int} {r h : qH} {x y m : Int} {P : Int → Int} (K : LRead G n r x) (Q : LPad G n r y) (d1 : CPad h y m P) (hm : 0 ≤ m ∧ m ≤ 80) (hd : y + 2 ≤ x ∨ x + 2 ≤ y) : q_Cm l G yX3_faultOf cX3_faultOf 3 (some .int) 3 63 [qa x, qa y] n r h (q_Pi r (fun z h' => ((z = -6 ∧ runC P m.toNat ∧ endP (runD P m.toNat)) ∨ (z = m ∧ runC P m.toNat ∧ ¬ endP (runD P m.toNat)) ∨ (0 ≤ z ∧ z < m ∧ runC P z.toNat ∧ ¬ takC (runD P z.toNat) (P z))) ∧ FR x 2 h h')) 0 0 := by
  refine q_enter (al := [(0, qa x), (1, qa y)]) m_X3_faultOf rfl (Nat.le_of_ble_eq_true rfl) ?_
  intro hok X C hmc hxl hin
  refine Aj.aload_n C 0 dX3_faultOf_0 rfl ?_
  refine Aj.callVv (As := []) (st := []) C lm_RX3_25 m_X3_start mk_X3_start ms_X3_start (c_X3_start _ K) K.a (t := 3) rfl rfl rfl rfl (by decide) (Nat.le_of_ble_eq_true rfl) (by decide) dX3_faultOf_1 (fun e1 p1 => ?_)
  have q1 := p1
  refine Aj.iconst C dX3_faultOf_4 (by decide) ?_
  refine Aj.istore_n (al2 := [(2, qi 0), (0, qa x), (1, qa y)]) C dX3_faultOf_5 (by decide) rfl ?_
  refine Aj.pick (al2 := [(0, qa x), (1, qa y), (2, qi 0)]) [1, 2, 0] rfl ?_
  suffices L6 : ∀ (N : Nat) (i : Int) (h2 : qH) , (0 ≤ i ∧ i ≤ m ∧ runC P i.toNat ∧ CRead h2 x (runD P i.toNat) ∧ FR x 2 h h2) → (m - i).toNat < N → Aj G X (q_Pi r (fun z h' => ((z = -6 ∧ runC P m.toNat ∧ endP (runD P m.toNat)) ∨ (z = m ∧ runC P m.toNat ∧ ¬ endP (runD P m.toNat)) ∨ (0 ≤ z ∧ z < m ∧ runC P z.toNat ∧ ¬ takC (runD P z.toNat) (P z))) ∧ FR x 2 h h')) cX3_faultOf 3 (0, 0) n r h2 6 [(0, qa x), (1, qa y), (2, qi i)] [] from L6 (_ + 1) 0 e1 (⟨by omega, by omega, fun k hk => absurd hk (Nat.not_lt_zero _), q1.1, q1.2⟩) (Nat.lt_succ_self _)
  intro N6
  induction N6 with
  | zero => intro i h2 _ hN; exact absurd hN (Nat.not_lt_zero _)
  | succ N ih6 =>
    intro i h2 hI6 hN6
    obtain ⟨hi0, hi1, hi2, hi3, hi4⟩ := hI6
    have d2 : CPad h2 y m P := d1.fr (fun a b z1 z2 => hi4 a b (by omega))
    have ei : ((i.toNat : Nat) : Int) = i := by omega
    refine Aj.iload_n C 2 dX3_faultOf_6 rfl ?_
    refine Aj.aload_n C 1 dX3_faultOf_7 rfl ?_
    refine Aj.getIe (z := m) C lf_RX3_28 rfl Q.a dX3_faultOf_8 d2.1 ?_
    refine Aj.icmp_ge (tgt := 35) C dX3_faultOf_11 (by decide) (fun c11 => ?_) (fun c11 => ?_)
    · refine Aj.aload_n C 0 dX3_faultOf_35 rfl ?_
      refine Aj.callVi (As := []) (st := []) C lm_RX3_40 m_X3_canEnd mk_X3_canEnd ms_X3_canEnd (c_X3_canEnd _ K hi3 (runD_RG _ hi2)) K.a (t := 3) rfl rfl rfl rfl (by decide) (Nat.le_of_ble_eq_true rfl) (by decide) dX3_faultOf_36 (fun z36 h_1 rz36 p36 => ?_)
      obtain ⟨rfl, pz, pe⟩ := p36
      refine Aj.if_eq (tgt := 47) C dX3_faultOf_39 (by decide) (fun c39 => ?_) (fun c39 => ?_)
      · refine Aj.aload_n C 1 dX3_faultOf_47 rfl ?_
        refine Aj.getIe (z := m) C lf_RX3_28 rfl Q.a dX3_faultOf_48 d2.1 ?_
        refine Aj.iret C dX3_faultOf_51 (by rw [hmc]; exact ⟨rfl, Nat.le_of_ble_eq_true rfl⟩) ⟨_, rfl, rfl, ?_⟩
        have e : i = m := by omega
        rw [e] at hi2 pe
        first
        | exact ⟨Or.inl ⟨rfl, hi2, pe.mp (by omega)⟩, hi4⟩
        | exact ⟨Or.inr (Or.inl ⟨by omega, hi2, fun w => by have := pe.mpr w; omega⟩), hi4⟩
      · refine Aj.bipush C dX3_faultOf_42 (by decide) (by decide) ?_
        refine Aj.goto (tgt := 51) C dX3_faultOf_44 (by decide) ?_
        refine Aj.iret C dX3_faultOf_51 (by rw [hmc]; exact ⟨rfl, Nat.le_of_ble_eq_true rfl⟩) ⟨_, rfl, rfl, ?_⟩
        have e : i = m := by omega
        rw [e] at hi2 pe
        first
        | exact ⟨Or.inl ⟨rfl, hi2, pe.mp (by omega)⟩, hi4⟩
        | exact ⟨Or.inr (Or.inl ⟨by omega, hi2, fun w => by have := pe.mpr w; omega⟩), hi4⟩
    · refine Aj.aload_n C 0 dX3_faultOf_14 rfl ?_
      refine Aj.aload_n C 1 dX3_faultOf_15 rfl ?_
      refine Aj.getR C lf_RX3_33 rfl Q.a Q.r0 dX3_faultOf_16 ?_
      refine Aj.iload_n C 2 dX3_faultOf_19 rfl ?_
      refine Aj.ialde (w := P i) C Q.a1 (by omega) dX3_faultOf_20 (d2.2 _ (by omega) (by omega)) ?_
      refine Aj.callVi (As := [qi (P i)]) (st := []) C lm_RX3_36 m_X3_take mk_X3_take ms_X3_take (c_X3_take _ K hi3 (runD_RG _ hi2)) K.a (t := 3) rfl rfl rfl rfl (by decide) (Nat.le_of_ble_eq_true rfl) (by decide) dX3_faultOf_21 (fun z21 e3 rz21 p21 => ?_)
      obtain ⟨t1, t2, t3, t4, t5⟩ := p21
      refine Aj.if_ne (tgt := 29) C dX3_faultOf_24 (by decide) (fun c24 => ?_) (fun c24 => ?_)
      · refine Aj.iinc (al2 := [(2, qi (i + 1)), (0, qa x), (1, qa y)]) C 2 dX3_faultOf_29 rfl (by decide) (by omega) rfl ?_
        refine Aj.goto (tgt := 6) C dX3_faultOf_32 (by decide) ?_
        refine Aj.pick (al2 := [(0, qa x), (1, qa y), (2, qi (i + 1))]) [1, 2, 0] rfl ?_
        exact ih6 (i + 1) e3 (⟨by omega, by omega, fun k hk => if e : k = i.toNat then by subst e; rw [ei]; exact t2.mp (by omega) else hi2 k (by omega), by
          rw [show (i + 1).toNat = i.toNat + 1 by omega]
          show CRead _ _ (takD (runD P i.toNat) (P ((i.toNat : Nat) : Int)))
          rw [ei]
          exact t4 (by omega), hi4.tr t5⟩) (by omega)
      · refine Aj.iload_n C 2 dX3_faultOf_27 rfl ?_
        refine Aj.iret C dX3_faultOf_28 (by rw [hmc]; exact ⟨rfl, Nat.le_of_ble_eq_true rfl⟩) ⟨_, rfl, rfl, ?_⟩
        exact ⟨Or.inr (Or.inr ⟨hi0, by omega, hi2, fun w => by have := t2.mpr w; omega⟩), hi4.tr t5⟩
