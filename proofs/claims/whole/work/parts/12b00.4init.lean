set_option maxHeartbeats 1000000 in
set_option maxRecDepth 100000 in
theorem c_X4_init (l : Launch) {G : qG} {n : Int} {r h : qH} {p : Int} (hn : n = p + 1) (hb : (G.1 : Int) ≤ p) (SH : SScore G p) (zf : ZF n r h) : q_Cm l G yX4_init cX4_init 2 none 2 41 [qa p] n r h (q_Pn (fun r' h' => LScore G (p + 17) r' p ∧ CScore h' p st0.1 ∧ ZF (p + 17) r' h' ∧ (∀ a b, a < p → r' a b = r a b) ∧ ∀ a b, (a < p ∨ p + 17 ≤ a) → h' a b = h a b)) 16 236 := by
  refine q_enter (al := [(0, qa p)]) m_X4_init rfl (Nat.le_of_ble_eq_true rfl) ?_
  intro hok X C hmc hxl hin
  have zf0 := zf
  subst hn
  refine Aj.aload_n C 0 dX4_init_0 rfl ?_
  refine Aj.objInit C lm_RX4_3 (al_mk (SH.1) (by omega) (by omega) (by decide)) ⟨Nat.le_of_ble_eq_true rfl, Nat.le_of_ble_eq_true rfl⟩ dX4_init_1 ?_
  refine Aj.aload_n C 0 dX4_init_4 rfl ?_
  refine Aj.bipush C dX4_init_5 (by decide) (by decide) ?_
  refine Aj.putI C lf_RX4_9 (al_mk (SH.1) (by omega) (by omega) (by decide)) dX4_init_7 (fun h_1 eh_1 => ?_)
  have zf_2 := ZF.h zf eh_1 (by omega)
  refine Aj.aload_n C 0 dX4_init_10 rfl ?_
  refine Aj.bipush C dX4_init_11 (by decide) (by decide) ?_
  refine Aj.putI C lf_RX4_15 (al_mk (SH.1) (by omega) (by omega) (by decide)) dX4_init_13 (fun h_3 eh_3 => ?_)
  have zf_4 := ZF.h zf_2 eh_3 (by omega)
  refine Aj.aload_n C 0 dX4_init_16 rfl ?_
  refine Aj.bipush C dX4_init_17 (by decide) (by decide) ?_
  refine Aj.newaI C (by decide) (by decide) SH.2.1 (fun b => zf_4 _ b (by omega)) (by decide) dX4_init_19 ?_
  rw [show p + 1 + 1 = p + 2 by omega]
  have zf_5 := ZF.up (m := p + 2) zf_4 (by omega)
  refine Aj.putR C lf_RX4_18 rfl (al_mk (SH.1) (by omega) (by omega) (by decide)) (hin rfl) rfl dX4_init_21 (fun r_6 er_6 => ?_)
  have zf_7 := ZF.r zf_5 er_6 (by omega)
  refine Aj.aload_n C 0 dX4_init_24 rfl ?_
  refine Aj.bipush C dX4_init_25 (by decide) (by decide) ?_
  refine Aj.newaI C (by decide) (by decide) SH.2.2.1 (fun b => zf_7 _ b (by omega)) (by decide) dX4_init_27 ?_
  rw [show p + 2 + 1 = p + 3 by omega]
  have zf_8 := ZF.up (m := p + 3) zf_7 (by omega)
  refine Aj.putR C lf_RX4_22 rfl (al_mk (SH.1) (by omega) (by omega) (by decide)) (hin rfl) rfl dX4_init_29 (fun r_9 er_9 => ?_)
  have zf_10 := ZF.r zf_8 er_9 (by omega)
  refine Aj.iconst C dX4_init_32 (by decide) ?_
  refine Aj.istore_n (al2 := [(1, qi 0), (0, qa p)]) C dX4_init_33 (by decide) rfl ?_
  refine Aj.pick (al2 := [(0, qa p), (1, qi 0)]) [1, 0] rfl ?_
  suffices L34 : ∀ (N : Nat) (i : Int) (hh : qH) , (0 ≤ i ∧ i ≤ 60 ∧ hh p 0 = 32 ∧ hh p 1 = 10 ∧ (∀ a k, a ≠ p → a ≠ p + 1 → a ≠ p + 2 → hh a k = h a k) ∧ (∀ k, 0 ≤ k → k < i → hh (p + 1) k = 4 ∧ hh (p + 2) k = 60) ∧ ZF (p + 3) r_9 hh) → (60 - i).toNat < N → Aj G X (q_Pn (fun r' h' => LScore G (p + 17) r' p ∧ CScore h' p st0.1 ∧ ZF (p + 17) r' h' ∧ (∀ a b, a < p → r' a b = r a b) ∧ ∀ a b, (a < p ∨ p + 17 ≤ a) → h' a b = h a b)) cX4_init 2 (2, 120) (p + 3) r_9 hh 34 [(0, qa p), (1, qi i)] [] from L34 (_ + 1) 0 h_3 (⟨by omega, by omega, by rw [eh_3, eh_1, hset_neb _ _ _ (by decide), hset_same], by rw [eh_3, hset_same], fun a k q1 q2 q3 => by rw [eh_3, eh_1, hset_nea _ _ _ q1, hset_nea _ _ _ q1], fun k k1 k2 => by omega, zf_10⟩) (Nat.lt_succ_self _)
  intro N34
  induction N34 with
  | zero => intro i hh _ hN; exact absurd hN (Nat.not_lt_zero _)
  | succ N ih34 =>
    intro i hh hI34 hN34
    obtain ⟨hi0, hi1, hi2, hi3, hi4, hi5, hi6⟩ := hI34
    refine Aj.iload_n C 1 dX4_init_34 rfl ?_
    refine Aj.bipush C dX4_init_35 (by decide) (by decide) ?_
    refine Aj.icmp_ge (tgt := 61) C dX4_init_37 (by decide) (fun c37 => ?_) (fun c37 => ?_)
    · have hx2 : ∀ a k, a ≠ p → a ≠ p + 1 → a ≠ p + 2 → hh a k = h a k := hi4
      have hz : ∀ a k, p + 1 ≤ a → hh a k = h a k ∧ h a k = 0 ∨ a = p + 1 ∨ a = p + 2 := fun a k w => by
        by_cases q : a = p + 1 ∨ a = p + 2
        · exact Or.inr q
        · exact Or.inl ⟨hi4 a k (by omega) (by omega) (by omega), (zf0 a k (by omega)).2⟩
      have c4 : CScore hh p st0.1 := ⟨hi2, hi3, fun k k1 k2 => ⟨((hi5 k k1 (by omega)).1).trans (show (4 : Int) = (if 6 + k = 0 then 32 else if 6 + k = 1 then 10 else if 6 ≤ 6 + k ∧ 6 + k < 66 then 4 else if 66 ≤ 6 + k ∧ 6 + k < 126 then 60 else 0) by rw [if_neg (by omega), if_neg (by omega), if_pos (by omega)]), ((hi5 k k1 (by omega)).2).trans (show (60 : Int) = (if 66 + k = 0 then 32 else if 66 + k = 1 then 10 else if 6 ≤ 66 + k ∧ 66 + k < 66 then 4 else if 66 ≤ 66 + k ∧ 66 + k < 126 then 60 else 0) by rw [if_neg (by omega), if_neg (by omega), if_neg (by omega), if_pos (by omega)])⟩, ⟨(hi4 _ _ (by omega) (by omega) (by omega)).trans (zf0 _ _ (by omega)).2, fun k k1 k2 => by have k2 : k < 0 := k2; omega⟩, ⟨(hi4 _ _ (by omega) (by omega) (by omega)).trans (zf0 _ _ (by omega)).2, fun k k1 k2 => by have k2 : k < 0 := k2; omega⟩, ⟨(hi4 _ _ (by omega) (by omega) (by omega)).trans (zf0 _ _ (by omega)).2, fun k k1 k2 => by have k2 : k < 0 := k2; omega⟩, ⟨(hi4 _ _ (by omega) (by omega) (by omega)).trans (zf0 _ _ (by omega)).2, fun k k1 k2 => by have k2 : k < 0 := k2; omega⟩⟩
      clear hz
      refine Aj.aload_n C 0 dX4_init_61 rfl ?_
      refine Aj.new C lc_RX4_25 lk_RX6 li_RX6 (t := 6) rfl SH.2.2.2.1.1 (by decide) (fun b => hi6 _ b (by omega)) (by decide) dX4_init_62 ?_
      rw [show p + 3 + 1 = p + 4 by omega]
      have zf_11 := ZF.up (m := p + 4) hi6 (by omega)
      refine Aj.dup_qa C dX4_init_65 ?_
      refine Aj.iconst C dX4_init_66 (by decide) ?_
      refine Aj.callIn (As := [qi 4]) (st := [qa (p + 3), qa p]) C lm_RX4_27 m_X6_init mk_X6_init rfl (c_X6_init4 _ (p := p + 3) (by omega) (by omega) SH.2.2.2.1 zf_11) (al_mk (SH.2.2.2.1.1) (by omega) (by omega) (by decide)) rfl rfl (by decide) (Nat.le_of_ble_eq_true rfl) (by decide) dX4_init_67 (fun r_13 h_12 p67 => ?_)
      obtain ⟨rfl, ls67, zs67, rs67⟩ := p67
      refine Aj.nc (m := p + 6) (cs2 := (5, 131)) (by omega) rfl ?_
      have zs67 := ZF.up (m := p + 6) zs67 (by omega)
      refine Aj.putR C lf_RX4_30 rfl (al_mk (SH.1) (by omega) (by omega) (by decide)) (hin rfl) rfl dX4_init_70 (fun r_14 er_14 => ?_)
      have zf_15 := ZF.r zs67 er_14 (by omega)
      refine Aj.aload_n C 0 dX4_init_73 rfl ?_
      refine Aj.new C lc_RX4_25 lk_RX6 li_RX6 (t := 6) rfl SH.2.2.2.2.1.1 (by decide) (fun b => zf_15 _ b (by omega)) (by decide) dX4_init_74 ?_
      rw [show p + 6 + 1 = p + 7 by omega]
      have zf_16 := ZF.up (m := p + 7) zf_15 (by omega)
      refine Aj.dup_qa C dX4_init_77 ?_
      refine Aj.iconst C dX4_init_78 (by decide) ?_
      refine Aj.callIn (As := [qi 4]) (st := [qa (p + 6), qa p]) C lm_RX4_27 m_X6_init mk_X6_init rfl (c_X6_init4 _ (p := p + 6) (by omega) (by omega) SH.2.2.2.2.1 zf_16) (al_mk (SH.2.2.2.2.1.1) (by omega) (by omega) (by decide)) rfl rfl (by decide) (Nat.le_of_ble_eq_true rfl) (by decide) dX4_init_79 (fun r_18 h_17 p79 => ?_)
      obtain ⟨rfl, ls79, zs79, rs79⟩ := p79
      refine Aj.nc (m := p + 9) (cs2 := (8, 142)) (by omega) rfl ?_
      have zs79 := ZF.up (m := p + 9) zs79 (by omega)
      refine Aj.putR C lf_RX4_34 rfl (al_mk (SH.1) (by omega) (by omega) (by decide)) (hin rfl) rfl dX4_init_82 (fun r_19 er_19 => ?_)
      have zf_20 := ZF.r zs79 er_19 (by omega)
      refine Aj.aload_n C 0 dX4_init_85 rfl ?_
      refine Aj.new C lc_RX4_25 lk_RX6 li_RX6 (t := 6) rfl SH.2.2.2.2.2.1.1 (by decide) (fun b => zf_20 _ b (by omega)) (by decide) dX4_init_86 ?_
      rw [show p + 9 + 1 = p + 10 by omega]
      have zf_21 := ZF.up (m := p + 10) zf_20 (by omega)
      refine Aj.dup_qa C dX4_init_89 ?_
      refine Aj.iconst C dX4_init_90 (by decide) ?_
      refine Aj.callIn (As := [qi 3]) (st := [qa (p + 9), qa p]) C lm_RX4_27 m_X6_init mk_X6_init rfl (c_X6_init3 _ (p := p + 9) (by omega) (by omega) SH.2.2.2.2.2.1 zf_21) (al_mk (SH.2.2.2.2.2.1.1) (by omega) (by omega) (by decide)) rfl rfl (by decide) (Nat.le_of_ble_eq_true rfl) (by decide) dX4_init_91 (fun r_23 h_22 p91 => ?_)
      obtain ⟨rfl, ls91, zs91, rs91⟩ := p91
      refine Aj.nc (m := p + 12) (cs2 := (11, 151)) (by omega) rfl ?_
      have zs91 := ZF.up (m := p + 12) zs91 (by omega)
      refine Aj.putR C lf_RX4_37 rfl (al_mk (SH.1) (by omega) (by omega) (by decide)) (hin rfl) rfl dX4_init_94 (fun r_24 er_24 => ?_)
      have zf_25 := ZF.r zs91 er_24 (by omega)
      refine Aj.aload_n C 0 dX4_init_97 rfl ?_
      refine Aj.new C lc_RX4_40 lk_RX7 li_RX7 (t := 7) rfl SH.2.2.2.2.2.2.1 (by decide) (fun b => zf_25 _ b (by omega)) (by decide) dX4_init_98 ?_
      rw [show p + 12 + 1 = p + 13 by omega]
      have zf_26 := ZF.up (m := p + 13) zf_25 (by omega)
      refine Aj.dup_qa C dX4_init_101 ?_
      refine Aj.callIn (As := []) (st := [qa (p + 12), qa p]) C lm_RX4_42 m_X7_init mk_X7_init rfl (c_X7_init _ (p := p + 12) (by omega) (by omega) SH.2.2.2.2.2.2 zf_26) (al_mk (SH.2.2.2.2.2.2.1) (by omega) (by omega) (by decide)) rfl rfl (by decide) (Nat.le_of_ble_eq_true rfl) (by decide) dX4_init_102 (fun r_28 h_27 p102 => ?_)
      obtain ⟨rfl, ls102, zs102, rs102⟩ := p102
      refine Aj.nc (m := p + 17) (cs2 := (16, 236)) (by omega) rfl ?_
      have zs102 := ZF.up (m := p + 17) zs102 (by omega)
      refine Aj.putR C lf_RX4_43 rfl (al_mk (SH.1) (by omega) (by omega) (by decide)) (hin rfl) rfl dX4_init_105 (fun r_29 er_29 => ?_)
      have zf_30 := ZF.r zs102 er_29 (by omega)
      refine Aj.vret C dX4_init_108 (by rw [hmc]; exact ⟨rfl, Nat.le_of_ble_eq_true rfl⟩) ⟨rfl, ?_⟩
      exact ⟨⟨⟨(al_mk (SH.1) (by omega) (by omega) (by decide)), (al_mk (SH.2.1) (by omega) (by omega) (by decide)), (al_mk (SH.2.2.1) (by omega) (by omega) (by decide))⟩, ⟨(by rw [er_29, hset_neb _ _ _ (by decide), rs102 _ _ (by omega), er_24, hset_neb _ _ _ (by decide), rs91 _ _ (by omega), er_19, hset_neb _ _ _ (by decide), rs79 _ _ (by omega), er_14, hset_neb _ _ _ (by decide), rs67 _ _ (by omega), er_9, hset_neb _ _ _ (by decide), er_6]; exact hset_same _ _ _ _), (by rw [er_29, hset_neb _ _ _ (by decide), rs102 _ _ (by omega), er_24, hset_neb _ _ _ (by decide), rs91 _ _ (by omega), er_19, hset_neb _ _ _ (by decide), rs79 _ _ (by omega), er_14, hset_neb _ _ _ (by decide), rs67 _ _ (by omega), er_9]; exact hset_same _ _ _ _), (by rw [er_29, hset_neb _ _ _ (by decide), rs102 _ _ (by omega), er_24, hset_neb _ _ _ (by decide), rs91 _ _ (by omega), er_19, hset_neb _ _ _ (by decide), rs79 _ _ (by omega), er_14]; exact hset_same _ _ _ _), (by rw [er_29, hset_neb _ _ _ (by decide), rs102 _ _ (by omega), er_24, hset_neb _ _ _ (by decide), rs91 _ _ (by omega), er_19]; exact hset_same _ _ _ _), (by rw [er_29, hset_neb _ _ _ (by decide), rs102 _ _ (by omega), er_24]; exact hset_same _ _ _ _), (by rw [er_29]; exact hset_same _ _ _ _)⟩, ls67.mv (by omega) (fun a k h1 h2 => by rw [er_29, hset_nea _ _ _ (by omega), rs102 _ _ (by omega), er_24, hset_nea _ _ _ (by omega), rs91 _ _ (by omega), er_19, hset_nea _ _ _ (by omega), rs79 _ _ (by omega), er_14, hset_nea _ _ _ (by omega)]), ls79.mv (by omega) (fun a k h1 h2 => by rw [er_29, hset_nea _ _ _ (by omega), rs102 _ _ (by omega), er_24, hset_nea _ _ _ (by omega), rs91 _ _ (by omega), er_19, hset_nea _ _ _ (by omega)]), ls91.mv (by omega) (fun a k h1 h2 => by rw [er_29, hset_nea _ _ _ (by omega), rs102 _ _ (by omega), er_24, hset_nea _ _ _ (by omega)]), ls102.mv (by omega) (fun a k h1 h2 => by rw [er_29, hset_nea _ _ _ (by omega)])⟩, c4, zf_30, fun a k w => by rw [er_29, hset_nea _ _ _ (by omega), rs102 _ _ (by omega), er_24, hset_nea _ _ _ (by omega), rs91 _ _ (by omega), er_19, hset_nea _ _ _ (by omega), rs79 _ _ (by omega), er_14, hset_nea _ _ _ (by omega), rs67 _ _ (by omega), er_9, hset_nea _ _ _ (by omega), er_6, hset_nea _ _ _ (by omega)], fun a k w => hx2 a k (by omega) (by omega) (by omega)⟩
    · refine Aj.aload_n C 0 dX4_init_40 rfl ?_
      refine Aj.getR (z := p + 1) C lf_RX4_18 rfl (al_mk (SH.1) (by omega) (by omega) (by decide)) (by rw [er_9, hset_neb _ _ _ (by decide), er_6]; exact hset_same _ _ _ _) dX4_init_41 ?_
      refine Aj.iload_n C 1 dX4_init_44 rfl ?_
      refine Aj.iconst C dX4_init_45 (by decide) ?_
      refine Aj.iast C (al_mk (SH.2.1) (by omega) (by omega) (by decide)) (by omega) dX4_init_46 (fun h_31 eh_31 => ?_)
      have zf_32 := ZF.h hi6 eh_31 (by omega)
      refine Aj.aload_n C 0 dX4_init_47 rfl ?_
      refine Aj.getR (z := p + 2) C lf_RX4_22 rfl (al_mk (SH.1) (by omega) (by omega) (by decide)) (by rw [er_9]; exact hset_same _ _ _ _) dX4_init_48 ?_
      refine Aj.iload_n C 1 dX4_init_51 rfl ?_
      refine Aj.bipush C dX4_init_52 (by decide) (by decide) ?_
      refine Aj.iast C (al_mk (SH.2.2.1) (by omega) (by omega) (by decide)) (by omega) dX4_init_54 (fun h_33 eh_33 => ?_)
      have zf_34 := ZF.h zf_32 eh_33 (by omega)
      refine Aj.iinc (al2 := [(1, qi (i + 1)), (0, qa p)]) C 1 dX4_init_55 rfl (by decide) (by omega) rfl ?_
      refine Aj.goto (tgt := 34) C dX4_init_58 (by decide) ?_
      refine Aj.pick (al2 := [(0, qa p), (1, qi (i + 1))]) [1, 0] rfl ?_
      exact ih34 (i + 1) h_33 (⟨by omega, by omega, by rw [eh_33, eh_31, hset_nea _ _ _ (by omega), hset_nea _ _ _ (by omega)]; exact hi2, by rw [eh_33, eh_31, hset_nea _ _ _ (by omega), hset_nea _ _ _ (by omega)]; exact hi3, fun a k q1 q2 q3 => by rw [eh_33, eh_31, hset_nea _ _ _ q3, hset_nea _ _ _ q2]; exact hi4 a k q1 q2 q3, fun k k1 k2 => by
        rw [eh_33, eh_31]
        by_cases e : k = i
        · subst e; rw [hset_nea _ _ _ (by omega), hset_same, hset_same]; exact ⟨rfl, rfl⟩
        · rw [hset_neb _ _ _ e, hset_neb _ _ _ e, hset_neb _ _ _ e, hset_nea _ _ _ (by omega)]; exact hi5 k k1 (by omega), zf_34⟩) (by omega)
