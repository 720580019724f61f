set_option maxHeartbeats 1000000 in
set_option maxRecDepth 100000 in
theorem c_X9_init (l : Launch) {G : qG} {n : Int} {r h : qH} {p : Int} (hn : n = p + 1) (hb : (G.1 : Int) ≤ p) (SH : SModel G p) (zf : ZF n r h) (z0 : ∀ k, h p k = 0) : q_Cm l G yX9_init cX9_init 2 none 1 20 [qa p] n r h (q_Pn (fun r' h' => LModel G (p + 16) r' p ∧ IM h' p st0 ∧ ZF (p + 16) r' h' ∧ (∀ a b, a < p → r' a b = r a b) ∧ ∀ a b, (a < p ∨ p + 16 ≤ a) → h' a b = h a b)) 15 2886 := by
  refine q_enter (al := [(0, qa p)]) m_X9_init rfl (Nat.le_of_ble_eq_true rfl) ?_
  intro hok X C hmc hxl hin
  have zf0 := zf
  subst hn
  refine Aj.aload_n C 0 dX9_init_0 rfl ?_
  refine Aj.objInit C lm_RX9_1 (al_mk (SH.1) (by omega) (by omega) (by decide)) ⟨Nat.le_of_ble_eq_true rfl, Nat.le_of_ble_eq_true rfl⟩ dX9_init_1 ?_
  refine Aj.aload_n C 0 dX9_init_4 rfl ?_
  refine Aj.sipush C dX9_init_5 (by decide) (by decide) ?_
  refine Aj.newaI C (by decide) (by decide) SH.2.1 (fun b => zf _ b (by omega)) ⟨Nat.le_of_ble_eq_true rfl, Nat.le_of_ble_eq_true rfl⟩ dX9_init_8 ?_
  rw [show p + 1 + 1 = p + 2 by omega]
  have zf_1 := ZF.up (m := p + 2) zf (by omega)
  refine Aj.putR C lf_RX9_7 rfl (al_mk (SH.1) (by omega) (by omega) (by decide)) (hin rfl) rfl dX9_init_10 (fun r_2 er_2 => ?_)
  have zf_3 := ZF.r zf_1 er_2 (by omega)
  refine Aj.aload_n C 0 dX9_init_13 rfl ?_
  refine Aj.sipush C dX9_init_14 (by decide) (by decide) ?_
  refine Aj.newaI C (by decide) (by decide) SH.2.2.1 (fun b => zf_3 _ b (by omega)) ⟨Nat.le_of_ble_eq_true rfl, Nat.le_of_ble_eq_true rfl⟩ dX9_init_17 ?_
  rw [show p + 2 + 1 = p + 3 by omega]
  have zf_4 := ZF.up (m := p + 3) zf_3 (by omega)
  refine Aj.putR C lf_RX9_13 rfl (al_mk (SH.1) (by omega) (by omega) (by decide)) (hin rfl) rfl dX9_init_19 (fun r_5 er_5 => ?_)
  have zf_6 := ZF.r zf_4 er_5 (by omega)
  refine Aj.aload_n C 0 dX9_init_22 rfl ?_
  refine Aj.sipush C dX9_init_23 (by decide) (by decide) ?_
  refine Aj.newaI C (by decide) (by decide) SH.2.2.2.1 (fun b => zf_6 _ b (by omega)) ⟨Nat.le_of_ble_eq_true rfl, Nat.le_of_ble_eq_true rfl⟩ dX9_init_26 ?_
  rw [show p + 3 + 1 = p + 4 by omega]
  have zf_7 := ZF.up (m := p + 4) zf_6 (by omega)
  refine Aj.putR C lf_RX9_16 rfl (al_mk (SH.1) (by omega) (by omega) (by decide)) (hin rfl) rfl dX9_init_28 (fun r_8 er_8 => ?_)
  have zf_9 := ZF.r zf_7 er_8 (by omega)
  refine Aj.aload_n C 0 dX9_init_31 rfl ?_
  refine Aj.iconst C dX9_init_32 (by decide) ?_
  refine Aj.newaZ C (by decide) (by decide) SH.2.2.2.2.1 (fun b => zf_9 _ b (by omega)) ⟨Nat.le_of_ble_eq_true rfl, Nat.le_of_ble_eq_true rfl⟩ dX9_init_33 ?_
  rw [show p + 4 + 1 = p + 5 by omega]
  have zf_10 := ZF.up (m := p + 5) zf_9 (by omega)
  refine Aj.putR C lf_RX9_19 rfl (al_mk (SH.1) (by omega) (by omega) (by decide)) (hin rfl) rfl dX9_init_35 (fun r_11 er_11 => ?_)
  have zf_12 := ZF.r zf_10 er_11 (by omega)
  refine Aj.aload_n C 0 dX9_init_38 rfl ?_
  refine Aj.bipush C dX9_init_39 (by decide) (by decide) ?_
  refine Aj.newaI C (by decide) (by decide) SH.2.2.2.2.2.1 (fun b => zf_12 _ b (by omega)) ⟨Nat.le_of_ble_eq_true rfl, Nat.le_of_ble_eq_true rfl⟩ dX9_init_41 ?_
  rw [show p + 5 + 1 = p + 6 by omega]
  have zf_13 := ZF.up (m := p + 6) zf_12 (by omega)
  refine Aj.putR C lf_RX9_23 rfl (al_mk (SH.1) (by omega) (by omega) (by decide)) (hin rfl) rfl dX9_init_43 (fun r_14 er_14 => ?_)
  have zf_15 := ZF.r zf_13 er_14 (by omega)
  refine Aj.aload_n C 0 dX9_init_46 rfl ?_
  refine Aj.sipush C dX9_init_47 (by decide) (by decide) ?_
  refine Aj.newaI C (by decide) (by decide) SH.2.2.2.2.2.2.1 (fun b => zf_15 _ b (by omega)) ⟨Nat.le_of_ble_eq_true rfl, Nat.le_of_ble_eq_true rfl⟩ dX9_init_50 ?_
  rw [show p + 6 + 1 = p + 7 by omega]
  have zf_16 := ZF.up (m := p + 7) zf_15 (by omega)
  refine Aj.putR C lf_RX9_26 rfl (al_mk (SH.1) (by omega) (by omega) (by decide)) (hin rfl) rfl dX9_init_52 (fun r_17 er_17 => ?_)
  have zf_18 := ZF.r zf_16 er_17 (by omega)
  refine Aj.aload_n C 0 dX9_init_55 rfl ?_
  refine Aj.sipush C dX9_init_56 (by decide) (by decide) ?_
  refine Aj.newaI C (by decide) (by decide) SH.2.2.2.2.2.2.2.1 (fun b => zf_18 _ b (by omega)) ⟨Nat.le_of_ble_eq_true rfl, Nat.le_of_ble_eq_true rfl⟩ dX9_init_59 ?_
  rw [show p + 7 + 1 = p + 8 by omega]
  have zf_19 := ZF.up (m := p + 8) zf_18 (by omega)
  refine Aj.putR C lf_RX9_29 rfl (al_mk (SH.1) (by omega) (by omega) (by decide)) (hin rfl) rfl dX9_init_61 (fun r_20 er_20 => ?_)
  have zf_21 := ZF.r zf_19 er_20 (by omega)
  refine Aj.aload_n C 0 dX9_init_64 rfl ?_
  refine Aj.bipush C dX9_init_65 (by decide) (by decide) ?_
  refine Aj.newaI C (by decide) (by decide) SH.2.2.2.2.2.2.2.2.1 (fun b => zf_21 _ b (by omega)) ⟨Nat.le_of_ble_eq_true rfl, Nat.le_of_ble_eq_true rfl⟩ dX9_init_67 ?_
  rw [show p + 8 + 1 = p + 9 by omega]
  have zf_22 := ZF.up (m := p + 9) zf_21 (by omega)
  refine Aj.putR C lf_RX9_32 rfl (al_mk (SH.1) (by omega) (by omega) (by decide)) (hin rfl) rfl dX9_init_69 (fun r_23 er_23 => ?_)
  have zf_24 := ZF.r zf_22 er_23 (by omega)
  refine Aj.aload_n C 0 dX9_init_72 rfl ?_
  refine Aj.bipush C dX9_init_73 (by decide) (by decide) ?_
  refine Aj.newaI C (by decide) (by decide) SH.2.2.2.2.2.2.2.2.2.1 (fun b => zf_24 _ b (by omega)) ⟨Nat.le_of_ble_eq_true rfl, Nat.le_of_ble_eq_true rfl⟩ dX9_init_75 ?_
  rw [show p + 9 + 1 = p + 10 by omega]
  have zf_25 := ZF.up (m := p + 10) zf_24 (by omega)
  refine Aj.putR C lf_RX9_35 rfl (al_mk (SH.1) (by omega) (by omega) (by decide)) (hin rfl) rfl dX9_init_77 (fun r_26 er_26 => ?_)
  have zf_27 := ZF.r zf_25 er_26 (by omega)
  refine Aj.aload_n C 0 dX9_init_80 rfl ?_
  refine Aj.bipush C dX9_init_81 (by decide) (by decide) ?_
  refine Aj.newaI C (by decide) (by decide) SH.2.2.2.2.2.2.2.2.2.2.1 (fun b => zf_27 _ b (by omega)) ⟨Nat.le_of_ble_eq_true rfl, Nat.le_of_ble_eq_true rfl⟩ dX9_init_83 ?_
  rw [show p + 10 + 1 = p + 11 by omega]
  have zf_28 := ZF.up (m := p + 11) zf_27 (by omega)
  refine Aj.putR C lf_RX9_38 rfl (al_mk (SH.1) (by omega) (by omega) (by decide)) (hin rfl) rfl dX9_init_85 (fun r_29 er_29 => ?_)
  have zf_30 := ZF.r zf_28 er_29 (by omega)
  refine Aj.aload_n C 0 dX9_init_88 rfl ?_
  refine Aj.bipush C dX9_init_89 (by decide) (by decide) ?_
  refine Aj.newaI C (by decide) (by decide) SH.2.2.2.2.2.2.2.2.2.2.2.1 (fun b => zf_30 _ b (by omega)) ⟨Nat.le_of_ble_eq_true rfl, Nat.le_of_ble_eq_true rfl⟩ dX9_init_91 ?_
  rw [show p + 11 + 1 = p + 12 by omega]
  have zf_31 := ZF.up (m := p + 12) zf_30 (by omega)
  refine Aj.putR C lf_RX9_41 rfl (al_mk (SH.1) (by omega) (by omega) (by decide)) (hin rfl) rfl dX9_init_93 (fun r_32 er_32 => ?_)
  have zf_33 := ZF.r zf_31 er_32 (by omega)
  refine Aj.aload_n C 0 dX9_init_96 rfl ?_
  refine Aj.bipush C dX9_init_97 (by decide) (by decide) ?_
  refine Aj.newaI C (by decide) (by decide) SH.2.2.2.2.2.2.2.2.2.2.2.2.1 (fun b => zf_33 _ b (by omega)) ⟨Nat.le_of_ble_eq_true rfl, Nat.le_of_ble_eq_true rfl⟩ dX9_init_99 ?_
  rw [show p + 12 + 1 = p + 13 by omega]
  have zf_34 := ZF.up (m := p + 13) zf_33 (by omega)
  refine Aj.putR C lf_RX9_44 rfl (al_mk (SH.1) (by omega) (by omega) (by decide)) (hin rfl) rfl dX9_init_101 (fun r_35 er_35 => ?_)
  have zf_36 := ZF.r zf_34 er_35 (by omega)
  refine Aj.aload_n C 0 dX9_init_104 rfl ?_
  refine Aj.bipush C dX9_init_105 (by decide) (by decide) ?_
  refine Aj.newaI C (by decide) (by decide) SH.2.2.2.2.2.2.2.2.2.2.2.2.2.1 (fun b => zf_36 _ b (by omega)) ⟨Nat.le_of_ble_eq_true rfl, Nat.le_of_ble_eq_true rfl⟩ dX9_init_107 ?_
  rw [show p + 13 + 1 = p + 14 by omega]
  have zf_37 := ZF.up (m := p + 14) zf_36 (by omega)
  refine Aj.putR C lf_RX9_47 rfl (al_mk (SH.1) (by omega) (by omega) (by decide)) (hin rfl) rfl dX9_init_109 (fun r_38 er_38 => ?_)
  have zf_39 := ZF.r zf_37 er_38 (by omega)
  refine Aj.aload_n C 0 dX9_init_112 rfl ?_
  refine Aj.bipush C dX9_init_113 (by decide) (by decide) ?_
  refine Aj.newaI C (by decide) (by decide) SH.2.2.2.2.2.2.2.2.2.2.2.2.2.2.1 (fun b => zf_39 _ b (by omega)) ⟨Nat.le_of_ble_eq_true rfl, Nat.le_of_ble_eq_true rfl⟩ dX9_init_115 ?_
  rw [show p + 14 + 1 = p + 15 by omega]
  have zf_40 := ZF.up (m := p + 15) zf_39 (by omega)
  refine Aj.putR C lf_RX9_50 rfl (al_mk (SH.1) (by omega) (by omega) (by decide)) (hin rfl) rfl dX9_init_117 (fun r_41 er_41 => ?_)
  have zf_42 := ZF.r zf_40 er_41 (by omega)
  refine Aj.aload_n C 0 dX9_init_120 rfl ?_
  refine Aj.sipush C dX9_init_121 (by decide) (by decide) ?_
  refine Aj.newaI C (by decide) (by decide) SH.2.2.2.2.2.2.2.2.2.2.2.2.2.2.2 (fun b => zf_42 _ b (by omega)) ⟨Nat.le_of_ble_eq_true rfl, Nat.le_of_ble_eq_true rfl⟩ dX9_init_124 ?_
  rw [show p + 15 + 1 = p + 16 by omega]
  have zf_43 := ZF.up (m := p + 16) zf_42 (by omega)
  refine Aj.putR C lf_RX9_53 rfl (al_mk (SH.1) (by omega) (by omega) (by decide)) (hin rfl) rfl dX9_init_126 (fun r_44 er_44 => ?_)
  have zf_45 := ZF.r zf_43 er_44 (by omega)
  refine Aj.aload_n C 0 dX9_init_129 rfl ?_
  refine Aj.iconst C dX9_init_130 (by decide) ?_
  refine Aj.putI C lf_RX9_56 (al_mk (SH.1) (by omega) (by omega) (by decide)) dX9_init_131 (fun h_46 eh_46 => ?_)
  have zf_47 := ZF.h zf_45 eh_46 (by omega)
  refine Aj.aload_n C 0 dX9_init_134 rfl ?_
  refine Aj.getR (z := p + 1) C lf_RX9_7 rfl (al_mk (SH.1) (by omega) (by omega) (by decide)) (by rw [er_44, hset_neb _ _ _ (by decide), er_41, hset_neb _ _ _ (by decide), er_38, hset_neb _ _ _ (by decide), er_35, hset_neb _ _ _ (by decide), er_32, hset_neb _ _ _ (by decide), er_29, hset_neb _ _ _ (by decide), er_26, hset_neb _ _ _ (by decide), er_23, hset_neb _ _ _ (by decide), er_20, hset_neb _ _ _ (by decide), er_17, hset_neb _ _ _ (by decide), er_14, hset_neb _ _ _ (by decide), er_11, hset_neb _ _ _ (by decide), er_8, hset_neb _ _ _ (by decide), er_5, hset_neb _ _ _ (by decide), er_2]; exact hset_same _ _ _ _) dX9_init_135 ?_
  refine Aj.iconst C dX9_init_138 (by decide) ?_
  refine Aj.bipush C dX9_init_139 (by decide) (by decide) ?_
  refine Aj.iast C (al_mk (SH.2.1) (by omega) (by omega) (by decide)) (by omega) dX9_init_141 (fun h_48 eh_48 => ?_)
  have zf_49 := ZF.h zf_47 eh_48 (by omega)
  refine Aj.aload_n C 0 dX9_init_142 rfl ?_
  refine Aj.getR (z := p + 1) C lf_RX9_7 rfl (al_mk (SH.1) (by omega) (by omega) (by decide)) (by rw [er_44, hset_neb _ _ _ (by decide), er_41, hset_neb _ _ _ (by decide), er_38, hset_neb _ _ _ (by decide), er_35, hset_neb _ _ _ (by decide), er_32, hset_neb _ _ _ (by decide), er_29, hset_neb _ _ _ (by decide), er_26, hset_neb _ _ _ (by decide), er_23, hset_neb _ _ _ (by decide), er_20, hset_neb _ _ _ (by decide), er_17, hset_neb _ _ _ (by decide), er_14, hset_neb _ _ _ (by decide), er_11, hset_neb _ _ _ (by decide), er_8, hset_neb _ _ _ (by decide), er_5, hset_neb _ _ _ (by decide), er_2]; exact hset_same _ _ _ _) dX9_init_143 ?_
  refine Aj.iconst C dX9_init_146 (by decide) ?_
  refine Aj.bipush C dX9_init_147 (by decide) (by decide) ?_
  refine Aj.iast C (al_mk (SH.2.1) (by omega) (by omega) (by decide)) (by omega) dX9_init_149 (fun h_50 eh_50 => ?_)
  have zf_51 := ZF.h zf_49 eh_50 (by omega)
  refine Aj.iconst C dX9_init_150 (by decide) ?_
  refine Aj.istore_n (al2 := [(1, qi 0), (0, qa p)]) C dX9_init_151 (by decide) rfl ?_
  refine Aj.pick (al2 := [(0, qa p), (1, qi 0)]) [1, 0] rfl ?_
  suffices L152 : ∀ (N : Nat) (i : Int) (hh : qH) , (0 ≤ i ∧ i ≤ 60 ∧ (∀ j, 0 ≤ j → j < 228 → hh (p + 1) j = if j = 0 then 32 else if j = 1 then 10 else if 6 ≤ j ∧ j < 6 + i then 4 else if 66 ≤ j ∧ j < 66 + i then 60 else 0) ∧ ∀ a k, a ≠ p + 1 → ¬ (a = p ∧ k = 0) → hh a k = h a k) → (60 - i).toNat < N → Aj G X (q_Pn (fun r' h' => LModel G (p + 16) r' p ∧ IM h' p st0 ∧ ZF (p + 16) r' h' ∧ (∀ a b, a < p → r' a b = r a b) ∧ ∀ a b, (a < p ∨ p + 16 ≤ a) → h' a b = h a b)) cX9_init 2 (15, 2886) (p + 16) r_44 hh 152 [(0, qa p), (1, qi i)] [] from L152 (_ + 1) 0 h_50 (⟨by omega, by omega, fun j j1 j2 => by
    rw [eh_50, hset_ap]
    by_cases q : j = 1
    · rw [if_pos ⟨rfl, q⟩, if_neg (by omega), if_pos q]
    · rw [if_neg (fun w => q w.2), eh_48, hset_ap]
      by_cases q2 : j = 0
      · rw [if_pos ⟨rfl, q2⟩, if_pos q2]
      · rw [if_neg (fun w => q2 w.2), eh_46, hset_nea _ _ _ (by omega), if_neg q2, if_neg q, if_neg (by omega), if_neg (by omega)]; exact (zf0 _ _ (by omega)).2, fun a k q1 q2 => by rw [eh_50, eh_48, eh_46, hset_nea _ _ _ q1, hset_nea _ _ _ q1, hset_ne _ _ (by omega)]⟩) (Nat.lt_succ_self _)
  intro N152
  induction N152 with
  | zero => intro i hh _ hN; exact absurd hN (Nat.not_lt_zero _)
  | succ N ih152 =>
    intro i hh hI152 hN152
    obtain ⟨hi0, hi1, hi2, hi3⟩ := hI152
    refine Aj.iload_n C 1 dX9_init_152 rfl ?_
    refine Aj.bipush C dX9_init_153 (by decide) (by decide) ?_
    refine Aj.icmp_ge (tgt := 185) C dX9_init_155 (by decide) (fun c155 => ?_) (fun c155 => ?_)
    · refine Aj.vret C dX9_init_185 (by rw [hmc]; exact ⟨rfl, Nat.le_of_ble_eq_true rfl⟩) ⟨rfl, ?_⟩
      have e : i = 60 := by omega
      subst e
      have hz : ∀ a k, p + 1 ≤ a → a ≠ p + 1 → hh a k = 0 := fun a k q1 q2 => (hi3 a k q2 (by omega)).trans (zf0 a k (by omega)).2
      have hp : ∀ k, k ≠ 0 → hh p k = h p k := fun k q => hi3 p k (by omega) (by omega)
      refine ⟨⟨(al_mk (SH.1) (by omega) (by omega) (by decide)), ⟨(al_mk (SH.2.1) (by omega) (by omega) (by decide)), (al_mk (SH.2.2.1) (by omega) (by omega) (by decide)), (al_mk (SH.2.2.2.1) (by omega) (by omega) (by decide)), (al_mk (SH.2.2.2.2.1) (by omega) (by omega) (by decide)), (al_mk (SH.2.2.2.2.2.1) (by omega) (by omega) (by decide)), (al_mk (SH.2.2.2.2.2.2.1) (by omega) (by omega) (by decide)), (al_mk (SH.2.2.2.2.2.2.2.1) (by omega) (by omega) (by decide)), (al_mk (SH.2.2.2.2.2.2.2.2.1) (by omega) (by omega) (by decide)), (al_mk (SH.2.2.2.2.2.2.2.2.2.1) (by omega) (by omega) (by decide)), (al_mk (SH.2.2.2.2.2.2.2.2.2.2.1) (by omega) (by omega) (by decide)), (al_mk (SH.2.2.2.2.2.2.2.2.2.2.2.1) (by omega) (by omega) (by decide)), (al_mk (SH.2.2.2.2.2.2.2.2.2.2.2.2.1) (by omega) (by omega) (by decide)), (al_mk (SH.2.2.2.2.2.2.2.2.2.2.2.2.2.1) (by omega) (by omega) (by decide)), (al_mk (SH.2.2.2.2.2.2.2.2.2.2.2.2.2.2.1) (by omega) (by omega) (by decide)), (al_mk (SH.2.2.2.2.2.2.2.2.2.2.2.2.2.2.2) (by omega) (by omega) (by decide))⟩, (by rw [er_44, hset_neb _ _ _ (by decide), er_41, hset_neb _ _ _ (by decide), er_38, hset_neb _ _ _ (by decide), er_35, hset_neb _ _ _ (by decide), er_32, hset_neb _ _ _ (by decide), er_29, hset_neb _ _ _ (by decide), er_26, hset_neb _ _ _ (by decide), er_23, hset_neb _ _ _ (by decide), er_20, hset_neb _ _ _ (by decide), er_17, hset_neb _ _ _ (by decide), er_14, hset_neb _ _ _ (by decide), er_11, hset_neb _ _ _ (by decide), er_8, hset_neb _ _ _ (by decide), er_5, hset_neb _ _ _ (by decide), er_2]; exact hset_same _ _ _ _), (by rw [er_44, hset_neb _ _ _ (by decide), er_41, hset_neb _ _ _ (by decide), er_38, hset_neb _ _ _ (by decide), er_35, hset_neb _ _ _ (by decide), er_32, hset_neb _ _ _ (by decide), er_29, hset_neb _ _ _ (by decide), er_26, hset_neb _ _ _ (by decide), er_23, hset_neb _ _ _ (by decide), er_20, hset_neb _ _ _ (by decide), er_17, hset_neb _ _ _ (by decide), er_14, hset_neb _ _ _ (by decide), er_11, hset_neb _ _ _ (by decide), er_8, hset_neb _ _ _ (by decide), er_5]; exact hset_same _ _ _ _), (by rw [er_44, hset_neb _ _ _ (by decide), er_41, hset_neb _ _ _ (by decide), er_38, hset_neb _ _ _ (by decide), er_35, hset_neb _ _ _ (by decide), er_32, hset_neb _ _ _ (by decide), er_29, hset_neb _ _ _ (by decide), er_26, hset_neb _ _ _ (by decide), er_23, hset_neb _ _ _ (by decide), er_20, hset_neb _ _ _ (by decide), er_17, hset_neb _ _ _ (by decide), er_14, hset_neb _ _ _ (by decide), er_11, hset_neb _ _ _ (by decide), er_8]; exact hset_same _ _ _ _), (by rw [er_44, hset_neb _ _ _ (by decide), er_41, hset_neb _ _ _ (by decide), er_38, hset_neb _ _ _ (by decide), er_35, hset_neb _ _ _ (by decide), er_32, hset_neb _ _ _ (by decide), er_29, hset_neb _ _ _ (by decide), er_26, hset_neb _ _ _ (by decide), er_23, hset_neb _ _ _ (by decide), er_20, hset_neb _ _ _ (by decide), er_17, hset_neb _ _ _ (by decide), er_14, hset_neb _ _ _ (by decide), er_11]; exact hset_same _ _ _ _), (by rw [er_44, hset_neb _ _ _ (by decide), er_41, hset_neb _ _ _ (by decide), er_38, hset_neb _ _ _ (by decide), er_35, hset_neb _ _ _ (by decide), er_32, hset_neb _ _ _ (by decide), er_29, hset_neb _ _ _ (by decide), er_26, hset_neb _ _ _ (by decide), er_23, hset_neb _ _ _ (by decide), er_20, hset_neb _ _ _ (by decide), er_17, hset_neb _ _ _ (by decide), er_14]; exact hset_same _ _ _ _), (by rw [er_44, hset_neb _ _ _ (by decide), er_41, hset_neb _ _ _ (by decide), er_38, hset_neb _ _ _ (by decide), er_35, hset_neb _ _ _ (by decide), er_32, hset_neb _ _ _ (by decide), er_29, hset_neb _ _ _ (by decide), er_26, hset_neb _ _ _ (by decide), er_23, hset_neb _ _ _ (by decide), er_20, hset_neb _ _ _ (by decide), er_17]; exact hset_same _ _ _ _), (by rw [er_44, hset_neb _ _ _ (by decide), er_41, hset_neb _ _ _ (by decide), er_38, hset_neb _ _ _ (by decide), er_35, hset_neb _ _ _ (by decide), er_32, hset_neb _ _ _ (by decide), er_29, hset_neb _ _ _ (by decide), er_26, hset_neb _ _ _ (by decide), er_23, hset_neb _ _ _ (by decide), er_20]; exact hset_same _ _ _ _), (by rw [er_44, hset_neb _ _ _ (by decide), er_41, hset_neb _ _ _ (by decide), er_38, hset_neb _ _ _ (by decide), er_35, hset_neb _ _ _ (by decide), er_32, hset_neb _ _ _ (by decide), er_29, hset_neb _ _ _ (by decide), er_26, hset_neb _ _ _ (by decide), er_23]; exact hset_same _ _ _ _), (by rw [er_44, hset_neb _ _ _ (by decide), er_41, hset_neb _ _ _ (by decide), er_38, hset_neb _ _ _ (by decide), er_35, hset_neb _ _ _ (by decide), er_32, hset_neb _ _ _ (by decide), er_29, hset_neb _ _ _ (by decide), er_26]; exact hset_same _ _ _ _), (by rw [er_44, hset_neb _ _ _ (by decide), er_41, hset_neb _ _ _ (by decide), er_38, hset_neb _ _ _ (by decide), er_35, hset_neb _ _ _ (by decide), er_32, hset_neb _ _ _ (by decide), er_29]; exact hset_same _ _ _ _), (by rw [er_44, hset_neb _ _ _ (by decide), er_41, hset_neb _ _ _ (by decide), er_38, hset_neb _ _ _ (by decide), er_35, hset_neb _ _ _ (by decide), er_32]; exact hset_same _ _ _ _), (by rw [er_44, hset_neb _ _ _ (by decide), er_41, hset_neb _ _ _ (by decide), er_38, hset_neb _ _ _ (by decide), er_35]; exact hset_same _ _ _ _), (by rw [er_44, hset_neb _ _ _ (by decide), er_41, hset_neb _ _ _ (by decide), er_38]; exact hset_same _ _ _ _), (by rw [er_44, hset_neb _ _ _ (by decide), er_41]; exact hset_same _ _ _ _), (by rw [er_44]; exact hset_same _ _ _ _)⟩, ⟨fun j j1 j2 => ?_, ⟨?_, fun k k1 k2 => by have k2 : k < 0 := k2; omega⟩, ⟨?_, fun k k1 k2 => by have k2 : k < 0 := k2; omega⟩, fun k k1 k2 => ⟨hz _ _ (by omega) (by omega), fun w => absurd (show (0 : Int) = 1 from w) (by decide)⟩⟩, fun a k q => ⟨?_, ?_⟩, fun a k w => ?_, fun a k w => hi3 a k (by omega) (by omega)⟩
      · rw [hi2 j j1 j2]; rfl
      · exact (hp 7 (by decide)).trans (z0 7)
      · exact (hp 3 (by decide)).trans (z0 3)
      · exact (zf_51 _ _ (by omega)).1
      · exact hz _ _ (by omega) (by omega)
      · rw [er_44, hset_nea _ _ _ (by omega), er_41, hset_nea _ _ _ (by omega), er_38, hset_nea _ _ _ (by omega), er_35, hset_nea _ _ _ (by omega), er_32, hset_nea _ _ _ (by omega), er_29, hset_nea _ _ _ (by omega), er_26, hset_nea _ _ _ (by omega), er_23, hset_nea _ _ _ (by omega), er_20, hset_nea _ _ _ (by omega), er_17, hset_nea _ _ _ (by omega), er_14, hset_nea _ _ _ (by omega), er_11, hset_nea _ _ _ (by omega), er_8, hset_nea _ _ _ (by omega), er_5, hset_nea _ _ _ (by omega), er_2, hset_nea _ _ _ (by omega)]
    · refine Aj.aload_n C 0 dX9_init_158 rfl ?_
      refine Aj.getR (z := p + 1) C lf_RX9_7 rfl (al_mk (SH.1) (by omega) (by omega) (by decide)) (by rw [er_44, hset_neb _ _ _ (by decide), er_41, hset_neb _ _ _ (by decide), er_38, hset_neb _ _ _ (by decide), er_35, hset_neb _ _ _ (by decide), er_32, hset_neb _ _ _ (by decide), er_29, hset_neb _ _ _ (by decide), er_26, hset_neb _ _ _ (by decide), er_23, hset_neb _ _ _ (by decide), er_20, hset_neb _ _ _ (by decide), er_17, hset_neb _ _ _ (by decide), er_14, hset_neb _ _ _ (by decide), er_11, hset_neb _ _ _ (by decide), er_8, hset_neb _ _ _ (by decide), er_5, hset_neb _ _ _ (by decide), er_2]; exact hset_same _ _ _ _) dX9_init_159 ?_
      refine Aj.bipush C dX9_init_162 (by decide) (by decide) ?_
      refine Aj.iload_n C 1 dX9_init_164 rfl ?_
      refine Aj.iadd C dX9_init_165 (by omega) ?_
      refine Aj.iconst C dX9_init_166 (by decide) ?_
      refine Aj.iast C (al_mk (SH.2.1) (by omega) (by omega) (by decide)) (by omega) dX9_init_167 (fun h_52 eh_52 => ?_)
      refine Aj.aload_n C 0 dX9_init_168 rfl ?_
      refine Aj.getR (z := p + 1) C lf_RX9_7 rfl (al_mk (SH.1) (by omega) (by omega) (by decide)) (by rw [er_44, hset_neb _ _ _ (by decide), er_41, hset_neb _ _ _ (by decide), er_38, hset_neb _ _ _ (by decide), er_35, hset_neb _ _ _ (by decide), er_32, hset_neb _ _ _ (by decide), er_29, hset_neb _ _ _ (by decide), er_26, hset_neb _ _ _ (by decide), er_23, hset_neb _ _ _ (by decide), er_20, hset_neb _ _ _ (by decide), er_17, hset_neb _ _ _ (by decide), er_14, hset_neb _ _ _ (by decide), er_11, hset_neb _ _ _ (by decide), er_8, hset_neb _ _ _ (by decide), er_5, hset_neb _ _ _ (by decide), er_2]; exact hset_same _ _ _ _) dX9_init_169 ?_
      refine Aj.bipush C dX9_init_172 (by decide) (by decide) ?_
      refine Aj.iload_n C 1 dX9_init_174 rfl ?_
      refine Aj.iadd C dX9_init_175 (by omega) ?_
      refine Aj.bipush C dX9_init_176 (by decide) (by decide) ?_
      refine Aj.iast C (al_mk (SH.2.1) (by omega) (by omega) (by decide)) (by omega) dX9_init_178 (fun h_53 eh_53 => ?_)
      refine Aj.iinc (al2 := [(1, qi (i + 1)), (0, qa p)]) C 1 dX9_init_179 rfl (by decide) (by omega) rfl ?_
      refine Aj.goto (tgt := 152) C dX9_init_182 (by decide) ?_
      refine Aj.pick (al2 := [(0, qa p), (1, qi (i + 1))]) [1, 0] rfl ?_
      exact ih152 (i + 1) h_53 (⟨by omega, by omega, fun j j1 j2 => by
        rw [eh_53, hset_ap]
        by_cases q : j = 66 + i
        · rw [if_pos ⟨rfl, q⟩, if_neg (by omega), if_neg (by omega), if_neg (by omega), if_pos (by omega)]
        · rw [if_neg (fun w => q w.2), eh_52, hset_ap]
          by_cases q2 : j = 6 + i
          · rw [if_pos ⟨rfl, q2⟩, if_neg (by omega), if_neg (by omega), if_pos (by omega)]
          · rw [if_neg (fun w => q2 w.2), hi2 j j1 j2]
            by_cases w1 : j = 0
            · rw [if_pos w1, if_pos w1]
            · rw [if_neg w1, if_neg w1]
              by_cases w2 : j = 1
              · rw [if_pos w2, if_pos w2]
              · rw [if_neg w2, if_neg w2]
                by_cases w3 : 6 ≤ j ∧ j < 6 + i
                · rw [if_pos w3, if_pos (by omega)]
                · rw [if_neg w3]
                  by_cases w4 : 66 ≤ j ∧ j < 66 + i
                  · rw [if_pos w4, if_neg (by omega), if_pos (by omega)]
                  · rw [if_neg w4, if_neg (by omega), if_neg (by omega)], fun a k q1 q2 => by rw [eh_53, eh_52, hset_nea _ _ _ q1, hset_nea _ _ _ q1]; exact hi3 a k q1 q2⟩) (by omega)
