set_option maxHeartbeats 1000000 in
set_option maxRecDepth 100000 in
theorem c_X1_init (l : Launch) {G : qG} {n : Int} {r h : qH} {p : Int} (hn : n = p + 1) (hb : (G.1 : Int) ≤ p) (SH : SNight G p) (zf : ZF n r h) : q_Cm l G yX1_init cX1_init 1 none 2 40 [qa p] n r h (q_Pn (fun r' h' => h = h' ∧ LNight G (p + 14) r' p ∧ ZF (p + 14) r' h' ∧ ∀ a b, a < p → r' a b = r a b)) 13 708 := by
  refine q_enter (al := [(0, qa p)]) m_X1_init rfl (Nat.le_of_ble_eq_true rfl) ?_
  intro hok X C hmc hxl hin
  subst hn
  refine Aj.aload_n C 0 dX1_init_0 rfl ?_
  refine Aj.objInit C lm_RX1_3 (al_mk (SH.1) (by omega) (by omega) (by decide)) ⟨Nat.le_of_ble_eq_true rfl, Nat.le_of_ble_eq_true rfl⟩ dX1_init_1 ?_
  refine Aj.aload_n C 0 dX1_init_4 rfl ?_
  refine Aj.bipush C dX1_init_5 (by decide) (by decide) ?_
  refine Aj.newaI C (by decide) (by decide) SH.2.1 (fun b => zf _ b (by omega)) (by decide) dX1_init_7 ?_
  rw [show p + 1 + 1 = p + 2 by omega]
  have zf_1 := ZF.up (m := p + 2) zf (by omega)
  refine Aj.putR C lf_RX1_9 rfl (al_mk (SH.1) (by omega) (by omega) (by decide)) (hin rfl) rfl dX1_init_9 (fun r_2 er_2 => ?_)
  have zf_3 := ZF.r zf_1 er_2 (by omega)
  refine Aj.aload_n C 0 dX1_init_12 rfl ?_
  refine Aj.bipush C dX1_init_13 (by decide) (by decide) ?_
  refine Aj.newaI C (by decide) (by decide) SH.2.2.1 (fun b => zf_3 _ b (by omega)) (by decide) dX1_init_15 ?_
  rw [show p + 2 + 1 = p + 3 by omega]
  have zf_4 := ZF.up (m := p + 3) zf_3 (by omega)
  refine Aj.putR C lf_RX1_15 rfl (al_mk (SH.1) (by omega) (by omega) (by decide)) (hin rfl) rfl dX1_init_17 (fun r_5 er_5 => ?_)
  have zf_6 := ZF.r zf_4 er_5 (by omega)
  refine Aj.aload_n C 0 dX1_init_20 rfl ?_
  refine Aj.bipush C dX1_init_21 (by decide) (by decide) ?_
  refine Aj.newaI C (by decide) (by decide) SH.2.2.2.1 (fun b => zf_6 _ b (by omega)) (by decide) dX1_init_23 ?_
  rw [show p + 3 + 1 = p + 4 by omega]
  have zf_7 := ZF.up (m := p + 4) zf_6 (by omega)
  refine Aj.putR C lf_RX1_18 rfl (al_mk (SH.1) (by omega) (by omega) (by decide)) (hin rfl) rfl dX1_init_25 (fun r_8 er_8 => ?_)
  have zf_9 := ZF.r zf_7 er_8 (by omega)
  refine Aj.aload_n C 0 dX1_init_28 rfl ?_
  refine Aj.bipush C dX1_init_29 (by decide) (by decide) ?_
  refine Aj.newaI C (by decide) (by decide) SH.2.2.2.2.1 (fun b => zf_9 _ b (by omega)) (by decide) dX1_init_31 ?_
  rw [show p + 4 + 1 = p + 5 by omega]
  have zf_10 := ZF.up (m := p + 5) zf_9 (by omega)
  refine Aj.putR C lf_RX1_21 rfl (al_mk (SH.1) (by omega) (by omega) (by decide)) (hin rfl) rfl dX1_init_33 (fun r_11 er_11 => ?_)
  have zf_12 := ZF.r zf_10 er_11 (by omega)
  refine Aj.aload_n C 0 dX1_init_36 rfl ?_
  refine Aj.bipush C dX1_init_37 (by decide) (by decide) ?_
  refine Aj.newaI C (by decide) (by decide) SH.2.2.2.2.2.1 (fun b => zf_12 _ b (by omega)) (by decide) dX1_init_39 ?_
  rw [show p + 5 + 1 = p + 6 by omega]
  have zf_13 := ZF.up (m := p + 6) zf_12 (by omega)
  refine Aj.putR C lf_RX1_24 rfl (al_mk (SH.1) (by omega) (by omega) (by decide)) (hin rfl) rfl dX1_init_41 (fun r_14 er_14 => ?_)
  have zf_15 := ZF.r zf_13 er_14 (by omega)
  refine Aj.aload_n C 0 dX1_init_44 rfl ?_
  refine Aj.new C lc_RX1_27 lk_RX5 li_RX5 (t := 5) rfl SH.2.2.2.2.2.2.1 (by decide) (fun b => zf_15 _ b (by omega)) (by decide) dX1_init_45 ?_
  rw [show p + 6 + 1 = p + 7 by omega]
  have zf_16 := ZF.up (m := p + 7) zf_15 (by omega)
  refine Aj.dup_qa C dX1_init_48 ?_
  refine Aj.callIn (As := []) (st := [qa (p + 6), qa p]) C lm_RX1_29 m_X5_init mk_X5_init rfl (c_X5_init _ (p := p + 6) (by omega) (by omega) SH.2.2.2.2.2.2 zf_16) (al_mk (SH.2.2.2.2.2.2.1) (by omega) (by omega) (by decide)) rfl rfl (by decide) (Nat.le_of_ble_eq_true rfl) (by decide) dX1_init_49 (fun r_18 h_17 p49 => ?_)
  obtain ⟨rfl, ls49, zs49, rs49⟩ := p49
  refine Aj.nc (m := p + 14) (cs2 := (13, 708)) (by omega) rfl ?_
  have zs49 := ZF.up (m := p + 14) zs49 (by omega)
  refine Aj.putR C lf_RX1_30 rfl (al_mk (SH.1) (by omega) (by omega) (by decide)) (hin rfl) rfl dX1_init_52 (fun r_19 er_19 => ?_)
  have zf_20 := ZF.r zs49 er_19 (by omega)
  refine Aj.vret C dX1_init_55 (by rw [hmc]; exact ⟨rfl, Nat.le_of_ble_eq_true rfl⟩) ⟨rfl, ?_⟩
  exact ⟨rfl, ⟨(al_mk (SH.1) (by omega) (by omega) (by decide)), ⟨(al_mk (SH.2.1) (by omega) (by omega) (by decide)), (al_mk (SH.2.2.1) (by omega) (by omega) (by decide)), (al_mk (SH.2.2.2.1) (by omega) (by omega) (by decide)), (al_mk (SH.2.2.2.2.1) (by omega) (by omega) (by decide)), (al_mk (SH.2.2.2.2.2.1) (by omega) (by omega) (by decide))⟩, ⟨(by rw [er_19, hset_neb _ _ _ (by decide), rs49 _ _ (by omega), er_14, hset_neb _ _ _ (by decide), er_11, hset_neb _ _ _ (by decide), er_8, hset_neb _ _ _ (by decide), er_5, hset_neb _ _ _ (by decide), er_2]; exact hset_same _ _ _ _), (by rw [er_19, hset_neb _ _ _ (by decide), rs49 _ _ (by omega), er_14, hset_neb _ _ _ (by decide), er_11, hset_neb _ _ _ (by decide), er_8, hset_neb _ _ _ (by decide), er_5]; exact hset_same _ _ _ _), (by rw [er_19, hset_neb _ _ _ (by decide), rs49 _ _ (by omega), er_14, hset_neb _ _ _ (by decide), er_11, hset_neb _ _ _ (by decide), er_8]; exact hset_same _ _ _ _), (by rw [er_19, hset_neb _ _ _ (by decide), rs49 _ _ (by omega), er_14, hset_neb _ _ _ (by decide), er_11]; exact hset_same _ _ _ _), (by rw [er_19, hset_neb _ _ _ (by decide), rs49 _ _ (by omega), er_14]; exact hset_same _ _ _ _), (by rw [er_19]; exact hset_same _ _ _ _)⟩, ls49.mv (by omega) (fun a k h1 h2 => by rw [er_19, hset_nea _ _ _ (by omega)])⟩, zf_20, fun a k w => by rw [er_19, hset_nea _ _ _ (by omega), rs49 _ _ (by omega), er_14, hset_nea _ _ _ (by omega), er_11, hset_nea _ _ _ (by omega), er_8, hset_nea _ _ _ (by omega), er_5, hset_nea _ _ _ (by omega), er_2, hset_nea _ _ _ (by omega)]⟩
