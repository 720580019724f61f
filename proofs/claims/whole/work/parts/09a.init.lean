set_option maxHeartbeats 4000000 in
set_option maxRecDepth 100000 in
theorem c_X6_init3 (l : Launch) {G : qG} {n : Int} {r h : qH} {p : Int} (hn : n = p + 1) (hb : (G.1 : Int) ≤ p) (SH : SSpans G p 3) (zf : ZF n r h) : q_Cm l G yX6_init cX6_init 2 none 1 20 [qa p, qi 3] n r h (q_Pn (fun r' h' => h = h' ∧ LSpans G (p + 3) r' p 3 ∧ ZF (p + 3) r' h' ∧ ∀ a b, a ≠ p → r' a b = r a b)) 2 6 := by
  refine q_enter (al := [(0, qa p), (1, qi 3)]) m_X6_init rfl (Nat.le_of_ble_eq_true rfl) ?_
  intro hok X C hmc hxl hin
  subst hn
  refine Aj.aload_n C 0 dX6_init_0 rfl ?_
  refine Aj.objInit C lm_RX6_3 (al_mk SH.1 hb (by omega) (by decide)) ⟨Nat.le_of_ble_eq_true rfl, Nat.le_of_ble_eq_true rfl⟩ dX6_init_1 ?_
  refine Aj.aload_n C 0 dX6_init_4 rfl ?_
  refine Aj.iload_n C 1 dX6_init_5 rfl ?_
  refine Aj.newaI C (by decide) (by decide) SH.2.1 (fun b => zf _ b (by omega)) (by decide) dX6_init_6 ?_
  rw [show p + 1 + 1 = p + 2 by omega]
  have zf_1 := ZF.up (m := p + 2) zf (by omega)
  refine Aj.putR C lf_RX6_9 rfl (al_mk SH.1 hb (by omega) (by decide)) (hin rfl) rfl dX6_init_8 (fun r_2 er_2 => ?_)
  have zf_3 := ZF.r zf_1 er_2 (by omega)
  refine Aj.aload_n C 0 dX6_init_11 rfl ?_
  refine Aj.iload_n C 1 dX6_init_12 rfl ?_
  refine Aj.newaI C (by decide) (by decide) SH.2.2 (fun b => zf_3 _ b (by omega)) (by decide) dX6_init_13 ?_
  rw [show p + 2 + 1 = p + 3 by omega]
  have zf_4 := ZF.up (m := p + 3) zf_3 (by omega)
  refine Aj.putR C lf_RX6_15 rfl (al_mk SH.1 hb (by omega) (by decide)) (hin rfl) rfl dX6_init_15 (fun r_5 er_5 => ?_)
  have zf_6 := ZF.r zf_4 er_5 (by omega)
  refine Aj.vret C dX6_init_18 (by rw [hmc]; exact ⟨rfl, Nat.le_of_ble_eq_true rfl⟩) ⟨rfl, ?_⟩
  exact ⟨rfl, ⟨al_mk SH.1 hb (by omega) (by decide), al_mk SH.2.1 (by omega) (by omega) (by decide), al_mk SH.2.2 (by omega) (by omega) (by decide), by rw [er_5, er_2, hset_neb _ _ _ (by decide), hset_same], by rw [er_5, hset_same]⟩, zf_6, fun a b w => by rw [er_5, er_2, hset_nea _ _ _ w, hset_nea _ _ _ w]⟩

set_option maxHeartbeats 4000000 in
set_option maxRecDepth 100000 in
theorem c_X6_init4 (l : Launch) {G : qG} {n : Int} {r h : qH} {p : Int} (hn : n = p + 1) (hb : (G.1 : Int) ≤ p) (SH : SSpans G p 4) (zf : ZF n r h) : q_Cm l G yX6_init cX6_init 2 none 1 20 [qa p, qi 4] n r h (q_Pn (fun r' h' => h = h' ∧ LSpans G (p + 3) r' p 4 ∧ ZF (p + 3) r' h' ∧ ∀ a b, a ≠ p → r' a b = r a b)) 2 8 := by
  refine q_enter (al := [(0, qa p), (1, qi 4)]) m_X6_init rfl (Nat.le_of_ble_eq_true rfl) ?_
  intro hok X C hmc hxl hin
  subst hn
  refine Aj.aload_n C 0 dX6_init_0 rfl ?_
  refine Aj.objInit C lm_RX6_3 (al_mk SH.1 hb (by omega) (by decide)) ⟨Nat.le_of_ble_eq_true rfl, Nat.le_of_ble_eq_true rfl⟩ dX6_init_1 ?_
  refine Aj.aload_n C 0 dX6_init_4 rfl ?_
  refine Aj.iload_n C 1 dX6_init_5 rfl ?_
  refine Aj.newaI C (by decide) (by decide) SH.2.1 (fun b => zf _ b (by omega)) (by decide) dX6_init_6 ?_
  rw [show p + 1 + 1 = p + 2 by omega]
  have zf_1 := ZF.up (m := p + 2) zf (by omega)
  refine Aj.putR C lf_RX6_9 rfl (al_mk SH.1 hb (by omega) (by decide)) (hin rfl) rfl dX6_init_8 (fun r_2 er_2 => ?_)
  have zf_3 := ZF.r zf_1 er_2 (by omega)
  refine Aj.aload_n C 0 dX6_init_11 rfl ?_
  refine Aj.iload_n C 1 dX6_init_12 rfl ?_
  refine Aj.newaI C (by decide) (by decide) SH.2.2 (fun b => zf_3 _ b (by omega)) (by decide) dX6_init_13 ?_
  rw [show p + 2 + 1 = p + 3 by omega]
  have zf_4 := ZF.up (m := p + 3) zf_3 (by omega)
  refine Aj.putR C lf_RX6_15 rfl (al_mk SH.1 hb (by omega) (by decide)) (hin rfl) rfl dX6_init_15 (fun r_5 er_5 => ?_)
  have zf_6 := ZF.r zf_4 er_5 (by omega)
  refine Aj.vret C dX6_init_18 (by rw [hmc]; exact ⟨rfl, Nat.le_of_ble_eq_true rfl⟩) ⟨rfl, ?_⟩
  exact ⟨rfl, ⟨al_mk SH.1 hb (by omega) (by decide), al_mk SH.2.1 (by omega) (by omega) (by decide), al_mk SH.2.2 (by omega) (by omega) (by decide), by rw [er_5, er_2, hset_neb _ _ _ (by decide), hset_same], by rw [er_5, hset_same]⟩, zf_6, fun a b w => by rw [er_5, er_2, hset_nea _ _ _ w, hset_nea _ _ _ w]⟩

set_option maxHeartbeats 4000000 in
set_option maxRecDepth 100000 in
theorem c_X7_init (l : Launch) {G : qG} {n : Int} {r h : qH} {p : Int} (hn : n = p + 1) (hb : (G.1 : Int) ≤ p) (SH : STitles G p) (zf : ZF n r h) : q_Cm l G yX7_init cX7_init 1 none 1 20 [qa p] n r h (q_Pn (fun r' h' => h = h' ∧ LTitles G (p + 5) r' p ∧ ZF (p + 5) r' h' ∧ ∀ a b, a ≠ p → r' a b = r a b)) 4 80 := by
  refine q_enter (al := [(0, qa p)]) m_X7_init rfl (Nat.le_of_ble_eq_true rfl) ?_
  intro hok X C hmc hxl hin
  subst hn
  refine Aj.aload_n C 0 dX7_init_0 rfl ?_
  refine Aj.objInit C lm_RX7_3 (al_mk (SH.1) hb (by omega) (by decide)) ⟨Nat.le_of_ble_eq_true rfl, Nat.le_of_ble_eq_true rfl⟩ dX7_init_1 ?_
  refine Aj.aload_n C 0 dX7_init_4 rfl ?_
  refine Aj.bipush C dX7_init_5 (by decide) (by decide) ?_
  refine Aj.newaI C (by decide) (by decide) (SH.2.1) (fun b => zf _ b (by omega)) (by decide) dX7_init_7 ?_
  rw [show p + 1 + 1 = p + 2 by omega]
  have zf_1 := ZF.up (m := p + 2) zf (by omega)
  refine Aj.putR C lf_RX7_9 rfl (al_mk (SH.1) hb (by omega) (by decide)) (hin rfl) rfl dX7_init_9 (fun r_2 er_2 => ?_)
  have zf_3 := ZF.r zf_1 er_2 (by omega)
  refine Aj.aload_n C 0 dX7_init_12 rfl ?_
  refine Aj.bipush C dX7_init_13 (by decide) (by decide) ?_
  refine Aj.newaI C (by decide) (by decide) (SH.2.2.1) (fun b => zf_3 _ b (by omega)) (by decide) dX7_init_15 ?_
  rw [show p + 2 + 1 = p + 3 by omega]
  have zf_4 := ZF.up (m := p + 3) zf_3 (by omega)
  refine Aj.putR C lf_RX7_15 rfl (al_mk (SH.1) hb (by omega) (by decide)) (hin rfl) rfl dX7_init_17 (fun r_5 er_5 => ?_)
  have zf_6 := ZF.r zf_4 er_5 (by omega)
  refine Aj.aload_n C 0 dX7_init_20 rfl ?_
  refine Aj.bipush C dX7_init_21 (by decide) (by decide) ?_
  refine Aj.newaI C (by decide) (by decide) (SH.2.2.2.1) (fun b => zf_6 _ b (by omega)) (by decide) dX7_init_23 ?_
  rw [show p + 3 + 1 = p + 4 by omega]
  have zf_7 := ZF.up (m := p + 4) zf_6 (by omega)
  refine Aj.putR C lf_RX7_18 rfl (al_mk (SH.1) hb (by omega) (by decide)) (hin rfl) rfl dX7_init_25 (fun r_8 er_8 => ?_)
  have zf_9 := ZF.r zf_7 er_8 (by omega)
  refine Aj.aload_n C 0 dX7_init_28 rfl ?_
  refine Aj.bipush C dX7_init_29 (by decide) (by decide) ?_
  refine Aj.newaI C (by decide) (by decide) (SH.2.2.2.2) (fun b => zf_9 _ b (by omega)) (by decide) dX7_init_31 ?_
  rw [show p + 4 + 1 = p + 5 by omega]
  have zf_10 := ZF.up (m := p + 5) zf_9 (by omega)
  refine Aj.putR C lf_RX7_21 rfl (al_mk (SH.1) hb (by omega) (by decide)) (hin rfl) rfl dX7_init_33 (fun r_11 er_11 => ?_)
  have zf_12 := ZF.r zf_10 er_11 (by omega)
  refine Aj.vret C dX7_init_36 (by rw [hmc]; exact ⟨rfl, Nat.le_of_ble_eq_true rfl⟩) ⟨rfl, ?_⟩
  exact ⟨rfl, ⟨al_mk (SH.1) hb (by omega) (by decide), ⟨al_mk (SH.2.1) (by omega) (by omega) (by decide), al_mk (SH.2.2.1) (by omega) (by omega) (by decide), al_mk (SH.2.2.2.1) (by omega) (by omega) (by decide), al_mk (SH.2.2.2.2) (by omega) (by omega) (by decide)⟩, by rw [er_11, er_8, er_5, er_2, hset_neb _ _ _ (by decide), hset_neb _ _ _ (by decide), hset_neb _ _ _ (by decide), hset_same], by rw [er_11, er_8, er_5, hset_neb _ _ _ (by decide), hset_neb _ _ _ (by decide), hset_same], by rw [er_11, er_8, hset_neb _ _ _ (by decide), hset_same], by rw [er_11, hset_same]⟩, zf_12, fun a b w => by rw [er_11, er_8, er_5, er_2, hset_nea _ _ _ w, hset_nea _ _ _ w, hset_nea _ _ _ w, hset_nea _ _ _ w]⟩

set_option maxHeartbeats 4000000 in
set_option maxRecDepth 100000 in
theorem c_X5_init (l : Launch) {G : qG} {n : Int} {r h : qH} {p : Int} (hn : n = p + 1) (hb : (G.1 : Int) ≤ p) (SH : SShow G p) (zf : ZF n r h) : q_Cm l G yX5_init cX5_init 1 none 1 20 [qa p] n r h (q_Pn (fun r' h' => h = h' ∧ LShow G (p + 8) r' p ∧ ZF (p + 8) r' h' ∧ ∀ a b, a ≠ p → r' a b = r a b)) 7 280 := by
  refine q_enter (al := [(0, qa p)]) m_X5_init rfl (Nat.le_of_ble_eq_true rfl) ?_
  intro hok X C hmc hxl hin
  subst hn
  refine Aj.aload_n C 0 dX5_init_0 rfl ?_
  refine Aj.objInit C lm_RX5_3 (al_mk (SH.1) hb (by omega) (by decide)) ⟨Nat.le_of_ble_eq_true rfl, Nat.le_of_ble_eq_true rfl⟩ dX5_init_1 ?_
  refine Aj.aload_n C 0 dX5_init_4 rfl ?_
  refine Aj.bipush C dX5_init_5 (by decide) (by decide) ?_
  refine Aj.newaI C (by decide) (by decide) (SH.2 1 (by decide) (by decide)) (fun b => zf _ b (by omega)) (by decide) dX5_init_7 ?_
  rw [show p + 1 + 1 = p + 2 by omega]
  have zf_1 := ZF.up (m := p + 2) zf (by omega)
  refine Aj.putR C lf_RX5_9 rfl (al_mk (SH.1) hb (by omega) (by decide)) (hin rfl) rfl dX5_init_9 (fun r_2 er_2 => ?_)
  have zf_3 := ZF.r zf_1 er_2 (by omega)
  refine Aj.aload_n C 0 dX5_init_12 rfl ?_
  refine Aj.bipush C dX5_init_13 (by decide) (by decide) ?_
  refine Aj.newaI C (by decide) (by decide) (SH.2 2 (by decide) (by decide)) (fun b => zf_3 _ b (by omega)) (by decide) dX5_init_15 ?_
  rw [show p + 2 + 1 = p + 3 by omega]
  have zf_4 := ZF.up (m := p + 3) zf_3 (by omega)
  refine Aj.putR C lf_RX5_15 rfl (al_mk (SH.1) hb (by omega) (by decide)) (hin rfl) rfl dX5_init_17 (fun r_5 er_5 => ?_)
  have zf_6 := ZF.r zf_4 er_5 (by omega)
  refine Aj.aload_n C 0 dX5_init_20 rfl ?_
  refine Aj.bipush C dX5_init_21 (by decide) (by decide) ?_
  refine Aj.newaI C (by decide) (by decide) (SH.2 3 (by decide) (by decide)) (fun b => zf_6 _ b (by omega)) (by decide) dX5_init_23 ?_
  rw [show p + 3 + 1 = p + 4 by omega]
  have zf_7 := ZF.up (m := p + 4) zf_6 (by omega)
  refine Aj.putR C lf_RX5_18 rfl (al_mk (SH.1) hb (by omega) (by decide)) (hin rfl) rfl dX5_init_25 (fun r_8 er_8 => ?_)
  have zf_9 := ZF.r zf_7 er_8 (by omega)
  refine Aj.aload_n C 0 dX5_init_28 rfl ?_
  refine Aj.bipush C dX5_init_29 (by decide) (by decide) ?_
  refine Aj.newaI C (by decide) (by decide) (SH.2 4 (by decide) (by decide)) (fun b => zf_9 _ b (by omega)) (by decide) dX5_init_31 ?_
  rw [show p + 4 + 1 = p + 5 by omega]
  have zf_10 := ZF.up (m := p + 5) zf_9 (by omega)
  refine Aj.putR C lf_RX5_21 rfl (al_mk (SH.1) hb (by omega) (by decide)) (hin rfl) rfl dX5_init_33 (fun r_11 er_11 => ?_)
  have zf_12 := ZF.r zf_10 er_11 (by omega)
  refine Aj.aload_n C 0 dX5_init_36 rfl ?_
  refine Aj.bipush C dX5_init_37 (by decide) (by decide) ?_
  refine Aj.newaI C (by decide) (by decide) (SH.2 5 (by decide) (by decide)) (fun b => zf_12 _ b (by omega)) (by decide) dX5_init_39 ?_
  rw [show p + 5 + 1 = p + 6 by omega]
  have zf_13 := ZF.up (m := p + 6) zf_12 (by omega)
  refine Aj.putR C lf_RX5_24 rfl (al_mk (SH.1) hb (by omega) (by decide)) (hin rfl) rfl dX5_init_41 (fun r_14 er_14 => ?_)
  have zf_15 := ZF.r zf_13 er_14 (by omega)
  refine Aj.aload_n C 0 dX5_init_44 rfl ?_
  refine Aj.bipush C dX5_init_45 (by decide) (by decide) ?_
  refine Aj.newaI C (by decide) (by decide) (SH.2 6 (by decide) (by decide)) (fun b => zf_15 _ b (by omega)) (by decide) dX5_init_47 ?_
  rw [show p + 6 + 1 = p + 7 by omega]
  have zf_16 := ZF.up (m := p + 7) zf_15 (by omega)
  refine Aj.putR C lf_RX5_27 rfl (al_mk (SH.1) hb (by omega) (by decide)) (hin rfl) rfl dX5_init_49 (fun r_17 er_17 => ?_)
  have zf_18 := ZF.r zf_16 er_17 (by omega)
  refine Aj.aload_n C 0 dX5_init_52 rfl ?_
  refine Aj.bipush C dX5_init_53 (by decide) (by decide) ?_
  refine Aj.newaI C (by decide) (by decide) (SH.2 7 (by decide) (by decide)) (fun b => zf_18 _ b (by omega)) (by decide) dX5_init_55 ?_
  rw [show p + 7 + 1 = p + 8 by omega]
  have zf_19 := ZF.up (m := p + 8) zf_18 (by omega)
  refine Aj.putR C lf_RX5_30 rfl (al_mk (SH.1) hb (by omega) (by decide)) (hin rfl) rfl dX5_init_57 (fun r_20 er_20 => ?_)
  have zf_21 := ZF.r zf_19 er_20 (by omega)
  refine Aj.vret C dX5_init_60 (by rw [hmc]; exact ⟨rfl, Nat.le_of_ble_eq_true rfl⟩) ⟨rfl, ?_⟩
  exact ⟨rfl, ⟨al_mk (SH.1) hb (by omega) (by decide), ⟨al_mk (SH.2 1 (by decide) (by decide)) (by omega) (by omega) (by decide), al_mk (SH.2 2 (by decide) (by decide)) (by omega) (by omega) (by decide), al_mk (SH.2 3 (by decide) (by decide)) (by omega) (by omega) (by decide), al_mk (SH.2 4 (by decide) (by decide)) (by omega) (by omega) (by decide), al_mk (SH.2 5 (by decide) (by decide)) (by omega) (by omega) (by decide), al_mk (SH.2 6 (by decide) (by decide)) (by omega) (by omega) (by decide), al_mk (SH.2 7 (by decide) (by decide)) (by omega) (by omega) (by decide)⟩, by rw [er_20, er_17, er_14, er_11, er_8, er_5, er_2, hset_neb _ _ _ (by decide), hset_neb _ _ _ (by decide), hset_neb _ _ _ (by decide), hset_neb _ _ _ (by decide), hset_neb _ _ _ (by decide), hset_neb _ _ _ (by decide), hset_same], by rw [er_20, er_17, er_14, er_11, er_8, er_5, hset_neb _ _ _ (by decide), hset_neb _ _ _ (by decide), hset_neb _ _ _ (by decide), hset_neb _ _ _ (by decide), hset_neb _ _ _ (by decide), hset_same], by rw [er_20, er_17, er_14, er_11, er_8, hset_neb _ _ _ (by decide), hset_neb _ _ _ (by decide), hset_neb _ _ _ (by decide), hset_neb _ _ _ (by decide), hset_same], by rw [er_20, er_17, er_14, er_11, hset_neb _ _ _ (by decide), hset_neb _ _ _ (by decide), hset_neb _ _ _ (by decide), hset_same], by rw [er_20, er_17, er_14, hset_neb _ _ _ (by decide), hset_neb _ _ _ (by decide), hset_same], by rw [er_20, er_17, hset_neb _ _ _ (by decide), hset_same], by rw [er_20, hset_same]⟩, zf_21, fun a b w => by rw [er_20, er_17, er_14, er_11, er_8, er_5, er_2, hset_nea _ _ _ w, hset_nea _ _ _ w, hset_nea _ _ _ w, hset_nea _ _ _ w, hset_nea _ _ _ w, hset_nea _ _ _ w, hset_nea _ _ _ w]⟩

set_option maxHeartbeats 4000000 in
set_option maxRecDepth 100000 in
theorem c_X2_init (l : Launch) {G : qG} {n : Int} {r h : qH} {p : Int} (hn : n = p + 1) (hb : (G.1 : Int) ≤ p) (SH : G.2.2.2 p = (2, 0) ∧ G.2.2.2 (p + 1) = (10, 80)) (zf : ZF n r h) : q_Cm l G yX2_init cX2_init 1 none 1 20 [qa p] n r h (q_Pn (fun r' h' => h = h' ∧ LPad G (p + 2) r' p ∧ ZF (p + 2) r' h' ∧ ∀ a b, a ≠ p → r' a b = r a b)) 1 80 := by
  refine q_enter (al := [(0, qa p)]) m_X2_init rfl (Nat.le_of_ble_eq_true rfl) ?_
  intro hok X C hmc hxl hin
  subst hn
  refine Aj.aload_n C 0 dX2_init_0 rfl ?_
  refine Aj.objInit C lm_RX2_3 (al_mk (SH.1) hb (by omega) (by decide)) ⟨Nat.le_of_ble_eq_true rfl, Nat.le_of_ble_eq_true rfl⟩ dX2_init_1 ?_
  refine Aj.aload_n C 0 dX2_init_4 rfl ?_
  refine Aj.bipush C dX2_init_5 (by decide) (by decide) ?_
  refine Aj.newaI C (by decide) (by decide) (SH.2) (fun b => zf _ b (by omega)) (by decide) dX2_init_7 ?_
  rw [show p + 1 + 1 = p + 2 by omega]
  have zf_1 := ZF.up (m := p + 2) zf (by omega)
  refine Aj.putR C lf_RX2_9 rfl (al_mk (SH.1) hb (by omega) (by decide)) (hin rfl) rfl dX2_init_9 (fun r_2 er_2 => ?_)
  have zf_3 := ZF.r zf_1 er_2 (by omega)
  refine Aj.vret C dX2_init_12 (by rw [hmc]; exact ⟨rfl, Nat.le_of_ble_eq_true rfl⟩) ⟨rfl, ?_⟩
  exact ⟨rfl, ⟨al_mk (SH.1) hb (by omega) (by decide), al_mk (SH.2) (by omega) (by omega) (by decide), by rw [er_2, hset_same]⟩, zf_3, fun a b w => by rw [er_2, hset_nea _ _ _ w]⟩

set_option maxHeartbeats 4000000 in
set_option maxRecDepth 100000 in
theorem c_X3_init (l : Launch) {G : qG} {n : Int} {r h : qH} {p : Int} (hn : n = p + 1) (hb : (G.1 : Int) ≤ p) (SH : G.2.2.2 p = (3, 0) ∧ G.2.2.2 (p + 1) = (10, 3)) (zf : ZF n r h) : q_Cm l G yX3_init cX3_init 1 none 1 20 [qa p] n r h (q_Pn (fun r' h' => h = h' ∧ LRead G (p + 2) r' p ∧ ZF (p + 2) r' h' ∧ ∀ a b, a ≠ p → r' a b = r a b)) 1 3 := by
  refine q_enter (al := [(0, qa p)]) m_X3_init rfl (Nat.le_of_ble_eq_true rfl) ?_
  intro hok X C hmc hxl hin
  subst hn
  refine Aj.aload_n C 0 dX3_init_0 rfl ?_
  refine Aj.objInit C lm_RX3_3 (al_mk (SH.1) hb (by omega) (by decide)) ⟨Nat.le_of_ble_eq_true rfl, Nat.le_of_ble_eq_true rfl⟩ dX3_init_1 ?_
  refine Aj.aload_n C 0 dX3_init_4 rfl ?_
  refine Aj.iconst C dX3_init_5 (by decide) ?_
  refine Aj.newaI C (by decide) (by decide) (SH.2) (fun b => zf _ b (by omega)) (by decide) dX3_init_6 ?_
  rw [show p + 1 + 1 = p + 2 by omega]
  have zf_1 := ZF.up (m := p + 2) zf (by omega)
  refine Aj.putR C lf_RX3_9 rfl (al_mk (SH.1) hb (by omega) (by decide)) (hin rfl) rfl dX3_init_8 (fun r_2 er_2 => ?_)
  have zf_3 := ZF.r zf_1 er_2 (by omega)
  refine Aj.vret C dX3_init_11 (by rw [hmc]; exact ⟨rfl, Nat.le_of_ble_eq_true rfl⟩) ⟨rfl, ?_⟩
  exact ⟨rfl, ⟨al_mk (SH.1) hb (by omega) (by decide), al_mk (SH.2) (by omega) (by omega) (by decide), by rw [er_2, hset_same]⟩, zf_3, fun a b w => by rw [er_2, hset_nea _ _ _ w]⟩
