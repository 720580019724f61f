set_option maxHeartbeats 4000000 in
set_option maxRecDepth 100000 in
theorem c_X6_init3 (l : Launch) {G : qG} {n : Int} {r h : qH} {p : Int} (hn : n = p + 1) (hb : (G.1 : Int) ≤ p) (SH : SSpans G p 3) (zf : ZF n r h) : q_Cm l G yX6_init cX6_init 2 none 1 20 [qa p, qi 3] n r h (q_Pn (fun r' h' => h = h' ∧ LSpans G (p + 3) r' p 3 ∧ ZF (p + 3) r' h' ∧ ∀ a b, a ≠ p → r' a b = r a b)) 2 6 := by
  refine q_enter (al := [(0, qa p), (1, qi 3)]) m_X6_init rfl (Nat.le_of_ble_eq_true rfl) ?_
  intro hok X C hmc hxl hin
  subst hn
  refine Aj.aload_n C 0 dX6_init_0 rfl ?_
  refine Aj.objInit C lm_RX6_3 (al_mk SH.1 hb (by omega) (by decide)) ⟨Nat.le_of_ble_eq_true rfl, Nat.le_of_ble_eq_true rfl⟩ dX6_init_1 ?_
  refine Aj.aload_n C 0 dX6_init_4 rfl ?_
  refine Aj.iload_n C 1 dX6_init_5 rfl ?_
  refine Aj.newaI C (by decide) (by decide) SH.2.1 (fun b => zf _ b (by omega)) (by decide) dX6_init_6 ?_
  rw [show p + 1 + 1 = p + 2 by omega]
  have zf_1 := ZF.up (m := p + 2) zf (by omega)
  refine Aj.putR C lf_RX6_9 rfl (al_mk SH.1 hb (by omega) (by decide)) (hin rfl) rfl dX6_init_8 (fun r_2 er_2 => ?_)
  have zf_3 := ZF.r zf_1 er_2 (by omega)
  refine Aj.aload_n C 0 dX6_init_11 rfl ?_
  refine Aj.iload_n C 1 dX6_init_12 rfl ?_
  refine Aj.newaI C (by decide) (by decide) SH.2.2 (fun b => zf_3 _ b (by omega)) (by decide) dX6_init_13 ?_
  rw [show p + 2 + 1 = p + 3 by omega]
  have zf_4 := ZF.up (m := p + 3) zf_3 (by omega)
  refine Aj.putR C lf_RX6_15 rfl (al_mk SH.1 hb (by omega) (by decide)) (hin rfl) rfl dX6_init_15 (fun r_5 er_5 => ?_)
  have zf_6 := ZF.r zf_4 er_5 (by omega)
  refine Aj.vret C dX6_init_18 (by rw [hmc]; exact ⟨rfl, Nat.le_of_ble_eq_true rfl⟩) ⟨rfl, ?_⟩
  exact ⟨rfl, ⟨al_mk SH.1 hb (by omega) (by decide), al_mk SH.2.1 (by omega) (by omega) (by decide), al_mk SH.2.2 (by omega) (by omega) (by decide), by rw [er_5, er_2, hset_neb _ _ _ (by decide), hset_same], by rw [er_5, hset_same]⟩, zf_6, fun a b w => by rw [er_5, er_2, hset_nea _ _ _ w, hset_nea _ _ _ w]⟩

set_option maxHeartbeats 4000000 in
set_option maxRecDepth 100000 in
theorem c_X6_init4 (l : Launch) {G : qG} {n : Int} {r h : qH} {p : Int} (hn : n = p + 1) (hb : (G.1 : Int) ≤ p) (SH : SSpans G p 4) (zf : ZF n r h) : q_Cm l G yX6_init cX6_init 2 none 1 20 [qa p, qi 4] n r h (q_Pn (fun r' h' => h = h' ∧ LSpans G (p + 3) r' p 4 ∧ ZF (p + 3) r' h' ∧ ∀ a b, a ≠ p → r' a b = r a b)) 2 8 := by
  refine q_enter (al := [(0, qa p), (1, qi 4)]) m_X6_init rfl (Nat.le_of_ble_eq_true rfl) ?_
  intro hok X C hmc hxl hin
  subst hn
  refine Aj.aload_n C 0 dX6_init_0 rfl ?_
  refine Aj.objInit C lm_RX6_3 (al_mk SH.1 hb (by omega) (by decide)) ⟨Nat.le_of_ble_eq_true rfl, Nat.le_of_ble_eq_true rfl⟩ dX6_init_1 ?_
  refine Aj.aload_n C 0 dX6_init_4 rfl ?_
  refine Aj.iload_n C 1 dX6_init_5 rfl ?_
  refine Aj.newaI C (by decide) (by decide) SH.2.1 (fun b => zf _ b (by omega)) (by decide) dX6_init_6 ?_
  rw [show p + 1 + 1 = p + 2 by omega]
  have zf_1 := ZF.up (m := p + 2) zf (by omega)
  refine Aj.putR C lf_RX6_9 rfl (al_mk SH.1 hb (by omega) (by decide)) (hin rfl) rfl dX6_init_8 (fun r_2 er_2 => ?_)
  have zf_3 := ZF.r zf_1 er_2 (by omega)
  refine Aj.aload_n C 0 dX6_init_11 rfl ?_
  refine Aj.iload_n C 1 dX6_init_12 rfl ?_
  refine Aj.newaI C (by decide) (by decide) SH.2.2 (fun b => zf_3 _ b (by omega)) (by decide) dX6_init_13 ?_
  rw [show p + 2 + 1 = p + 3 by omega]
  have zf_4 := ZF.up (m := p + 3) zf_3 (by omega)
  refine Aj.putR C lf_RX6_15 rfl (al_mk SH.1 hb (by omega) (by decide)) (hin rfl) rfl dX6_init_15 (fun r_5 er_5 => ?_)
  have zf_6 := ZF.r zf_4 er_5 (by omega)
  refine Aj.vret C dX6_init_18 (by rw [hmc]; exact ⟨rfl, Nat.le_of_ble_eq_true rfl⟩) ⟨rfl, ?_⟩
  exact ⟨rfl, ⟨al_mk SH.1 hb (by omega) (by decide), al_mk SH.2.1 (by omega) (by omega) (by decide), al_mk SH.2.2 (by omega) (by omega) (by decide), by rw [er_5, er_2, hset_neb _ _ _ (by decide), hset_same], by rw [er_5, hset_same]⟩, zf_6, fun a b w => by rw [er_5, er_2, hset_nea _ _ _ w, hset_nea _ _ _ w]⟩
