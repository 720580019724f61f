set_option maxHeartbeats 400000 in
set_option maxRecDepth 100000 in
theorem c_X9_isBar (l : Launch) {G : qG} {n : Int} {r h : qH} {a : Int} {M : Int} {s : Int → Int} (L : LModel G n r M) (c : IMs h M s) (g : SG s) : q_Cm l G yX9_isBar cX9_isBar 2 (some .boolean) 1 22 [qa M, qi a] n r h (q_Pi r (fun z h' => h = h' ∧ (z = 0 ∨ z = 1) ∧ (z = 1 ↔ barP s a))) 0 0 := by
  refine q_enter (al := [(0, qa M), (1, qi a)]) m_X9_isBar rfl (Nat.le_of_ble_eq_true rfl) ?_
  intro hok X C hmc hxl hin
  have gn := g.n
  refine Aj.iload_n C 1 dX9_isBar_0 rfl ?_
  refine Aj.iconst C dX9_isBar_1 (by decide) ?_
  refine Aj.aload_n C 0 dX9_isBar_2 rfl ?_
  refine Aj.getR C lf_RX9_7 rfl L.a L.r1 dX9_isBar_3 ?_
  refine Aj.iconst C dX9_isBar_6 (by decide) ?_
  refine Aj.ialde (w := s 0) C L.a1 (by omega) dX9_isBar_7 (c _ (by omega) (by omega)) ?_
  refine Aj.iconst C dX9_isBar_8 (by decide) ?_
  refine Aj.isub C dX9_isBar_9 (by omega) ?_
  refine Aj.callSi (As := [qi a, qi 0, qi (s 0 - 1)]) (st := []) C lm_RX9_60 m_X9_in mk_X9_in (c_X9_in _) rfl rfl (by decide) (Nat.le_of_ble_eq_true rfl) (by decide) dX9_isBar_10 (fun z10 h_1 rz10 p10 => ?_)
  obtain ⟨rfl, pz, pe⟩ := p10
  refine Aj.zret C dX9_isBar_13 (by omega) (by rw [hmc]; exact ⟨rfl, Nat.le_of_ble_eq_true rfl⟩) ⟨_, rfl, rfl, ?_⟩
  exact ⟨rfl, pz, by unfold barP; omega⟩
