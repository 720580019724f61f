set_option maxHeartbeats 400000 in
set_option maxRecDepth 100000 in
theorem c_X9_tenths (l : Launch) {G : qG} {n : Int} {r h : qH} {a : Int} (ha : 0 ≤ a ∧ a < 60) {M : Int} {s : Int → Int} (L : LModel G n r M) (c : IMs h M s) (g : SG s) : q_Cm l G yX9_tenths cX9_tenths 2 (some .int) 0 0 [qa M, qi a] n r h (q_Pi r (fun z h' => h = h' ∧ z = tenP s a)) 0 0 := by
  refine q_enter (al := [(0, qa M), (1, qi a)]) m_X9_tenths rfl (Nat.le_of_ble_eq_true rfl) ?_
  intro hok X C hmc hxl hin
  have gn := g.n
  have gb := g.b a ha.1 ha.2
  refine Aj.sipush C dX9_tenths_0 (by decide) (by decide) ?_
  refine Aj.aload_n C 0 dX9_tenths_3 rfl ?_
  refine Aj.getR C lf_RX9_7 rfl L.a L.r1 dX9_tenths_4 ?_
  refine Aj.bipush C dX9_tenths_7 (by decide) (by decide) ?_
  refine Aj.iload_n C 1 dX9_tenths_9 rfl ?_
  refine Aj.iadd C dX9_tenths_10 (by omega) ?_
  refine Aj.ialde (w := s (6 + a)) C L.a1 (by omega) dX9_tenths_11 (c _ (by omega) (by omega)) ?_
  refine Aj.imul C dX9_tenths_12 (by omega) ?_
  refine Aj.aload_n C 0 dX9_tenths_13 rfl ?_
  refine Aj.getR C lf_RX9_7 rfl L.a L.r1 dX9_tenths_14 ?_
  refine Aj.bipush C dX9_tenths_17 (by decide) (by decide) ?_
  refine Aj.iload_n C 1 dX9_tenths_19 rfl ?_
  refine Aj.iadd C dX9_tenths_20 (by omega) ?_
  refine Aj.ialde (w := s (66 + a)) C L.a1 (by omega) dX9_tenths_21 (c _ (by omega) (by omega)) ?_
  refine Aj.idiv C dX9_tenths_22 (by omega) (by omega) ?_
  refine Aj.iret C dX9_tenths_23 (by rw [hmc]; exact ⟨rfl, Nat.le_of_ble_eq_true rfl⟩) ⟨_, rfl, rfl, ?_⟩
  exact ⟨rfl, rfl⟩
