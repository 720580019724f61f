set_option maxHeartbeats 400000 in
set_option maxRecDepth 100000 in
theorem c_X9_of (l : Launch) {G : qG} {n : Int} {r h : qH} {a b : Int} (ha : 0 ≤ a ∧ a < 20) (hb : 0 ≤ b ∧ b < 4) {M : Int} {s : Int → Int} (L : LModel G n r M) (c : IMs h M s) (g : SG s) : q_Cm l G yX9_of cX9_of 3 (some .int) 0 0 [qa M, qi a, qi b] n r h (q_Pi r (fun z h' => h = h' ∧ z = s (148 + 4 * a + b))) 0 0 := by
  refine q_enter (al := [(0, qa M), (1, qi a), (2, qi b)]) m_X9_of rfl (Nat.le_of_ble_eq_true rfl) ?_
  intro hok X C hmc hxl hin
  have gn := g.n
  refine Aj.aload_n C 0 dX9_of_0 rfl ?_
  refine Aj.getR C lf_RX9_7 rfl L.a L.r1 dX9_of_1 ?_
  refine Aj.sipush C dX9_of_4 (by decide) (by decide) ?_
  refine Aj.iconst C dX9_of_7 (by decide) ?_
  refine Aj.iload_n C 1 dX9_of_8 rfl ?_
  refine Aj.imul C dX9_of_9 (by omega) ?_
  refine Aj.iadd C dX9_of_10 (by omega) ?_
  refine Aj.iload_n C 2 dX9_of_11 rfl ?_
  refine Aj.iadd C dX9_of_12 (by omega) ?_
  refine Aj.ialde (w := s (148 + (4 * a) + b)) C L.a1 (by omega) dX9_of_13 (c _ (by omega) (by omega)) ?_
  refine Aj.iret C dX9_of_14 (by rw [hmc]; exact ⟨rfl, Nat.le_of_ble_eq_true rfl⟩) ⟨_, rfl, rfl, ?_⟩
  exact ⟨rfl, rfl⟩
