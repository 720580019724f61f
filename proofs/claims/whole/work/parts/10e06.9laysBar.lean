set_option maxHeartbeats 400000 in
set_option maxRecDepth 100000 in
theorem c_X9_laysBar (l : Launch) {G : qG} {n : Int} {r h : qH} {a b d : Int} (ha : 0 ≤ a ∧ a < 60) {M : Int} {s : Int → Int} (L : LModel G n r M) (c : IMs h M s) : q_Cm l G yX9_laysBar cX9_laysBar 4 none 0 0 [qa M, qi a, qi b, qi d] n r h (q_Pv r (fun h' => IMs h' M (sset (sset s (6 + a) b) (66 + a) d) ∧ FX M h h')) 0 0 := by
  refine q_enter (al := [(0, qa M), (1, qi a), (2, qi b), (3, qi d)]) m_X9_laysBar rfl (Nat.le_of_ble_eq_true rfl) ?_
  intro hok X C hmc hxl hin
  refine Aj.aload_n C 0 dX9_laysBar_0 rfl ?_
  refine Aj.getR C lf_RX9_7 rfl L.a L.r1 dX9_laysBar_1 ?_
  refine Aj.bipush C dX9_laysBar_4 (by decide) (by decide) ?_
  refine Aj.iload_n C 1 dX9_laysBar_6 rfl ?_
  refine Aj.iadd C dX9_laysBar_7 (by omega) ?_
  refine Aj.iload_n C 2 dX9_laysBar_8 rfl ?_
  refine Aj.iast C L.a1 (by omega) dX9_laysBar_9 (fun h_1 eh_1 => ?_)
  refine Aj.aload_n C 0 dX9_laysBar_10 rfl ?_
  refine Aj.getR C lf_RX9_7 rfl L.a L.r1 dX9_laysBar_11 ?_
  refine Aj.bipush C dX9_laysBar_14 (by decide) (by decide) ?_
  refine Aj.iload_n C 1 dX9_laysBar_16 rfl ?_
  refine Aj.iadd C dX9_laysBar_17 (by omega) ?_
  refine Aj.iload_n C 3 dX9_laysBar_18 rfl ?_
  refine Aj.iast C L.a1 (by omega) dX9_laysBar_19 (fun h_2 eh_2 => ?_)
  refine Aj.vret C dX9_laysBar_20 (by rw [hmc]; exact ⟨rfl, Nat.le_of_ble_eq_true rfl⟩) ⟨rfl, rfl, ?_⟩
  exact ⟨(c.set eh_1).set eh_2, (FX.set eh_1).tr (FX.set eh_2)⟩
