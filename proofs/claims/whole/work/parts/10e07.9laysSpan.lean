set_option maxHeartbeats 400000 in
set_option maxRecDepth 100000 in
theorem c_X9_laysSpan (l : Launch) {G : qG} {n : Int} {r h : qH} {s : Int → Int} {a b d e : Int} (hb : 0 ≤ b ∧ b < 6) (hs : 0 ≤ s b ∧ s b ≤ 10) (ha : 126 ≤ a ∧ a + 2 * s b + 1 < 228) {M : Int} (L : LModel G n r M) (c : IMs h M s) : q_Cm l G yX9_laysSpan cX9_laysSpan 5 (some .int) 0 0 [qa M, qi a, qi b, qi d, qi e] n r h (q_Pi r (fun z h' => z = s b ∧ IMs h' M (U_span s a b d e) ∧ FX M h h')) 0 0 := by
  refine q_enter (al := [(0, qa M), (1, qi a), (2, qi b), (3, qi d), (4, qi e)]) m_X9_laysSpan rfl (Nat.le_of_ble_eq_true rfl) ?_
  intro hok X C hmc hxl hin
  refine Aj.aload_n C 0 dX9_laysSpan_0 rfl ?_
  refine Aj.getR C lf_RX9_7 rfl L.a L.r1 dX9_laysSpan_1 ?_
  refine Aj.iload_n C 1 dX9_laysSpan_4 rfl ?_
  refine Aj.iconst C dX9_laysSpan_5 (by decide) ?_
  refine Aj.aload_n C 0 dX9_laysSpan_6 rfl ?_
  refine Aj.getR C lf_RX9_7 rfl L.a L.r1 dX9_laysSpan_7 ?_
  refine Aj.iload_n C 2 dX9_laysSpan_10 rfl ?_
  refine Aj.ialde (w := s b) C L.a1 (by omega) dX9_laysSpan_11 (c _ (by omega) (by omega)) ?_
  refine Aj.imul C dX9_laysSpan_12 (by omega) ?_
  refine Aj.iadd C dX9_laysSpan_13 (by omega) ?_
  refine Aj.iload_n C 3 dX9_laysSpan_14 rfl ?_
  refine Aj.iast C L.a1 (by omega) dX9_laysSpan_15 (fun h_1 eh_1 => ?_)
  refine Aj.aload_n C 0 dX9_laysSpan_16 rfl ?_
  refine Aj.getR C lf_RX9_7 rfl L.a L.r1 dX9_laysSpan_17 ?_
  refine Aj.iload_n C 1 dX9_laysSpan_20 rfl ?_
  refine Aj.iconst C dX9_laysSpan_21 (by decide) ?_
  refine Aj.aload_n C 0 dX9_laysSpan_22 rfl ?_
  refine Aj.getR C lf_RX9_7 rfl L.a L.r1 dX9_laysSpan_23 ?_
  refine Aj.iload_n C 2 dX9_laysSpan_26 rfl ?_
  refine Aj.ialde (w := s b) C L.a1 (by omega) dX9_laysSpan_27 (by rw [eh_1, hset_neb _ _ _ (by omega)]; exact c _ (by omega) (by omega)) ?_
  refine Aj.imul C dX9_laysSpan_28 (by omega) ?_
  refine Aj.iadd C dX9_laysSpan_29 (by omega) ?_
  refine Aj.iconst C dX9_laysSpan_30 (by decide) ?_
  refine Aj.iadd C dX9_laysSpan_31 (by omega) ?_
  refine Aj.iload C 4 dX9_laysSpan_32 rfl ?_
  refine Aj.iast C L.a1 (by omega) dX9_laysSpan_34 (fun h_2 eh_2 => ?_)
  refine Aj.aload_n C 0 dX9_laysSpan_35 rfl ?_
  refine Aj.getR C lf_RX9_7 rfl L.a L.r1 dX9_laysSpan_36 ?_
  refine Aj.iload_n C 2 dX9_laysSpan_39 rfl ?_
  refine Aj.dup2 C dX9_laysSpan_40 ?_
  refine Aj.ialde (w := s b) C L.a1 (by omega) dX9_laysSpan_41 (by rw [eh_2, eh_1, hset_neb _ _ _ (by omega), hset_neb _ _ _ (by omega)]; exact c _ (by omega) (by omega)) ?_
  refine Aj.iconst C dX9_laysSpan_42 (by decide) ?_
  refine Aj.iadd C dX9_laysSpan_43 (by omega) ?_
  refine Aj.iast C L.a1 (by omega) dX9_laysSpan_44 (fun h_3 eh_3 => ?_)
  refine Aj.aload_n C 0 dX9_laysSpan_45 rfl ?_
  refine Aj.getR C lf_RX9_7 rfl L.a L.r1 dX9_laysSpan_46 ?_
  refine Aj.iload_n C 2 dX9_laysSpan_49 rfl ?_
  refine Aj.ialde (w := s b + 1) C L.a1 (by omega) dX9_laysSpan_50 (by rw [eh_3]; exact hset_same _ _ _ _) ?_
  refine Aj.iconst C dX9_laysSpan_51 (by decide) ?_
  refine Aj.isub C dX9_laysSpan_52 (by omega) ?_
  refine Aj.iret C dX9_laysSpan_53 (by rw [hmc]; exact ⟨rfl, Nat.le_of_ble_eq_true rfl⟩) ⟨_, rfl, rfl, ?_⟩
  exact ⟨by omega, ((c.set eh_1).set eh_2).set eh_3, ((FX.set eh_1).tr (FX.set eh_2)).tr (FX.set eh_3)⟩
