set_option maxHeartbeats 400000 in
set_option maxRecDepth 100000 in
theorem c_X9_laysTitle (l : Launch) {G : qG} {n : Int} {r h : qH} {s : Int → Int} {a b d e : Int} (hs : 0 ≤ s 5 ∧ s 5 < 20) {M : Int} (L : LModel G n r M) (c : IMs h M s) : q_Cm l G yX9_laysTitle cX9_laysTitle 6 (some .int) 0 0 [qa M, qi a, qi b, qi d, qi e] n r h (q_Pi r (fun z h' => z = s 5 ∧ IMs h' M (U_title s a b d e) ∧ FX M h h')) 0 0 := by
  refine q_enter (al := [(0, qa M), (1, qi a), (2, qi b), (3, qi d), (4, qi e)]) m_X9_laysTitle rfl (Nat.le_of_ble_eq_true rfl) ?_
  intro hok X C hmc hxl hin
  refine Aj.sipush C dX9_laysTitle_0 (by decide) (by decide) ?_
  refine Aj.iconst C dX9_laysTitle_3 (by decide) ?_
  refine Aj.aload_n C 0 dX9_laysTitle_4 rfl ?_
  refine Aj.getR C lf_RX9_7 rfl L.a L.r1 dX9_laysTitle_5 ?_
  refine Aj.iconst C dX9_laysTitle_8 (by decide) ?_
  refine Aj.ialde (w := s 5) C L.a1 (by omega) dX9_laysTitle_9 (c _ (by omega) (by omega)) ?_
  refine Aj.imul C dX9_laysTitle_10 (by omega) ?_
  refine Aj.iadd C dX9_laysTitle_11 (by omega) ?_
  refine Aj.istore (al2 := [(5, qi (148 + (4 * (s 5)))), (0, qa M), (1, qi a), (2, qi b), (3, qi d), (4, qi e)]) C dX9_laysTitle_12 (by decide) rfl ?_
  refine Aj.aload_n C 1 dX9_laysTitle_14 rfl ?_
  refine Aj.getR C lf_RX9_7 rfl L.a L.r1 dX9_laysTitle_15 ?_
  refine Aj.iload C 0 dX9_laysTitle_18 rfl ?_
  refine Aj.iconst C dX9_laysTitle_20 (by decide) ?_
  refine Aj.iadd C dX9_laysTitle_21 (by omega) ?_
  refine Aj.iload_n C 2 dX9_laysTitle_22 rfl ?_
  refine Aj.iast C L.a1 (by omega) dX9_laysTitle_23 (fun h_1 eh_1 => ?_)
  refine Aj.aload_n C 1 dX9_laysTitle_24 rfl ?_
  refine Aj.getR C lf_RX9_7 rfl L.a L.r1 dX9_laysTitle_25 ?_
  refine Aj.iload C 0 dX9_laysTitle_28 rfl ?_
  refine Aj.iconst C dX9_laysTitle_30 (by decide) ?_
  refine Aj.iadd C dX9_laysTitle_31 (by omega) ?_
  refine Aj.iload_n C 3 dX9_laysTitle_32 rfl ?_
  refine Aj.iast C L.a1 (by omega) dX9_laysTitle_33 (fun h_2 eh_2 => ?_)
  refine Aj.aload_n C 1 dX9_laysTitle_34 rfl ?_
  refine Aj.getR C lf_RX9_7 rfl L.a L.r1 dX9_laysTitle_35 ?_
  refine Aj.iload C 0 dX9_laysTitle_38 rfl ?_
  refine Aj.iconst C dX9_laysTitle_40 (by decide) ?_
  refine Aj.iadd C dX9_laysTitle_41 (by omega) ?_
  refine Aj.iload_n C 4 dX9_laysTitle_42 rfl ?_
  refine Aj.iast C L.a1 (by omega) dX9_laysTitle_43 (fun h_3 eh_3 => ?_)
  refine Aj.aload_n C 1 dX9_laysTitle_44 rfl ?_
  refine Aj.getR C lf_RX9_7 rfl L.a L.r1 dX9_laysTitle_45 ?_
  refine Aj.iload C 0 dX9_laysTitle_48 rfl ?_
  refine Aj.iconst C dX9_laysTitle_50 (by decide) ?_
  refine Aj.iadd C dX9_laysTitle_51 (by omega) ?_
  refine Aj.iload C 5 dX9_laysTitle_52 rfl ?_
  refine Aj.iast C L.a1 (by omega) dX9_laysTitle_54 (fun h_4 eh_4 => ?_)
  refine Aj.aload_n C 1 dX9_laysTitle_55 rfl ?_
  refine Aj.getR C lf_RX9_7 rfl L.a L.r1 dX9_laysTitle_56 ?_
  refine Aj.iconst C dX9_laysTitle_59 (by decide) ?_
  refine Aj.dup2 C dX9_laysTitle_60 ?_
  refine Aj.ialde (w := s 5) C L.a1 (by omega) dX9_laysTitle_61 (by rw [eh_4, eh_3, eh_2, eh_1, hset_neb _ _ _ (by omega), hset_neb _ _ _ (by omega), hset_neb _ _ _ (by omega), hset_neb _ _ _ (by omega)]; exact c _ (by omega) (by omega)) ?_
  refine Aj.iconst C dX9_laysTitle_62 (by decide) ?_
  refine Aj.iadd C dX9_laysTitle_63 (by omega) ?_
  refine Aj.iast C L.a1 (by omega) dX9_laysTitle_64 (fun h_5 eh_5 => ?_)
  refine Aj.aload_n C 1 dX9_laysTitle_65 rfl ?_
  refine Aj.getR C lf_RX9_7 rfl L.a L.r1 dX9_laysTitle_66 ?_
  refine Aj.iconst C dX9_laysTitle_69 (by decide) ?_
  refine Aj.ialde (w := s 5 + 1) C L.a1 (by omega) dX9_laysTitle_70 (by rw [eh_5]; exact hset_same _ _ _ _) ?_
  refine Aj.iconst C dX9_laysTitle_71 (by decide) ?_
  refine Aj.isub C dX9_laysTitle_72 (by omega) ?_
  refine Aj.iret C dX9_laysTitle_73 (by rw [hmc]; exact ⟨rfl, Nat.le_of_ble_eq_true rfl⟩) ⟨_, rfl, rfl, ?_⟩
  exact ⟨by omega, by
    have q := ((((c.set eh_1).set eh_2).set eh_3).set eh_4).set eh_5
    rw [Int.add_zero] at q
    exact q, ((((FX.set eh_1).tr (FX.set eh_2)).tr (FX.set eh_3)).tr (FX.set eh_4)).tr (FX.set eh_5)⟩
