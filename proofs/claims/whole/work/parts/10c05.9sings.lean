set_option maxHeartbeats 400000 in
set_option maxRecDepth 100000 in
theorem c_X9_sings (l : Launch) {G : qG} {n : Int} {r h : qH} {a : Int} (ha : 0 ≤ a ∧ a < 60) {M : Int} {s : Int → Int} (L : LModel G n r M) (c : IMs h M s) (g : SG s) {T : qT} (d : CP h M T) (t : TG T) (hT : T.1 ≤ 120) (hm : T.1 + 1 ≤ 120) : q_Cm l G yX9_sings cX9_sings 2 none 2 45 [qa M, qi a] n r h (q_Pv r (fun h' => CP h' M (sing1 s a T) ∧ FN M h h')) 0 0 := by
  refine q_enter (al := [(0, qa M), (1, qi a)]) m_X9_sings rfl (Nat.le_of_ble_eq_true rfl) ?_
  intro hok X C hmc hxl hin
  have gn := g.n
  have t0 := t.1
  have t3 := t.2.2.1
  have t2 := t.2.1
  refine Aj.aload_n C 0 dX9_sings_0 rfl ?_
  refine Aj.iload_n C 1 dX9_sings_1 rfl ?_
  refine Aj.callVi (As := [qi a]) (st := []) C lm_RX9_67 m_X9_isCut mk_X9_isCut ms_X9_isCut (c_X9_isCut _ L c g) L.a (t := 9) rfl rfl rfl rfl (by decide) (Nat.le_of_ble_eq_true rfl) (by decide) dX9_sings_2 (fun z2 h_1 rz2 p2 => ?_)
  obtain ⟨rfl, pz, pe⟩ := p2
  refine Aj.if_ne (tgt := 55) C dX9_sings_5 (by decide) (fun c5 => ?_) (fun c5 => ?_)
  · refine Aj.vret C dX9_sings_55 (by rw [hmc]; exact ⟨rfl, Nat.le_of_ble_eq_true rfl⟩) ⟨rfl, rfl, ?_⟩
    rw [sing1_y (pe.mp (by omega))]
    exact ⟨d, FN.rf⟩
  · refine Aj.aload_n C 0 dX9_sings_8 rfl ?_
    refine Aj.getR C lf_RX9_26 rfl L.a L.r8 dX9_sings_9 ?_
    refine Aj.aload_n C 0 dX9_sings_12 rfl ?_
    refine Aj.getIe (z := T.1) C lf_RX9_71 rfl L.a dX9_sings_13 d.1 ?_
    refine Aj.iload_n C 1 dX9_sings_16 rfl ?_
    refine Aj.iast C L.a6 (by omega) dX9_sings_17 (fun h_2 eh_2 => ?_)
    refine Aj.aload_n C 0 dX9_sings_18 rfl ?_
    refine Aj.getR C lf_RX9_29 rfl L.a L.r9 dX9_sings_19 ?_
    refine Aj.aload_n C 0 dX9_sings_22 rfl ?_
    refine Aj.getIe (z := T.1) C lf_RX9_71 rfl L.a dX9_sings_23 (by rw [eh_2, hset_nea _ _ _ (by omega)]; exact d.1) ?_
    refine Aj.aload_n C 0 dX9_sings_26 rfl ?_
    refine Aj.getIe (z := T.2.1) C lf_RX9_74 rfl L.a dX9_sings_27 (by rw [eh_2, hset_nea _ _ _ (by omega)]; exact d.2.1) ?_
    refine Aj.iast C L.a7 (by omega) dX9_sings_30 (fun h_3 eh_3 => ?_)
    refine Aj.aload_n C 0 dX9_sings_31 rfl ?_
    refine Aj.dup_qa C dX9_sings_32 ?_
    refine Aj.getIe (z := T.2.1) C lf_RX9_74 rfl L.a dX9_sings_33 (by rw [eh_3, hset_nea _ _ _ (by omega)]; exact (by rw [eh_2, hset_nea _ _ _ (by omega)]; exact d.2.1)) ?_
    refine Aj.aload_n C 0 dX9_sings_36 rfl ?_
    refine Aj.iload_n C 1 dX9_sings_37 rfl ?_
    have cS : IMs h_3 M s := fun j j1 j2 => by rw [eh_3, eh_2, hset_nea _ _ _ (by omega), hset_nea _ _ _ (by omega)]; exact c j j1 j2
    refine Aj.callVi (As := [qi a]) (st := [qi T.2.1, qa M]) C lm_RX9_77 m_X9_tenths mk_X9_tenths ms_X9_tenths (c_X9_tenths _ ha L cS g) L.a (t := 9) rfl rfl rfl rfl (by decide) (Nat.le_of_ble_eq_true rfl) (by decide) dX9_sings_38 (fun z38 h_4 rz38 p38 => ?_)
    obtain ⟨rfl, pt⟩ := p38
    have tn := tenP_in g ha
    have nc : ¬ cutP s a := fun w => by have := pe.mpr w; omega
    refine Aj.iadd C dX9_sings_41 (by omega) ?_
    refine Aj.putI C lf_RX9_74 L.a dX9_sings_42 (fun h_5 eh_5 => ?_)
    refine Aj.aload_n C 0 dX9_sings_45 rfl ?_
    refine Aj.dup_qa C dX9_sings_46 ?_
    refine Aj.getIe (z := T.1) C lf_RX9_71 rfl L.a dX9_sings_47 (by rw [eh_5, hset_neb _ _ _ (by decide)]; exact (by rw [eh_3, hset_nea _ _ _ (by omega)]; exact (by rw [eh_2, hset_nea _ _ _ (by omega)]; exact d.1))) ?_
    refine Aj.iconst C dX9_sings_50 (by decide) ?_
    refine Aj.iadd C dX9_sings_51 (by omega) ?_
    refine Aj.putI C lf_RX9_71 L.a dX9_sings_52 (fun h_6 eh_6 => ?_)
    refine Aj.vret C dX9_sings_55 (by rw [hmc]; exact ⟨rfl, Nat.le_of_ble_eq_true rfl⟩) ⟨rfl, rfl, ?_⟩
    exact d.sing nc pt (by rw [eh_6, eh_5, eh_3, eh_2])
