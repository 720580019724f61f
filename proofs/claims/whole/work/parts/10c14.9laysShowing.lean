set_option maxHeartbeats 400000 in
set_option maxRecDepth 100000 in
theorem c_X9_laysShowing (l : Launch) {G : qG} {n : Int} {r h : qH} {a b : Int} {M : Int} {s : Int → Int} (L : LModel G n r M) (c : IMs h M s) (g : SG s) {T : qT} (d : CP h M T) (t : TG T) (hT : T.1 ≤ 120) {U : qU} (u : CU h M U) (ha : 0 ≤ a ∧ a < s 5) (hb : 0 ≤ b ∧ b < T.1) (hu : 0 ≤ U.1 ∧ U.1 + 1 ≤ 40) (hc : comesP s T a b) : q_Cm l G yX9_laysShowing cX9_laysShowing 5 none 1 22 [qa M, qi a, qi b] n r h (q_Pv r (fun h' => CU h' M (gath1 s T b a U) ∧ FU M h h')) 0 0 := by
  refine q_enter (al := [(0, qa M), (1, qi a), (2, qi b)]) m_X9_laysShowing rfl (Nat.le_of_ble_eq_true rfl) ?_
  intro hok X C hmc hxl hin
  have gn := g.n
  have t0 := t.1
  have t3 := t.2.2.1
  have tb := t.2.2.2.1 b hb.1 hb.2
  have gt := g.ti a ha.1 ha.2
  have le : leadP (s (148 + 4 * a)) = 0 ∨ leadP (s (148 + 4 * a)) = 5 ∨ leadP (s (148 + 4 * a)) = 20 := by unfold leadP; omega
  refine Aj.aload_n C 0 dX9_laysShowing_0 rfl ?_
  refine Aj.getIe (z := U.1) C lf_RX9_102 rfl L.a dX9_laysShowing_1 u.1 ?_
  refine Aj.istore_n (al2 := [(3, qi U.1), (0, qa M), (1, qi a), (2, qi b)]) C dX9_laysShowing_4 (by decide) rfl ?_
  refine Aj.aload_n C 1 dX9_laysShowing_5 rfl ?_
  refine Aj.getR C lf_RX9_29 rfl L.a L.r9 dX9_laysShowing_6 ?_
  refine Aj.iload_n C 3 dX9_laysShowing_9 rfl ?_
  refine Aj.ialde (w := T.2.2.2 b) C L.a7 (by omega) dX9_laysShowing_10 (d.2.2 _ (by omega) (by omega)).2 ?_
  refine Aj.aload_n C 1 dX9_laysShowing_11 rfl ?_
  refine Aj.iload_n C 2 dX9_laysShowing_12 rfl ?_
  refine Aj.iconst C dX9_laysShowing_13 (by decide) ?_
  refine Aj.callVi (As := [qi a, qi 0]) (st := [qi (T.2.2.2 b)]) C lm_RX9_89 m_X9_of mk_X9_of ms_X9_of (c_X9_of _ (a := a) (b := 0) (by omega) (by decide) L c g) L.a (t := 9) rfl rfl rfl rfl (by decide) (Nat.le_of_ble_eq_true rfl) (by decide) dX9_laysShowing_14 (fun z14 h_1 rz14 p14 => ?_)
  obtain ⟨rfl, po0⟩ := p14
  have pq0 : z14 = s (148 + 4 * a) := po0.trans (congrArg s (by omega))
  clear po0
  refine Aj.callSi (As := [qi z14]) (st := [qi (T.2.2.2 b)]) C lm_RX9_105 m_X9_lead mk_X9_lead (c_X9_lead _) rfl rfl (by decide) (Nat.le_of_ble_eq_true rfl) (by decide) dX9_laysShowing_17 (fun z17 h_2 rz17 p17 => ?_)
  obtain ⟨rfl, pd⟩ := p17
  rw [pq0] at pd
  refine Aj.isub C dX9_laysShowing_20 (by omega) ?_
  refine Aj.istore (al2 := [(4, qi (T.2.2.2 b - z17)), (3, qi U.1), (0, qa M), (1, qi a), (2, qi b)]) C dX9_laysShowing_21 (by decide) rfl ?_
  refine Aj.aload_n C 2 dX9_laysShowing_23 rfl ?_
  refine Aj.getR C lf_RX9_32 rfl L.a L.r12 dX9_laysShowing_24 ?_
  refine Aj.iload_n C 1 dX9_laysShowing_27 rfl ?_
  refine Aj.iload_n C 3 dX9_laysShowing_28 rfl ?_
  refine Aj.iast C L.a8 (by omega) dX9_laysShowing_29 (fun h_3 eh_3 => ?_)
  refine Aj.aload_n C 2 dX9_laysShowing_30 rfl ?_
  refine Aj.getR C lf_RX9_35 rfl L.a L.r13 dX9_laysShowing_31 ?_
  refine Aj.iload_n C 1 dX9_laysShowing_34 rfl ?_
  refine Aj.iload_n C 4 dX9_laysShowing_35 rfl ?_
  refine Aj.iast C L.a9 (by omega) dX9_laysShowing_36 (fun h_4 eh_4 => ?_)
  refine Aj.aload_n C 2 dX9_laysShowing_37 rfl ?_
  refine Aj.getR C lf_RX9_38 rfl L.a L.r14 dX9_laysShowing_38 ?_
  refine Aj.iload_n C 1 dX9_laysShowing_41 rfl ?_
  refine Aj.iload C 0 dX9_laysShowing_42 rfl ?_
  refine Aj.if_ge (tgt := 51) C dX9_laysShowing_44 (by decide) (fun c44 => ?_) (fun c44 => ?_)
  · refine Aj.iload C 0 dX9_laysShowing_51 rfl ?_
    refine Aj.iast C L.a10 (by omega) dX9_laysShowing_53 (fun h_5 eh_5 => ?_)
    have cS5 : IMs h_5 M s := fun j j1 j2 => by rw [eh_5, eh_4, eh_3, hset_nea _ _ _ (by omega), hset_nea _ _ _ (by omega), hset_nea _ _ _ (by omega)]; exact c j j1 j2
    have d5 : CP h_5 M T := d.fr (fun x y w => by rw [eh_5, eh_4, eh_3, hset_nea _ _ _ (by omega), hset_nea _ _ _ (by omega), hset_nea _ _ _ (by omega)])
    refine Aj.aload_n C 2 dX9_laysShowing_54 rfl ?_
    refine Aj.getR C lf_RX9_41 rfl L.a L.r15 dX9_laysShowing_55 ?_
    refine Aj.iload_n C 1 dX9_laysShowing_58 rfl ?_
    refine Aj.aload_n C 2 dX9_laysShowing_59 rfl ?_
    refine Aj.iload_n C 4 dX9_laysShowing_60 rfl ?_
    refine Aj.aload_n C 2 dX9_laysShowing_61 rfl ?_
    refine Aj.iload_n C 3 dX9_laysShowing_62 rfl ?_
    refine Aj.iconst C dX9_laysShowing_63 (by decide) ?_
    refine Aj.callVi (As := [qi a, qi 2]) (st := [qi b, qa M, qi U.1, qa (M + 11)]) C lm_RX9_89 m_X9_of mk_X9_of ms_X9_of (c_X9_of _ (a := a) (b := 2) (by omega) (by decide) L cS5 g) L.a (t := 9) rfl rfl rfl rfl (by decide) (Nat.le_of_ble_eq_true rfl) (by decide) dX9_laysShowing_64 (fun z64 h_6 rz64 p64 => ?_)
    obtain ⟨rfl, po2⟩ := p64
    have pq2 : z64 = s (150 + 4 * a) := po2.trans (congrArg s (by omega))
    clear po2
    refine Aj.iadd C dX9_laysShowing_67 (by omega) ?_
    refine Aj.callVi (As := [qi (b + z64)]) (st := [qi U.1, qa (M + 11)]) C lm_RX9_99 m_X9_beginOf mk_X9_beginOf ms_X9_beginOf (c_X9_beginOf _ (by omega) L cS5 g d5 t hT) L.a (t := 9) rfl rfl rfl rfl (by decide) (Nat.le_of_ble_eq_true rfl) (by decide) dX9_laysShowing_68 (fun z68 h_7 rz68 p68 => ?_)
    obtain ⟨rfl, pb⟩ := p68
    rw [pq2] at pb
    have bi := bOE_in t (a := b + s (150 + 4 * a)) (by omega)
    refine Aj.iast C L.a11 (by omega) dX9_laysShowing_71 (fun h_8 eh_8 => ?_)
    refine Aj.aload_n C 2 dX9_laysShowing_72 rfl ?_
    refine Aj.dup_qa C dX9_laysShowing_73 ?_
    refine Aj.getIe (z := U.1) C lf_RX9_102 rfl L.a dX9_laysShowing_74 (by rw [eh_8, hset_nea _ _ _ (by omega)]; exact (by rw [eh_5, hset_nea _ _ _ (by omega)]; exact (by rw [eh_4, hset_nea _ _ _ (by omega)]; exact (by rw [eh_3, hset_nea _ _ _ (by omega)]; exact u.1)))) ?_
    refine Aj.iconst C dX9_laysShowing_77 (by decide) ?_
    refine Aj.iadd C dX9_laysShowing_78 (by omega) ?_
    refine Aj.putI C lf_RX9_102 L.a dX9_laysShowing_79 (fun h_9 eh_9 => ?_)
    refine Aj.vret C dX9_laysShowing_82 (by rw [hmc]; exact ⟨rfl, Nat.le_of_ble_eq_true rfl⟩) ⟨rfl, rfl, ?_⟩
    exact u.gath hc (f := (T.2.2.2 b - z17)) (by omega) pb (by rw [eh_9, eh_8, eh_5, eh_4, eh_3])
  · refine Aj.iconst C dX9_laysShowing_47 (by decide) ?_
    refine Aj.goto (tgt := 53) C dX9_laysShowing_48 (by decide) ?_
    refine Aj.iast C L.a10 (by omega) dX9_laysShowing_53 (fun h_10 eh_10 => ?_)
    have cS5 : IMs h_10 M s := fun j j1 j2 => by rw [eh_10, eh_4, eh_3, hset_nea _ _ _ (by omega), hset_nea _ _ _ (by omega), hset_nea _ _ _ (by omega)]; exact c j j1 j2
    have d5 : CP h_10 M T := d.fr (fun x y w => by rw [eh_10, eh_4, eh_3, hset_nea _ _ _ (by omega), hset_nea _ _ _ (by omega), hset_nea _ _ _ (by omega)])
    refine Aj.aload_n C 2 dX9_laysShowing_54 rfl ?_
    refine Aj.getR C lf_RX9_41 rfl L.a L.r15 dX9_laysShowing_55 ?_
    refine Aj.iload_n C 1 dX9_laysShowing_58 rfl ?_
    refine Aj.aload_n C 2 dX9_laysShowing_59 rfl ?_
    refine Aj.iload_n C 4 dX9_laysShowing_60 rfl ?_
    refine Aj.aload_n C 2 dX9_laysShowing_61 rfl ?_
    refine Aj.iload_n C 3 dX9_laysShowing_62 rfl ?_
    refine Aj.iconst C dX9_laysShowing_63 (by decide) ?_
    refine Aj.callVi (As := [qi a, qi 2]) (st := [qi b, qa M, qi U.1, qa (M + 11)]) C lm_RX9_89 m_X9_of mk_X9_of ms_X9_of (c_X9_of _ (a := a) (b := 2) (by omega) (by decide) L cS5 g) L.a (t := 9) rfl rfl rfl rfl (by decide) (Nat.le_of_ble_eq_true rfl) (by decide) dX9_laysShowing_64 (fun z64 h_11 rz64 p64 => ?_)
    obtain ⟨rfl, po2⟩ := p64
    have pq2 : z64 = s (150 + 4 * a) := po2.trans (congrArg s (by omega))
    clear po2
    refine Aj.iadd C dX9_laysShowing_67 (by omega) ?_
    refine Aj.callVi (As := [qi (b + z64)]) (st := [qi U.1, qa (M + 11)]) C lm_RX9_99 m_X9_beginOf mk_X9_beginOf ms_X9_beginOf (c_X9_beginOf _ (by omega) L cS5 g d5 t hT) L.a (t := 9) rfl rfl rfl rfl (by decide) (Nat.le_of_ble_eq_true rfl) (by decide) dX9_laysShowing_68 (fun z68 h_12 rz68 p68 => ?_)
    obtain ⟨rfl, pb⟩ := p68
    rw [pq2] at pb
    have bi := bOE_in t (a := b + s (150 + 4 * a)) (by omega)
    refine Aj.iast C L.a11 (by omega) dX9_laysShowing_71 (fun h_13 eh_13 => ?_)
    refine Aj.aload_n C 2 dX9_laysShowing_72 rfl ?_
    refine Aj.dup_qa C dX9_laysShowing_73 ?_
    refine Aj.getIe (z := U.1) C lf_RX9_102 rfl L.a dX9_laysShowing_74 (by rw [eh_13, hset_nea _ _ _ (by omega)]; exact (by rw [eh_10, hset_nea _ _ _ (by omega)]; exact (by rw [eh_4, hset_nea _ _ _ (by omega)]; exact (by rw [eh_3, hset_nea _ _ _ (by omega)]; exact u.1)))) ?_
    refine Aj.iconst C dX9_laysShowing_77 (by decide) ?_
    refine Aj.iadd C dX9_laysShowing_78 (by omega) ?_
    refine Aj.putI C lf_RX9_102 L.a dX9_laysShowing_79 (fun h_14 eh_14 => ?_)
    refine Aj.vret C dX9_laysShowing_82 (by rw [hmc]; exact ⟨rfl, Nat.le_of_ble_eq_true rfl⟩) ⟨rfl, rfl, ?_⟩
    exact u.gath hc (f := 0) (by omega) pb (by rw [eh_14, eh_13, eh_10, eh_4, eh_3])
