set_option maxHeartbeats 4000000 in
set_option maxRecDepth 100000 in
theorem c_X1_hasPlace (l : Launch) {G : qG} {n : Int} {r h : qH} {a : Int} {q : Int} {T : qT} (K : LNight G n r q) (c : CN h q T) (t : TG T) (hT : T.1 ≤ 120) : q_Cm l G yX1_hasPlace cX1_hasPlace 2 (some .boolean) 0 0 [qa q, qi a] n r h (q_Pi r (fun z h' => h = h' ∧ (z = 0 ∨ z = 1) ∧ (z = 1 ↔ 0 ≤ a ∧ a < T.1))) 0 0 := by
  refine q_enter (al := [(0, qa q), (1, qi a)]) m_X1_hasPlace rfl (Nat.le_of_ble_eq_true rfl) ?_
  intro hok X C hmc hxl hin
  have t0 := t.1
  refine Aj.iload_n C 1 dX1_hasPlace_0 rfl ?_
  refine Aj.if_lt (tgt := 16) C dX1_hasPlace_1 (by decide) (fun c1 => ?_) (fun c1 => ?_)
  · refine Aj.iconst C dX1_hasPlace_16 (by decide) ?_
    refine Aj.zret C dX1_hasPlace_17 (by omega) (by rw [hmc]; exact ⟨rfl, Nat.le_of_ble_eq_true rfl⟩) ⟨_, rfl, rfl, ?_⟩
    exact ⟨rfl, by omega, by omega⟩
  · refine Aj.iload_n C 1 dX1_hasPlace_4 rfl ?_
    refine Aj.aload_n C 0 dX1_hasPlace_5 rfl ?_
    refine Aj.getIe (z := T.1) C lf_RX1_51 rfl K.a dX1_hasPlace_6 c.1 ?_
    refine Aj.icmp_ge (tgt := 16) C dX1_hasPlace_9 (by decide) (fun c9 => ?_) (fun c9 => ?_)
    · refine Aj.iconst C dX1_hasPlace_16 (by decide) ?_
      refine Aj.zret C dX1_hasPlace_17 (by omega) (by rw [hmc]; exact ⟨rfl, Nat.le_of_ble_eq_true rfl⟩) ⟨_, rfl, rfl, ?_⟩
      exact ⟨rfl, by omega, by omega⟩
    · refine Aj.iconst C dX1_hasPlace_12 (by decide) ?_
      refine Aj.goto (tgt := 17) C dX1_hasPlace_13 (by decide) ?_
      refine Aj.zret C dX1_hasPlace_17 (by omega) (by rw [hmc]; exact ⟨rfl, Nat.le_of_ble_eq_true rfl⟩) ⟨_, rfl, rfl, ?_⟩
      exact ⟨rfl, by omega, by omega⟩

set_option maxHeartbeats 4000000 in
set_option maxRecDepth 100000 in
theorem c_X1_beginOrEnd (l : Launch) {G : qG} {n : Int} {r h : qH} {a : Int} (ha : 0 ≤ a) {q : Int} {T : qT} (K : LNight G n r q) (c : CN h q T) (t : TG T) (hT : T.1 ≤ 120) : q_Cm l G yX1_beginOrEnd cX1_beginOrEnd 2 (some .int) 1 21 [qa q, qi a] n r h (q_Pi r (fun z h' => h = h' ∧ z = bOE T a)) 0 0 := by
  refine q_enter (al := [(0, qa q), (1, qi a)]) m_X1_beginOrEnd rfl (Nat.le_of_ble_eq_true rfl) ?_
  intro hok X C hmc hxl hin
  have t0 := t.1
  refine Aj.aload_n C 0 dX1_beginOrEnd_0 rfl ?_
  refine Aj.iload_n C 1 dX1_beginOrEnd_1 rfl ?_
  refine Aj.callVi (As := [qi a]) (st := []) C lm_RX1_159 m_X1_hasPlace mk_X1_hasPlace ms_X1_hasPlace (c_X1_hasPlace _ K c t hT) K.a (t := 1) rfl rfl rfl rfl (by decide) (Nat.le_of_ble_eq_true rfl) (by decide) dX1_beginOrEnd_2 (fun z2 h_1 rz2 p2 => ?_)
  obtain ⟨rfl, pz, pe⟩ := p2
  refine Aj.if_eq (tgt := 17) C dX1_beginOrEnd_5 (by decide) (fun c5 => ?_) (fun c5 => ?_)
  · refine Aj.aload_n C 0 dX1_beginOrEnd_17 rfl ?_
    refine Aj.getIe (z := T.2.1) C lf_RX1_65 rfl K.a dX1_beginOrEnd_18 c.2.1 ?_
    refine Aj.iret C dX1_beginOrEnd_21 (by rw [hmc]; exact ⟨rfl, Nat.le_of_ble_eq_true rfl⟩) ⟨_, rfl, rfl, ?_⟩
    refine ⟨rfl, ?_⟩
    unfold bOE
    first
    | rw [if_pos (by omega)]
    | rw [if_neg (by omega)]
  · refine Aj.aload_n C 0 dX1_beginOrEnd_8 rfl ?_
    refine Aj.getR C lf_RX1_15 rfl K.a K.r1 dX1_beginOrEnd_9 ?_
    refine Aj.iload_n C 1 dX1_beginOrEnd_12 rfl ?_
    refine Aj.ialde (w := T.2.2.2 a) C K.a2 (by omega) dX1_beginOrEnd_13 (c.2.2.1 _ (by omega) (by omega)).2 ?_
    refine Aj.goto (tgt := 21) C dX1_beginOrEnd_14 (by decide) ?_
    refine Aj.iret C dX1_beginOrEnd_21 (by rw [hmc]; exact ⟨rfl, Nat.le_of_ble_eq_true rfl⟩) ⟨_, rfl, rfl, ?_⟩
    refine ⟨rfl, ?_⟩
    unfold bOE
    first
    | rw [if_pos (by omega)]
    | rw [if_neg (by omega)]

set_option maxHeartbeats 4000000 in
set_option maxRecDepth 100000 in
theorem c_X1_singBar (l : Launch) {G : qG} {n : Int} {r h : qH} {a : Int} {q : Int} {T : qT} (K : LNight G n r q) (c : CN h q T) (t : TG T) (hT : T.1 ≤ 120) {p : Int} {s : Int → Int} (L : LScore G n r p) (hC : CScore h p s) (g : SG s) (hd : p + 17 ≤ q ∨ q + 14 ≤ p) (hb : barP s a) (hm : T.1 + 1 ≤ 120) : q_Cm l G yX1_singBar cX1_singBar 3 none 2 44 [qa q, qa p, qi a] n r h (q_Pv r (fun h' => CN h' q (sing1 s a T) ∧ FR q 6 h h')) 0 0 := by
  refine q_enter (al := [(0, qa q), (1, qa p), (2, qi a)]) m_X1_singBar rfl (Nat.le_of_ble_eq_true rfl) ?_
  intro hok X C hmc hxl hin
  have t0 := t.1
  have t3 := t.2.2.1
  have t2 := t.2.1
  have gn := g.n
  have hb2 : 0 ≤ a ∧ a < s 0 := hb
  have c4 := c.2.2.2 a (by omega) (by omega)
  have z0 := fstN_zero (P := T.2.2.1) (b := a) T.1.toNat
  refine Aj.aload_n C 1 dX1_singBar_0 rfl ?_
  refine Aj.iload_n C 2 dX1_singBar_1 rfl ?_
  refine Aj.callVi (As := [qi a]) (st := []) C lm_RX1_82 m_X4_hasBar mk_X4_hasBar ms_X4_hasBar (c_X4_hasBar _ L hC g) L.a (t := 4) rfl rfl rfl rfl (by decide) (Nat.le_of_ble_eq_true rfl) (by decide) dX1_singBar_2 (fun z2 h_1 rz2 p2 => ?_)
  obtain ⟨rfl, pz1, pe1⟩ := p2
  refine Aj.if_eq (tgt := 28) C dX1_singBar_5 (by decide) (fun c5 => ?_) (fun c5 => ?_)
  · refine Aj.vret C dX1_singBar_28 (by rw [hmc]; exact ⟨rfl, Nat.le_of_ble_eq_true rfl⟩) ⟨rfl, rfl, ?_⟩
    first
    | (exfalso; have := pe1.mpr hb; omega)
    | (exfalso; omega)
    | (rw [sing1_y (pe3.mp (by omega))]; exact ⟨c, FR.rf⟩)
  · refine Aj.aload_n C 0 dX1_singBar_8 rfl ?_
    refine Aj.getIe (z := T.1) C lf_RX1_51 rfl K.a dX1_singBar_9 c.1 ?_
    refine Aj.bipush C dX1_singBar_12 (by decide) (by decide) ?_
    refine Aj.icmp_ge (tgt := 28) C dX1_singBar_14 (by decide) (fun c14 => ?_) (fun c14 => ?_)
    · refine Aj.vret C dX1_singBar_28 (by rw [hmc]; exact ⟨rfl, Nat.le_of_ble_eq_true rfl⟩) ⟨rfl, rfl, ?_⟩
      first
      | (exfalso; have := pe1.mpr hb; omega)
      | (exfalso; omega)
      | (rw [sing1_y (pe3.mp (by omega))]; exact ⟨c, FR.rf⟩)
    · refine Aj.aload_n C 1 dX1_singBar_17 rfl ?_
      refine Aj.getR C lf_RX1_86 rfl L.a L.r5 dX1_singBar_18 ?_
      refine Aj.iload_n C 2 dX1_singBar_21 rfl ?_
      refine Aj.callVi (As := [qi a]) (st := []) C lm_RX1_89 m_X6_covers mk_X6_covers ms_X6_covers (c_X6_covers _ L.cu (by decide) hC.2.2.2.2.1 (by omega)) L.cu.a (t := 6) rfl rfl rfl rfl (by decide) (Nat.le_of_ble_eq_true rfl) (by decide) dX1_singBar_22 (fun z22 h_2 rz22 p22 => ?_)
      obtain ⟨rfl, pz2, pe2⟩ := p22
      have pe3 : (z22 = 1 ↔ cutP s a) := pe2
      refine Aj.if_eq (tgt := 29) C dX1_singBar_25 (by decide) (fun c25 => ?_) (fun c25 => ?_)
      · refine Aj.aload_n C 0 dX1_singBar_29 rfl ?_
        refine Aj.getR C lf_RX1_18 rfl K.a K.r2 dX1_singBar_30 ?_
        refine Aj.iload_n C 2 dX1_singBar_33 rfl ?_
        refine Aj.ialde (w := h (q + 3) a) C K.a3 (by omega) dX1_singBar_34 rfl ?_
        refine Aj.if_ne (tgt := 48) C dX1_singBar_35 (by decide) (fun c35 => ?_) (fun c35 => ?_)
        · refine Aj.aload_n C 0 dX1_singBar_48 rfl ?_
          refine Aj.getR C lf_RX1_18 rfl K.a K.r2 dX1_singBar_49 ?_
          refine Aj.iload_n C 2 dX1_singBar_52 rfl ?_
          refine Aj.dup2 C dX1_singBar_53 ?_
          refine Aj.ialde (w := h (q + 3) a) C K.a3 (by omega) dX1_singBar_54 rfl ?_
          refine Aj.iconst C dX1_singBar_55 (by decide) ?_
          refine Aj.iadd C dX1_singBar_56 (by omega) ?_
          refine Aj.iast C K.a3 (by omega) dX1_singBar_57 (fun h_3 eh_3 => ?_)
          refine Aj.aload_n C 0 dX1_singBar_58 rfl ?_
          refine Aj.getR C lf_RX1_24 rfl K.a K.r4 dX1_singBar_59 ?_
          refine Aj.iload_n C 2 dX1_singBar_62 rfl ?_
          refine Aj.aload_n C 0 dX1_singBar_63 rfl ?_
          refine Aj.getIe (z := T.1) C lf_RX1_51 rfl K.a dX1_singBar_64 (by rw [eh_3, hset_nea _ _ _ (by omega)]; exact c.1) ?_
          refine Aj.iast C K.a5 (by omega) dX1_singBar_67 (fun h_4 eh_4 => ?_)
          refine Aj.aload_n C 0 dX1_singBar_68 rfl ?_
          refine Aj.getR C lf_RX1_9 rfl K.a K.r0 dX1_singBar_69 ?_
          refine Aj.aload_n C 0 dX1_singBar_72 rfl ?_
          refine Aj.getIe (z := T.1) C lf_RX1_51 rfl K.a dX1_singBar_73 (by rw [eh_4, hset_nea _ _ _ (by omega)]; exact (by rw [eh_3, hset_nea _ _ _ (by omega)]; exact c.1)) ?_
          refine Aj.iload_n C 2 dX1_singBar_76 rfl ?_
          refine Aj.iast C K.a1 (by omega) dX1_singBar_77 (fun h_5 eh_5 => ?_)
          refine Aj.aload_n C 0 dX1_singBar_78 rfl ?_
          refine Aj.getR C lf_RX1_15 rfl K.a K.r1 dX1_singBar_79 ?_
          refine Aj.aload_n C 0 dX1_singBar_82 rfl ?_
          refine Aj.getIe (z := T.1) C lf_RX1_51 rfl K.a dX1_singBar_83 (by rw [eh_5, hset_nea _ _ _ (by omega)]; exact (by rw [eh_4, hset_nea _ _ _ (by omega)]; exact (by rw [eh_3, hset_nea _ _ _ (by omega)]; exact c.1))) ?_
          refine Aj.aload_n C 0 dX1_singBar_86 rfl ?_
          refine Aj.getIe (z := T.2.1) C lf_RX1_65 rfl K.a dX1_singBar_87 (by rw [eh_5, hset_nea _ _ _ (by omega)]; exact (by rw [eh_4, hset_nea _ _ _ (by omega)]; exact (by rw [eh_3, hset_nea _ _ _ (by omega)]; exact c.2.1))) ?_
          refine Aj.iast C K.a2 (by omega) dX1_singBar_90 (fun h_6 eh_6 => ?_)
          refine Aj.aload_n C 0 dX1_singBar_91 rfl ?_
          refine Aj.dup_qa C dX1_singBar_92 ?_
          refine Aj.getIe (z := T.1) C lf_RX1_51 rfl K.a dX1_singBar_93 (by rw [eh_6, hset_nea _ _ _ (by omega)]; exact (by rw [eh_5, hset_nea _ _ _ (by omega)]; exact (by rw [eh_4, hset_nea _ _ _ (by omega)]; exact (by rw [eh_3, hset_nea _ _ _ (by omega)]; exact c.1)))) ?_
          refine Aj.iconst C dX1_singBar_96 (by decide) ?_
          refine Aj.iadd C dX1_singBar_97 (by omega) ?_
          refine Aj.putI C lf_RX1_51 K.a dX1_singBar_98 (fun h_7 eh_7 => ?_)
          have hC5 : CScore h_7 p s := hC.fr (fun x y z1 z2 => by rw [eh_7, eh_6, eh_5, eh_4, eh_3]; simp only [hset_ap]; repeat (rw [if_neg (by omega)]))
          refine Aj.aload_n C 0 dX1_singBar_101 rfl ?_
          refine Aj.dup_qa C dX1_singBar_102 ?_
          refine Aj.getIe (z := T.2.1) C lf_RX1_65 rfl K.a dX1_singBar_103 (by rw [eh_7, hset_neb _ _ _ (by decide)]; exact (by rw [eh_6, hset_nea _ _ _ (by omega)]; exact (by rw [eh_5, hset_nea _ _ _ (by omega)]; exact (by rw [eh_4, hset_nea _ _ _ (by omega)]; exact (by rw [eh_3, hset_nea _ _ _ (by omega)]; exact c.2.1))))) ?_
          refine Aj.aload_n C 1 dX1_singBar_106 rfl ?_
          refine Aj.iload_n C 2 dX1_singBar_107 rfl ?_
          refine Aj.callVi (As := [qi a]) (st := [qi T.2.1, qa q]) C lm_RX1_92 m_X4_tenthsOf mk_X4_tenthsOf ms_X4_tenthsOf (c_X4_tenthsOf _ L hC5 g hb) L.a (t := 4) rfl rfl rfl rfl (by decide) (Nat.le_of_ble_eq_true rfl) (by decide) dX1_singBar_108 (fun z108 h_8 rz108 p108 => ?_)
          obtain ⟨rfl, pt⟩ := p108
          have tn := tenP_in g (b := a) ⟨by omega, by omega⟩
          have pt2 : z108 = tenP s a := pt
          refine Aj.iadd C dX1_singBar_111 (by omega) ?_
          refine Aj.putI C lf_RX1_65 K.a dX1_singBar_112 (fun h_9 eh_9 => ?_)
          refine Aj.vret C dX1_singBar_115 (by rw [hmc]; exact ⟨rfl, Nat.le_of_ble_eq_true rfl⟩) ⟨rfl, rfl, ?_⟩
          have hn : ¬ cutP s a := fun w => by have := pe3.mpr w; omega
          refine CN.sing (h1 := h) c ⟨by omega, by omega⟩ t (Or.inr ⟨by omega, rfl⟩) ?_ pt2 hn
          rw [eh_9, eh_7, eh_6, eh_5, eh_4, eh_3]
        · refine Aj.aload_n C 0 dX1_singBar_38 rfl ?_
          refine Aj.getR C lf_RX1_21 rfl K.a K.r3 dX1_singBar_39 ?_
          refine Aj.iload_n C 2 dX1_singBar_42 rfl ?_
          refine Aj.aload_n C 0 dX1_singBar_43 rfl ?_
          refine Aj.getIe (z := T.1) C lf_RX1_51 rfl K.a dX1_singBar_44 c.1 ?_
          refine Aj.iast C K.a4 (by omega) dX1_singBar_47 (fun h_10 eh_10 => ?_)
          refine Aj.aload_n C 0 dX1_singBar_48 rfl ?_
          refine Aj.getR C lf_RX1_18 rfl K.a K.r2 dX1_singBar_49 ?_
          refine Aj.iload_n C 2 dX1_singBar_52 rfl ?_
          refine Aj.dup2 C dX1_singBar_53 ?_
          refine Aj.ialde (w := h (q + 3) a) C K.a3 (by omega) dX1_singBar_54 (by rw [eh_10]; exact hset_nea _ _ _ (by omega)) ?_
          refine Aj.iconst C dX1_singBar_55 (by decide) ?_
          refine Aj.iadd C dX1_singBar_56 (by omega) ?_
          refine Aj.iast C K.a3 (by omega) dX1_singBar_57 (fun h_11 eh_11 => ?_)
          refine Aj.aload_n C 0 dX1_singBar_58 rfl ?_
          refine Aj.getR C lf_RX1_24 rfl K.a K.r4 dX1_singBar_59 ?_
          refine Aj.iload_n C 2 dX1_singBar_62 rfl ?_
          refine Aj.aload_n C 0 dX1_singBar_63 rfl ?_
          refine Aj.getIe (z := T.1) C lf_RX1_51 rfl K.a dX1_singBar_64 (by rw [eh_11, hset_nea _ _ _ (by omega)]; exact (by rw [eh_10, hset_nea _ _ _ (by omega)]; exact c.1)) ?_
          refine Aj.iast C K.a5 (by omega) dX1_singBar_67 (fun h_12 eh_12 => ?_)
          refine Aj.aload_n C 0 dX1_singBar_68 rfl ?_
          refine Aj.getR C lf_RX1_9 rfl K.a K.r0 dX1_singBar_69 ?_
          refine Aj.aload_n C 0 dX1_singBar_72 rfl ?_
          refine Aj.getIe (z := T.1) C lf_RX1_51 rfl K.a dX1_singBar_73 (by rw [eh_12, hset_nea _ _ _ (by omega)]; exact (by rw [eh_11, hset_nea _ _ _ (by omega)]; exact (by rw [eh_10, hset_nea _ _ _ (by omega)]; exact c.1))) ?_
          refine Aj.iload_n C 2 dX1_singBar_76 rfl ?_
          refine Aj.iast C K.a1 (by omega) dX1_singBar_77 (fun h_13 eh_13 => ?_)
          refine Aj.aload_n C 0 dX1_singBar_78 rfl ?_
          refine Aj.getR C lf_RX1_15 rfl K.a K.r1 dX1_singBar_79 ?_
          refine Aj.aload_n C 0 dX1_singBar_82 rfl ?_
          refine Aj.getIe (z := T.1) C lf_RX1_51 rfl K.a dX1_singBar_83 (by rw [eh_13, hset_nea _ _ _ (by omega)]; exact (by rw [eh_12, hset_nea _ _ _ (by omega)]; exact (by rw [eh_11, hset_nea _ _ _ (by omega)]; exact (by rw [eh_10, hset_nea _ _ _ (by omega)]; exact c.1)))) ?_
          refine Aj.aload_n C 0 dX1_singBar_86 rfl ?_
          refine Aj.getIe (z := T.2.1) C lf_RX1_65 rfl K.a dX1_singBar_87 (by rw [eh_13, hset_nea _ _ _ (by omega)]; exact (by rw [eh_12, hset_nea _ _ _ (by omega)]; exact (by rw [eh_11, hset_nea _ _ _ (by omega)]; exact (by rw [eh_10, hset_nea _ _ _ (by omega)]; exact c.2.1)))) ?_
          refine Aj.iast C K.a2 (by omega) dX1_singBar_90 (fun h_14 eh_14 => ?_)
          refine Aj.aload_n C 0 dX1_singBar_91 rfl ?_
          refine Aj.dup_qa C dX1_singBar_92 ?_
          refine Aj.getIe (z := T.1) C lf_RX1_51 rfl K.a dX1_singBar_93 (by rw [eh_14, hset_nea _ _ _ (by omega)]; exact (by rw [eh_13, hset_nea _ _ _ (by omega)]; exact (by rw [eh_12, hset_nea _ _ _ (by omega)]; exact (by rw [eh_11, hset_nea _ _ _ (by omega)]; exact (by rw [eh_10, hset_nea _ _ _ (by omega)]; exact c.1))))) ?_
          refine Aj.iconst C dX1_singBar_96 (by decide) ?_
          refine Aj.iadd C dX1_singBar_97 (by omega) ?_
          refine Aj.putI C lf_RX1_51 K.a dX1_singBar_98 (fun h_15 eh_15 => ?_)
          have hC5 : CScore h_15 p s := hC.fr (fun x y z1 z2 => by rw [eh_15, eh_14, eh_13, eh_12, eh_11, eh_10]; simp only [hset_ap]; repeat (rw [if_neg (by omega)]))
          refine Aj.aload_n C 0 dX1_singBar_101 rfl ?_
          refine Aj.dup_qa C dX1_singBar_102 ?_
          refine Aj.getIe (z := T.2.1) C lf_RX1_65 rfl K.a dX1_singBar_103 (by rw [eh_15, hset_neb _ _ _ (by decide)]; exact (by rw [eh_14, hset_nea _ _ _ (by omega)]; exact (by rw [eh_13, hset_nea _ _ _ (by omega)]; exact (by rw [eh_12, hset_nea _ _ _ (by omega)]; exact (by rw [eh_11, hset_nea _ _ _ (by omega)]; exact (by rw [eh_10, hset_nea _ _ _ (by omega)]; exact c.2.1)))))) ?_
          refine Aj.aload_n C 1 dX1_singBar_106 rfl ?_
          refine Aj.iload_n C 2 dX1_singBar_107 rfl ?_
          refine Aj.callVi (As := [qi a]) (st := [qi T.2.1, qa q]) C lm_RX1_92 m_X4_tenthsOf mk_X4_tenthsOf ms_X4_tenthsOf (c_X4_tenthsOf _ L hC5 g hb) L.a (t := 4) rfl rfl rfl rfl (by decide) (Nat.le_of_ble_eq_true rfl) (by decide) dX1_singBar_108 (fun z108 h_16 rz108 p108 => ?_)
          obtain ⟨rfl, pt⟩ := p108
          have tn := tenP_in g (b := a) ⟨by omega, by omega⟩
          have pt2 : z108 = tenP s a := pt
          refine Aj.iadd C dX1_singBar_111 (by omega) ?_
          refine Aj.putI C lf_RX1_65 K.a dX1_singBar_112 (fun h_17 eh_17 => ?_)
          refine Aj.vret C dX1_singBar_115 (by rw [hmc]; exact ⟨rfl, Nat.le_of_ble_eq_true rfl⟩) ⟨rfl, rfl, ?_⟩
          have hn : ¬ cutP s a := fun w => by have := pe3.mpr w; omega
          refine CN.sing (h1 := hset h (q + 4) a T.1) c ⟨by omega, by omega⟩ t (Or.inl ⟨by omega, rfl⟩) ?_ pt2 hn
          rw [eh_17, eh_15, eh_14, eh_13, eh_12, eh_11, eh_10]
      · refine Aj.vret C dX1_singBar_28 (by rw [hmc]; exact ⟨rfl, Nat.le_of_ble_eq_true rfl⟩) ⟨rfl, rfl, ?_⟩
        first
        | (exfalso; have := pe1.mpr hb; omega)
        | (exfalso; omega)
        | (rw [sing1_y (pe3.mp (by omega))]; exact ⟨c, FR.rf⟩)

set_option maxHeartbeats 4000000 in
set_option maxRecDepth 100000 in
theorem c_X1_singAll (l : Launch) {G : qG} {n : Int} {r h : qH} {q : Int} (K : LNight G n r q) {p : Int} {s : Int → Int} (L : LScore G n r p) (hC : CScore h p s) (g : SG s) (hd : p + 17 ≤ q ∨ q + 14 ≤ p) : q_Cm l G yX1_singAll cX1_singAll 4 none 3 66 [qa q, qa p] n r h (q_Pv r (fun h' => CN h' q (nightT s) ∧ FR q 6 h h')) 0 0 := by
  refine q_enter (al := [(0, qa q), (1, qa p)]) m_X1_singAll rfl (Nat.le_of_ble_eq_true rfl) ?_
  intro hok X C hmc hxl hin
  have gn := g.n
  refine Aj.aload_n C 0 dX1_singAll_0 rfl ?_
  refine Aj.iconst C dX1_singAll_1 (by decide) ?_
  refine Aj.putI C lf_RX1_51 K.a dX1_singAll_2 (fun h_1 eh_1 => ?_)
  refine Aj.aload_n C 0 dX1_singAll_5 rfl ?_
  refine Aj.iconst C dX1_singAll_6 (by decide) ?_
  refine Aj.putI C lf_RX1_65 K.a dX1_singAll_7 (fun h_2 eh_2 => ?_)
  refine Aj.iconst C dX1_singAll_10 (by decide) ?_
  refine Aj.istore_n (al2 := [(2, qi 0), (0, qa q), (1, qa p)]) C dX1_singAll_11 (by decide) rfl ?_
  refine Aj.pick (al2 := [(0, qa q), (1, qa p), (2, qi 0)]) [1, 2, 0] rfl ?_
  suffices L12 : ∀ (N : Nat) (i : Int) (hh : qH) , (0 ≤ i ∧ i ≤ 60 ∧ hh q 6 = 0 ∧ hh q 7 = 0 ∧ (∀ b, 0 ≤ b → b < i → hh (q + 3) b = 0 ∧ hh (q + 4) b = -6 ∧ hh (q + 5) b = -6) ∧ FR q 6 h hh) → (60 - i).toNat < N → Aj G X (q_Pv r (fun h' => CN h' q (nightT s) ∧ FR q 6 h h')) cX1_singAll 4 (0, 0) n r hh 12 [(0, qa q), (1, qa p), (2, qi i)] [] from L12 (_ + 1) 0 h_2 (⟨by omega, by omega, by rw [eh_2, eh_1, hset_neb _ _ _ (by decide), hset_same], by rw [eh_2, hset_same], fun b b1 b2 => by omega, fun x y w => by rw [eh_2, eh_1, hset_nea _ _ _ (by omega), hset_nea _ _ _ (by omega)]⟩) (Nat.lt_succ_self _)
  intro N12
  induction N12 with
  | zero => intro i hh _ hN; exact absurd hN (Nat.not_lt_zero _)
  | succ N ih12 =>
    intro i hh hI12 hN12
    obtain ⟨hi0, hi1, hi2, hi3, hi4, hi5⟩ := hI12
    refine Aj.iload_n C 2 dX1_singAll_12 rfl ?_
    refine Aj.bipush C dX1_singAll_13 (by decide) (by decide) ?_
    refine Aj.icmp_ge (tgt := 47) C dX1_singAll_15 (by decide) (fun c15 => ?_) (fun c15 => ?_)
    · refine Aj.iconst C dX1_singAll_47 (by decide) ?_
      refine Aj.istore_n (al2 := [(2, qi 0), (0, qa q), (1, qa p)]) C dX1_singAll_48 (by decide) rfl ?_
      refine Aj.pick (al2 := [(0, qa q), (1, qa p), (2, qi 0)]) [1, 2, 0] rfl ?_
      suffices L49 : ∀ (N : Nat) (j : Int) (h1 : qH) , (0 ≤ j ∧ j ≤ s 0 ∧ CN h1 q (singTo s j.toNat) ∧ FR q 6 h h1) → (s 0 - j).toNat < N → Aj G X (q_Pv r (fun h' => CN h' q (nightT s) ∧ FR q 6 h h')) cX1_singAll 4 (0, 0) n r h1 49 [(0, qa q), (1, qa p), (2, qi j)] [] from L49 (_ + 1) 0 hh (⟨by omega, by omega, CN.zero hi2 hi3 (fun b b1 b2 => hi4 b b1 (by omega)), hi5⟩) (Nat.lt_succ_self _)
      intro N49
      induction N49 with
      | zero => intro j h1 _ hN; exact absurd hN (Nat.not_lt_zero _)
      | succ N ih49 =>
        intro j h1 hI49 hN49
        obtain ⟨hj0, hj1, hj2, hj3⟩ := hI49
        have hQ : CScore h1 p s := hC.fr (fun x y z1 z2 => hj3 x y (by omega))
        refine Aj.iload_n C 2 dX1_singAll_49 rfl ?_
        refine Aj.aload_n C 1 dX1_singAll_50 rfl ?_
        refine Aj.getIe (z := s 0) C lf_RX1_55 rfl L.a dX1_singAll_51 hQ.1 ?_
        refine Aj.icmp_ge (tgt := 95) C dX1_singAll_54 (by decide) (fun c54 => ?_) (fun c54 => ?_)
        · refine Aj.vret C dX1_singAll_95 (by rw [hmc]; exact ⟨rfl, Nat.le_of_ble_eq_true rfl⟩) ⟨rfl, rfl, ?_⟩
          have e : j = s 0 := by omega
          rw [e] at hj2
          exact ⟨hj2, hj3⟩
        · have hjl : j < s 0 := by omega
          have hjc : ((j.toNat : Nat) : Int) = j := by omega
          have rm := sing_room g j.toNat (by omega)
          rw [hjc] at rm
          have tj := singTo_TG g j.toNat (by omega)
          have hbk := bk_cases g j
          have hbk0 : 0 ≤ bk s j ∧ bk s j ≤ j + 1 := by rcases hbk with ⟨q1, -⟩ | ⟨k, q1, q2, q3, q4, q5, q6⟩ <;> omega
          clear hjc
          refine Aj.aload_n C 0 dX1_singAll_57 rfl ?_
          refine Aj.aload_n C 1 dX1_singAll_58 rfl ?_
          refine Aj.iload_n C 2 dX1_singAll_59 rfl ?_
          refine Aj.callVv (As := [qa p, qi j]) (st := []) C lm_RX1_68 m_X1_singBar mk_X1_singBar ms_X1_singBar (c_X1_singBar _ K hj2 tj (by omega) L hQ g hd ⟨hj0, hjl⟩ (by omega)) K.a (t := 1) rfl rfl rfl rfl (by decide) (Nat.le_of_ble_eq_true rfl) (by decide) dX1_singAll_60 (fun hs p60 => ?_)
          have c60 := p60
          have hQ1 : CScore hs p s := hQ.fr (fun x y z1 z2 => c60.2 x y (by omega))
          refine Aj.aload_n C 1 dX1_singAll_63 rfl ?_
          refine Aj.getR C lf_RX1_72 rfl L.a L.r4 dX1_singAll_64 ?_
          refine Aj.iload_n C 2 dX1_singAll_67 rfl ?_
          refine Aj.callVi (As := [qi j]) (st := []) C lm_RX1_76 m_X6_backFrom mk_X6_backFrom ms_X6_backFrom (c_X6_backFrom _ (by omega) hj0 L.re (by decide) hQ1.2.2.2.1 (by omega)) L.re.a (t := 6) rfl rfl rfl rfl (by decide) (Nat.le_of_ble_eq_true rfl) (by decide) dX1_singAll_68 (fun z68 h_3 rz68 p68 => ?_)
          obtain ⟨rfl, pb⟩ := p68
          have pb2 : z68 = bk s j := by
            rcases hbk with ⟨q1, q2⟩ | ⟨k, q1, q2, q3, q4, q5, q6⟩
            · rcases pb with ⟨k, k1, k2, k3, k4, k5⟩ | ⟨k1, k2⟩
              · exact absurd k3 (q2 k k1 k2)
              · omega
            · rcases pb with ⟨i2, k1, k2, k3, k4, k5⟩ | ⟨k1, k2⟩
              · rcases Int.lt_trichotomy i2 k with w | w | w
                · have d1 := g.dj i2 k k1 w q2; have d2 := g.re i2 k1 k2; have d3 := g.re k q1 q2; omega
                · subst w; exact k4.trans q4.symm
                · exact absurd q3 (k5 k q1 w)
              · exact absurd q3 (k1 k q1 q2)
          clear hbk pb
          refine Aj.istore_n (al2 := [(3, qi z68), (0, qa q), (1, qa p), (2, qi j)]) C dX1_singAll_71 (by decide) rfl ?_
          refine Aj.pick (al2 := [(0, qa q), (1, qa p), (2, qi j), (3, qi z68)]) [1, 2, 3, 0] rfl ?_
          suffices L72 : ∀ (N : Nat) (v : Int) (h2 : qH) , (bk s j ≤ v ∧ v ≤ j + 1 ∧ CN h2 q (singR s (bk s j) (v - bk s j).toNat (sing1 s j (singTo s j.toNat))) ∧ FR q 6 h h2) → (j + 1 - v).toNat < N → Aj G X (q_Pv r (fun h' => CN h' q (nightT s) ∧ FR q 6 h h')) cX1_singAll 4 (0, 0) n r h2 72 [(0, qa q), (1, qa p), (2, qi j), (3, qi v)] [] from L72 (_ + 1) z68 hs (⟨by omega, by omega, by rw [show (z68 - bk s j).toNat = 0 by omega]; exact c60.1, hj3.tr c60.2⟩) (Nat.lt_succ_self _)
          intro N72
          induction N72 with
          | zero => intro v h2 _ hN; exact absurd hN (Nat.not_lt_zero _)
          | succ N ih72 =>
            intro v h2 hI72 hN72
            obtain ⟨hv0, hv1, hv2, hv3⟩ := hI72
            have hQ2 : CScore h2 p s := hC.fr (fun x y z1 z2 => hv3 x y (by omega))
            refine Aj.iload_n C 3 dX1_singAll_72 rfl ?_
            refine Aj.iload_n C 2 dX1_singAll_73 rfl ?_
            refine Aj.icmp_gt (tgt := 89) C dX1_singAll_74 (by decide) (fun c74 => ?_) (fun c74 => ?_)
            · refine Aj.iinc (al2 := [(2, qi (j + 1)), (0, qa q), (1, qa p), (3, qi v)]) C 2 dX1_singAll_89 rfl (by decide) (by omega) rfl ?_
              refine Aj.goto (tgt := 49) C dX1_singAll_92 (by decide) ?_
              refine Aj.pick (al2 := [(0, qa q), (1, qa p), (2, qi (j + 1))]) [1, 2, 0] rfl ?_
              exact ih49 (j + 1) h2 (⟨by omega, by omega, by rw [singTo_succ s hj0]; exact (show v = j + 1 by omega) ▸ hv2, hv3⟩) (by omega)
            · have rm2 := rm.2 (v - bk s j).toNat (by omega)
              have hb0 : 0 ≤ bk s j := hbk0.1
              have tj1 := sing1_TG g ⟨hj0, by omega⟩ tj
              have tv := singR_TG g tj1 (v - bk s j).toNat hb0 (by omega)
              refine Aj.aload_n C 0 dX1_singAll_77 rfl ?_
              refine Aj.aload_n C 1 dX1_singAll_78 rfl ?_
              refine Aj.iload_n C 3 dX1_singAll_79 rfl ?_
              refine Aj.callVv (As := [qa p, qi v]) (st := []) C lm_RX1_68 m_X1_singBar mk_X1_singBar ms_X1_singBar (c_X1_singBar _ K hv2 tv (by omega) L hQ2 g hd ⟨by omega, by omega⟩ (by omega)) K.a (t := 1) rfl rfl rfl rfl (by decide) (Nat.le_of_ble_eq_true rfl) (by decide) dX1_singAll_80 (fun h_4 p80 => ?_)
              have c80 := p80
              refine Aj.iinc (al2 := [(3, qi (v + 1)), (0, qa q), (1, qa p), (2, qi j)]) C 3 dX1_singAll_83 rfl (by decide) (by omega) rfl ?_
              refine Aj.goto (tgt := 72) C dX1_singAll_86 (by decide) ?_
              refine Aj.pick (al2 := [(0, qa q), (1, qa p), (2, qi j), (3, qi (v + 1))]) [1, 2, 3, 0] rfl ?_
              exact ih72 (v + 1) h_4 (⟨by omega, by omega, by rw [singR_succ s _ _ hv0]; exact c80.1, hv3.tr c80.2⟩) (by omega)
    · refine Aj.aload_n C 0 dX1_singAll_18 rfl ?_
      refine Aj.getR C lf_RX1_18 rfl K.a K.r2 dX1_singAll_19 ?_
      refine Aj.iload_n C 2 dX1_singAll_22 rfl ?_
      refine Aj.iconst C dX1_singAll_23 (by decide) ?_
      refine Aj.iast C K.a3 (by omega) dX1_singAll_24 (fun h_5 eh_5 => ?_)
      refine Aj.aload_n C 0 dX1_singAll_25 rfl ?_
      refine Aj.getR C lf_RX1_21 rfl K.a K.r3 dX1_singAll_26 ?_
      refine Aj.iload_n C 2 dX1_singAll_29 rfl ?_
      refine Aj.bipush C dX1_singAll_30 (by decide) (by decide) ?_
      refine Aj.iast C K.a4 (by omega) dX1_singAll_32 (fun h_6 eh_6 => ?_)
      refine Aj.aload_n C 0 dX1_singAll_33 rfl ?_
      refine Aj.getR C lf_RX1_24 rfl K.a K.r4 dX1_singAll_34 ?_
      refine Aj.iload_n C 2 dX1_singAll_37 rfl ?_
      refine Aj.bipush C dX1_singAll_38 (by decide) (by decide) ?_
      refine Aj.iast C K.a5 (by omega) dX1_singAll_40 (fun h_7 eh_7 => ?_)
      refine Aj.iinc (al2 := [(2, qi (i + 1)), (0, qa q), (1, qa p)]) C 2 dX1_singAll_41 rfl (by decide) (by omega) rfl ?_
      refine Aj.goto (tgt := 12) C dX1_singAll_44 (by decide) ?_
      refine Aj.pick (al2 := [(0, qa q), (1, qa p), (2, qi (i + 1))]) [1, 2, 0] rfl ?_
      exact ih12 (i + 1) h_7 (⟨by omega, by omega, by rw [eh_7, eh_6, eh_5, hset_nea _ _ _ (by omega), hset_nea _ _ _ (by omega), hset_nea _ _ _ (by omega)]; exact hi2, by rw [eh_7, eh_6, eh_5, hset_nea _ _ _ (by omega), hset_nea _ _ _ (by omega), hset_nea _ _ _ (by omega)]; exact hi3, fun b b1 b2 => by
        rw [eh_7, eh_6, eh_5]
        by_cases e : b = i
        · subst e
          refine ⟨?_, ?_, hset_same _ _ _ _⟩
          · rw [hset_nea _ _ _ (by omega), hset_nea _ _ _ (by omega), hset_same]
          · rw [hset_nea _ _ _ (by omega), hset_same]
        · rw [hset_neb _ _ _ e, hset_neb _ _ _ e, hset_neb _ _ _ e, hset_neb _ _ _ e, hset_neb _ _ _ e, hset_neb _ _ _ e, hset_neb _ _ _ e, hset_neb _ _ _ e, hset_neb _ _ _ e]
          exact hi4 b b1 (by omega), fun x y w => by rw [eh_7, eh_6, eh_5, hset_nea _ _ _ (by omega), hset_nea _ _ _ (by omega), hset_nea _ _ _ (by omega)]; exact hi5 x y w⟩) (by omega)

set_option maxHeartbeats 4000000 in
set_option maxRecDepth 100000 in
theorem c_X1_comesWith (l : Launch) {G : qG} {n : Int} {r h : qH} {k a b : Int} {q : Int} {T : qT} (K : LNight G n r q) (c : CN h q T) (t : TG T) (hT : T.1 ≤ 120) (hb : 0 ≤ b ∧ b < T.1) (ha : 0 ≤ a ∧ a < 60) : q_Cm l G yX1_comesWith cX1_comesWith 4 (some .boolean) 0 0 [qa q, qi k, qi a, qi b] n r h (q_Pi r (fun z h' => h = h' ∧ (z = 0 ∨ z = 1) ∧ (z = 1 ↔ T.2.2.1 b = a ∧ (k = 0 → fstN T.2.2.1 a T.1.toNat = b) ∧ (k = 2 → lstN T.2.2.1 a T.1.toNat = b)))) 0 0 := by
  refine q_enter (al := [(0, qa q), (1, qi k), (2, qi a), (3, qi b)]) m_X1_comesWith rfl (Nat.le_of_ble_eq_true rfl) ?_
  intro hok X C hmc hxl hin
  have t0 := t.1
  refine Aj.aload_n C 0 dX1_comesWith_0 rfl ?_
  refine Aj.getR C lf_RX1_9 rfl K.a K.r0 dX1_comesWith_1 ?_
  refine Aj.iload_n C 3 dX1_comesWith_4 rfl ?_
  refine Aj.ialde (w := T.2.2.1 b) C K.a1 (by omega) dX1_comesWith_5 (c.2.2.1 _ (by omega) (by omega)).1 ?_
  refine Aj.iload_n C 2 dX1_comesWith_6 rfl ?_
  refine Aj.icmp_eq (tgt := 12) C dX1_comesWith_7 (by decide) (fun c7 => ?_) (fun c7 => ?_)
  · refine Aj.iload_n C 1 dX1_comesWith_12 rfl ?_
    rcases (show k = 0 ∨ k = 2 ∨ (k ≠ 0 ∧ k ≠ 2) by omega) with c13 | c13 | c13
    · refine Aj.lookup C (27) dX1_comesWith_13 (by decide) (by rw [c13]; decide) (tgt := 40) (by decide) ?_
      refine Aj.aload_n C 0 dX1_comesWith_40 rfl ?_
      refine Aj.getR C lf_RX1_21 rfl K.a K.r3 dX1_comesWith_41 ?_
      refine Aj.iload_n C 2 dX1_comesWith_44 rfl ?_
      refine Aj.ialde (w := fstN T.2.2.1 a T.1.toNat) C K.a4 (by omega) dX1_comesWith_45 (c.2.2.2 _ (by omega) (by omega)).2.1 ?_
      refine Aj.iload_n C 3 dX1_comesWith_46 rfl ?_
      refine Aj.icmp_ne (tgt := 54) C dX1_comesWith_47 (by decide) (fun c47 => ?_) (fun c47 => ?_)
      · refine Aj.iconst C dX1_comesWith_54 (by decide) ?_
        refine Aj.zret C dX1_comesWith_55 (by omega) (by rw [hmc]; exact ⟨rfl, Nat.le_of_ble_eq_true rfl⟩) ⟨_, rfl, rfl, ?_⟩
        exact ⟨rfl, by omega, by omega⟩
      · refine Aj.iconst C dX1_comesWith_50 (by decide) ?_
        refine Aj.goto (tgt := 55) C dX1_comesWith_51 (by decide) ?_
        refine Aj.zret C dX1_comesWith_55 (by omega) (by rw [hmc]; exact ⟨rfl, Nat.le_of_ble_eq_true rfl⟩) ⟨_, rfl, rfl, ?_⟩
        exact ⟨rfl, by omega, by omega⟩
    · refine Aj.lookup C (43) dX1_comesWith_13 (by decide) (by rw [c13]; decide) (tgt := 56) (by decide) ?_
      refine Aj.aload_n C 0 dX1_comesWith_56 rfl ?_
      refine Aj.getR C lf_RX1_24 rfl K.a K.r4 dX1_comesWith_57 ?_
      refine Aj.iload_n C 2 dX1_comesWith_60 rfl ?_
      refine Aj.ialde (w := lstN T.2.2.1 a T.1.toNat) C K.a5 (by omega) dX1_comesWith_61 (c.2.2.2 _ (by omega) (by omega)).2.2 ?_
      refine Aj.iload_n C 3 dX1_comesWith_62 rfl ?_
      refine Aj.icmp_ne (tgt := 70) C dX1_comesWith_63 (by decide) (fun c63 => ?_) (fun c63 => ?_)
      · refine Aj.iconst C dX1_comesWith_70 (by decide) ?_
        refine Aj.zret C dX1_comesWith_71 (by omega) (by rw [hmc]; exact ⟨rfl, Nat.le_of_ble_eq_true rfl⟩) ⟨_, rfl, rfl, ?_⟩
        exact ⟨rfl, by omega, by omega⟩
      · refine Aj.iconst C dX1_comesWith_66 (by decide) ?_
        refine Aj.goto (tgt := 71) C dX1_comesWith_67 (by decide) ?_
        refine Aj.zret C dX1_comesWith_71 (by omega) (by rw [hmc]; exact ⟨rfl, Nat.le_of_ble_eq_true rfl⟩) ⟨_, rfl, rfl, ?_⟩
        exact ⟨rfl, by omega, by omega⟩
    · refine Aj.lookup C (59) dX1_comesWith_13 (by decide) (q_lkd _ _ _ (by simp; omega)) (tgt := 72) (by decide) ?_
      refine Aj.iconst C dX1_comesWith_72 (by decide) ?_
      refine Aj.zret C dX1_comesWith_73 (by omega) (by rw [hmc]; exact ⟨rfl, Nat.le_of_ble_eq_true rfl⟩) ⟨_, rfl, rfl, ?_⟩
      exact ⟨rfl, by omega, by omega⟩
  · refine Aj.iconst C dX1_comesWith_10 (by decide) ?_
    refine Aj.zret C dX1_comesWith_11 (by omega) (by rw [hmc]; exact ⟨rfl, Nat.le_of_ble_eq_true rfl⟩) ⟨_, rfl, rfl, ?_⟩
    exact ⟨rfl, by omega, by omega⟩

set_option maxHeartbeats 4000000 in
set_option maxRecDepth 100000 in
theorem c_X1_isBlackAt (l : Launch) {G : qG} {n : Int} {r h : qH} {a : Int} {q : Int} {T : qT} (K : LNight G n r q) (c : CN h q T) (t : TG T) (hT : T.1 ≤ 120) {p : Int} {s : Int → Int} (L : LScore G n r p) (hC : CScore h p s) (g : SG s) : q_Cm l G yX1_isBlackAt cX1_isBlackAt 5 (some .boolean) 2 42 [qa q, qa (p + 9), qi a] n r h (q_Pi r (fun z h' => h = h' ∧ (z = 0 ∨ z = 1) ∧ (z = 1 ↔ darkP s T a))) 0 0 := by
  refine q_enter (al := [(0, qa q), (1, qa (p + 9)), (2, qi a)]) m_X1_isBlackAt rfl (Nat.le_of_ble_eq_true rfl) ?_
  intro hok X C hmc hxl hin
  have t0 := t.1
  have gn := g.n
  refine Aj.iconst C dX1_isBlackAt_0 (by decide) ?_
  refine Aj.istore_n (al2 := [(3, qi 0), (0, qa q), (1, qa (p + 9)), (2, qi a)]) C dX1_isBlackAt_1 (by decide) rfl ?_
  refine Aj.pick (al2 := [(0, qa q), (1, qa (p + 9)), (2, qi a), (3, qi 0)]) [1, 2, 3, 0] rfl ?_
  suffices L2 : ∀ (N : Nat) (i : Int) , (0 ≤ i ∧ i ≤ s 4 ∧ ∀ k, 0 ≤ k → k < i → ¬ (s (142 + 2 * k) < T.1 ∧ T.2.2.2 (s (142 + 2 * k)) ≤ a ∧ a < bOE T (s (143 + 2 * k) + 1))) → (s 4 - i).toNat < N → Aj G X (q_Pi r (fun z h' => h = h' ∧ (z = 0 ∨ z = 1) ∧ (z = 1 ↔ darkP s T a))) cX1_isBlackAt 5 (0, 0) n r h 2 [(0, qa q), (1, qa (p + 9)), (2, qi a), (3, qi i)] [] from L2 (_ + 1) 0 (⟨by omega, by omega, fun k k1 k2 => by omega⟩) (Nat.lt_succ_self _)
  intro N2
  induction N2 with
  | zero => intro i _ hN; exact absurd hN (Nat.not_lt_zero _)
  | succ N ih2 =>
    intro i hI2 hN2
    obtain ⟨hi0, hi1, hi2⟩ := hI2
    refine Aj.iload_n C 3 dX1_isBlackAt_2 rfl ?_
    refine Aj.aload_n C 1 dX1_isBlackAt_3 rfl ?_
    refine Aj.getIe (z := s 4) C lf_RX1_155 rfl L.bl.a dX1_isBlackAt_4 hC.2.2.2.2.2.1.1 ?_
    refine Aj.icmp_ge (tgt := 62) C dX1_isBlackAt_7 (by decide) (fun c7 => ?_) (fun c7 => ?_)
    · refine Aj.iconst C dX1_isBlackAt_62 (by decide) ?_
      refine Aj.zret C dX1_isBlackAt_63 (by omega) (by rw [hmc]; exact ⟨rfl, Nat.le_of_ble_eq_true rfl⟩) ⟨_, rfl, rfl, ?_⟩
      first
      | exact ⟨rfl, by omega, by omega, fun ⟨k, k1, k2, k3⟩ => absurd k3 (hi2 k k1 (by omega))⟩
      | exact ⟨rfl, by omega, fun _ => ⟨i, hi0, by omega, by omega, by omega, by omega⟩, fun _ => rfl⟩
    · have gb := g.bl i hi0 (by omega)
      refine Aj.aload_n C 1 dX1_isBlackAt_10 rfl ?_
      refine Aj.getR C lf_RX1_156 rfl L.bl.a L.bl.r0 dX1_isBlackAt_11 ?_
      refine Aj.iload_n C 3 dX1_isBlackAt_14 rfl ?_
      refine Aj.ialde (w := s (142 + 2 * i)) C L.bl.a1 (by omega) dX1_isBlackAt_15 (hC.2.2.2.2.2.1.2 _ (by omega) (by omega)).1 ?_
      refine Aj.istore (al2 := [(4, qi (s (142 + 2 * i))), (0, qa q), (1, qa (p + 9)), (2, qi a), (3, qi i)]) C dX1_isBlackAt_16 (by decide) rfl ?_
      refine Aj.aload_n C 1 dX1_isBlackAt_18 rfl ?_
      refine Aj.iload C 0 dX1_isBlackAt_19 rfl ?_
      refine Aj.callVi (As := [qi (s (142 + 2 * i))]) (st := []) C lm_RX1_159 m_X1_hasPlace mk_X1_hasPlace ms_X1_hasPlace (c_X1_hasPlace _ K c t hT) K.a (t := 1) rfl rfl rfl rfl (by decide) (Nat.le_of_ble_eq_true rfl) (by decide) dX1_isBlackAt_21 (fun z21 h_1 rz21 p21 => ?_)
      obtain ⟨rfl, pz, pe⟩ := p21
      refine Aj.if_eq (tgt := 56) C dX1_isBlackAt_24 (by decide) (fun c24 => ?_) (fun c24 => ?_)
      · refine Aj.iinc (al2 := [(3, qi (i + 1)), (4, qi (s (142 + 2 * i))), (0, qa q), (1, qa (p + 9)), (2, qi a)]) C 4 dX1_isBlackAt_56 rfl (by decide) (by omega) rfl ?_
        refine Aj.goto (tgt := 2) C dX1_isBlackAt_59 (by decide) ?_
        refine Aj.pick (al2 := [(0, qa q), (1, qa (p + 9)), (2, qi a), (3, qi (i + 1))]) [2, 3, 4, 0] rfl ?_
        exact ih2 (i + 1) (⟨by omega, by omega, fun k k1 k2 => if hk : k = i then by subst hk; intro q; omega else hi2 k k1 (by omega)⟩) (by omega)
      · refine Aj.iload_n C 3 dX1_isBlackAt_27 rfl ?_
        refine Aj.aload_n C 1 dX1_isBlackAt_28 rfl ?_
        refine Aj.getR C lf_RX1_15 rfl K.a K.r1 dX1_isBlackAt_29 ?_
        refine Aj.iload C 0 dX1_isBlackAt_32 rfl ?_
        refine Aj.ialde (w := T.2.2.2 (s (142 + 2 * i))) C K.a2 (by omega) dX1_isBlackAt_34 (c.2.2.1 _ (by omega) (by omega)).2 ?_
        refine Aj.icmp_lt (tgt := 56) C dX1_isBlackAt_35 (by decide) (fun c35 => ?_) (fun c35 => ?_)
        · refine Aj.iinc (al2 := [(3, qi (i + 1)), (4, qi (s (142 + 2 * i))), (0, qa q), (1, qa (p + 9)), (2, qi a)]) C 4 dX1_isBlackAt_56 rfl (by decide) (by omega) rfl ?_
          refine Aj.goto (tgt := 2) C dX1_isBlackAt_59 (by decide) ?_
          refine Aj.pick (al2 := [(0, qa q), (1, qa (p + 9)), (2, qi a), (3, qi (i + 1))]) [2, 3, 4, 0] rfl ?_
          exact ih2 (i + 1) (⟨by omega, by omega, fun k k1 k2 => if hk : k = i then by subst hk; intro q; omega else hi2 k k1 (by omega)⟩) (by omega)
        · refine Aj.iload_n C 3 dX1_isBlackAt_38 rfl ?_
          refine Aj.aload_n C 1 dX1_isBlackAt_39 rfl ?_
          refine Aj.aload_n C 2 dX1_isBlackAt_40 rfl ?_
          refine Aj.getR C lf_RX1_162 rfl L.bl.a L.bl.r1 dX1_isBlackAt_41 ?_
          refine Aj.iload_n C 4 dX1_isBlackAt_44 rfl ?_
          refine Aj.ialde (w := s (143 + 2 * i)) C L.bl.a2 (by omega) dX1_isBlackAt_45 (hC.2.2.2.2.2.1.2 _ (by omega) (by omega)).2 ?_
          refine Aj.iconst C dX1_isBlackAt_46 (by decide) ?_
          refine Aj.iadd C dX1_isBlackAt_47 (by omega) ?_
          refine Aj.callVi (As := [qi (s (143 + 2 * i) + 1)]) (st := [qi a]) C lm_RX1_122 m_X1_beginOrEnd mk_X1_beginOrEnd ms_X1_beginOrEnd (c_X1_beginOrEnd _ (by omega) K c t hT) K.a (t := 1) rfl rfl rfl rfl (by decide) (Nat.le_of_ble_eq_true rfl) (by decide) dX1_isBlackAt_48 (fun z48 h_2 rz48 p48 => ?_)
          obtain ⟨rfl, pb⟩ := p48
          refine Aj.icmp_ge (tgt := 56) C dX1_isBlackAt_51 (by decide) (fun c51 => ?_) (fun c51 => ?_)
          · refine Aj.iinc (al2 := [(3, qi (i + 1)), (4, qi (s (142 + 2 * i))), (0, qa q), (1, qa (p + 9)), (2, qi a)]) C 4 dX1_isBlackAt_56 rfl (by decide) (by omega) rfl ?_
            refine Aj.goto (tgt := 2) C dX1_isBlackAt_59 (by decide) ?_
            refine Aj.pick (al2 := [(0, qa q), (1, qa (p + 9)), (2, qi a), (3, qi (i + 1))]) [2, 3, 4, 0] rfl ?_
            exact ih2 (i + 1) (⟨by omega, by omega, fun k k1 k2 => if hk : k = i then by subst hk; intro q; omega else hi2 k k1 (by omega)⟩) (by omega)
          · refine Aj.iconst C dX1_isBlackAt_54 (by decide) ?_
            refine Aj.zret C dX1_isBlackAt_55 (by omega) (by rw [hmc]; exact ⟨rfl, Nat.le_of_ble_eq_true rfl⟩) ⟨_, rfl, rfl, ?_⟩
            first
            | exact ⟨rfl, by omega, by omega, fun ⟨k, k1, k2, k3⟩ => absurd k3 (hi2 k k1 (by omega))⟩
            | exact ⟨rfl, by omega, fun _ => ⟨i, hi0, by omega, by omega, by omega, by omega⟩, fun _ => rfl⟩
