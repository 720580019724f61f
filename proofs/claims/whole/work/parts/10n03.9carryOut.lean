set_option maxHeartbeats 400000 in
set_option maxRecDepth 100000 in
theorem c_X9_carryOut (l : Launch) {G : qG} {n : Int} {r h : qH} {M : Int} {st : qS} (L : LModel G n r M) (c : IM h M st) (gs : GS st) (sz : SZ st.1) : q_Cm l G yX9_carryOut cX9_carryOut 6 (some .int) 5 114 [qa M] n r h (q_Pi r (fun z h' => ∃ st2, O_carry st z st2 ∧ IM h' M st2 ∧ FR M 16 h h')) 0 0 := by
  refine q_enter (al := [(0, qa M)]) m_X9_carryOut rfl (Nat.le_of_ble_eq_true rfl) ?_
  intro hok X C hmc hxl hin
  have g := gs.1
  have gn := g.n
  have gh := gs.2.2.1
  have pgd := gs.2.1
  have pm := pgd.2.1
  refine Aj.aload_n C 0 dX9_carryOut_0 rfl ?_
  refine Aj.iconst C dX9_carryOut_1 (by decide) ?_
  refine Aj.putI C lf_RX9_56 L.a dX9_carryOut_2 (fun h_1 eh_1 => ?_)
  have f1 : FS M h h_1 := fun x y w => by rw [eh_1, hset_ne _ _ (by omega)]
  have c1 : IM h_1 M st := c.fs f1
  refine Aj.aload_n C 0 dX9_carryOut_5 rfl ?_
  refine Aj.callVi (As := []) (st := []) C lm_RX9_215 m_X9_reads mk_X9_reads ms_X9_reads (c_X9_reads _ (m := st.2.1.1) (P := st.2.1.2) L c1.2.1 pgd) L.a (t := 9) rfl rfl rfl rfl (by decide) (Nat.le_of_ble_eq_true rfl) (by decide) dX9_carryOut_6 (fun z6 ha rz6 p6 => ?_)
  obtain ⟨rd1, rd2, rd3⟩ := p6
  have no1 := O_fault_no pgd.1 rd1
  have f2 : FS M h ha := f1.tr rd3
  have c2 := c.fs f2
  refine Aj.bipush C dX9_carryOut_9 (by decide) (by decide) ?_
  refine Aj.icmp_eq (tgt := 17) C dX9_carryOut_11 (by decide) (fun c11 => ?_) (fun c11 => ?_)
  · have nf : noF st.2.1.1 st.2.1.2 := no1.1.mp (by omega)
    obtain ⟨or1, or2, or3⟩ := rd2 (by omega)
    obtain ⟨OO, eO⟩ : ∃ x, x = allO st.2.1.2 st.2.1.1 := ⟨_, rfl⟩
    rw [← eO] at or1 or2 or3
    refine Aj.aload_n C 0 dX9_carryOut_17 rfl ?_
    refine Aj.callVv (As := []) (st := []) C lm_RX9_127 m_X9_records mk_X9_records ms_X9_records (c_X9_records _ L c2.1 c2.2.2.1 gh) L.a (t := 9) rfl rfl rfl rfl (by decide) (Nat.le_of_ble_eq_true rfl) (by decide) dX9_carryOut_18 (fun hr p18 => ?_)
    obtain ⟨hr1, hr2⟩ := p18
    have cr : IMs hr M st.1 := c2.1.frec hr2
    refine Aj.aload_n C 0 dX9_carryOut_21 rfl ?_
    refine Aj.iconst C dX9_carryOut_22 (by decide) ?_
    refine Aj.putI C lf_RX9_182 L.a dX9_carryOut_23 (fun h_2 eh_2 => ?_)
    refine Aj.iconst C dX9_carryOut_26 (by decide) ?_
    refine Aj.istore_n (al2 := [(1, qi 0), (0, qa M)]) C dX9_carryOut_27 (by decide) rfl ?_
    refine Aj.pick (al2 := [(0, qa M), (1, qi 0)]) [1, 0] rfl ?_
    suffices L28 : ∀ (N : Nat) (i : Int) (sx : Int → Int) (hh : qH) , (0 ≤ i ∧ i ≤ OO.1 ∧ runO OO.2 st.1 i.toNat sx ∧ IMs hh M sx ∧ FX M h_2 hh) → (OO.1 - i).toNat < N → Aj G X (q_Pi r (fun z h' => ∃ st2, O_carry st z st2 ∧ IM h' M st2 ∧ FR M 16 h h')) cX9_carryOut 6 (0, 0) n r hh 28 [(0, qa M), (1, qi i)] [] from L28 (_ + 1) 0 st.1 h_2 (⟨by omega, by have := ordS_nn st.2.1.2 st.2.1.1.toNat; rw [eO]; show 0 ≤ (ordS st.2.1.2 st.2.1.1.toNat).1 + 1; omega, rfl, fun j j1 j2 => by rw [eh_2, hset_nea _ _ _ (by omega)]; exact cr j j1 j2, FX.rf⟩) (Nat.lt_succ_self _)
    intro N28
    induction N28 with
    | zero => intro i sx hh _ hN; exact absurd hN (Nat.not_lt_zero _)
    | succ N ih28 =>
      intro i sx hh hI28 hN28
      obtain ⟨hi0, hi1, hi2, hi3, hi4⟩ := hI28
      have hp7 : ∀ x y, ¬ (x = M ∧ y = 7) → h_2 x y = hr x y := fun x y q => by rw [eh_2, hset_ne _ _ (by omega)]
      have corh : COr hh M OO := or2.mv (fun x => by rw [hi4 _ _ (by omega), hp7 _ _ (by omega), hr2 _ _ (by omega) (by omega)])
      refine Aj.iload_n C 1 dX9_carryOut_28 rfl ?_
      refine Aj.aload_n C 0 dX9_carryOut_29 rfl ?_
      refine Aj.getIe (z := OO.1) C lf_RX9_209 rfl L.a dX9_carryOut_30 (by rw [hi4 _ _ (by omega), hp7 _ _ (by omega), hr2 _ _ (by omega) (by omega)]; exact or1) ?_
      refine Aj.icmp_ge (tgt := 111) C dX9_carryOut_33 (by decide) (fun c33 => ?_) (fun c33 => ?_)
      · refine Aj.aload_n C 0 dX9_carryOut_111 rfl ?_
        refine Aj.getIe (z := OO.1) C lf_RX9_209 rfl L.a dX9_carryOut_112 (by rw [hi4 _ _ (by omega), hp7 _ _ (by omega), hr2 _ _ (by omega) (by omega)]; exact or1) ?_
        refine Aj.iret C dX9_carryOut_115 (by rw [hmc]; exact ⟨rfl, Nat.le_of_ble_eq_true rfl⟩) ⟨_, rfl, rfl, ?_⟩
        have ei : i = OO.1 := by omega
        rw [ei] at hi2
        have ic := IM.carry c f2 hr1 hr2 eh_2 hi4 hi3
        exact ⟨_, Or.inr ⟨nf, sx, ⟨⟨by omega, by rw [← eO]; omega⟩, by rw [← eO]; exact hi2, Or.inl (by rw [← eO])⟩, rfl⟩, ic.1, ic.2⟩
      · have gx := runO_good gs.1 sz _ hi2
        refine Aj.aload_n C 0 dX9_carryOut_36 rfl ?_
        refine Aj.getR C lf_RX9_53 rfl L.a L.r22 dX9_carryOut_37 ?_
        refine Aj.iconst C dX9_carryOut_40 (by decide) ?_
        refine Aj.iload_n C 1 dX9_carryOut_41 rfl ?_
        refine Aj.imul C dX9_carryOut_42 (by omega) ?_
        refine Aj.ialde (w := (OO.2 i).1) C L.a15 (by omega) dX9_carryOut_43 (corh i hi0 (by omega)).1 ?_
        refine Aj.istore_n (al2 := [(2, qi ((OO.2 i).1)), (0, qa M), (1, qi i)]) C dX9_carryOut_44 (by decide) rfl ?_
        refine Aj.aload_n C 1 dX9_carryOut_45 rfl ?_
        refine Aj.getR C lf_RX9_53 rfl L.a L.r22 dX9_carryOut_46 ?_
        refine Aj.iconst C dX9_carryOut_49 (by decide) ?_
        refine Aj.iload_n C 2 dX9_carryOut_50 rfl ?_
        refine Aj.imul C dX9_carryOut_51 (by omega) ?_
        refine Aj.iconst C dX9_carryOut_52 (by decide) ?_
        refine Aj.iadd C dX9_carryOut_53 (by omega) ?_
        refine Aj.ialde (w := (OO.2 i).2.2.2 0) C L.a15 (by omega) dX9_carryOut_54 (corh i hi0 (by omega)).2.1 ?_
        refine Aj.istore_n (al2 := [(3, qi ((OO.2 i).2.2.2 0)), (2, qi ((OO.2 i).1)), (0, qa M), (1, qi i)]) C dX9_carryOut_55 (by decide) rfl ?_
        refine Aj.aload_n C 2 dX9_carryOut_56 rfl ?_
        refine Aj.getR C lf_RX9_53 rfl L.a L.r22 dX9_carryOut_57 ?_
        refine Aj.iconst C dX9_carryOut_60 (by decide) ?_
        refine Aj.iload_n C 3 dX9_carryOut_61 rfl ?_
        refine Aj.imul C dX9_carryOut_62 (by omega) ?_
        refine Aj.iconst C dX9_carryOut_63 (by decide) ?_
        refine Aj.iadd C dX9_carryOut_64 (by omega) ?_
        refine Aj.ialde (w := (OO.2 i).2.2.2 1) C L.a15 (by omega) dX9_carryOut_65 (corh i hi0 (by omega)).2.2.1 ?_
        refine Aj.istore (al2 := [(4, qi ((OO.2 i).2.2.2 1)), (3, qi ((OO.2 i).2.2.2 0)), (2, qi ((OO.2 i).1)), (0, qa M), (1, qi i)]) C dX9_carryOut_66 (by decide) rfl ?_
        refine Aj.aload_n C 3 dX9_carryOut_68 rfl ?_
        refine Aj.getR C lf_RX9_53 rfl L.a L.r22 dX9_carryOut_69 ?_
        refine Aj.iconst C dX9_carryOut_72 (by decide) ?_
        refine Aj.iload_n C 4 dX9_carryOut_73 rfl ?_
        refine Aj.imul C dX9_carryOut_74 (by omega) ?_
        refine Aj.iconst C dX9_carryOut_75 (by decide) ?_
        refine Aj.iadd C dX9_carryOut_76 (by omega) ?_
        refine Aj.ialde (w := (OO.2 i).2.2.2 2) C L.a15 (by omega) dX9_carryOut_77 (corh i hi0 (by omega)).2.2.2 ?_
        refine Aj.istore (al2 := [(5, qi ((OO.2 i).2.2.2 2)), (4, qi ((OO.2 i).2.2.2 1)), (3, qi ((OO.2 i).2.2.2 0)), (2, qi ((OO.2 i).1)), (0, qa M), (1, qi i)]) C dX9_carryOut_78 (by decide) rfl ?_
        have oy : openP (OO.2 i).1 := by rw [eO]; exact allO_open nf hi0 (by rw [← eO]; omega)
        refine Aj.aload_n C 4 dX9_carryOut_80 rfl ?_
        refine Aj.iload_n C 3 dX9_carryOut_81 rfl ?_
        refine Aj.iload_n C 2 dX9_carryOut_82 rfl ?_
        refine Aj.iload C 1 dX9_carryOut_83 rfl ?_
        refine Aj.iload C 0 dX9_carryOut_85 rfl ?_
        refine Aj.callVi (As := [qi ((OO.2 i).1), qi ((OO.2 i).2.2.2 0), qi ((OO.2 i).2.2.2 1), qi ((OO.2 i).2.2.2 2)]) (st := []) C lm_RX9_221 m_X9_refuses mk_X9_refuses ms_X9_refuses (c_X9_refuses _ (e := (OO.2 i).1) (a := (OO.2 i).2.2.2 0) (b := (OO.2 i).2.2.2 1) (d := (OO.2 i).2.2.2 2) oy L hi3 gx.1) L.a (t := 9) rfl rfl rfl rfl (by decide) (Nat.le_of_ble_eq_true rfl) (by decide) dX9_carryOut_87 (fun z87 h_3 rz87 p87 => ?_)
        obtain ⟨rfl, pr⟩ := p87
        refine Aj.if_eq (tgt := 95) C dX9_carryOut_90 (by decide) (fun c90 => ?_) (fun c90 => ?_)
        · have okx : okO sx (OO.2 i).1 ((OO.2 i).2.2.2 0) ((OO.2 i).2.2.2 1) ((OO.2 i).2.2.2 2) := by
            rcases pr with ⟨_, q⟩ | ⟨q, _⟩
            · exact q
            · omega
          refine Aj.aload_n C 4 dX9_carryOut_95 rfl ?_
          refine Aj.iload_n C 3 dX9_carryOut_96 rfl ?_
          refine Aj.iload_n C 2 dX9_carryOut_97 rfl ?_
          refine Aj.iload C 1 dX9_carryOut_98 rfl ?_
          refine Aj.iload C 0 dX9_carryOut_100 rfl ?_
          refine Aj.callVv (As := [qi ((OO.2 i).1), qi ((OO.2 i).2.2.2 0), qi ((OO.2 i).2.2.2 1), qi ((OO.2 i).2.2.2 2)]) (st := []) C lm_RX9_224 m_X9_does mk_X9_does ms_X9_does (c_X9_does _ (e := (OO.2 i).1) (a := (OO.2 i).2.2.2 0) (b := (OO.2 i).2.2.2 1) (d := (OO.2 i).2.2.2 2) L hi3 gx.1 okx) L.a (t := 9) rfl rfl rfl rfl (by decide) (Nat.le_of_ble_eq_true rfl) (by decide) dX9_carryOut_102 (fun hd p102 => ?_)
          obtain ⟨y2, s2, d1, d2, d3, d4⟩ := p102
          refine Aj.iinc (al2 := [(1, qi (i + 1)), (5, qi ((OO.2 i).2.2.2 2)), (4, qi ((OO.2 i).2.2.2 1)), (3, qi ((OO.2 i).2.2.2 0)), (2, qi ((OO.2 i).1)), (0, qa M)]) C 5 dX9_carryOut_105 rfl (by decide) (by omega) rfl ?_
          refine Aj.goto (tgt := 28) C dX9_carryOut_108 (by decide) ?_
          refine Aj.pick (al2 := [(0, qa M), (1, qi (i + 1))]) [5, 0] rfl ?_
          exact ih28 (i + 1) s2 hd (⟨by omega, by omega, runO_s hi0 hi2 d2 d1, d3, hi4.tr d4⟩) (by omega)
        · refine Aj.iload_n C 5 dX9_carryOut_93 rfl ?_
          refine Aj.iret C dX9_carryOut_94 (by rw [hmc]; exact ⟨rfl, Nat.le_of_ble_eq_true rfl⟩) ⟨_, rfl, rfl, ?_⟩
          have ic := IM.carry c f2 hr1 hr2 eh_2 hi4 hi3
          refine ⟨_, Or.inr ⟨nf, sx, ⟨⟨hi0, by rw [← eO]; omega⟩, by rw [← eO]; exact hi2, Or.inr ?_⟩, rfl⟩, ic.1, ic.2⟩
          rcases pr with ⟨q, _⟩ | ⟨q1, q2⟩
          · omega
          · exact ⟨_, sx, by rw [← eO]; exact q2, q1⟩
  · refine Aj.bipush C dX9_carryOut_14 (by decide) (by decide) ?_
    refine Aj.iret C dX9_carryOut_16 (by rw [hmc]; exact ⟨rfl, Nat.le_of_ble_eq_true rfl⟩) ⟨_, rfl, rfl, ?_⟩
    exact ⟨st, Or.inl ⟨fun q => by have := no1.1.mpr q; omega, rfl, rfl⟩, c2, f2.fr⟩
