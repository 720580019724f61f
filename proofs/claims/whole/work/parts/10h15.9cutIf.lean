set_option maxHeartbeats 400000 in
set_option maxRecDepth 100000 in
theorem c_X9_cutIf (l : Launch) {G : qG} {n : Int} {r h : qH} {a b e : Int} {M : Int} {st : qS} (L : LModel G n r M) (c : IM h M st) (gs : GS st) (sz : SZ st.1) : q_Cm l G yX9_cutIf cX9_cutIf 7 (some .int) 6 133 [qa M, qi a, qi b, qi e] n r h (q_Pi r (fun z h' => O_cutIf st.1 a b e z ∧ IM h' M st ∧ FR M 16 h h')) 0 0 := by
  refine q_enter (al := [(0, qa M), (1, qi a), (2, qi b), (3, qi e)]) m_X9_cutIf rfl (Nat.le_of_ble_eq_true rfl) ?_
  intro hok X C hmc hxl hin
  have g := gs.1
  have gn := g.n
  have gh := gs.2.2.1
  refine Aj.aload_n C 0 dX9_cutIf_0 rfl ?_
  refine Aj.iconst C dX9_cutIf_1 (by decide) ?_
  refine Aj.putI C lf_RX9_56 L.a dX9_cutIf_2 (fun h_1 eh_1 => ?_)
  have f1 : FS M h h_1 := fun x y w => by rw [eh_1, hset_ne _ _ (by omega)]
  have c1 : IM h_1 M st := c.fs f1
  refine Aj.aload_n C 0 dX9_cutIf_5 rfl ?_
  refine Aj.iload_n C 1 dX9_cutIf_6 rfl ?_
  refine Aj.callVi (As := [qi a]) (st := []) C lm_RX9_130 m_X9_isBar mk_X9_isBar ms_X9_isBar (c_X9_isBar _ L c1.1 g) L.a (t := 9) rfl rfl rfl rfl (by decide) (Nat.le_of_ble_eq_true rfl) (by decide) dX9_cutIf_7 (fun z7 h_2 rz7 p7 => ?_)
  obtain ⟨rfl, pz1, pe1⟩ := p7
  refine Aj.if_eq (tgt := 21) C dX9_cutIf_10 (by decide) (fun c10 => ?_) (fun c10 => ?_)
  · refine Aj.iconst C dX9_cutIf_21 (by decide) ?_
    refine Aj.iret C dX9_cutIf_22 (by rw [hmc]; exact ⟨rfl, Nat.le_of_ble_eq_true rfl⟩) ⟨_, rfl, rfl, ?_⟩
    refine ⟨?_, c1, f1.fr⟩
    first
    | exact Or.inl ⟨fun q => by have := pe1.mpr q.1; omega, rfl⟩
    | exact Or.inl ⟨fun q => by have := pe2.mpr q.2; omega, rfl⟩
  · refine Aj.aload_n C 0 dX9_cutIf_13 rfl ?_
    refine Aj.iload_n C 2 dX9_cutIf_14 rfl ?_
    refine Aj.callVi (As := [qi b]) (st := []) C lm_RX9_130 m_X9_isBar mk_X9_isBar ms_X9_isBar (c_X9_isBar _ L c1.1 g) L.a (t := 9) rfl rfl rfl rfl (by decide) (Nat.le_of_ble_eq_true rfl) (by decide) dX9_cutIf_15 (fun z15 h_3 rz15 p15 => ?_)
    obtain ⟨rfl, pz2, pe2⟩ := p15
    refine Aj.if_ne (tgt := 23) C dX9_cutIf_18 (by decide) (fun c18 => ?_) (fun c18 => ?_)
    · refine Aj.iload_n C 2 dX9_cutIf_23 rfl ?_
      refine Aj.iload_n C 1 dX9_cutIf_24 rfl ?_
      refine Aj.icmp_lt (tgt := 37) C dX9_cutIf_25 (by decide) (fun c25 => ?_) (fun c25 => ?_)
      · refine Aj.bipush C dX9_cutIf_37 (by decide) (by decide) ?_
        refine Aj.iret C dX9_cutIf_39 (by rw [hmc]; exact ⟨rfl, Nat.le_of_ble_eq_true rfl⟩) ⟨_, rfl, rfl, ?_⟩
        exact ⟨Or.inr (Or.inl ⟨⟨pe1.mp (by omega), pe2.mp (by omega)⟩, by omega, rfl⟩), c1, f1.fr⟩
      · refine Aj.iload_n C 3 dX9_cutIf_28 rfl ?_
        refine Aj.iconst C dX9_cutIf_29 (by decide) ?_
        refine Aj.iconst C dX9_cutIf_30 (by decide) ?_
        refine Aj.callSi (As := [qi e, qi 0, qi 1]) (st := []) C lm_RX9_60 m_X9_in mk_X9_in (c_X9_in _) rfl rfl (by decide) (Nat.le_of_ble_eq_true rfl) (by decide) dX9_cutIf_31 (fun z31 h_4 rz31 p31 => ?_)
        obtain ⟨rfl, pzi, pei⟩ := p31
        refine Aj.if_ne (tgt := 40) C dX9_cutIf_34 (by decide) (fun c34 => ?_) (fun c34 => ?_)
        · refine Aj.aload_n C 0 dX9_cutIf_40 rfl ?_
          refine Aj.getR C lf_RX9_7 rfl L.a L.r1 dX9_cutIf_41 ?_
          refine Aj.iconst C dX9_cutIf_44 (by decide) ?_
          refine Aj.ialde (w := st.1 3) C L.a1 (by omega) dX9_cutIf_45 (c1.1 _ (by omega) (by omega)) ?_
          refine Aj.iconst C dX9_cutIf_46 (by decide) ?_
          refine Aj.icmp_ne (tgt := 53) C dX9_cutIf_47 (by decide) (fun c47 => ?_) (fun c47 => ?_)
          · refine Aj.aload_n C 0 dX9_cutIf_53 rfl ?_
            refine Aj.callVv (As := []) (st := []) C lm_RX9_166 m_X9_laysShowings mk_X9_laysShowings ms_X9_laysShowings (c_X9_laysShowings _ L c1.1 g) L.a (t := 9) rfl rfl rfl rfl (by decide) (Nat.le_of_ble_eq_true rfl) (by decide) dX9_cutIf_54 (fun ha p54 => ?_)
            obtain ⟨dA, uA, wA, fA⟩ := p54
            have cA : IMs ha M st.1 := (c1.1).fs fA
            refine Aj.aload_n C 0 dX9_cutIf_57 rfl ?_
            refine Aj.getIe (z := (nightT st.1).2.1) C lf_RX9_74 rfl L.a dX9_cutIf_58 dA.2.1 ?_
            refine Aj.istore (al2 := [(4, qi ((nightT st.1).2.1)), (0, qa M), (1, qi a), (2, qi b), (3, qi e)]) C dX9_cutIf_61 (by decide) rfl ?_
            refine Aj.aload_n C 1 dX9_cutIf_63 rfl ?_
            refine Aj.callVi (As := []) (st := []) C lm_RX9_185 m_X9_titlesShown mk_X9_titlesShown ms_X9_titlesShown (c_X9_titlesShown _ L cA g dA (night_TG g) (night_le g) uA wA (show_WG g) (show_le g).2 (show_UG g)) L.a (t := 9) rfl rfl rfl rfl (by decide) (Nat.le_of_ble_eq_true rfl) (by decide) dX9_cutIf_64 (fun z64 h_5 rz64 p64 => ?_)
            obtain ⟨rfl, psA⟩ := p64
            refine Aj.istore (al2 := [(5, qi z64), (4, qi ((nightT st.1).2.1)), (0, qa M), (1, qi a), (2, qi b), (3, qi e)]) C dX9_cutIf_67 (by decide) rfl ?_
            refine Aj.aload_n C 2 dX9_cutIf_69 rfl ?_
            refine Aj.sipush C dX9_cutIf_70 (by decide) (by decide) ?_
            refine Aj.iconst C dX9_cutIf_73 (by decide) ?_
            refine Aj.iload_n C 3 dX9_cutIf_74 rfl ?_
            refine Aj.iload_n C 4 dX9_cutIf_75 rfl ?_
            have gg : SG (U_span st.1 134 3 a b) := O_cut.good g (a := a) (b := b) (z := st.1 3) (Or.inr (Or.inr (Or.inr ⟨⟨pe1.mp (by omega), pe2.mp (by omega)⟩, by omega, by omega, rfl, rfl⟩)))
            refine Aj.callVi (As := [qi 134, qi 3, qi a, qi b]) (st := []) C lm_RX9_147 m_X9_laysSpan mk_X9_laysSpan ms_X9_laysSpan (c_X9_laysSpan _ (s := st.1) (a := 134) (b := 3) (by omega) (by omega) (by omega) L cA) L.a (t := 9) rfl rfl rfl rfl (by decide) (Nat.le_of_ble_eq_true rfl) (by decide) dX9_cutIf_76 (fun z76 hb rz76 p76 => ?_)
            obtain ⟨l0, cB, fBx⟩ := p76
            have fB := fBx.q
            refine Aj.pop C dX9_cutIf_79 rfl ?_
            refine Aj.aload_n C 2 dX9_cutIf_80 rfl ?_
            refine Aj.callVv (As := []) (st := []) C lm_RX9_166 m_X9_laysShowings mk_X9_laysShowings ms_X9_laysShowings (c_X9_laysShowings _ L cB gg) L.a (t := 9) rfl rfl rfl rfl (by decide) (Nat.le_of_ble_eq_true rfl) (by decide) dX9_cutIf_81 (fun hc p81 => ?_)
            obtain ⟨dC, uC, wC, fC⟩ := p81
            have cC : IMs hc M (U_span st.1 134 3 a b) := (cB).fs fC
            refine Aj.aload_n C 2 dX9_cutIf_84 rfl ?_
            refine Aj.callVi (As := []) (st := []) C lm_RX9_185 m_X9_titlesShown mk_X9_titlesShown ms_X9_titlesShown (c_X9_titlesShown _ L cC gg dC (night_TG gg) (night_le gg) uC wC (show_WG gg) (show_le gg).2 (show_UG gg)) L.a (t := 9) rfl rfl rfl rfl (by decide) (Nat.le_of_ble_eq_true rfl) (by decide) dX9_cutIf_85 (fun z85 h_6 rz85 p85 => ?_)
            obtain ⟨rfl, psC⟩ := p85
            refine Aj.istore (al2 := [(6, qi z85), (5, qi z64), (4, qi ((nightT st.1).2.1)), (0, qa M), (1, qi a), (2, qi b), (3, qi e)]) C dX9_cutIf_88 (by decide) rfl ?_
            have e3 : (U_span st.1 134 3 a b) 3 = st.1 3 + 1 := U_span_cn
            have tA := (night_TG g)
            have tC := (night_TG gg)
            have bA := night_le g
            have bC := night_le gg
            have tA1 := tA.2.1
            have tA2 := tA.2.2.1
            have tC1 := tC.2.1
            have tC2 := tC.2.2.1
            refine Aj.aload_n C 3 dX9_cutIf_90 rfl ?_
            refine Aj.getR C lf_RX9_7 rfl L.a L.r1 dX9_cutIf_91 ?_
            refine Aj.iconst C dX9_cutIf_94 (by decide) ?_
            refine Aj.dup2 C dX9_cutIf_95 ?_
            refine Aj.ialde (w := st.1 3 + 1) C L.a1 (by omega) dX9_cutIf_96 ((cC _ (by omega) (by omega)).trans e3) ?_
            refine Aj.iconst C dX9_cutIf_97 (by decide) ?_
            refine Aj.isub C dX9_cutIf_98 (by omega) ?_
            refine Aj.iast C L.a1 (by omega) dX9_cutIf_99 (fun h_7 eh_7 => ?_)
            refine Aj.aload_n C 3 dX9_cutIf_100 rfl ?_
            refine Aj.getR C lf_RX9_7 rfl L.a L.r1 dX9_cutIf_101 ?_
            refine Aj.sipush C dX9_cutIf_104 (by decide) (by decide) ?_
            refine Aj.iconst C dX9_cutIf_107 (by decide) ?_
            refine Aj.aload_n C 3 dX9_cutIf_108 rfl ?_
            refine Aj.getR C lf_RX9_7 rfl L.a L.r1 dX9_cutIf_109 ?_
            refine Aj.iconst C dX9_cutIf_112 (by decide) ?_
            refine Aj.ialde (w := st.1 3 + 1 - 1) C L.a1 (by omega) dX9_cutIf_113 (by rw [eh_7]; exact hset_same _ _ _ _) ?_
            refine Aj.imul C dX9_cutIf_114 (by omega) ?_
            refine Aj.iadd C dX9_cutIf_115 (by omega) ?_
            refine Aj.iconst C dX9_cutIf_116 (by decide) ?_
            refine Aj.iast C L.a1 (by omega) dX9_cutIf_117 (fun h_8 eh_8 => ?_)
            refine Aj.aload_n C 3 dX9_cutIf_118 rfl ?_
            refine Aj.getR C lf_RX9_7 rfl L.a L.r1 dX9_cutIf_119 ?_
            refine Aj.sipush C dX9_cutIf_122 (by decide) (by decide) ?_
            refine Aj.iconst C dX9_cutIf_125 (by decide) ?_
            refine Aj.aload_n C 3 dX9_cutIf_126 rfl ?_
            refine Aj.getR C lf_RX9_7 rfl L.a L.r1 dX9_cutIf_127 ?_
            refine Aj.iconst C dX9_cutIf_130 (by decide) ?_
            refine Aj.ialde (w := st.1 3 + 1 - 1) C L.a1 (by omega) dX9_cutIf_131 (by rw [eh_8, hset_neb _ _ _ (by omega), eh_7, hset_same]) ?_
            refine Aj.imul C dX9_cutIf_132 (by omega) ?_
            refine Aj.iadd C dX9_cutIf_133 (by omega) ?_
            refine Aj.iconst C dX9_cutIf_134 (by decide) ?_
            refine Aj.iadd C dX9_cutIf_135 (by omega) ?_
            refine Aj.iconst C dX9_cutIf_136 (by decide) ?_
            refine Aj.iast C L.a1 (by omega) dX9_cutIf_137 (fun h_9 eh_9 => ?_)
            refine Aj.iload_n C 6 dX9_cutIf_138 rfl ?_
            refine Aj.if_ne (tgt := 152) C dX9_cutIf_139 (by decide) (fun c139 => ?_) (fun c139 => ?_)
            · refine Aj.iload C 1 dX9_cutIf_152 rfl ?_
              refine Aj.iload C 0 dX9_cutIf_154 rfl ?_
              refine Aj.iconst C dX9_cutIf_156 (by decide) ?_
              refine Aj.ixor C dX9_cutIf_157 ?_
              refine Aj.iand C dX9_cutIf_158 ?_
              refine Aj.iret C dX9_cutIf_159 (by rw [hmc]; exact ⟨rfl, Nat.le_of_ble_eq_true rfl⟩) ⟨_, rfl, rfl, ?_⟩
              have hq : FQ M h h_9 := (((FQ.of f1).tr (FQ.of fA)).tr fB).tr ((FQ.of fC).tr (((FQ.set eh_7).tr (FQ.set eh_8)).tr (FQ.set eh_9)))
              refine ⟨Or.inr (Or.inr (Or.inr ⟨⟨pe1.mp (by omega), pe2.mp (by omega)⟩, by omega, by omega, ?_⟩)), FQ.im c hq (fun j j1 j2 => ?_), fun x y q => hq x y (by omega)⟩
              · refine Or.inr ⟨by omega, q_rI _, fun i hi => ?_⟩
                rw [bitP_and, bitP_not _ hi, psA i hi, psC i hi]
                exact ⟨fun q => ⟨(shwP_lt g q.1).2, q.1, q.2⟩, fun q => q.2⟩
              · rw [eh_9, hset_ap]
                by_cases q1 : j = 134 + 2 * (st.1 3 + 1 - 1) + 1
                · rw [if_pos ⟨rfl, q1⟩]; exact (sz j (by omega) (by omega)).symm
                · rw [if_neg (fun q => q1 q.2), eh_8, hset_ap]
                  by_cases q2 : j = 134 + 2 * (st.1 3 + 1 - 1)
                  · rw [if_pos ⟨rfl, q2⟩]; exact (sz j (by omega) (by omega)).symm
                  · rw [if_neg (fun q => q2 q.2), eh_7, hset_ap]
                    by_cases q3 : j = 3
                    · rw [if_pos ⟨rfl, q3⟩, q3]; omega
                    · rw [if_neg (fun q => q3 q.2), cC j j1 j2, U_span_ne q3 (by omega) (by omega)]
            · refine Aj.iload C 2 dX9_cutIf_142 rfl ?_
              refine Aj.aload_n C 3 dX9_cutIf_144 rfl ?_
              refine Aj.getIe (z := (nightT (U_span st.1 134 3 a b)).2.1) C lf_RX9_74 rfl L.a dX9_cutIf_145 (by rw [eh_9, hset_nea _ _ _ (by omega)]; exact (by rw [eh_8, hset_nea _ _ _ (by omega)]; exact (by rw [eh_7, hset_nea _ _ _ (by omega)]; exact dC.2.1))) ?_
              refine Aj.isub C dX9_cutIf_148 (by omega) ?_
              refine Aj.goto (tgt := 159) C dX9_cutIf_149 (by decide) ?_
              refine Aj.iret C dX9_cutIf_159 (by rw [hmc]; exact ⟨rfl, Nat.le_of_ble_eq_true rfl⟩) ⟨_, rfl, rfl, ?_⟩
              have hq : FQ M h h_9 := (((FQ.of f1).tr (FQ.of fA)).tr fB).tr ((FQ.of fC).tr (((FQ.set eh_7).tr (FQ.set eh_8)).tr (FQ.set eh_9)))
              refine ⟨Or.inr (Or.inr (Or.inr ⟨⟨pe1.mp (by omega), pe2.mp (by omega)⟩, by omega, by omega, ?_⟩)), FQ.im c hq (fun j j1 j2 => ?_), fun x y q => hq x y (by omega)⟩
              · exact Or.inl ⟨by omega, rfl⟩
              · rw [eh_9, hset_ap]
                by_cases q1 : j = 134 + 2 * (st.1 3 + 1 - 1) + 1
                · rw [if_pos ⟨rfl, q1⟩]; exact (sz j (by omega) (by omega)).symm
                · rw [if_neg (fun q => q1 q.2), eh_8, hset_ap]
                  by_cases q2 : j = 134 + 2 * (st.1 3 + 1 - 1)
                  · rw [if_pos ⟨rfl, q2⟩]; exact (sz j (by omega) (by omega)).symm
                  · rw [if_neg (fun q => q2 q.2), eh_7, hset_ap]
                    by_cases q3 : j = 3
                    · rw [if_pos ⟨rfl, q3⟩, q3]; omega
                    · rw [if_neg (fun q => q3 q.2), cC j j1 j2, U_span_ne q3 (by omega) (by omega)]
          · refine Aj.bipush C dX9_cutIf_50 (by decide) (by decide) ?_
            refine Aj.iret C dX9_cutIf_52 (by rw [hmc]; exact ⟨rfl, Nat.le_of_ble_eq_true rfl⟩) ⟨_, rfl, rfl, ?_⟩
            exact ⟨Or.inr (Or.inr (Or.inl ⟨⟨pe1.mp (by omega), pe2.mp (by omega)⟩, by omega, by omega, rfl⟩)), c1, f1.fr⟩
        · refine Aj.bipush C dX9_cutIf_37 (by decide) (by decide) ?_
          refine Aj.iret C dX9_cutIf_39 (by rw [hmc]; exact ⟨rfl, Nat.le_of_ble_eq_true rfl⟩) ⟨_, rfl, rfl, ?_⟩
          exact ⟨Or.inr (Or.inl ⟨⟨pe1.mp (by omega), pe2.mp (by omega)⟩, by omega, rfl⟩), c1, f1.fr⟩
    · refine Aj.iconst C dX9_cutIf_21 (by decide) ?_
      refine Aj.iret C dX9_cutIf_22 (by rw [hmc]; exact ⟨rfl, Nat.le_of_ble_eq_true rfl⟩) ⟨_, rfl, rfl, ?_⟩
      refine ⟨?_, c1, f1.fr⟩
      first
      | exact Or.inl ⟨fun q => by have := pe1.mpr q.1; omega, rfl⟩
      | exact Or.inl ⟨fun q => by have := pe2.mpr q.2; omega, rfl⟩
