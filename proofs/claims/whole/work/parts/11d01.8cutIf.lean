set_option maxHeartbeats 400000 in
set_option maxRecDepth 100000 in
theorem c_X8_cutIf (l : Launch) {G : qG} {n : Int} {r h : qH} {a c e : Int} {b : Int} {st : qS} (L : LCall G n r b) (I : I8 h b st) (gs : GS st) : q_Cm l G yX8_cutIf cX8_cutIf 6 (some .int) 5 111 [qa b, qi a, qi c, qi e] n r h (q_Pi r (fun z h' => O_cutIf st.1 a c e z ∧ I8 h' b st ∧ FR b 224 h h')) 0 0 := by
  refine q_enter (al := [(0, qa b), (1, qi a), (2, qi c), (3, qi e)]) m_X8_cutIf rfl (Nat.le_of_ble_eq_true rfl) ?_
  intro hok X C hmc hxl hin
  have g := gs.1
  have gn := g.n
  have gh := gs.2.2.1
  have tt := night_TG g
  have tl := night_le g
  have t0 := tt.1
  have sl := show_le g
  have ug := show_UG g
  have wg := show_WG g
  refine Aj.aload_n C 0 dX8_cutIf_0 rfl ?_
  refine Aj.getR C lf_RX8_12 rfl L.a L.r0 dX8_cutIf_1 ?_
  refine Aj.iload_n C 1 dX8_cutIf_4 rfl ?_
  refine Aj.iload_n C 2 dX8_cutIf_5 rfl ?_
  refine Aj.callVi (As := [qi a, qi c]) (st := []) C lm_RX8_235 m_X4_spanError mk_X4_spanError ms_X4_spanError (c_X4_spanError _ L.sc I.1 g) L.sc.a (t := 4) rfl rfl rfl rfl (by decide) (Nat.le_of_ble_eq_true rfl) (by decide) dX8_cutIf_6 (fun z6 h_1 rz6 p6 => ?_)
  obtain ⟨rfl, pe⟩ := p6
  refine Aj.istore (al2 := [(4, qi z6), (0, qa b), (1, qi a), (2, qi c), (3, qi e)]) C dX8_cutIf_9 (by decide) rfl ?_
  refine Aj.iload C 0 dX8_cutIf_11 rfl ?_
  refine Aj.if_ge (tgt := 19) C dX8_cutIf_13 (by decide) (fun c13 => ?_) (fun c13 => ?_)
  · refine Aj.iload_n C 4 dX8_cutIf_19 rfl ?_
    refine Aj.if_eq (tgt := 31) C dX8_cutIf_20 (by decide) (fun c20 => ?_) (fun c20 => ?_)
    · have bb : (barP st.1 a ∧ barP st.1 c) ∧ a ≤ c := by rcases pe with ⟨e1, e2⟩ | ⟨e1, e2, e3⟩ | ⟨e1, e2, e3⟩ <;> first | (exfalso; omega) | exact ⟨e1, e2⟩
      refine Aj.aload_n C 1 dX8_cutIf_31 rfl ?_
      refine Aj.getR C lf_RX8_23 rfl L.a L.r2 dX8_cutIf_32 ?_
      refine Aj.aload_n C 1 dX8_cutIf_35 rfl ?_
      refine Aj.getR C lf_RX8_12 rfl L.a L.r0 dX8_cutIf_36 ?_
      refine Aj.callVv (As := [qa (b + 1)]) (st := []) C lm_RX8_238 m_X4_copyFrom mk_X4_copyFrom ms_X4_copyFrom (c_X4_copyFrom _ L.ts L.sc I.1 g (by omega)) L.ts.a (t := 4) rfl rfl rfl rfl (by decide) (Nat.le_of_ble_eq_true rfl) (by decide) dX8_cutIf_39 (fun h1 p39 => ?_)
      obtain ⟨t1, t2⟩ := p39
      have f1 : TR b h h1 := fun x y q => t2 x y (by omega)
      refine Aj.aload_n C 1 dX8_cutIf_42 rfl ?_
      refine Aj.getR C lf_RX8_23 rfl L.a L.r2 dX8_cutIf_43 ?_
      refine Aj.iload_n C 2 dX8_cutIf_46 rfl ?_
      refine Aj.iload_n C 3 dX8_cutIf_47 rfl ?_
      refine Aj.callVi (As := [qi a, qi c]) (st := []) C lm_RX8_83 m_X4_addCut mk_X4_addCut ms_X4_addCut (c_X4_addCut _ L.ts t1 g) L.ts.a (t := 4) rfl rfl rfl rfl (by decide) (Nat.le_of_ble_eq_true rfl) (by decide) dX8_cutIf_48 (fun z48 h2 rz48 p48 => ?_)
      obtain ⟨s2, oc, t3, t4⟩ := p48
      have f2 : TR b h h2 := f1.t (fun x y q => t4 x y (by omega))
      have g2 := O_cut.good g oc
      refine Aj.istore (al2 := [(5, qi z48), (4, qi z6), (0, qa b), (1, qi a), (2, qi c), (3, qi e)]) C dX8_cutIf_51 (by decide) rfl ?_
      refine Aj.iload C 0 dX8_cutIf_53 rfl ?_
      refine Aj.if_ge (tgt := 61) C dX8_cutIf_55 (by decide) (fun c55 => ?_) (fun c55 => ?_)
      · have ok : st.1 3 ≠ 4 ∧ s2 = (U_span st.1 134 3 a c) := by
          rcases oc with ⟨q1, _⟩ | ⟨_, q2, _⟩ | ⟨_, _, _, q3, _⟩ | ⟨_, _, q2, _, q3⟩
          · exact absurd bb.1 q1
          · omega
          · omega
          · exact ⟨by omega, q3⟩
        obtain ⟨ok1, ok2⟩ := ok
        refine Aj.aload_n C 2 dX8_cutIf_61 rfl ?_
        refine Aj.getR C lf_RX8_26 rfl L.a L.r3 dX8_cutIf_62 ?_
        refine Aj.aload_n C 2 dX8_cutIf_65 rfl ?_
        refine Aj.getR C lf_RX8_23 rfl L.a L.r2 dX8_cutIf_66 ?_
        refine Aj.callVv (As := [qa (b + 32)]) (st := []) C lm_RX8_58 m_X1_workOut mk_X1_workOut ms_X1_workOut (c_X1_workOut _ L.tn L.ts t3 g2 (by omega)) L.tn.a (t := 1) rfl rfl rfl rfl (by decide) (Nat.le_of_ble_eq_true rfl) (by decide) dX8_cutIf_69 (fun h3 p69 => ?_)
        obtain ⟨w1, w2, w3, w4⟩ := p69
        have f3 : TR b h h3 := f2.t (fun x y q => w4 x y (by omega))
        have I3 := I.tr f3
        have tt2 := night_TG g2
        have tl2 := night_le g2
        have b1 := tt.2.1
        have b2 := tt.2.2.1
        have b3 := tt2.2.1
        have b4 := tt2.2.2.1
        refine Aj.iload_n C 5 dX8_cutIf_72 rfl ?_
        refine Aj.if_ne (tgt := 94) C dX8_cutIf_73 (by decide) (fun c73 => ?_) (fun c73 => ?_)
        · refine Aj.aload_n C 2 dX8_cutIf_94 rfl ?_
          refine Aj.callVi (As := []) (st := []) C lm_RX8_241 m_X8_titlesLost mk_X8_titlesLost ms_X8_titlesLost (c_X8_titlesLost _ L I3.1 g g2 I3.2.1 ⟨w1, w2, w3⟩) L.a (t := 8) rfl rfl rfl rfl (by decide) (Nat.le_of_ble_eq_true rfl) (by decide) dX8_cutIf_95 (fun z95 h_2 rz95 p95 => ?_)
          obtain ⟨rfl, pv⟩ := p95
          refine Aj.iret C dX8_cutIf_98 (by rw [hmc]; exact ⟨rfl, Nat.le_of_ble_eq_true rfl⟩) ⟨_, rfl, rfl, ?_⟩
          refine ⟨Or.inr (Or.inr (Or.inr ⟨bb.1, by omega, ok1, ?_⟩)), I3, f3.fr⟩
          rw [← ok2]
          exact Or.inr ⟨by omega, pv⟩
        · refine Aj.aload_n C 2 dX8_cutIf_76 rfl ?_
          refine Aj.getR C lf_RX8_19 rfl L.a L.r1 dX8_cutIf_77 ?_
          refine Aj.getIe (z := (nightT st.1).2.1) C lf_RX8_222 rfl L.ni.a dX8_cutIf_80 I3.2.1.1.2.1 ?_
          refine Aj.aload_n C 2 dX8_cutIf_83 rfl ?_
          refine Aj.getR C lf_RX8_26 rfl L.a L.r3 dX8_cutIf_84 ?_
          refine Aj.getIe (z := (nightT s2).2.1) C lf_RX8_222 rfl L.tn.a dX8_cutIf_87 w1.2.1 ?_
          refine Aj.isub C dX8_cutIf_90 (by omega) ?_
          refine Aj.goto (tgt := 98) C dX8_cutIf_91 (by decide) ?_
          refine Aj.iret C dX8_cutIf_98 (by rw [hmc]; exact ⟨rfl, Nat.le_of_ble_eq_true rfl⟩) ⟨_, rfl, rfl, ?_⟩
          refine ⟨Or.inr (Or.inr (Or.inr ⟨bb.1, by omega, ok1, ?_⟩)), I3, f3.fr⟩
          rw [← ok2]
          exact Or.inl ⟨by omega, rfl⟩
      · refine Aj.iload C 0 dX8_cutIf_58 rfl ?_
        refine Aj.iret C dX8_cutIf_60 (by rw [hmc]; exact ⟨rfl, Nat.le_of_ble_eq_true rfl⟩) ⟨_, rfl, rfl, ?_⟩
        refine ⟨?_, I.tr f2, f2.fr⟩
        rcases oc with ⟨q1, _⟩ | ⟨_, q2, _⟩ | ⟨_, q1, q2, q3, _⟩ | ⟨_, _, q2, q3, _⟩
        · exact absurd bb.1 q1
        · omega
        · exact Or.inr (Or.inr (Or.inl ⟨bb.1, by omega, q2, q3⟩))
        · omega
    · refine Aj.iload_n C 4 dX8_cutIf_23 rfl ?_
      refine Aj.iconst C dX8_cutIf_24 (by decide) ?_
      refine Aj.icmp_eq (tgt := 31) C dX8_cutIf_25 (by decide) (fun c25 => ?_) (fun c25 => ?_)
      · have bb : (barP st.1 a ∧ barP st.1 c) ∧ a ≤ c := by rcases pe with ⟨e1, e2⟩ | ⟨e1, e2, e3⟩ | ⟨e1, e2, e3⟩ <;> first | (exfalso; omega) | exact ⟨e1, e2⟩
        refine Aj.aload_n C 1 dX8_cutIf_31 rfl ?_
        refine Aj.getR C lf_RX8_23 rfl L.a L.r2 dX8_cutIf_32 ?_
        refine Aj.aload_n C 1 dX8_cutIf_35 rfl ?_
        refine Aj.getR C lf_RX8_12 rfl L.a L.r0 dX8_cutIf_36 ?_
        refine Aj.callVv (As := [qa (b + 1)]) (st := []) C lm_RX8_238 m_X4_copyFrom mk_X4_copyFrom ms_X4_copyFrom (c_X4_copyFrom _ L.ts L.sc I.1 g (by omega)) L.ts.a (t := 4) rfl rfl rfl rfl (by decide) (Nat.le_of_ble_eq_true rfl) (by decide) dX8_cutIf_39 (fun h1 p39 => ?_)
        obtain ⟨t1, t2⟩ := p39
        have f1 : TR b h h1 := fun x y q => t2 x y (by omega)
        refine Aj.aload_n C 1 dX8_cutIf_42 rfl ?_
        refine Aj.getR C lf_RX8_23 rfl L.a L.r2 dX8_cutIf_43 ?_
        refine Aj.iload_n C 2 dX8_cutIf_46 rfl ?_
        refine Aj.iload_n C 3 dX8_cutIf_47 rfl ?_
        refine Aj.callVi (As := [qi a, qi c]) (st := []) C lm_RX8_83 m_X4_addCut mk_X4_addCut ms_X4_addCut (c_X4_addCut _ L.ts t1 g) L.ts.a (t := 4) rfl rfl rfl rfl (by decide) (Nat.le_of_ble_eq_true rfl) (by decide) dX8_cutIf_48 (fun z48 h2 rz48 p48 => ?_)
        obtain ⟨s2, oc, t3, t4⟩ := p48
        have f2 : TR b h h2 := f1.t (fun x y q => t4 x y (by omega))
        have g2 := O_cut.good g oc
        refine Aj.istore (al2 := [(5, qi z48), (4, qi z6), (0, qa b), (1, qi a), (2, qi c), (3, qi e)]) C dX8_cutIf_51 (by decide) rfl ?_
        refine Aj.iload C 0 dX8_cutIf_53 rfl ?_
        refine Aj.if_ge (tgt := 61) C dX8_cutIf_55 (by decide) (fun c55 => ?_) (fun c55 => ?_)
        · have ok : st.1 3 ≠ 4 ∧ s2 = (U_span st.1 134 3 a c) := by
            rcases oc with ⟨q1, _⟩ | ⟨_, q2, _⟩ | ⟨_, _, _, q3, _⟩ | ⟨_, _, q2, _, q3⟩
            · exact absurd bb.1 q1
            · omega
            · omega
            · exact ⟨by omega, q3⟩
          obtain ⟨ok1, ok2⟩ := ok
          refine Aj.aload_n C 2 dX8_cutIf_61 rfl ?_
          refine Aj.getR C lf_RX8_26 rfl L.a L.r3 dX8_cutIf_62 ?_
          refine Aj.aload_n C 2 dX8_cutIf_65 rfl ?_
          refine Aj.getR C lf_RX8_23 rfl L.a L.r2 dX8_cutIf_66 ?_
          refine Aj.callVv (As := [qa (b + 32)]) (st := []) C lm_RX8_58 m_X1_workOut mk_X1_workOut ms_X1_workOut (c_X1_workOut _ L.tn L.ts t3 g2 (by omega)) L.tn.a (t := 1) rfl rfl rfl rfl (by decide) (Nat.le_of_ble_eq_true rfl) (by decide) dX8_cutIf_69 (fun h3 p69 => ?_)
          obtain ⟨w1, w2, w3, w4⟩ := p69
          have f3 : TR b h h3 := f2.t (fun x y q => w4 x y (by omega))
          have I3 := I.tr f3
          have tt2 := night_TG g2
          have tl2 := night_le g2
          have b1 := tt.2.1
          have b2 := tt.2.2.1
          have b3 := tt2.2.1
          have b4 := tt2.2.2.1
          refine Aj.iload_n C 5 dX8_cutIf_72 rfl ?_
          refine Aj.if_ne (tgt := 94) C dX8_cutIf_73 (by decide) (fun c73 => ?_) (fun c73 => ?_)
          · refine Aj.aload_n C 2 dX8_cutIf_94 rfl ?_
            refine Aj.callVi (As := []) (st := []) C lm_RX8_241 m_X8_titlesLost mk_X8_titlesLost ms_X8_titlesLost (c_X8_titlesLost _ L I3.1 g g2 I3.2.1 ⟨w1, w2, w3⟩) L.a (t := 8) rfl rfl rfl rfl (by decide) (Nat.le_of_ble_eq_true rfl) (by decide) dX8_cutIf_95 (fun z95 h_3 rz95 p95 => ?_)
            obtain ⟨rfl, pv⟩ := p95
            refine Aj.iret C dX8_cutIf_98 (by rw [hmc]; exact ⟨rfl, Nat.le_of_ble_eq_true rfl⟩) ⟨_, rfl, rfl, ?_⟩
            refine ⟨Or.inr (Or.inr (Or.inr ⟨bb.1, by omega, ok1, ?_⟩)), I3, f3.fr⟩
            rw [← ok2]
            exact Or.inr ⟨by omega, pv⟩
          · refine Aj.aload_n C 2 dX8_cutIf_76 rfl ?_
            refine Aj.getR C lf_RX8_19 rfl L.a L.r1 dX8_cutIf_77 ?_
            refine Aj.getIe (z := (nightT st.1).2.1) C lf_RX8_222 rfl L.ni.a dX8_cutIf_80 I3.2.1.1.2.1 ?_
            refine Aj.aload_n C 2 dX8_cutIf_83 rfl ?_
            refine Aj.getR C lf_RX8_26 rfl L.a L.r3 dX8_cutIf_84 ?_
            refine Aj.getIe (z := (nightT s2).2.1) C lf_RX8_222 rfl L.tn.a dX8_cutIf_87 w1.2.1 ?_
            refine Aj.isub C dX8_cutIf_90 (by omega) ?_
            refine Aj.goto (tgt := 98) C dX8_cutIf_91 (by decide) ?_
            refine Aj.iret C dX8_cutIf_98 (by rw [hmc]; exact ⟨rfl, Nat.le_of_ble_eq_true rfl⟩) ⟨_, rfl, rfl, ?_⟩
            refine ⟨Or.inr (Or.inr (Or.inr ⟨bb.1, by omega, ok1, ?_⟩)), I3, f3.fr⟩
            rw [← ok2]
            exact Or.inl ⟨by omega, rfl⟩
        · refine Aj.iload C 0 dX8_cutIf_58 rfl ?_
          refine Aj.iret C dX8_cutIf_60 (by rw [hmc]; exact ⟨rfl, Nat.le_of_ble_eq_true rfl⟩) ⟨_, rfl, rfl, ?_⟩
          refine ⟨?_, I.tr f2, f2.fr⟩
          rcases oc with ⟨q1, _⟩ | ⟨_, q2, _⟩ | ⟨_, q1, q2, q3, _⟩ | ⟨_, _, q2, q3, _⟩
          · exact absurd bb.1 q1
          · omega
          · exact Or.inr (Or.inr (Or.inl ⟨bb.1, by omega, q2, q3⟩))
          · omega
      · refine Aj.bipush C dX8_cutIf_28 (by decide) (by decide) ?_
        refine Aj.iret C dX8_cutIf_30 (by rw [hmc]; exact ⟨rfl, Nat.le_of_ble_eq_true rfl⟩) ⟨_, rfl, rfl, ?_⟩
        have bb : (barP st.1 a ∧ barP st.1 c) := by rcases pe with ⟨e1, e2⟩ | ⟨e1, e2, e3⟩ | ⟨e1, e2, e3⟩ <;> first | (exfalso; omega) | exact e1
        exact ⟨Or.inr (Or.inl ⟨bb, Or.inr (by omega), rfl⟩), I, FR.rf⟩
  · refine Aj.iload C 0 dX8_cutIf_16 rfl ?_
    refine Aj.iret C dX8_cutIf_18 (by rw [hmc]; exact ⟨rfl, Nat.le_of_ble_eq_true rfl⟩) ⟨_, rfl, rfl, ?_⟩
    rcases pe with ⟨e1, e2⟩ | ⟨e1, e2, e3⟩ | ⟨e1, e2, e3⟩
    · exact ⟨Or.inl ⟨e1, e2⟩, I, FR.rf⟩
    · exact ⟨Or.inr (Or.inl ⟨e1, Or.inl e2, e3⟩), I, FR.rf⟩
    · omega
