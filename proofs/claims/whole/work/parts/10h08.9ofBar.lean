set_option maxHeartbeats 400000 in
set_option maxRecDepth 100000 in
theorem c_X9_ofBar (l : Launch) {G : qG} {n : Int} {r h : qH} {a b : Int} {M : Int} {st : qS} (L : LModel G n r M) (c : IM h M st) (gs : GS st) : q_Cm l G yX9_ofBar cX9_ofBar 3 (some .int) 5 111 [qa M, qi a, qi b] n r h (q_Pi r (fun z h' => z = A_ofBar st.1 a b ∧ FS M h h')) 0 0 := by
  refine q_enter (al := [(0, qa M), (1, qi a), (2, qi b)]) m_X9_ofBar rfl (Nat.le_of_ble_eq_true rfl) ?_
  intro hok X C hmc hxl hin
  have g := gs.1
  have gn := g.n
  have gh := gs.2.2.1
  refine Aj.aload_n C 0 dX9_ofBar_0 rfl ?_
  refine Aj.iconst C dX9_ofBar_1 (by decide) ?_
  refine Aj.putI C lf_RX9_56 L.a dX9_ofBar_2 (fun h_1 eh_1 => ?_)
  have f1 : FS M h h_1 := fun x y w => by rw [eh_1, hset_ne _ _ (by omega)]
  have c1 : IM h_1 M st := c.fs f1
  refine Aj.aload_n C 0 dX9_ofBar_5 rfl ?_
  refine Aj.iload_n C 1 dX9_ofBar_6 rfl ?_
  refine Aj.callVi (As := [qi a]) (st := []) C lm_RX9_130 m_X9_isBar mk_X9_isBar ms_X9_isBar (c_X9_isBar _ L c1.1 g) L.a (t := 9) rfl rfl rfl rfl (by decide) (Nat.le_of_ble_eq_true rfl) (by decide) dX9_ofBar_7 (fun z7 h_2 rz7 p7 => ?_)
  obtain ⟨rfl, pzb, peb⟩ := p7
  refine Aj.if_ne (tgt := 15) C dX9_ofBar_10 (by decide) (fun c10 => ?_) (fun c10 => ?_)
  · have hb := peb.mp (by omega)
    refine Aj.aload_n C 0 dX9_ofBar_15 rfl ?_
    refine Aj.callVv (As := []) (st := []) C lm_RX9_108 m_X9_laysNight mk_X9_laysNight ms_X9_laysNight (c_X9_laysNight _ L c1.1 g) L.a (t := 9) rfl rfl rfl rfl (by decide) (Nat.le_of_ble_eq_true rfl) (by decide) dX9_ofBar_16 (fun hn p16 => ?_)
    obtain ⟨d, fN⟩ := p16
    have f2 : FS M h hn := f1.tr fN.s
    have c2 := c.fs f2
    have tt := night_TG g
    have tl := night_le g
    refine Aj.iload_n C 2 dX9_ofBar_19 rfl ?_
    rcases (show b = 0 ∨ b = 1 ∨ b = 2 ∨ b = 3 ∨ b = 4 ∨ b = 5 ∨ (b < 0 ∨ 5 < b) by omega) with c20 | c20 | c20 | c20 | c20 | c20 | c20
    · refine Aj.tableIn C (40) dX9_ofBar_20 (by omega) (by rw [c20]; rfl) (tgt := 60) (by decide) ?_
      have hb2 := hb
      unfold barP at hb2
      refine Aj.aload_n C 0 dX9_ofBar_60 rfl ?_
      refine Aj.getR C lf_RX9_7 rfl L.a L.r1 dX9_ofBar_61 ?_
      refine Aj.bipush C dX9_ofBar_64 (by decide) (by decide) ?_
      refine Aj.iload_n C 1 dX9_ofBar_66 rfl ?_
      refine Aj.iadd C dX9_ofBar_67 (by omega) ?_
      refine Aj.ialde (w := st.1 (6 + a)) C L.a1 (by omega) dX9_ofBar_68 (c2.1 _ (by omega) (by omega)) ?_
      refine Aj.iret C dX9_ofBar_69 (by rw [hmc]; exact ⟨rfl, Nat.le_of_ble_eq_true rfl⟩) ⟨_, rfl, rfl, ?_⟩
      have hb2 := hb
      unfold barP at hb2
      refine ⟨?_, f2⟩
      unfold A_ofBar
      rw [ci_y hb]
      repeat (first | rw [if_neg (by omega)] | rw [if_pos (by omega)])
      all_goals first | exact pv | rw [ci_y (pec.mp (by omega))] | rw [ci_n (fun q => by have := pec.mpr q; omega)]
    · refine Aj.tableIn C (50) dX9_ofBar_20 (by omega) (by rw [c20]; rfl) (tgt := 70) (by decide) ?_
      have hb2 := hb
      unfold barP at hb2
      refine Aj.aload_n C 0 dX9_ofBar_70 rfl ?_
      refine Aj.getR C lf_RX9_7 rfl L.a L.r1 dX9_ofBar_71 ?_
      refine Aj.bipush C dX9_ofBar_74 (by decide) (by decide) ?_
      refine Aj.iload_n C 1 dX9_ofBar_76 rfl ?_
      refine Aj.iadd C dX9_ofBar_77 (by omega) ?_
      refine Aj.ialde (w := st.1 (66 + a)) C L.a1 (by omega) dX9_ofBar_78 (c2.1 _ (by omega) (by omega)) ?_
      refine Aj.iret C dX9_ofBar_79 (by rw [hmc]; exact ⟨rfl, Nat.le_of_ble_eq_true rfl⟩) ⟨_, rfl, rfl, ?_⟩
      have hb2 := hb
      unfold barP at hb2
      refine ⟨?_, f2⟩
      unfold A_ofBar
      rw [ci_y hb]
      repeat (first | rw [if_neg (by omega)] | rw [if_pos (by omega)])
      all_goals first | exact pv | rw [ci_y (pec.mp (by omega))] | rw [ci_n (fun q => by have := pec.mpr q; omega)]
    · refine Aj.tableIn C (60) dX9_ofBar_20 (by omega) (by rw [c20]; rfl) (tgt := 80) (by decide) ?_
      refine Aj.aload_n C 0 dX9_ofBar_80 rfl ?_
      refine Aj.iload_n C 1 dX9_ofBar_81 rfl ?_
      refine Aj.callVi (As := [qi a]) (st := []) C lm_RX9_77 m_X9_tenths mk_X9_tenths ms_X9_tenths (c_X9_tenths _ (by unfold barP at hb; omega) L c2.1 g) L.a (t := 9) rfl rfl rfl rfl (by decide) (Nat.le_of_ble_eq_true rfl) (by decide) dX9_ofBar_82 (fun z82 h_3 rz82 p82 => ?_)
      obtain ⟨rfl, pv⟩ := p82
      refine Aj.iret C dX9_ofBar_85 (by rw [hmc]; exact ⟨rfl, Nat.le_of_ble_eq_true rfl⟩) ⟨_, rfl, rfl, ?_⟩
      have hb2 := hb
      unfold barP at hb2
      refine ⟨?_, f2⟩
      unfold A_ofBar
      rw [ci_y hb]
      repeat (first | rw [if_neg (by omega)] | rw [if_pos (by omega)])
      all_goals first | exact pv | rw [ci_y (pec.mp (by omega))] | rw [ci_n (fun q => by have := pec.mpr q; omega)]
    · refine Aj.tableIn C (66) dX9_ofBar_20 (by omega) (by rw [c20]; rfl) (tgt := 86) (by decide) ?_
      refine Aj.aload_n C 0 dX9_ofBar_86 rfl ?_
      refine Aj.iload_n C 1 dX9_ofBar_87 rfl ?_
      refine Aj.callVi (As := [qi a]) (st := []) C lm_RX9_160 m_X9_timesSung mk_X9_timesSung ms_X9_timesSung (c_X9_timesSung _ L c2.1 g d tt tl) L.a (t := 9) rfl rfl rfl rfl (by decide) (Nat.le_of_ble_eq_true rfl) (by decide) dX9_ofBar_88 (fun z88 h_4 rz88 p88 => ?_)
      obtain ⟨rfl, pv⟩ := p88
      refine Aj.iret C dX9_ofBar_91 (by rw [hmc]; exact ⟨rfl, Nat.le_of_ble_eq_true rfl⟩) ⟨_, rfl, rfl, ?_⟩
      have hb2 := hb
      unfold barP at hb2
      refine ⟨?_, f2⟩
      unfold A_ofBar
      rw [ci_y hb]
      repeat (first | rw [if_neg (by omega)] | rw [if_pos (by omega)])
      all_goals first | exact pv | rw [ci_y (pec.mp (by omega))] | rw [ci_n (fun q => by have := pec.mpr q; omega)]
    · refine Aj.tableIn C (72) dX9_ofBar_20 (by omega) (by rw [c20]; rfl) (tgt := 92) (by decide) ?_
      refine Aj.aload_n C 0 dX9_ofBar_92 rfl ?_
      refine Aj.iload_n C 1 dX9_ofBar_93 rfl ?_
      refine Aj.callVi (As := [qi a]) (st := []) C lm_RX9_93 m_X9_firstPlace mk_X9_firstPlace ms_X9_firstPlace (c_X9_firstPlace _ L c2.1 g d tt tl) L.a (t := 9) rfl rfl rfl rfl (by decide) (Nat.le_of_ble_eq_true rfl) (by decide) dX9_ofBar_94 (fun z94 h_5 rz94 p94 => ?_)
      obtain ⟨rfl, pv⟩ := p94
      refine Aj.iret C dX9_ofBar_97 (by rw [hmc]; exact ⟨rfl, Nat.le_of_ble_eq_true rfl⟩) ⟨_, rfl, rfl, ?_⟩
      have hb2 := hb
      unfold barP at hb2
      refine ⟨?_, f2⟩
      unfold A_ofBar
      rw [ci_y hb]
      repeat (first | rw [if_neg (by omega)] | rw [if_pos (by omega)])
      all_goals first | exact pv | rw [ci_y (pec.mp (by omega))] | rw [ci_n (fun q => by have := pec.mpr q; omega)]
    · refine Aj.tableIn C (78) dX9_ofBar_20 (by omega) (by rw [c20]; rfl) (tgt := 98) (by decide) ?_
      refine Aj.aload_n C 0 dX9_ofBar_98 rfl ?_
      refine Aj.iload_n C 1 dX9_ofBar_99 rfl ?_
      refine Aj.callVi (As := [qi a]) (st := []) C lm_RX9_67 m_X9_isCut mk_X9_isCut ms_X9_isCut (c_X9_isCut _ L c2.1 g) L.a (t := 9) rfl rfl rfl rfl (by decide) (Nat.le_of_ble_eq_true rfl) (by decide) dX9_ofBar_100 (fun z100 h_6 rz100 p100 => ?_)
      obtain ⟨rfl, pzc, pec⟩ := p100
      refine Aj.if_eq (tgt := 110) C dX9_ofBar_103 (by decide) (fun c103 => ?_) (fun c103 => ?_)
      · refine Aj.iconst C dX9_ofBar_110 (by decide) ?_
        refine Aj.iret C dX9_ofBar_111 (by rw [hmc]; exact ⟨rfl, Nat.le_of_ble_eq_true rfl⟩) ⟨_, rfl, rfl, ?_⟩
        have hb2 := hb
        unfold barP at hb2
        refine ⟨?_, f2⟩
        unfold A_ofBar
        rw [ci_y hb]
        repeat (first | rw [if_neg (by omega)] | rw [if_pos (by omega)])
        all_goals first | exact pv | rw [ci_y (pec.mp (by omega))] | rw [ci_n (fun q => by have := pec.mpr q; omega)]
      · refine Aj.iconst C dX9_ofBar_106 (by decide) ?_
        refine Aj.goto (tgt := 111) C dX9_ofBar_107 (by decide) ?_
        refine Aj.iret C dX9_ofBar_111 (by rw [hmc]; exact ⟨rfl, Nat.le_of_ble_eq_true rfl⟩) ⟨_, rfl, rfl, ?_⟩
        have hb2 := hb
        unfold barP at hb2
        refine ⟨?_, f2⟩
        unfold A_ofBar
        rw [ci_y hb]
        repeat (first | rw [if_neg (by omega)] | rw [if_pos (by omega)])
        all_goals first | exact pv | rw [ci_y (pec.mp (by omega))] | rw [ci_n (fun q => by have := pec.mpr q; omega)]
    · refine Aj.tableOut (tgt := 112) C dX9_ofBar_20 c20 (by decide) ?_
      refine Aj.bipush C dX9_ofBar_112 (by decide) (by decide) ?_
      refine Aj.iret C dX9_ofBar_114 (by rw [hmc]; exact ⟨rfl, Nat.le_of_ble_eq_true rfl⟩) ⟨_, rfl, rfl, ?_⟩
      have hb2 := hb
      unfold barP at hb2
      refine ⟨?_, f2⟩
      unfold A_ofBar
      rw [ci_y hb]
      repeat (first | rw [if_neg (by omega)] | rw [if_pos (by omega)])
      all_goals first | exact pv | rw [ci_y (pec.mp (by omega))] | rw [ci_n (fun q => by have := pec.mpr q; omega)]
  · refine Aj.iconst C dX9_ofBar_13 (by decide) ?_
    refine Aj.iret C dX9_ofBar_14 (by rw [hmc]; exact ⟨rfl, Nat.le_of_ble_eq_true rfl⟩) ⟨_, rfl, rfl, ?_⟩
    exact ⟨by unfold A_ofBar; rw [ci_n (fun q => by have := peb.mpr q; omega)], f1⟩
