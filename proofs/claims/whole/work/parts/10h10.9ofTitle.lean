set_option maxHeartbeats 400000 in
set_option maxRecDepth 100000 in
theorem c_X9_ofTitle (l : Launch) {G : qG} {n : Int} {r h : qH} {a b : Int} {M : Int} {st : qS} (L : LModel G n r M) (c : IM h M st) (gs : GS st) : q_Cm l G yX9_ofTitle cX9_ofTitle 3 (some .int) 6 133 [qa M, qi a, qi b] n r h (q_Pi r (fun z h' => z = A_ofTitle st.1 a b ∧ FS M h h')) 0 0 := by
  refine q_enter (al := [(0, qa M), (1, qi a), (2, qi b)]) m_X9_ofTitle rfl (Nat.le_of_ble_eq_true rfl) ?_
  intro hok X C hmc hxl hin
  have g := gs.1
  have gn := g.n
  have gh := gs.2.2.1
  refine Aj.aload_n C 0 dX9_ofTitle_0 rfl ?_
  refine Aj.iconst C dX9_ofTitle_1 (by decide) ?_
  refine Aj.putI C lf_RX9_56 L.a dX9_ofTitle_2 (fun h_1 eh_1 => ?_)
  have f1 : FS M h h_1 := fun x y w => by rw [eh_1, hset_ne _ _ (by omega)]
  have c1 : IM h_1 M st := c.fs f1
  refine Aj.iload_n C 1 dX9_ofTitle_5 rfl ?_
  refine Aj.iconst C dX9_ofTitle_6 (by decide) ?_
  refine Aj.aload_n C 0 dX9_ofTitle_7 rfl ?_
  refine Aj.getR C lf_RX9_7 rfl L.a L.r1 dX9_ofTitle_8 ?_
  refine Aj.iconst C dX9_ofTitle_11 (by decide) ?_
  refine Aj.ialde (w := st.1 5) C L.a1 (by omega) dX9_ofTitle_12 (c1.1 _ (by omega) (by omega)) ?_
  refine Aj.iconst C dX9_ofTitle_13 (by decide) ?_
  refine Aj.isub C dX9_ofTitle_14 (by omega) ?_
  refine Aj.callSi (As := [qi a, qi 0, qi (st.1 5 - 1)]) (st := []) C lm_RX9_60 m_X9_in mk_X9_in (c_X9_in _) rfl rfl (by decide) (Nat.le_of_ble_eq_true rfl) (by decide) dX9_ofTitle_15 (fun z15 h_2 rz15 p15 => ?_)
  obtain ⟨rfl, pzx, pex⟩ := p15
  refine Aj.if_ne (tgt := 23) C dX9_ofTitle_18 (by decide) (fun c18 => ?_) (fun c18 => ?_)
  · refine Aj.iload_n C 2 dX9_ofTitle_23 rfl ?_
    refine Aj.iconst C dX9_ofTitle_24 (by decide) ?_
    refine Aj.iconst C dX9_ofTitle_25 (by decide) ?_
    refine Aj.callSi (As := [qi b, qi 0, qi 3]) (st := []) C lm_RX9_60 m_X9_in mk_X9_in (c_X9_in _) rfl rfl (by decide) (Nat.le_of_ble_eq_true rfl) (by decide) dX9_ofTitle_26 (fun z26 h_3 rz26 p26 => ?_)
    obtain ⟨rfl, pzy, pey⟩ := p26
    refine Aj.if_eq (tgt := 39) C dX9_ofTitle_29 (by decide) (fun c29 => ?_) (fun c29 => ?_)
    · refine Aj.aload_n C 0 dX9_ofTitle_39 rfl ?_
      refine Aj.callVv (As := []) (st := []) C lm_RX9_166 m_X9_laysShowings mk_X9_laysShowings ms_X9_laysShowings (c_X9_laysShowings _ L c1.1 g) L.a (t := 9) rfl rfl rfl rfl (by decide) (Nat.le_of_ble_eq_true rfl) (by decide) dX9_ofTitle_40 (fun hn p40 => ?_)
      obtain ⟨d, u, w, fN⟩ := p40
      have f2 : FS M h hn := f1.tr fN
      have c2 := c.fs f2
      have tt := night_TG g
      have tl := night_le g
      have sl := show_le g
      have ug := show_UG g
      have wg := show_WG g
      refine Aj.iload_n C 2 dX9_ofTitle_43 rfl ?_
      refine Aj.iconst C dX9_ofTitle_44 (by decide) ?_
      refine Aj.bipush C dX9_ofTitle_45 (by decide) (by decide) ?_
      refine Aj.callSi (As := [qi b, qi 4, qi 6]) (st := []) C lm_RX9_60 m_X9_in mk_X9_in (c_X9_in _) rfl rfl (by decide) (Nat.le_of_ble_eq_true rfl) (by decide) dX9_ofTitle_47 (fun z47 h_4 rz47 p47 => ?_)
      obtain ⟨rfl, pzz, pez⟩ := p47
      refine Aj.if_eq (tgt := 62) C dX9_ofTitle_50 (by decide) (fun c50 => ?_) (fun c50 => ?_)
      · refine Aj.bipush C dX9_ofTitle_62 (by decide) (by decide) ?_
        refine Aj.iret C dX9_ofTitle_64 (by rw [hmc]; exact ⟨rfl, Nat.le_of_ble_eq_true rfl⟩) ⟨_, rfl, rfl, ?_⟩
        refine ⟨?_, f2⟩
        unfold A_ofTitle
        rw [if_pos (by omega), if_neg (by omega), if_neg (by omega), if_neg (by omega), if_neg (by omega)]
        rw [if_neg (by omega), if_neg (by omega), if_neg (by omega)]
      · refine Aj.aload_n C 0 dX9_ofTitle_53 rfl ?_
        refine Aj.iload_n C 1 dX9_ofTitle_54 rfl ?_
        refine Aj.iload_n C 2 dX9_ofTitle_55 rfl ?_
        refine Aj.callVi (As := [qi a, qi b]) (st := []) C lm_RX9_169 m_X9_showingsOf mk_X9_showingsOf ms_X9_showingsOf (c_X9_showingsOf _ L c2.1 g d tt tl u w wg sl.2 ug (by omega)) L.a (t := 9) rfl rfl rfl rfl (by decide) (Nat.le_of_ble_eq_true rfl) (by decide) dX9_ofTitle_56 (fun z56 h_5 rz56 p56 => ?_)
        obtain ⟨rfl, pv⟩ := p56
        refine Aj.goto (tgt := 64) C dX9_ofTitle_59 (by decide) ?_
        refine Aj.iret C dX9_ofTitle_64 (by rw [hmc]; exact ⟨rfl, Nat.le_of_ble_eq_true rfl⟩) ⟨_, rfl, rfl, ?_⟩
        refine ⟨?_, f2⟩
        unfold A_ofTitle
        rw [if_pos (by omega), if_neg (by omega), if_neg (by omega), if_neg (by omega), if_neg (by omega)]
        rw [pv]
        rcases (show b = 4 ∨ b = 5 ∨ b = 6 by omega) with rfl | rfl | rfl
        · rw [if_pos rfl, if_pos rfl]
        · rw [if_neg (by decide), if_pos rfl, if_neg (by decide), if_pos rfl]
        · rw [if_neg (by decide), if_neg (by decide), if_neg (by decide), if_neg (by decide), if_pos rfl]
    · refine Aj.aload_n C 0 dX9_ofTitle_32 rfl ?_
      refine Aj.iload_n C 1 dX9_ofTitle_33 rfl ?_
      refine Aj.iload_n C 2 dX9_ofTitle_34 rfl ?_
      refine Aj.callVi (As := [qi a, qi b]) (st := []) C lm_RX9_89 m_X9_of mk_X9_of ms_X9_of (c_X9_of _ (by omega) (by omega) L c1.1 g) L.a (t := 9) rfl rfl rfl rfl (by decide) (Nat.le_of_ble_eq_true rfl) (by decide) dX9_ofTitle_35 (fun z35 h_6 rz35 p35 => ?_)
      obtain ⟨rfl, pv⟩ := p35
      refine Aj.iret C dX9_ofTitle_38 (by rw [hmc]; exact ⟨rfl, Nat.le_of_ble_eq_true rfl⟩) ⟨_, rfl, rfl, ?_⟩
      refine ⟨?_, f1⟩
      rw [pv]
      unfold A_ofTitle
      rw [if_pos (by omega)]
      rcases (show b = 0 ∨ b = 1 ∨ b = 2 ∨ b = 3 by omega) with rfl | rfl | rfl | rfl
      · rw [if_pos rfl]; exact congrArg _ (by omega)
      · rw [if_neg (by decide), if_pos rfl]; exact congrArg _ (by omega)
      · rw [if_neg (by decide), if_neg (by decide), if_pos rfl]; exact congrArg _ (by omega)
      · rw [if_neg (by decide), if_neg (by decide), if_neg (by decide), if_pos rfl]; exact congrArg _ (by omega)
  · refine Aj.iconst C dX9_ofTitle_21 (by decide) ?_
    refine Aj.iret C dX9_ofTitle_22 (by rw [hmc]; exact ⟨rfl, Nat.le_of_ble_eq_true rfl⟩) ⟨_, rfl, rfl, ?_⟩
    exact ⟨by unfold A_ofTitle; rw [if_neg (by omega)], f1⟩
