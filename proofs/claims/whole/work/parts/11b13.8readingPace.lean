set_option maxHeartbeats 400000 in
set_option maxRecDepth 100000 in
theorem c_X8_readingPace (l : Launch) {G : qG} {n : Int} {r h : qH} {a : Int} {b : Int} {st : qS} (L : LCall G n r b) (I : I8 h b st) (gs : GS st) (ha : 0 ≤ a ∧ a < (showU st.1).1) : q_Cm l G yX8_readingPace cX8_readingPace 4 (some .int) 2 42 [qa b, qi a] n r h (q_Pi r (fun z h' => h = h' ∧ z = spd st.1 (showU st.1) (showW st.1) a)) 0 0 := by
  refine q_enter (al := [(0, qa b), (1, qi a)]) m_X8_readingPace rfl (Nat.le_of_ble_eq_true rfl) ?_
  intro hok X C hmc hxl hin
  have g := gs.1
  have gn := g.n
  have gh := gs.2.2.1
  have tt := night_TG g
  have tl := night_le g
  have t0 := tt.1
  have sl := show_le g
  have ug := show_UG g
  have wg := show_WG g
  have wi := wg.2 a ha.1 ha.2
  have ui := ug.2 a ha.1 ha.2
  have gt := g.ti ((showU st.1).2.1 a) ui.1.1 ui.1.2
  refine Aj.aload_n C 0 dX8_readingPace_0 rfl ?_
  refine Aj.getR C lf_RX8_19 rfl L.a L.r1 dX8_readingPace_1 ?_
  refine Aj.getR C lf_RX8_161 rfl L.ni.a L.ni.r5 dX8_readingPace_4 ?_
  refine Aj.astore_n (al2 := [(2, qa (b + 18 + 6)), (0, qa b), (1, qi a)]) C dX8_readingPace_7 (by decide) rfl ?_
  refine Aj.aload_n C 0 dX8_readingPace_8 rfl ?_
  refine Aj.iload_n C 2 dX8_readingPace_9 rfl ?_
  refine Aj.callVi (As := [qi a]) (st := []) C lm_RX8_190 m_X5_shows mk_X5_shows ms_X5_shows (c_X5_shows _ L.ni.sh I.2.1.2.1 sl I.2.1.2.2 (by omega)) L.ni.sh.a (t := 5) rfl rfl rfl rfl (by decide) (Nat.le_of_ble_eq_true rfl) (by decide) dX8_readingPace_10 (fun z10 h_1 rz10 p10 => ?_)
  obtain ⟨rfl, pzs, pes⟩ := p10
  refine Aj.if_ne (tgt := 19) C dX8_readingPace_13 (by decide) (fun c13 => ?_) (fun c13 => ?_)
  · refine Aj.aload_n C 0 dX8_readingPace_19 rfl ?_
    refine Aj.getR C lf_RX8_196 rfl L.ni.sh.a L.ni.sh.r6 dX8_readingPace_20 ?_
    refine Aj.iload_n C 2 dX8_readingPace_23 rfl ?_
    refine Aj.ialde (w := (showW st.1).2.2.1 a) C L.ni.sh.a7 (by omega) dX8_readingPace_24 ((I.2.1.2.2 _ (by omega) (by omega)).2 (by omega)).2 ?_
    refine Aj.aload_n C 0 dX8_readingPace_25 rfl ?_
    refine Aj.getR C lf_RX8_193 rfl L.ni.sh.a L.ni.sh.r5 dX8_readingPace_26 ?_
    refine Aj.iload_n C 2 dX8_readingPace_29 rfl ?_
    refine Aj.ialde (w := (showW st.1).2.1 a) C L.ni.sh.a6 (by omega) dX8_readingPace_30 ((I.2.1.2.2 _ (by omega) (by omega)).2 (by omega)).1 ?_
    refine Aj.isub C dX8_readingPace_31 (by omega) ?_
    refine Aj.istore_n (al2 := [(3, qi ((showW st.1).2.2.1 a - ((showW st.1).2.1 a))), (2, qa (b + 18 + 6)), (0, qa b), (1, qi a)]) C dX8_readingPace_32 (by decide) rfl ?_
    refine Aj.iload_n C 0 dX8_readingPace_33 rfl ?_
    refine Aj.if_gt (tgt := 41) C dX8_readingPace_34 (by decide) (fun c34 => ?_) (fun c34 => ?_)
    · refine Aj.aload_n C 2 dX8_readingPace_41 rfl ?_
      refine Aj.getR C lf_RX8_12 rfl L.a L.r0 dX8_readingPace_42 ?_
      refine Aj.getR C lf_RX8_140 rfl L.sc.a L.sc.r7 dX8_readingPace_45 ?_
      refine Aj.getR C lf_RX8_158 rfl L.sc.ti.a L.sc.ti.r3 dX8_readingPace_48 ?_
      refine Aj.aload_n C 1 dX8_readingPace_51 rfl ?_
      refine Aj.getR C lf_RX8_175 rfl L.ni.sh.a L.ni.sh.r0 dX8_readingPace_52 ?_
      refine Aj.iload_n C 3 dX8_readingPace_55 rfl ?_
      refine Aj.ialde (w := (showU st.1).2.1 a) C L.ni.sh.a1 (by omega) dX8_readingPace_56 (I.2.1.2.1.2 _ (by omega) (by omega)).1 ?_
      refine Aj.ialde (w := st.1 (151 + 4 * ((showU st.1).2.1 a))) C L.sc.ti.a4 (by omega) dX8_readingPace_57 (I.1.2.2.2.2.2.2.2 _ (by omega) (by omega)).2.2.2 ?_
      refine Aj.bipush C dX8_readingPace_58 (by decide) (by decide) ?_
      refine Aj.imul C dX8_readingPace_60 (by omega) ?_
      refine Aj.iload_n C 0 dX8_readingPace_61 rfl ?_
      refine Aj.idiv C dX8_readingPace_62 (by omega) (by omega) ?_
      refine Aj.iret C dX8_readingPace_63 (by rw [hmc]; exact ⟨rfl, Nat.le_of_ble_eq_true rfl⟩) ⟨_, rfl, rfl, ?_⟩
      refine ⟨rfl, ?_⟩
      unfold spd
      repeat (first | rw [if_neg (by omega)] | rw [if_pos (by omega)])
    · refine Aj.sipush C dX8_readingPace_37 (by decide) (by decide) ?_
      refine Aj.iret C dX8_readingPace_40 (by rw [hmc]; exact ⟨rfl, Nat.le_of_ble_eq_true rfl⟩) ⟨_, rfl, rfl, ?_⟩
      refine ⟨rfl, ?_⟩
      unfold spd
      repeat (first | rw [if_neg (by omega)] | rw [if_pos (by omega)])
  · refine Aj.bipush C dX8_readingPace_16 (by decide) (by decide) ?_
    refine Aj.iret C dX8_readingPace_18 (by rw [hmc]; exact ⟨rfl, Nat.le_of_ble_eq_true rfl⟩) ⟨_, rfl, rfl, ?_⟩
    refine ⟨rfl, ?_⟩
    unfold spd
    repeat (first | rw [if_neg (by omega)] | rw [if_pos (by omega)])
