set_option maxHeartbeats 400000 in
set_option maxRecDepth 100000 in
theorem c_X8_undo (l : Launch) {G : qG} {n : Int} {r h : qH} {b : Int} {st : qS} (L : LCall G n r b) (I : I8 h b st) (gs : GS st) : q_Cm l G yX8_undo cX8_undo 2 (some .int) 5 111 [qa b] n r h (q_Pi r (fun z h' => ∃ st2, O_undo st z st2 ∧ I8 h' b st2 ∧ FR b 224 h h')) 0 0 := by
  refine q_enter (al := [(0, qa b)]) m_X8_undo rfl (Nat.le_of_ble_eq_true rfl) ?_
  intro hok X C hmc hxl hin
  have g := gs.1
  have gn := g.n
  have gh := gs.2.2.1
  obtain ⟨o, o1, o2, o3, o4⟩ := I.2.2.2.1
  refine Aj.aload_n C 0 dX8_undo_0 rfl ?_
  refine Aj.getR C lf_RX8_46 rfl L.a L.r6 dX8_undo_1 ?_
  refine Aj.callVq (As := []) (st := []) C lm_RX8_259 m_X0_takeLatest mk_X0_takeLatest ms_X0_takeLatest (c_X0_takeLatest _ L.hi o1 o2 ⟨o3.1, o3.2, gh.1, gh.2⟩) L.hi.a (t := 0) rfl rfl rfl rfl (by decide) (Nat.le_of_ble_eq_true rfl) (by decide) dX8_undo_4 (fun z4 h1 p4 => ?_)
  have q1 := p4
  refine Aj.astore_n (al2 := [(1, qa z4), (0, qa b)]) C dX8_undo_7 (by decide) rfl ?_
  refine Aj.aload_n C 0 dX8_undo_8 rfl ?_
  refine Aj.ifnonnull (tgt := 15) C dX8_undo_9 (by decide) (fun c9 => ?_) (fun c9 => ?_)
  · have y0 : 0 < st.2.2.1.1 ∧ z4 = b + 67 + 2 + 17 * ((o + (st.2.2.1.1 - 1)) % 7) ∧ h1 = hset h (b + 67) 2 (st.2.2.1.1 - 1) := by
      rcases q1 with ⟨_, q, _⟩ | q
      · exact absurd q c9
      · exact q
    obtain ⟨y1, y2, y3⟩ := y0
    subst y2
    have g1 := gs.2.2.2.1 (st.2.2.1.1 - 1) (by omega) (by omega)
    have c1 : CScore h1 (b + 67 + 2 + 17 * ((o + (st.2.2.1.1 - 1)) % 7)) (st.2.2.1.2 (st.2.2.1.1 - 1)) := (o4 _ (by omega) (by omega)).fr (fun x y a e => by rw [y3, hset_nea _ _ _ (by omega)])
    refine Aj.aload_n C 1 dX8_undo_15 rfl ?_
    refine Aj.getR C lf_RX8_12 rfl L.a L.r0 dX8_undo_16 ?_
    refine Aj.aload_n C 0 dX8_undo_19 rfl ?_
    refine Aj.callVv (As := [qa (b + 67 + 2 + 17 * ((o + (st.2.2.1.1 - 1)) % 7))]) (st := []) C lm_RX8_238 m_X4_copyFrom mk_X4_copyFrom ms_X4_copyFrom (c_X4_copyFrom _ L.sc (L.hi.s (i := (o + (st.2.2.1.1 - 1)) % 7) (by omega) (by omega)) c1 g1 (by omega)) L.sc.a (t := 4) rfl rfl rfl rfl (by decide) (Nat.le_of_ble_eq_true rfl) (by decide) dX8_undo_20 (fun h2 p20 => ?_)
    obtain ⟨u1, u2⟩ := p20
    refine Aj.aload_n C 1 dX8_undo_23 rfl ?_
    refine Aj.getR C lf_RX8_19 rfl L.a L.r1 dX8_undo_24 ?_
    refine Aj.aload_n C 1 dX8_undo_27 rfl ?_
    refine Aj.getR C lf_RX8_12 rfl L.a L.r0 dX8_undo_28 ?_
    refine Aj.callVv (As := [qa (b + 1)]) (st := []) C lm_RX8_58 m_X1_workOut mk_X1_workOut ms_X1_workOut (c_X1_workOut _ L.ni L.sc u1 g1 (by omega)) L.ni.a (t := 1) rfl rfl rfl rfl (by decide) (Nat.le_of_ble_eq_true rfl) (by decide) dX8_undo_31 (fun h3 p31 => ?_)
    obtain ⟨w1, w2, w3, w4⟩ := p31
    have fin := I.undo o1 o3 o4 y1 y3 u1 u2 ⟨w1, w2, w3⟩ w4
    refine Aj.aload_n C 1 dX8_undo_34 rfl ?_
    refine Aj.getR C lf_RX8_46 rfl L.a L.r6 dX8_undo_35 ?_
    refine Aj.getIe (z := st.2.2.1.1 - 1) C lf_RX8_234 rfl L.hi.a dX8_undo_38 (Exists.choose_spec fin.1.2.2.2.1).2.1 ?_
    refine Aj.iret C dX8_undo_41 (by rw [hmc]; exact ⟨rfl, Nat.le_of_ble_eq_true rfl⟩) ⟨_, rfl, rfl, ?_⟩
    exact ⟨_, Or.inr ⟨y1, rfl, rfl⟩, fin.1, fin.2⟩
  · refine Aj.bipush C dX8_undo_12 (by decide) (by decide) ?_
    refine Aj.iret C dX8_undo_14 (by rw [hmc]; exact ⟨rfl, Nat.le_of_ble_eq_true rfl⟩) ⟨_, rfl, rfl, ?_⟩
    rcases q1 with ⟨q1, q2, q3⟩ | ⟨q1, q2, q3⟩
    · rw [← q3]; exact ⟨st, Or.inl ⟨q1, rfl, rfl⟩, I, FR.rf⟩
    · exfalso; have := L.hi.a.1; omega
