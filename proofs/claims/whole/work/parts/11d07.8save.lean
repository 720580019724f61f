set_option maxHeartbeats 400000 in
set_option maxRecDepth 100000 in
theorem c_X8_save (l : Launch) {G : qG} {n : Int} {r h : qH} {a : Int} {b : Int} {st : qS} (L : LCall G n r b) (I : I8 h b st) (gs : GS st) : q_Cm l G yX8_save cX8_save 3 (some .int) 3 71 [qa b, qi a] n r h (q_Pi r (fun z h' => ∃ st2, O_save st a z st2 ∧ I8 h' b st2 ∧ FR b 224 h h')) 0 0 := by
  refine q_enter (al := [(0, qa b), (1, qi a)]) m_X8_save rfl (Nat.le_of_ble_eq_true rfl) ?_
  intro hok X C hmc hxl hin
  have g := gs.1
  have gn := g.n
  have gh := gs.2.2.1
  refine Aj.aload_n C 0 dX8_save_0 rfl ?_
  refine Aj.iload_n C 1 dX8_save_1 rfl ?_
  refine Aj.callVq (As := [qi a]) (st := []) C lm_RX8_263 m_X8_slotAt mk_X8_slotAt ms_X8_slotAt (c_X8_slotAt _ L) L.a (t := 8) rfl rfl rfl rfl (by decide) (Nat.le_of_ble_eq_true rfl) (by decide) dX8_save_2 (fun z2 h_1 p2 => ?_)
  obtain ⟨rfl, q1⟩ := p2
  refine Aj.astore_n (al2 := [(2, qa z2), (0, qa b), (1, qi a)]) C dX8_save_5 (by decide) rfl ?_
  refine Aj.aload_n C 0 dX8_save_6 rfl ?_
  refine Aj.ifnonnull (tgt := 13) C dX8_save_7 (by decide) (fun c7 => ?_) (fun c7 => ?_)
  · have y0 : (0 ≤ a ∧ a ≤ 1) ∧ z2 = b + 189 + 17 * a := by
      rcases q1 with ⟨_, q⟩ | q
      · exact absurd q c7
      · exact q
    obtain ⟨y1, y2⟩ := y0
    subst y2
    refine Aj.aload_n C 0 dX8_save_13 rfl ?_
    refine Aj.aload_n C 1 dX8_save_14 rfl ?_
    refine Aj.getR C lf_RX8_12 rfl L.a L.r0 dX8_save_15 ?_
    refine Aj.callVv (As := [qa (b + 1)]) (st := []) C lm_RX8_238 m_X4_copyFrom mk_X4_copyFrom ms_X4_copyFrom (c_X4_copyFrom _ (L.ss y1.1 (by omega)) L.sc I.1 g (by omega)) (L.ss (by omega) (by omega)).a (t := 4) rfl rfl rfl rfl (by decide) (Nat.le_of_ble_eq_true rfl) (by decide) dX8_save_18 (fun h1 p18 => ?_)
    obtain ⟨u1, u2⟩ := p18
    refine Aj.aload_n C 1 dX8_save_21 rfl ?_
    refine Aj.getR C lf_RX8_54 rfl L.a L.r8 dX8_save_22 ?_
    refine Aj.iload_n C 2 dX8_save_25 rfl ?_
    refine Aj.iconst C dX8_save_26 (by decide) ?_
    refine Aj.zast C L.sv (by omega) (by omega) dX8_save_27 (fun h_2 eh_2 => ?_)
    have fin := I.save (k := a) y1 u1 u2 eh_2
    refine Aj.aload_n C 1 dX8_save_28 rfl ?_
    refine Aj.getR C lf_RX8_12 rfl L.a L.r0 dX8_save_29 ?_
    refine Aj.getR C lf_RX8_140 rfl L.sc.a L.sc.r7 dX8_save_32 ?_
    refine Aj.getIe (z := st.1 5) C lf_RX8_215 rfl L.sc.ti.a dX8_save_35 (fin.1.1.2.2.2.2.2.2.1) ?_
    refine Aj.iret C dX8_save_38 (by rw [hmc]; exact ⟨rfl, Nat.le_of_ble_eq_true rfl⟩) ⟨_, rfl, rfl, ?_⟩
    exact ⟨_, Or.inr ⟨y1, rfl, rfl⟩, fin.1, fin.2⟩
  · refine Aj.bipush C dX8_save_10 (by decide) (by decide) ?_
    refine Aj.iret C dX8_save_12 (by rw [hmc]; exact ⟨rfl, Nat.le_of_ble_eq_true rfl⟩) ⟨_, rfl, rfl, ?_⟩
    rcases q1 with ⟨q1, _⟩ | ⟨q1, q2⟩
    · exact ⟨st, Or.inl ⟨q1, rfl, rfl⟩, I, FR.rf⟩
    · exfalso; have := L.a.1; omega
