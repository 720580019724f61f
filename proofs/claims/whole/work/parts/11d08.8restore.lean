set_option maxHeartbeats 400000 in
set_option maxRecDepth 100000 in
theorem c_X8_restore (l : Launch) {G : qG} {n : Int} {r h : qH} {a : Int} {b : Int} {st : qS} (L : LCall G n r b) (I : I8 h b st) (gs : GS st) : q_Cm l G yX8_restore cX8_restore 3 (some .int) 6 132 [qa b, qi a] n r h (q_Pi r (fun z h' => ∃ st2, O_restore st a z st2 ∧ I8 h' b st2 ∧ FR b 224 h h')) 0 0 := by
  refine q_enter (al := [(0, qa b), (1, qi a)]) m_X8_restore rfl (Nat.le_of_ble_eq_true rfl) ?_
  intro hok X C hmc hxl hin
  have g := gs.1
  have gn := g.n
  have gh := gs.2.2.1
  obtain ⟨o, o1, o2, o3, o4⟩ := I.2.2.2.1
  refine Aj.aload_n C 0 dX8_restore_0 rfl ?_
  refine Aj.iload_n C 1 dX8_restore_1 rfl ?_
  refine Aj.callVq (As := [qi a]) (st := []) C lm_RX8_263 m_X8_slotAt mk_X8_slotAt ms_X8_slotAt (c_X8_slotAt _ L) L.a (t := 8) rfl rfl rfl rfl (by decide) (Nat.le_of_ble_eq_true rfl) (by decide) dX8_restore_2 (fun z2 h_1 p2 => ?_)
  obtain ⟨rfl, q1⟩ := p2
  refine Aj.astore_n (al2 := [(2, qa z2), (0, qa b), (1, qi a)]) C dX8_restore_5 (by decide) rfl ?_
  refine Aj.aload_n C 0 dX8_restore_6 rfl ?_
  refine Aj.ifnonnull (tgt := 13) C dX8_restore_7 (by decide) (fun c7 => ?_) (fun c7 => ?_)
  · have y0 : (0 ≤ a ∧ a ≤ 1) ∧ z2 = b + 189 + 17 * a := by
      rcases q1 with ⟨_, q⟩ | q
      · exact absurd q c7
      · exact q
    obtain ⟨y1, y2⟩ := y0
    subst y2
    refine Aj.aload_n C 1 dX8_restore_13 rfl ?_
    refine Aj.getR C lf_RX8_54 rfl L.a L.r8 dX8_restore_14 ?_
    refine Aj.iload_n C 2 dX8_restore_17 rfl ?_
    refine Aj.zalde (w := st.2.2.2.1 a) C L.sv (by omega) dX8_restore_18 (I.2.2.2.2 _ (by omega) (by omega)).1 ?_
    refine Aj.if_ne (tgt := 25) C dX8_restore_19 (by decide) (fun c19 => ?_) (fun c19 => ?_)
    · have sv0 := (gs.2.2.2.2 a (by omega) (by omega)).1
      have sv1 : st.2.2.2.1 a = 1 := by omega
      have gz := (gs.2.2.2.2 a (by omega) (by omega)).2 sv1
      have gz5 := gz.n.2.2.2.2.2.1
      refine Aj.aload_n C 1 dX8_restore_25 rfl ?_
      refine Aj.getR C lf_RX8_46 rfl L.a L.r6 dX8_restore_26 ?_
      refine Aj.aload_n C 1 dX8_restore_29 rfl ?_
      refine Aj.getR C lf_RX8_12 rfl L.a L.r0 dX8_restore_30 ?_
      refine Aj.callVv (As := [qa (b + 1)]) (st := []) C lm_RX8_62 m_X0_prepare mk_X0_prepare ms_X0_prepare (c_X0_prepare _ L.hi o1 o2 ⟨o3.1, o3.2, gh.1, gh.2⟩ L.sc I.1 g (by omega)) L.hi.a (t := 0) rfl rfl rfl rfl (by decide) (Nat.le_of_ble_eq_true rfl) (by decide) dX8_restore_33 (fun h1 p33 => ?_)
      have f0 := p33.2
      have P := I.prep o1 o2 o3 o4 gh p33.1 p33.2
      have cs1 : CScore h1 (b + 189 + 17 * a) (st.2.2.2.2 a) := ((I.2.2.2.2 a (by omega) (by omega)).2 sv1).fr (fun x y a1 e1 => f0 x y (by omega))
      refine Aj.aload_n C 1 dX8_restore_36 rfl ?_
      refine Aj.getR C lf_RX8_12 rfl L.a L.r0 dX8_restore_37 ?_
      refine Aj.aload_n C 0 dX8_restore_40 rfl ?_
      refine Aj.callVv (As := [qa (b + 189 + 17 * a)]) (st := []) C lm_RX8_238 m_X4_copyFrom mk_X4_copyFrom ms_X4_copyFrom (c_X4_copyFrom _ L.sc (L.ss y1.1 (by omega)) cs1 gz (by omega)) L.sc.a (t := 4) rfl rfl rfl rfl (by decide) (Nat.le_of_ble_eq_true rfl) (by decide) dX8_restore_41 (fun h2 p41 => ?_)
      obtain ⟨cs, fs⟩ := p41
      refine Aj.aload_n C 1 dX8_restore_44 rfl ?_
      refine Aj.aload_n C 1 dX8_restore_45 rfl ?_
      refine Aj.getR C lf_RX8_12 rfl L.a L.r0 dX8_restore_46 ?_
      refine Aj.getR C lf_RX8_140 rfl L.sc.a L.sc.r7 dX8_restore_49 ?_
      refine Aj.getIe (z := st.2.2.2.2 a 5) C lf_RX8_215 rfl L.sc.ti.a dX8_restore_52 cs.2.2.2.2.2.2.1 ?_
      refine Aj.callVi (As := [qi (st.2.2.2.2 a 5)]) (st := []) C lm_RX8_69 m_X8_settle mk_X8_settle ms_X8_settle (c_X8_settle _ L (P.1.chg gh fs cs) gz gh) L.a (t := 8) rfl rfl rfl rfl (by decide) (Nat.le_of_ble_eq_true rfl) (by decide) dX8_restore_55 (fun z55 h3 rz55 p55 => ?_)
      obtain ⟨ez, S⟩ := p55
      refine Aj.iret C dX8_restore_58 (by rw [hmc]; exact ⟨rfl, Nat.le_of_ble_eq_true rfl⟩) ⟨_, rfl, rfl, ?_⟩
      have fin := I8.fin gh P fs cs (fun q => by omega) S
      exact ⟨_, Or.inr (Or.inr ⟨y1, sv1, ez, rfl⟩), by rw [ez]; exact fin.1, fin.2⟩
    · refine Aj.bipush C dX8_restore_22 (by decide) (by decide) ?_
      refine Aj.iret C dX8_restore_24 (by rw [hmc]; exact ⟨rfl, Nat.le_of_ble_eq_true rfl⟩) ⟨_, rfl, rfl, ?_⟩
      exact ⟨st, Or.inr (Or.inl ⟨y1, by omega, rfl, rfl⟩), I, FR.rf⟩
  · refine Aj.bipush C dX8_restore_10 (by decide) (by decide) ?_
    refine Aj.iret C dX8_restore_12 (by rw [hmc]; exact ⟨rfl, Nat.le_of_ble_eq_true rfl⟩) ⟨_, rfl, rfl, ?_⟩
    rcases q1 with ⟨q1, _⟩ | ⟨q1, q2⟩
    · exact ⟨st, Or.inl ⟨q1, rfl, rfl⟩, I, FR.rf⟩
    · exfalso; have := L.a.1; omega
