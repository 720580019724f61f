set_option maxHeartbeats 400000 in
set_option maxRecDepth 100000 in
theorem c_X9_speed (l : Launch) {G : qG} {n : Int} {r h : qH} {a : Int} {M : Int} {s : Int → Int} (L : LModel G n r M) (c : IMs h M s) (g : SG s) {T : qT} (d : CP h M T) (t : TG T) (hT : T.1 ≤ 120) {U : qU} (u : CU h M U) {W : qW} (cw : CW h M W U.1) (wg : WG U.1 W) (hu : U.1 ≤ 40) (ug : UG s T U) (ha : 0 ≤ a ∧ a < U.1) : q_Cm l G yX9_speed cX9_speed 3 (some .int) 1 22 [qa M, qi a] n r h (q_Pi r (fun z h' => h = h' ∧ z = spd s U W a)) 0 0 := by
  refine q_enter (al := [(0, qa M), (1, qi a)]) m_X9_speed rfl (Nat.le_of_ble_eq_true rfl) ?_
  intro hok X C hmc hxl hin
  have gn := g.n
  have t0 := t.1
  have wi := wg.2 a ha.1 ha.2
  have ui := ug.2 a ha.1 ha.2
  have gt := g.ti (U.2.1 a) ui.1.1 ui.1.2
  refine Aj.aload_n C 0 dX9_speed_0 rfl ?_
  refine Aj.getR C lf_RX9_44 rfl L.a L.r16 dX9_speed_1 ?_
  refine Aj.iload_n C 1 dX9_speed_4 rfl ?_
  refine Aj.ialde (w := W.1 a) C L.a12 (by omega) dX9_speed_5 (cw _ (by omega) (by omega)).1 ?_
  refine Aj.if_eq (tgt := 12) C dX9_speed_6 (by decide) (fun c6 => ?_) (fun c6 => ?_)
  · refine Aj.aload_n C 0 dX9_speed_12 rfl ?_
    refine Aj.getR C lf_RX9_50 rfl L.a L.r18 dX9_speed_13 ?_
    refine Aj.iload_n C 1 dX9_speed_16 rfl ?_
    refine Aj.ialde (w := W.2.2.1 a) C L.a14 (by omega) dX9_speed_17 (cw _ (by omega) (by omega)).2.2 ?_
    refine Aj.aload_n C 0 dX9_speed_18 rfl ?_
    refine Aj.getR C lf_RX9_47 rfl L.a L.r17 dX9_speed_19 ?_
    refine Aj.iload_n C 1 dX9_speed_22 rfl ?_
    refine Aj.ialde (w := W.2.1 a) C L.a13 (by omega) dX9_speed_23 (cw _ (by omega) (by omega)).2.1 ?_
    refine Aj.isub C dX9_speed_24 (by omega) ?_
    refine Aj.istore_n (al2 := [(2, qi (W.2.2.1 a - (W.2.1 a))), (0, qa M), (1, qi a)]) C dX9_speed_25 (by decide) rfl ?_
    refine Aj.iload_n C 0 dX9_speed_26 rfl ?_
    refine Aj.if_ne (tgt := 36) C dX9_speed_27 (by decide) (fun c27 => ?_) (fun c27 => ?_)
    · refine Aj.aload_n C 1 dX9_speed_36 rfl ?_
      refine Aj.aload_n C 1 dX9_speed_37 rfl ?_
      refine Aj.getR C lf_RX9_32 rfl L.a L.r12 dX9_speed_38 ?_
      refine Aj.iload_n C 2 dX9_speed_41 rfl ?_
      refine Aj.ialde (w := U.2.1 a) C L.a8 (by omega) dX9_speed_42 (u.2 _ (by omega) (by omega)).1 ?_
      refine Aj.iconst C dX9_speed_43 (by decide) ?_
      refine Aj.callVi (As := [qi (U.2.1 a), qi 3]) (st := []) C lm_RX9_89 m_X9_of mk_X9_of ms_X9_of (c_X9_of _ (a := U.2.1 a) (b := 3) (by omega) (by decide) L c g) L.a (t := 9) rfl rfl rfl rfl (by decide) (Nat.le_of_ble_eq_true rfl) (by decide) dX9_speed_44 (fun z44 h_1 rz44 p44 => ?_)
      obtain ⟨rfl, po⟩ := p44
      have pq : z44 = s (151 + 4 * U.2.1 a) := po.trans (congrArg s (by omega))
      refine Aj.bipush C dX9_speed_47 (by decide) (by decide) ?_
      refine Aj.imul C dX9_speed_49 (by omega) ?_
      refine Aj.iload_n C 0 dX9_speed_50 rfl ?_
      refine Aj.idiv C dX9_speed_51 (by omega) (by omega) ?_
      refine Aj.iret C dX9_speed_52 (by rw [hmc]; exact ⟨rfl, Nat.le_of_ble_eq_true rfl⟩) ⟨_, rfl, rfl, ?_⟩
      refine ⟨rfl, ?_⟩
      unfold spd
      repeat (first | rw [if_neg (by omega)] | rw [if_pos (by omega)])
      all_goals rw [pq]
    · refine Aj.sipush C dX9_speed_30 (by decide) (by decide) ?_
      refine Aj.goto (tgt := 52) C dX9_speed_33 (by decide) ?_
      refine Aj.iret C dX9_speed_52 (by rw [hmc]; exact ⟨rfl, Nat.le_of_ble_eq_true rfl⟩) ⟨_, rfl, rfl, ?_⟩
      refine ⟨rfl, ?_⟩
      unfold spd
      repeat (first | rw [if_neg (by omega)] | rw [if_pos (by omega)])
      all_goals rw [pq]
  · refine Aj.bipush C dX9_speed_9 (by decide) (by decide) ?_
    refine Aj.iret C dX9_speed_11 (by rw [hmc]; exact ⟨rfl, Nat.le_of_ble_eq_true rfl⟩) ⟨_, rfl, rfl, ?_⟩
    refine ⟨rfl, ?_⟩
    unfold spd
    repeat (first | rw [if_neg (by omega)] | rw [if_pos (by omega)])
    all_goals rw [pq]
