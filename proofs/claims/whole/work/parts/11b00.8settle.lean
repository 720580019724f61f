set_option maxHeartbeats 400000 in
set_option maxRecDepth 100000 in
theorem c_X8_settle (l : Launch) {G : qG} {n : Int} {r h : qH} {z o b : Int} {s2 : Int → Int} {mp : Int × (Int → Int)} {st : qS} (L : LCall G n r b) (J : J8 h b s2 mp st o) (g : SG s2) (hz : 0 ≤ st.2.2.1.1 ∧ st.2.2.1.1 ≤ 6) : q_Cm l G yX8_settle cX8_settle 2 (some .int) 5 111 [qa b, qi z] n r h (q_Pi r (fun z' h' => z' = z ∧ (z < 0 → h = h') ∧ (0 ≤ z → I8 h' b (s2, mp, hrec st.2.2.1 st.1, st.2.2.2)) ∧ FR b 224 h h')) 0 0 := by
  refine q_enter (al := [(0, qa b), (1, qi z)]) m_X8_settle rfl (Nat.le_of_ble_eq_true rfl) ?_
  intro hok X C hmc hxl hin
  refine Aj.iload_n C 1 dX8_settle_0 rfl ?_
  refine Aj.if_lt (tgt := 22) C dX8_settle_1 (by decide) (fun c1 => ?_) (fun c1 => ?_)
  · refine Aj.iload_n C 1 dX8_settle_22 rfl ?_
    refine Aj.iret C dX8_settle_23 (by rw [hmc]; exact ⟨rfl, Nat.le_of_ble_eq_true rfl⟩) ⟨_, rfl, rfl, ?_⟩
    exact ⟨rfl, fun _ => rfl, fun q => by omega, FR.rf⟩
  · refine Aj.aload_n C 0 dX8_settle_4 rfl ?_
    refine Aj.getR C lf_RX8_46 rfl L.a L.r6 dX8_settle_5 ?_
    refine Aj.callVv (As := []) (st := []) C lm_RX8_267 m_X0_record mk_X0_record ms_X0_record (c_X0_record _ L.hi J.2.2.2.1.1 J.2.2.2.1.2.1 ⟨J.2.2.2.1.2.2.1.1, J.2.2.2.1.2.2.1.2, hz.1, hz.2⟩) L.hi.a (t := 0) rfl rfl rfl rfl (by decide) (Nat.le_of_ble_eq_true rfl) (by decide) dX8_settle_8 (fun h1 p8 => ?_)
    have q1 := p8
    have c1 : CScore h1 (b + 1) s2 := J.1.fr (fun x y z1 z2 => by rcases q1 with ⟨_, e⟩ | ⟨_, e⟩ <;> rw [e, hset_nea _ _ _ (by omega)])
    refine Aj.aload_n C 0 dX8_settle_11 rfl ?_
    refine Aj.getR C lf_RX8_19 rfl L.a L.r1 dX8_settle_12 ?_
    refine Aj.aload_n C 0 dX8_settle_15 rfl ?_
    refine Aj.getR C lf_RX8_12 rfl L.a L.r0 dX8_settle_16 ?_
    refine Aj.callVv (As := [qa (b + 1)]) (st := []) C lm_RX8_58 m_X1_workOut mk_X1_workOut ms_X1_workOut (c_X1_workOut _ L.ni L.sc c1 g (by omega)) L.ni.a (t := 1) rfl rfl rfl rfl (by decide) (Nat.le_of_ble_eq_true rfl) (by decide) dX8_settle_19 (fun h2 p19 => ?_)
    obtain ⟨w1, w2, w3, w4⟩ := p19
    have fin := J.rec hz q1 ⟨w1, w2, w3⟩ w4
    refine Aj.iload_n C 1 dX8_settle_22 rfl ?_
    refine Aj.iret C dX8_settle_23 (by rw [hmc]; exact ⟨rfl, Nat.le_of_ble_eq_true rfl⟩) ⟨_, rfl, rfl, ?_⟩
    exact ⟨rfl, fun q => by omega, fun _ => fin.1, fin.2⟩
