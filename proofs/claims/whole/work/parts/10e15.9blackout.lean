set_option maxHeartbeats 400000 in
set_option maxRecDepth 100000 in
theorem c_X9_blackout (l : Launch) {G : qG} {n : Int} {r h : qH} {a b : Int} {M : Int} {st : qS} (L : LModel G n r M) (c : IM h M st) (gs : GS st) : q_Cm l G yX9_blackout cX9_blackout 3 (some .int) 1 24 [qa M, qi a, qi b] n r h (q_Pi r (fun z h' => ∃ s2, O_black st.1 a b z s2 ∧ IM h' M (chg st z s2) ∧ FR M 16 h h')) 0 0 := by
  refine q_enter (al := [(0, qa M), (1, qi a), (2, qi b)]) m_X9_blackout rfl (Nat.le_of_ble_eq_true rfl) ?_
  intro hok X C hmc hxl hin
  have g := gs.1
  have gn := g.n
  have gh := gs.2.2.1
  refine Aj.aload_n C 0 dX9_blackout_0 rfl ?_
  refine Aj.iconst C dX9_blackout_1 (by decide) ?_
  refine Aj.putI C lf_RX9_56 L.a dX9_blackout_2 (fun h_1 eh_1 => ?_)
  have f1 : FS M h h_1 := fun x y w => by rw [eh_1, hset_ne _ _ (by omega)]
  have c1 : IM h_1 M st := c.fs f1
  refine Aj.iload_n C 1 dX9_blackout_5 rfl ?_
  refine Aj.if_lt (tgt := 20) C dX9_blackout_6 (by decide) (fun c6 => ?_) (fun c6 => ?_)
  · refine Aj.bipush C dX9_blackout_20 (by decide) (by decide) ?_
    refine Aj.iret C dX9_blackout_22 (by rw [hmc]; exact ⟨rfl, Nat.le_of_ble_eq_true rfl⟩) ⟨_, rfl, rfl, ?_⟩
    exact ⟨st.1, Or.inl ⟨by omega, rfl, rfl⟩, by rw [chg_n (by decide)]; exact c1, f1.fr⟩
  · refine Aj.iload_n C 2 dX9_blackout_9 rfl ?_
    refine Aj.iload_n C 1 dX9_blackout_10 rfl ?_
    refine Aj.sipush C dX9_blackout_11 (by decide) (by decide) ?_
    refine Aj.callSi (As := [qi b, qi a, qi 199]) (st := []) C lm_RX9_60 m_X9_in mk_X9_in (c_X9_in _) rfl rfl (by decide) (Nat.le_of_ble_eq_true rfl) (by decide) dX9_blackout_14 (fun z14 h_2 rz14 p14 => ?_)
    obtain ⟨rfl, pzi, pei⟩ := p14
    refine Aj.if_ne (tgt := 23) C dX9_blackout_17 (by decide) (fun c17 => ?_) (fun c17 => ?_)
    · refine Aj.aload_n C 0 dX9_blackout_23 rfl ?_
      refine Aj.getR C lf_RX9_7 rfl L.a L.r1 dX9_blackout_24 ?_
      refine Aj.iconst C dX9_blackout_27 (by decide) ?_
      refine Aj.ialde (w := st.1 4) C L.a1 (by omega) dX9_blackout_28 (c1.1 _ (by omega) (by omega)) ?_
      refine Aj.iconst C dX9_blackout_29 (by decide) ?_
      refine Aj.icmp_ne (tgt := 36) C dX9_blackout_30 (by decide) (fun c30 => ?_) (fun c30 => ?_)
      · refine Aj.aload_n C 0 dX9_blackout_36 rfl ?_
        refine Aj.callVv (As := []) (st := []) C lm_RX9_127 m_X9_records mk_X9_records ms_X9_records (c_X9_records _ L c1.1 c1.2.2.1 gh) L.a (t := 9) rfl rfl rfl rfl (by decide) (Nat.le_of_ble_eq_true rfl) (by decide) dX9_blackout_37 (fun hr p37 => ?_)
        obtain ⟨hr1, hr2⟩ := p37
        have cr : IMs hr M st.1 := c1.1.frec hr2
        refine Aj.aload_n C 0 dX9_blackout_40 rfl ?_
        refine Aj.sipush C dX9_blackout_41 (by decide) (by decide) ?_
        refine Aj.iconst C dX9_blackout_44 (by decide) ?_
        refine Aj.iload_n C 1 dX9_blackout_45 rfl ?_
        refine Aj.iload_n C 2 dX9_blackout_46 rfl ?_
        refine Aj.callVi (As := [qi 142, qi 4, qi a, qi b]) (st := []) C lm_RX9_147 m_X9_laysSpan mk_X9_laysSpan ms_X9_laysSpan (c_X9_laysSpan _ (s := st.1) (a := 142) (b := 4) (by omega) (by omega) (by omega) L cr) L.a (t := 9) rfl rfl rfl rfl (by decide) (Nat.le_of_ble_eq_true rfl) (by decide) dX9_blackout_47 (fun z47 h_3 rz47 p47 => ?_)
        obtain ⟨l0, l1, l2x⟩ := p47
        have l2 := l2x.q
        refine Aj.iret C dX9_blackout_50 (by rw [hmc]; exact ⟨rfl, Nat.le_of_ble_eq_true rfl⟩) ⟨_, rfl, rfl, ?_⟩
        exact ⟨_, Or.inr (Or.inr ⟨by omega, by omega, l0, rfl⟩), IM.chg c (by omega) f1 hr1 hr2 l2 l1⟩
      · refine Aj.bipush C dX9_blackout_33 (by decide) (by decide) ?_
        refine Aj.iret C dX9_blackout_35 (by rw [hmc]; exact ⟨rfl, Nat.le_of_ble_eq_true rfl⟩) ⟨_, rfl, rfl, ?_⟩
        exact ⟨st.1, Or.inr (Or.inl ⟨by omega, by omega, rfl, rfl⟩), by rw [chg_n (by decide)]; exact c1, f1.fr⟩
    · refine Aj.bipush C dX9_blackout_20 (by decide) (by decide) ?_
      refine Aj.iret C dX9_blackout_22 (by rw [hmc]; exact ⟨rfl, Nat.le_of_ble_eq_true rfl⟩) ⟨_, rfl, rfl, ?_⟩
      exact ⟨st.1, Or.inl ⟨by omega, rfl, rfl⟩, by rw [chg_n (by decide)]; exact c1, f1.fr⟩
