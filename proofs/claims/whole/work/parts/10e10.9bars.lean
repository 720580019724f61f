set_option maxHeartbeats 400000 in
set_option maxRecDepth 100000 in
theorem c_X9_bars (l : Launch) {G : qG} {n : Int} {r h : qH} {a : Int} {M : Int} {st : qS} (L : LModel G n r M) (c : IM h M st) (gs : GS st) : q_Cm l G yX9_bars cX9_bars 3 (some .int) 2 45 [qa M, qi a] n r h (q_Pi r (fun z h' => ∃ s2, O_bars st.1 a z s2 ∧ IM h' M (chg st z s2) ∧ FR M 16 h h')) 0 0 := by
  refine q_enter (al := [(0, qa M), (1, qi a)]) m_X9_bars rfl (Nat.le_of_ble_eq_true rfl) ?_
  intro hok X C hmc hxl hin
  have g := gs.1
  have gn := g.n
  have gh := gs.2.2.1
  refine Aj.aload_n C 0 dX9_bars_0 rfl ?_
  refine Aj.iconst C dX9_bars_1 (by decide) ?_
  refine Aj.putI C lf_RX9_56 L.a dX9_bars_2 (fun h_1 eh_1 => ?_)
  have f1 : FS M h h_1 := fun x y w => by rw [eh_1, hset_ne _ _ (by omega)]
  have c1 : IM h_1 M st := c.fs f1
  refine Aj.iload_n C 1 dX9_bars_5 rfl ?_
  refine Aj.iconst C dX9_bars_6 (by decide) ?_
  refine Aj.bipush C dX9_bars_7 (by decide) (by decide) ?_
  refine Aj.callSi (As := [qi a, qi 1, qi 60]) (st := []) C lm_RX9_60 m_X9_in mk_X9_in (c_X9_in _) rfl rfl (by decide) (Nat.le_of_ble_eq_true rfl) (by decide) dX9_bars_9 (fun z9 h_2 rz9 p9 => ?_)
  obtain ⟨rfl, pzi, pei⟩ := p9
  refine Aj.if_ne (tgt := 18) C dX9_bars_12 (by decide) (fun c12 => ?_) (fun c12 => ?_)
  · refine Aj.aload_n C 0 dX9_bars_18 rfl ?_
    refine Aj.iload_n C 1 dX9_bars_19 rfl ?_
    refine Aj.callVi (As := [qi a]) (st := []) C lm_RX9_124 m_X9_isBeyond mk_X9_isBeyond ms_X9_isBeyond (c_X9_isBeyond _ L c1.1 g) L.a (t := 9) rfl rfl rfl rfl (by decide) (Nat.le_of_ble_eq_true rfl) (by decide) dX9_bars_20 (fun z20 h_3 rz20 p20 => ?_)
    obtain ⟨rfl, pzb, peb⟩ := p20
    refine Aj.if_eq (tgt := 29) C dX9_bars_23 (by decide) (fun c23 => ?_) (fun c23 => ?_)
    · refine Aj.aload_n C 0 dX9_bars_29 rfl ?_
      refine Aj.callVv (As := []) (st := []) C lm_RX9_127 m_X9_records mk_X9_records ms_X9_records (c_X9_records _ L c1.1 c1.2.2.1 gh) L.a (t := 9) rfl rfl rfl rfl (by decide) (Nat.le_of_ble_eq_true rfl) (by decide) dX9_bars_30 (fun hr p30 => ?_)
      obtain ⟨hr1, hr2⟩ := p30
      have cr : IMs hr M st.1 := c1.1.frec hr2
      refine Aj.aload_n C 0 dX9_bars_33 rfl ?_
      refine Aj.getR C lf_RX9_7 rfl L.a L.r1 dX9_bars_34 ?_
      refine Aj.iconst C dX9_bars_37 (by decide) ?_
      refine Aj.ialde (w := st.1 0) C L.a1 (by omega) dX9_bars_38 (cr _ (by omega) (by omega)) ?_
      refine Aj.istore_n (al2 := [(2, qi (st.1 0)), (0, qa M), (1, qi a)]) C dX9_bars_39 (by decide) rfl ?_
      refine Aj.aload_n C 1 dX9_bars_40 rfl ?_
      refine Aj.getR C lf_RX9_7 rfl L.a L.r1 dX9_bars_41 ?_
      refine Aj.iconst C dX9_bars_44 (by decide) ?_
      refine Aj.iload_n C 2 dX9_bars_45 rfl ?_
      refine Aj.iast C L.a1 (by omega) dX9_bars_46 (fun h_4 eh_4 => ?_)
      refine Aj.iload_n C 0 dX9_bars_47 rfl ?_
      refine Aj.iret C dX9_bars_48 (by rw [hmc]; exact ⟨rfl, Nat.le_of_ble_eq_true rfl⟩) ⟨_, rfl, rfl, ?_⟩
      exact ⟨_, Or.inr (Or.inr ⟨pei.mp (by omega), fun q => by have := peb.mpr q; omega, rfl, rfl⟩), IM.chg c (by omega) f1 hr1 hr2 (FQ.set eh_4) (cr.set eh_4)⟩
    · refine Aj.bipush C dX9_bars_26 (by decide) (by decide) ?_
      refine Aj.iret C dX9_bars_28 (by rw [hmc]; exact ⟨rfl, Nat.le_of_ble_eq_true rfl⟩) ⟨_, rfl, rfl, ?_⟩
      exact ⟨st.1, Or.inr (Or.inl ⟨pei.mp (by omega), peb.mp (by omega), rfl, rfl⟩), by rw [chg_n (by decide)]; exact c1, f1.fr⟩
  · refine Aj.bipush C dX9_bars_15 (by decide) (by decide) ?_
    refine Aj.iret C dX9_bars_17 (by rw [hmc]; exact ⟨rfl, Nat.le_of_ble_eq_true rfl⟩) ⟨_, rfl, rfl, ?_⟩
    exact ⟨st.1, Or.inl ⟨fun q => by have := pei.mpr q; omega, rfl, rfl⟩, by rw [chg_n (by decide)]; exact c1, f1.fr⟩
