set_option maxHeartbeats 400000 in
set_option maxRecDepth 100000 in
theorem c_X9_shortest (l : Launch) {G : qG} {n : Int} {r h : qH} {a : Int} {M : Int} {st : qS} (L : LModel G n r M) (c : IM h M st) (gs : GS st) : q_Cm l G yX9_shortest cX9_shortest 3 (some .int) 1 22 [qa M, qi a] n r h (q_Pi r (fun z h' => ∃ s2, O_short st.1 a z s2 ∧ IM h' M (chg st z s2) ∧ FR M 16 h h')) 0 0 := by
  refine q_enter (al := [(0, qa M), (1, qi a)]) m_X9_shortest rfl (Nat.le_of_ble_eq_true rfl) ?_
  intro hok X C hmc hxl hin
  have g := gs.1
  have gn := g.n
  have gh := gs.2.2.1
  refine Aj.aload_n C 0 dX9_shortest_0 rfl ?_
  refine Aj.iconst C dX9_shortest_1 (by decide) ?_
  refine Aj.putI C lf_RX9_56 L.a dX9_shortest_2 (fun h_1 eh_1 => ?_)
  have f1 : FS M h h_1 := fun x y w => by rw [eh_1, hset_ne _ _ (by omega)]
  have c1 : IM h_1 M st := c.fs f1
  refine Aj.iload_n C 1 dX9_shortest_5 rfl ?_
  refine Aj.iconst C dX9_shortest_6 (by decide) ?_
  refine Aj.bipush C dX9_shortest_7 (by decide) (by decide) ?_
  refine Aj.callSi (As := [qi a, qi 0, qi 50]) (st := []) C lm_RX9_60 m_X9_in mk_X9_in (c_X9_in _) rfl rfl (by decide) (Nat.le_of_ble_eq_true rfl) (by decide) dX9_shortest_9 (fun z9 h_2 rz9 p9 => ?_)
  obtain ⟨rfl, pzi, pei⟩ := p9
  refine Aj.if_ne (tgt := 18) C dX9_shortest_12 (by decide) (fun c12 => ?_) (fun c12 => ?_)
  · refine Aj.aload_n C 0 dX9_shortest_18 rfl ?_
    refine Aj.callVv (As := []) (st := []) C lm_RX9_127 m_X9_records mk_X9_records ms_X9_records (c_X9_records _ L c1.1 c1.2.2.1 gh) L.a (t := 9) rfl rfl rfl rfl (by decide) (Nat.le_of_ble_eq_true rfl) (by decide) dX9_shortest_19 (fun hr p19 => ?_)
    obtain ⟨hr1, hr2⟩ := p19
    have cr : IMs hr M st.1 := c1.1.frec hr2
    refine Aj.aload_n C 0 dX9_shortest_22 rfl ?_
    refine Aj.getR C lf_RX9_7 rfl L.a L.r1 dX9_shortest_23 ?_
    refine Aj.iconst C dX9_shortest_26 (by decide) ?_
    refine Aj.ialde (w := st.1 1) C L.a1 (by omega) dX9_shortest_27 (cr _ (by omega) (by omega)) ?_
    refine Aj.istore_n (al2 := [(2, qi (st.1 1)), (0, qa M), (1, qi a)]) C dX9_shortest_28 (by decide) rfl ?_
    refine Aj.aload_n C 1 dX9_shortest_29 rfl ?_
    refine Aj.getR C lf_RX9_7 rfl L.a L.r1 dX9_shortest_30 ?_
    refine Aj.iconst C dX9_shortest_33 (by decide) ?_
    refine Aj.iload_n C 2 dX9_shortest_34 rfl ?_
    refine Aj.iast C L.a1 (by omega) dX9_shortest_35 (fun h_3 eh_3 => ?_)
    refine Aj.iload_n C 0 dX9_shortest_36 rfl ?_
    refine Aj.iret C dX9_shortest_37 (by rw [hmc]; exact ⟨rfl, Nat.le_of_ble_eq_true rfl⟩) ⟨_, rfl, rfl, ?_⟩
    exact ⟨_, Or.inr ⟨pei.mp (by omega), rfl, rfl⟩, IM.chg c (by omega) f1 hr1 hr2 (FQ.set eh_3) (cr.set eh_3)⟩
  · refine Aj.bipush C dX9_shortest_15 (by decide) (by decide) ?_
    refine Aj.iret C dX9_shortest_17 (by rw [hmc]; exact ⟨rfl, Nat.le_of_ble_eq_true rfl⟩) ⟨_, rfl, rfl, ?_⟩
    exact ⟨st.1, Or.inl ⟨fun q => by have := pei.mpr q; omega, rfl, rfl⟩, by rw [chg_n (by decide)]; exact c1, f1.fr⟩
