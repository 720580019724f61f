set_option maxHeartbeats 400000 in
set_option maxRecDepth 100000 in
theorem c_X9_drop (l : Launch) {G : qG} {n : Int} {r h : qH} {a : Int} {M : Int} {st : qS} (L : LModel G n r M) (c : IM h M st) (gs : GS st) : q_Cm l G yX9_drop cX9_drop 2 (some .int) 1 22 [qa M, qi a] n r h (q_Pi r (fun z h' => ∃ s2, O_drop st.1 a z s2 ∧ IM h' M (chg st z s2) ∧ FR M 16 h h')) 0 0 := by
  refine q_enter (al := [(0, qa M), (1, qi a)]) m_X9_drop rfl (Nat.le_of_ble_eq_true rfl) ?_
  intro hok X C hmc hxl hin
  have g := gs.1
  have gn := g.n
  have gh := gs.2.2.1
  refine Aj.aload_n C 0 dX9_drop_0 rfl ?_
  refine Aj.iconst C dX9_drop_1 (by decide) ?_
  refine Aj.putI C lf_RX9_56 L.a dX9_drop_2 (fun h_1 eh_1 => ?_)
  have f1 : FS M h h_1 := fun x y w => by rw [eh_1, hset_ne _ _ (by omega)]
  have c1 : IM h_1 M st := c.fs f1
  refine Aj.iload_n C 1 dX9_drop_5 rfl ?_
  refine Aj.iconst C dX9_drop_6 (by decide) ?_
  refine Aj.aload_n C 0 dX9_drop_7 rfl ?_
  refine Aj.getR C lf_RX9_7 rfl L.a L.r1 dX9_drop_8 ?_
  refine Aj.iconst C dX9_drop_11 (by decide) ?_
  refine Aj.ialde (w := st.1 5) C L.a1 (by omega) dX9_drop_12 (c1.1 _ (by omega) (by omega)) ?_
  refine Aj.iconst C dX9_drop_13 (by decide) ?_
  refine Aj.isub C dX9_drop_14 (by omega) ?_
  refine Aj.callSi (As := [qi a, qi 0, qi (st.1 5 - 1)]) (st := []) C lm_RX9_60 m_X9_in mk_X9_in (c_X9_in _) rfl rfl (by decide) (Nat.le_of_ble_eq_true rfl) (by decide) dX9_drop_15 (fun z15 h_2 rz15 p15 => ?_)
  obtain ⟨rfl, pzi, pei⟩ := p15
  refine Aj.if_ne (tgt := 23) C dX9_drop_18 (by decide) (fun c18 => ?_) (fun c18 => ?_)
  · refine Aj.aload_n C 0 dX9_drop_23 rfl ?_
    refine Aj.callVv (As := []) (st := []) C lm_RX9_127 m_X9_records mk_X9_records ms_X9_records (c_X9_records _ L c1.1 c1.2.2.1 gh) L.a (t := 9) rfl rfl rfl rfl (by decide) (Nat.le_of_ble_eq_true rfl) (by decide) dX9_drop_24 (fun hr p24 => ?_)
    obtain ⟨hr1, hr2⟩ := p24
    have cr : IMs hr M st.1 := c1.1.frec hr2
    refine Aj.aload_n C 0 dX9_drop_27 rfl ?_
    refine Aj.iload_n C 1 dX9_drop_28 rfl ?_
    refine Aj.callVi (As := [qi a]) (st := []) C lm_RX9_157 m_X9_dropsTitle mk_X9_dropsTitle ms_X9_dropsTitle (c_X9_dropsTitle _ (by omega) (by omega) L cr) L.a (t := 9) rfl rfl rfl rfl (by decide) (Nat.le_of_ble_eq_true rfl) (by decide) dX9_drop_29 (fun z29 h_3 rz29 p29 => ?_)
    obtain ⟨l0, l1, l2x⟩ := p29
    have l2 := l2x.q
    refine Aj.iret C dX9_drop_32 (by rw [hmc]; exact ⟨rfl, Nat.le_of_ble_eq_true rfl⟩) ⟨_, rfl, rfl, ?_⟩
    exact ⟨_, Or.inr ⟨by omega, l0, rfl⟩, IM.chg c (by omega) f1 hr1 hr2 l2 l1⟩
  · refine Aj.iconst C dX9_drop_21 (by decide) ?_
    refine Aj.iret C dX9_drop_22 (by rw [hmc]; exact ⟨rfl, Nat.le_of_ble_eq_true rfl⟩) ⟨_, rfl, rfl, ?_⟩
    exact ⟨st.1, Or.inl ⟨by omega, rfl, rfl⟩, by rw [chg_n (by decide)]; exact c1, f1.fr⟩
