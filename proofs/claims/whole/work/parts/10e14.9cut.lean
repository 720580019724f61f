set_option maxHeartbeats 400000 in
set_option maxRecDepth 100000 in
theorem c_X9_cut (l : Launch) {G : qG} {n : Int} {r h : qH} {a b : Int} {M : Int} {st : qS} (L : LModel G n r M) (c : IM h M st) (gs : GS st) : q_Cm l G yX9_cut cX9_cut 4 (some .int) 3 66 [qa M, qi a, qi b] n r h (q_Pi r (fun z h' => ∃ s2, O_cut st.1 a b z s2 ∧ IM h' M (chg st z s2) ∧ FR M 16 h h')) 0 0 := by
  refine q_enter (al := [(0, qa M), (1, qi a), (2, qi b)]) m_X9_cut rfl (Nat.le_of_ble_eq_true rfl) ?_
  intro hok X C hmc hxl hin
  have g := gs.1
  have gn := g.n
  have gh := gs.2.2.1
  refine Aj.aload_n C 0 dX9_cut_0 rfl ?_
  refine Aj.iconst C dX9_cut_1 (by decide) ?_
  refine Aj.putI C lf_RX9_56 L.a dX9_cut_2 (fun h_1 eh_1 => ?_)
  have f1 : FS M h h_1 := fun x y w => by rw [eh_1, hset_ne _ _ (by omega)]
  have c1 : IM h_1 M st := c.fs f1
  refine Aj.aload_n C 0 dX9_cut_5 rfl ?_
  refine Aj.iload_n C 1 dX9_cut_6 rfl ?_
  refine Aj.iload_n C 2 dX9_cut_7 rfl ?_
  refine Aj.iconst C dX9_cut_8 (by decide) ?_
  refine Aj.callVi (As := [qi a, qi b, qi 3]) (st := []) C lm_RX9_141 m_X9_refusesSpan mk_X9_refusesSpan ms_X9_refusesSpan (c_X9_refusesSpan _ (d := 3) (by omega) L c1.1 g) L.a (t := 9) rfl rfl rfl rfl (by decide) (Nat.le_of_ble_eq_true rfl) (by decide) dX9_cut_9 (fun z9 h_2 rz9 p9 => ?_)
  obtain ⟨rfl, pr⟩ := p9
  refine Aj.istore_n (al2 := [(3, qi z9), (0, qa M), (1, qi a), (2, qi b)]) C dX9_cut_12 (by decide) rfl ?_
  refine Aj.iload_n C 0 dX9_cut_13 rfl ?_
  refine Aj.if_eq (tgt := 19) C dX9_cut_14 (by decide) (fun c14 => ?_) (fun c14 => ?_)
  · have s4 : st.1 3 ≠ 4 := by
      rcases pr with ⟨q1, q2⟩ | ⟨q1, q2, q3⟩ | ⟨q1, q2, q3, q4⟩ | ⟨q1, q2, q3, q4⟩ <;> omega
    refine Aj.aload_n C 1 dX9_cut_19 rfl ?_
    refine Aj.callVv (As := []) (st := []) C lm_RX9_127 m_X9_records mk_X9_records ms_X9_records (c_X9_records _ L c1.1 c1.2.2.1 gh) L.a (t := 9) rfl rfl rfl rfl (by decide) (Nat.le_of_ble_eq_true rfl) (by decide) dX9_cut_20 (fun hr p20 => ?_)
    obtain ⟨hr1, hr2⟩ := p20
    have cr : IMs hr M st.1 := c1.1.frec hr2
    refine Aj.aload_n C 1 dX9_cut_23 rfl ?_
    refine Aj.sipush C dX9_cut_24 (by decide) (by decide) ?_
    refine Aj.iconst C dX9_cut_27 (by decide) ?_
    refine Aj.iload_n C 2 dX9_cut_28 rfl ?_
    refine Aj.iload_n C 3 dX9_cut_29 rfl ?_
    refine Aj.callVi (As := [qi 134, qi 3, qi a, qi b]) (st := []) C lm_RX9_147 m_X9_laysSpan mk_X9_laysSpan ms_X9_laysSpan (c_X9_laysSpan _ (s := st.1) (a := 134) (b := 3) (by omega) (by omega) (by omega) L cr) L.a (t := 9) rfl rfl rfl rfl (by decide) (Nat.le_of_ble_eq_true rfl) (by decide) dX9_cut_30 (fun z30 h_3 rz30 p30 => ?_)
    obtain ⟨l0, l1, l2x⟩ := p30
    have l2 := l2x.q
    refine Aj.iret C dX9_cut_33 (by rw [hmc]; exact ⟨rfl, Nat.le_of_ble_eq_true rfl⟩) ⟨_, rfl, rfl, ?_⟩
    rcases pr with ⟨q1, q2⟩ | ⟨q1, q2, q3⟩ | ⟨q1, q2, q3, q4⟩ | ⟨q1, q2, q3, q4⟩
    · omega
    · omega
    · omega
    · exact ⟨_, Or.inr (Or.inr (Or.inr (⟨q1, q2, by omega, l0, rfl⟩))), IM.chg c (by omega) f1 hr1 hr2 l2 l1⟩
  · refine Aj.iload_n C 0 dX9_cut_17 rfl ?_
    refine Aj.iret C dX9_cut_18 (by rw [hmc]; exact ⟨rfl, Nat.le_of_ble_eq_true rfl⟩) ⟨_, rfl, rfl, ?_⟩
    rcases pr with ⟨q1, q2⟩ | ⟨q1, q2, q3⟩ | ⟨q1, q2, q3, q4⟩ | ⟨q1, q2, q3, q4⟩
    · rw [q2]; exact ⟨st.1, Or.inl ⟨q1, rfl, rfl⟩, by rw [chg_n (by decide)]; exact c1, f1.fr⟩
    · rw [q3]; exact ⟨st.1, Or.inr (Or.inl ⟨q1, q2, rfl, rfl⟩), by rw [chg_n (by decide)]; exact c1, f1.fr⟩
    · rw [q4]; exact ⟨st.1, Or.inr (Or.inr (Or.inl ⟨q1, q2, q3, rfl, rfl⟩)), by rw [chg_n (by decide)]; exact c1, f1.fr⟩
    · omega
