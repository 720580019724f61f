set_option maxHeartbeats 400000 in
set_option maxRecDepth 100000 in
theorem c_X9_title (l : Launch) {G : qG} {n : Int} {r h : qH} {a b d e : Int} {M : Int} {st : qS} (L : LModel G n r M) (c : IM h M st) (gs : GS st) : q_Cm l G yX9_title cX9_title 6 (some .int) 3 67 [qa M, qi a, qi b, qi d, qi e] n r h (q_Pi r (fun z h' => ∃ s2, O_title st.1 a b d e z s2 ∧ IM h' M (chg st z s2) ∧ FR M 16 h h')) 0 0 := by
  refine q_enter (al := [(0, qa M), (1, qi a), (2, qi b), (3, qi d), (4, qi e)]) m_X9_title rfl (Nat.le_of_ble_eq_true rfl) ?_
  intro hok X C hmc hxl hin
  have g := gs.1
  have gn := g.n
  have gh := gs.2.2.1
  refine Aj.aload_n C 0 dX9_title_0 rfl ?_
  refine Aj.iconst C dX9_title_1 (by decide) ?_
  refine Aj.putI C lf_RX9_56 L.a dX9_title_2 (fun h_1 eh_1 => ?_)
  have f1 : FS M h h_1 := fun x y w => by rw [eh_1, hset_ne _ _ (by omega)]
  have c1 : IM h_1 M st := c.fs f1
  refine Aj.aload_n C 0 dX9_title_5 rfl ?_
  refine Aj.iload_n C 1 dX9_title_6 rfl ?_
  refine Aj.iload_n C 2 dX9_title_7 rfl ?_
  refine Aj.iload_n C 3 dX9_title_8 rfl ?_
  refine Aj.iload C 4 dX9_title_9 rfl ?_
  refine Aj.callVi (As := [qi a, qi b, qi d, qi e]) (st := []) C lm_RX9_151 m_X9_refusesTitle mk_X9_refusesTitle ms_X9_refusesTitle (c_X9_refusesTitle _ L c1.1 g) L.a (t := 9) rfl rfl rfl rfl (by decide) (Nat.le_of_ble_eq_true rfl) (by decide) dX9_title_11 (fun z11 h_2 rz11 p11 => ?_)
  obtain ⟨rfl, pr⟩ := p11
  refine Aj.istore (al2 := [(5, qi z11), (0, qa M), (1, qi a), (2, qi b), (3, qi d), (4, qi e)]) C dX9_title_14 (by decide) rfl ?_
  refine Aj.iload C 0 dX9_title_16 rfl ?_
  refine Aj.if_eq (tgt := 24) C dX9_title_18 (by decide) (fun c18 => ?_) (fun c18 => ?_)
  · have s4 : st.1 5 ≠ 20 := by
      rcases pr with ⟨q1, q2⟩ | ⟨q1, q2, q3⟩ | ⟨q1, q2, q3, q4⟩ | ⟨q1, q2, q3, q4⟩ <;> omega
    refine Aj.aload_n C 1 dX9_title_24 rfl ?_
    refine Aj.callVv (As := []) (st := []) C lm_RX9_127 m_X9_records mk_X9_records ms_X9_records (c_X9_records _ L c1.1 c1.2.2.1 gh) L.a (t := 9) rfl rfl rfl rfl (by decide) (Nat.le_of_ble_eq_true rfl) (by decide) dX9_title_25 (fun hr p25 => ?_)
    obtain ⟨hr1, hr2⟩ := p25
    have cr : IMs hr M st.1 := c1.1.frec hr2
    refine Aj.aload_n C 1 dX9_title_28 rfl ?_
    refine Aj.iload_n C 2 dX9_title_29 rfl ?_
    refine Aj.iload_n C 3 dX9_title_30 rfl ?_
    refine Aj.iload_n C 4 dX9_title_31 rfl ?_
    refine Aj.iload C 5 dX9_title_32 rfl ?_
    refine Aj.callVi (As := [qi a, qi b, qi d, qi e]) (st := []) C lm_RX9_154 m_X9_laysTitle mk_X9_laysTitle ms_X9_laysTitle (c_X9_laysTitle _ (by omega) L cr) L.a (t := 9) rfl rfl rfl rfl (by decide) (Nat.le_of_ble_eq_true rfl) (by decide) dX9_title_34 (fun z34 h_3 rz34 p34 => ?_)
    obtain ⟨l0, l1, l2x⟩ := p34
    have l2 := l2x.q
    refine Aj.iret C dX9_title_37 (by rw [hmc]; exact ⟨rfl, Nat.le_of_ble_eq_true rfl⟩) ⟨_, rfl, rfl, ?_⟩
    rcases pr with ⟨q1, q2⟩ | ⟨q1, q2, q3⟩ | ⟨q1, q2, q3, q4⟩ | ⟨q1, q2, q3, q4⟩
    · omega
    · omega
    · omega
    · exact ⟨_, Or.inr (Or.inr (Or.inr (⟨q1, q2, by omega, l0, rfl⟩))), IM.chg c (by omega) f1 hr1 hr2 l2 l1⟩
  · refine Aj.iload C 0 dX9_title_21 rfl ?_
    refine Aj.iret C dX9_title_23 (by rw [hmc]; exact ⟨rfl, Nat.le_of_ble_eq_true rfl⟩) ⟨_, rfl, rfl, ?_⟩
    rcases pr with ⟨q1, q2⟩ | ⟨q1, q2, q3⟩ | ⟨q1, q2, q3, q4⟩ | ⟨q1, q2, q3, q4⟩
    · rw [q2]; exact ⟨st.1, Or.inl ⟨q1, rfl, rfl⟩, by rw [chg_n (by decide)]; exact c1, f1.fr⟩
    · rw [q3]; exact ⟨st.1, Or.inr (Or.inl ⟨q1, q2, rfl, rfl⟩), by rw [chg_n (by decide)]; exact c1, f1.fr⟩
    · rw [q4]; exact ⟨st.1, Or.inr (Or.inr (Or.inl ⟨q1, q2, q3, rfl, rfl⟩)), by rw [chg_n (by decide)]; exact c1, f1.fr⟩
    · omega
