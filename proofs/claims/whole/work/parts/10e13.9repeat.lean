set_option maxHeartbeats 400000 in
set_option maxRecDepth 100000 in
theorem c_X9_repeat (l : Launch) {G : qG} {n : Int} {r h : qH} {a b : Int} {M : Int} {st : qS} (L : LModel G n r M) (c : IM h M st) (gs : GS st) : q_Cm l G yX9_repeat cX9_repeat 4 (some .int) 4 90 [qa M, qi a, qi b] n r h (q_Pi r (fun z h' => ∃ s2, O_repeat st.1 a b z s2 ∧ IM h' M (chg st z s2) ∧ FR M 16 h h')) 0 0 := by
  refine q_enter (al := [(0, qa M), (1, qi a), (2, qi b)]) m_X9_repeat rfl (Nat.le_of_ble_eq_true rfl) ?_
  intro hok X C hmc hxl hin
  have g := gs.1
  have gn := g.n
  have gh := gs.2.2.1
  refine Aj.aload_n C 0 dX9_repeat_0 rfl ?_
  refine Aj.iconst C dX9_repeat_1 (by decide) ?_
  refine Aj.putI C lf_RX9_56 L.a dX9_repeat_2 (fun h_1 eh_1 => ?_)
  have f1 : FS M h h_1 := fun x y w => by rw [eh_1, hset_ne _ _ (by omega)]
  have c1 : IM h_1 M st := c.fs f1
  refine Aj.aload_n C 0 dX9_repeat_5 rfl ?_
  refine Aj.iload_n C 1 dX9_repeat_6 rfl ?_
  refine Aj.iload_n C 2 dX9_repeat_7 rfl ?_
  refine Aj.callVi (As := [qi a, qi b]) (st := []) C lm_RX9_144 m_X9_refusesRepeat mk_X9_refusesRepeat ms_X9_refusesRepeat (c_X9_refusesRepeat _ L c1.1 g) L.a (t := 9) rfl rfl rfl rfl (by decide) (Nat.le_of_ble_eq_true rfl) (by decide) dX9_repeat_8 (fun z8 h_2 rz8 p8 => ?_)
  obtain ⟨rfl, pr⟩ := p8
  refine Aj.istore_n (al2 := [(3, qi z8), (0, qa M), (1, qi a), (2, qi b)]) C dX9_repeat_11 (by decide) rfl ?_
  refine Aj.iload_n C 0 dX9_repeat_12 rfl ?_
  refine Aj.if_eq (tgt := 18) C dX9_repeat_13 (by decide) (fun c13 => ?_) (fun c13 => ?_)
  · have s4 : st.1 2 ≠ 4 := by
      rcases pr with ⟨q1, q2⟩ | ⟨q1, q2, q3⟩ | ⟨q1, q2, q3, q4⟩ | ⟨q1, q2, q3, q4, q5⟩ | ⟨q1, q2, q3, q4, q5⟩ <;> omega
    refine Aj.aload_n C 1 dX9_repeat_18 rfl ?_
    refine Aj.callVv (As := []) (st := []) C lm_RX9_127 m_X9_records mk_X9_records ms_X9_records (c_X9_records _ L c1.1 c1.2.2.1 gh) L.a (t := 9) rfl rfl rfl rfl (by decide) (Nat.le_of_ble_eq_true rfl) (by decide) dX9_repeat_19 (fun hr p19 => ?_)
    obtain ⟨hr1, hr2⟩ := p19
    have cr : IMs hr M st.1 := c1.1.frec hr2
    refine Aj.aload_n C 1 dX9_repeat_22 rfl ?_
    refine Aj.bipush C dX9_repeat_23 (by decide) (by decide) ?_
    refine Aj.iconst C dX9_repeat_25 (by decide) ?_
    refine Aj.iload_n C 2 dX9_repeat_26 rfl ?_
    refine Aj.iload_n C 3 dX9_repeat_27 rfl ?_
    refine Aj.callVi (As := [qi 126, qi 2, qi a, qi b]) (st := []) C lm_RX9_147 m_X9_laysSpan mk_X9_laysSpan ms_X9_laysSpan (c_X9_laysSpan _ (s := st.1) (a := 126) (b := 2) (by omega) (by omega) (by omega) L cr) L.a (t := 9) rfl rfl rfl rfl (by decide) (Nat.le_of_ble_eq_true rfl) (by decide) dX9_repeat_28 (fun z28 h_3 rz28 p28 => ?_)
    obtain ⟨l0, l1, l2x⟩ := p28
    have l2 := l2x.q
    refine Aj.iret C dX9_repeat_31 (by rw [hmc]; exact ⟨rfl, Nat.le_of_ble_eq_true rfl⟩) ⟨_, rfl, rfl, ?_⟩
    rcases pr with ⟨q1, q2⟩ | ⟨q1, q2, q3⟩ | ⟨q1, q2, q3, q4⟩ | ⟨q1, q2, q3, q4, q5⟩ | ⟨q1, q2, q3, q4, q5⟩
    · omega
    · omega
    · omega
    · omega
    · exact ⟨_, Or.inr (Or.inr (Or.inr (Or.inr (⟨q1, q2, by omega, q4, l0, rfl⟩)))), IM.chg c (by omega) f1 hr1 hr2 l2 l1⟩
  · refine Aj.iload_n C 0 dX9_repeat_16 rfl ?_
    refine Aj.iret C dX9_repeat_17 (by rw [hmc]; exact ⟨rfl, Nat.le_of_ble_eq_true rfl⟩) ⟨_, rfl, rfl, ?_⟩
    rcases pr with ⟨q1, q2⟩ | ⟨q1, q2, q3⟩ | ⟨q1, q2, q3, q4⟩ | ⟨q1, q2, q3, q4, q5⟩ | ⟨q1, q2, q3, q4, q5⟩
    · rw [q2]; exact ⟨st.1, Or.inl ⟨q1, rfl, rfl⟩, by rw [chg_n (by decide)]; exact c1, f1.fr⟩
    · rw [q3]; exact ⟨st.1, Or.inr (Or.inl ⟨q1, q2, rfl, rfl⟩), by rw [chg_n (by decide)]; exact c1, f1.fr⟩
    · rw [q4]; exact ⟨st.1, Or.inr (Or.inr (Or.inl ⟨q1, q2, q3, rfl, rfl⟩)), by rw [chg_n (by decide)]; exact c1, f1.fr⟩
    · rw [q5]; exact ⟨st.1, Or.inr (Or.inr (Or.inr (Or.inl ⟨q1, q2, by omega, q4, rfl, rfl⟩))), by rw [chg_n (by decide)]; exact c1, f1.fr⟩
    · omega
