set_option maxHeartbeats 400000 in
set_option maxRecDepth 100000 in
theorem c_X9_refuses (l : Launch) {G : qG} {n : Int} {r h : qH} {e a b d : Int} (hl : openP e) {M : Int} {s : Int → Int} (L : LModel G n r M) (c : IMs h M s) (g : SG s) : q_Cm l G yX9_refuses cX9_refuses 5 (some .int) 4 90 [qa M, qi e, qi a, qi b, qi d] n r h (q_Pi r (fun z h' => h = h' ∧ ((z = 0 ∧ okO s e a b d) ∨ (z < 0 ∧ ordA s e a b d z s)))) 0 0 := by
  refine q_enter (al := [(0, qa M), (1, qi e), (2, qi a), (3, qi b), (4, qi d)]) m_X9_refuses rfl (Nat.le_of_ble_eq_true rfl) ?_
  intro hok X C hmc hxl hin
  have gn := g.n
  refine Aj.iload_n C 1 dX9_refuses_0 rfl ?_
  rcases (show e = 45 ∨ e = 98 ∨ e = 114 ∨ e = 120 ∨ (e ≠ 45 ∧ e ≠ 98 ∧ e ≠ 114 ∧ e ≠ 120) by omega) with c1 | c1 | c1 | c1 | c1
  · refine Aj.lookup C (67) dX9_refuses_1 (by decide) (by rw [c1]; decide) (tgt := 68) (by decide) ?_
    refine Aj.iload_n C 2 dX9_refuses_68 rfl ?_
    refine Aj.iconst C dX9_refuses_69 (by decide) ?_
    refine Aj.aload_n C 0 dX9_refuses_70 rfl ?_
    refine Aj.getR C lf_RX9_7 rfl L.a L.r1 dX9_refuses_71 ?_
    refine Aj.iconst C dX9_refuses_74 (by decide) ?_
    refine Aj.ialde (w := s 5) C L.a1 (by omega) dX9_refuses_75 (c _ (by omega) (by omega)) ?_
    refine Aj.iconst C dX9_refuses_76 (by decide) ?_
    refine Aj.isub C dX9_refuses_77 (by omega) ?_
    refine Aj.callSi (As := [qi a, qi 0, qi (s 5 - 1)]) (st := []) C lm_RX9_60 m_X9_in mk_X9_in (c_X9_in _) rfl rfl (by decide) (Nat.le_of_ble_eq_true rfl) (by decide) dX9_refuses_78 (fun z78 h_1 rz78 p78 => ?_)
    obtain ⟨rfl, pzi, pei⟩ := p78
    refine Aj.if_eq (tgt := 88) C dX9_refuses_81 (by decide) (fun c81 => ?_) (fun c81 => ?_)
    · refine Aj.iconst C dX9_refuses_88 (by decide) ?_
      refine Aj.iret C dX9_refuses_89 (by rw [hmc]; exact ⟨rfl, Nat.le_of_ble_eq_true rfl⟩) ⟨_, rfl, rfl, ?_⟩
      exact ⟨rfl, Or.inr ⟨by decide, Or.inr (Or.inr (Or.inr (Or.inl ⟨by omega, Or.inl ⟨by omega, rfl, rfl⟩⟩)))⟩⟩
    · refine Aj.iconst C dX9_refuses_84 (by decide) ?_
      refine Aj.goto (tgt := 89) C dX9_refuses_85 (by decide) ?_
      refine Aj.iret C dX9_refuses_89 (by rw [hmc]; exact ⟨rfl, Nat.le_of_ble_eq_true rfl⟩) ⟨_, rfl, rfl, ?_⟩
      exact ⟨rfl, Or.inl ⟨rfl, Or.inr (Or.inr (Or.inr (Or.inl ⟨by omega, by omega, by omega⟩)))⟩⟩
  · refine Aj.lookup C (43) dX9_refuses_1 (by decide) (by rw [c1]; decide) (tgt := 44) (by decide) ?_
    refine Aj.aload_n C 0 dX9_refuses_44 rfl ?_
    refine Aj.iload_n C 2 dX9_refuses_45 rfl ?_
    refine Aj.iload_n C 3 dX9_refuses_46 rfl ?_
    refine Aj.iload C 4 dX9_refuses_47 rfl ?_
    refine Aj.callVi (As := [qi a, qi b, qi d]) (st := []) C lm_RX9_133 m_X9_refusesBar mk_X9_refusesBar ms_X9_refusesBar (c_X9_refusesBar _ L c g) L.a (t := 9) rfl rfl rfl rfl (by decide) (Nat.le_of_ble_eq_true rfl) (by decide) dX9_refuses_49 (fun z49 h_2 rz49 p49 => ?_)
    obtain ⟨rfl, pr⟩ := p49
    refine Aj.iret C dX9_refuses_52 (by rw [hmc]; exact ⟨rfl, Nat.le_of_ble_eq_true rfl⟩) ⟨_, rfl, rfl, ?_⟩
    refine ⟨rfl, ?_⟩
    rcases pr with ⟨q1, q2⟩ | ⟨q1, q2, q3⟩ | ⟨q1, q2, q3⟩
    · exact Or.inr ⟨by omega, Or.inl ⟨by omega, Or.inl ⟨q1, q2, rfl⟩⟩⟩
    · exact Or.inr ⟨by omega, Or.inl ⟨by omega, Or.inr (Or.inl ⟨q1, q2, q3, rfl⟩)⟩⟩
    · exact Or.inl ⟨q3, Or.inl ⟨by omega, q1, q2⟩⟩
  · refine Aj.lookup C (52) dX9_refuses_1 (by decide) (by rw [c1]; decide) (tgt := 53) (by decide) ?_
    refine Aj.aload_n C 0 dX9_refuses_53 rfl ?_
    refine Aj.iload_n C 2 dX9_refuses_54 rfl ?_
    refine Aj.iload_n C 3 dX9_refuses_55 rfl ?_
    refine Aj.callVi (As := [qi a, qi b]) (st := []) C lm_RX9_144 m_X9_refusesRepeat mk_X9_refusesRepeat ms_X9_refusesRepeat (c_X9_refusesRepeat _ L c g) L.a (t := 9) rfl rfl rfl rfl (by decide) (Nat.le_of_ble_eq_true rfl) (by decide) dX9_refuses_56 (fun z56 h_3 rz56 p56 => ?_)
    obtain ⟨rfl, pr⟩ := p56
    refine Aj.iret C dX9_refuses_59 (by rw [hmc]; exact ⟨rfl, Nat.le_of_ble_eq_true rfl⟩) ⟨_, rfl, rfl, ?_⟩
    refine ⟨rfl, ?_⟩
    rcases pr with ⟨q1, q2⟩ | ⟨q1, q2, q3⟩ | ⟨q1, q2, q3, q4⟩ | ⟨q1, q2, q3, q4, q5⟩ | ⟨q1, q2, q3, q4, q5⟩
    · exact Or.inr ⟨by omega, Or.inr (Or.inl ⟨by omega, Or.inl ⟨q1, q2, rfl⟩⟩)⟩
    · exact Or.inr ⟨by omega, Or.inr (Or.inl ⟨by omega, Or.inr (Or.inl ⟨q1, q2, q3, rfl⟩)⟩)⟩
    · exact Or.inr ⟨by omega, Or.inr (Or.inl ⟨by omega, Or.inr (Or.inr (Or.inl ⟨q1, q2, q3, q4, rfl⟩))⟩)⟩
    · exact Or.inr ⟨by omega, Or.inr (Or.inl ⟨by omega, Or.inr (Or.inr (Or.inr (Or.inl ⟨q1, q2, by omega, q4, q5, rfl⟩)))⟩)⟩
    · exact Or.inl ⟨q5, Or.inr (Or.inl ⟨by omega, q1, q2, by omega, q4⟩)⟩
  · refine Aj.lookup C (59) dX9_refuses_1 (by decide) (by rw [c1]; decide) (tgt := 60) (by decide) ?_
    refine Aj.aload_n C 0 dX9_refuses_60 rfl ?_
    refine Aj.iload_n C 2 dX9_refuses_61 rfl ?_
    refine Aj.iload_n C 3 dX9_refuses_62 rfl ?_
    refine Aj.iconst C dX9_refuses_63 (by decide) ?_
    refine Aj.callVi (As := [qi a, qi b, qi 3]) (st := []) C lm_RX9_141 m_X9_refusesSpan mk_X9_refusesSpan ms_X9_refusesSpan (c_X9_refusesSpan _ (d := 3) (by omega) L c g) L.a (t := 9) rfl rfl rfl rfl (by decide) (Nat.le_of_ble_eq_true rfl) (by decide) dX9_refuses_64 (fun z64 h_4 rz64 p64 => ?_)
    obtain ⟨rfl, pr⟩ := p64
    refine Aj.iret C dX9_refuses_67 (by rw [hmc]; exact ⟨rfl, Nat.le_of_ble_eq_true rfl⟩) ⟨_, rfl, rfl, ?_⟩
    refine ⟨rfl, ?_⟩
    rcases pr with ⟨q1, q2⟩ | ⟨q1, q2, q3⟩ | ⟨q1, q2, q3, q4⟩ | ⟨q1, q2, q3, q4⟩
    · exact Or.inr ⟨by omega, Or.inr (Or.inr (Or.inl ⟨by omega, Or.inl ⟨q1, q2, rfl⟩⟩))⟩
    · exact Or.inr ⟨by omega, Or.inr (Or.inr (Or.inl ⟨by omega, Or.inr (Or.inl ⟨q1, q2, q3, rfl⟩)⟩))⟩
    · exact Or.inr ⟨by omega, Or.inr (Or.inr (Or.inl ⟨by omega, Or.inr (Or.inr (Or.inl ⟨q1, q2, q3, q4, rfl⟩))⟩))⟩
    · exact Or.inl ⟨q4, Or.inr (Or.inr (Or.inl ⟨by omega, q1, q2, by omega⟩))⟩
  · refine Aj.lookup C (89) dX9_refuses_1 (by decide) (q_lkd _ _ _ (by simp; omega)) (tgt := 90) (by decide) ?_
    refine Aj.aload_n C 0 dX9_refuses_90 rfl ?_
    refine Aj.iload_n C 1 dX9_refuses_91 rfl ?_
    refine Aj.callSi (As := [qi e]) (st := [qa M]) C lm_RX9_218 m_X9_kindBy mk_X9_kindBy (c_X9_kindBy _) rfl rfl (by decide) (Nat.le_of_ble_eq_true rfl) (by decide) dX9_refuses_92 (fun z92 h_5 rz92 p92 => ?_)
    obtain ⟨rfl, pk⟩ := p92
    subst pk
    refine Aj.iload_n C 2 dX9_refuses_95 rfl ?_
    refine Aj.iload_n C 3 dX9_refuses_96 rfl ?_
    refine Aj.iload C 4 dX9_refuses_97 rfl ?_
    refine Aj.callVi (As := [qi (kdP e), qi a, qi b, qi d]) (st := []) C lm_RX9_151 m_X9_refusesTitle mk_X9_refusesTitle ms_X9_refusesTitle (c_X9_refusesTitle _ L c g) L.a (t := 9) rfl rfl rfl rfl (by decide) (Nat.le_of_ble_eq_true rfl) (by decide) dX9_refuses_99 (fun z99 h_6 rz99 p99 => ?_)
    obtain ⟨rfl, pr⟩ := p99
    refine Aj.iret C dX9_refuses_102 (by rw [hmc]; exact ⟨rfl, Nat.le_of_ble_eq_true rfl⟩) ⟨_, rfl, rfl, ?_⟩
    have hl2 : e = 108 ∨ e = 101 ∨ e = 110 := by unfold openP at hl; omega
    refine ⟨rfl, ?_⟩
    rcases pr with ⟨q1, q2⟩ | ⟨q1, q2, q3⟩ | ⟨q1, q2, q3, q4⟩ | ⟨q1, q2, q3, q4⟩
    · exact Or.inr ⟨by omega, Or.inr (Or.inr (Or.inr (Or.inr ⟨hl2, Or.inl ⟨q1, q2, rfl⟩⟩)))⟩
    · exact Or.inr ⟨by omega, Or.inr (Or.inr (Or.inr (Or.inr ⟨hl2, Or.inr (Or.inl ⟨q1, q2, q3, rfl⟩)⟩)))⟩
    · exact Or.inr ⟨by omega, Or.inr (Or.inr (Or.inr (Or.inr ⟨hl2, Or.inr (Or.inr (Or.inl ⟨q1, q2, q3, q4, rfl⟩))⟩)))⟩
    · exact Or.inl ⟨q4, Or.inr (Or.inr (Or.inr (Or.inr ⟨hl2, q1, q2, by omega⟩)))⟩
