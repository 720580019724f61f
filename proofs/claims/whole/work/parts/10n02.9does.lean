set_option maxHeartbeats 400000 in
set_option maxRecDepth 100000 in
theorem c_X9_does (l : Launch) {G : qG} {n : Int} {r h : qH} {e a b d : Int} {M : Int} {s : Int → Int} (L : LModel G n r M) (c : IMs h M s) (g : SG s) (hk : okO s e a b d) : q_Cm l G yX9_does cX9_does 5 none 1 25 [qa M, qi e, qi a, qi b, qi d] n r h (q_Pv r (fun h' => ∃ z2 s2, 0 ≤ z2 ∧ ordA s e a b d z2 s2 ∧ IMs h' M s2 ∧ FX M h h')) 0 0 := by
  refine q_enter (al := [(0, qa M), (1, qi e), (2, qi a), (3, qi b), (4, qi d)]) m_X9_does rfl (Nat.le_of_ble_eq_true rfl) ?_
  intro hok X C hmc hxl hin
  have gn := g.n
  refine Aj.iload_n C 1 dX9_does_0 rfl ?_
  rcases (show e = 45 ∨ e = 98 ∨ e = 114 ∨ e = 120 ∨ (e ≠ 45 ∧ e ≠ 98 ∧ e ≠ 114 ∧ e ≠ 120) by omega) with c1 | c1 | c1 | c1 | c1
  · refine Aj.lookup C (81) dX9_does_1 (by decide) (by rw [c1]; decide) (tgt := 82) (by decide) ?_
    have k1 : 0 ≤ a ∧ a < s 5 := by
      rcases hk with ⟨q, _⟩ | ⟨q, _⟩ | ⟨q, _⟩ | ⟨_, q⟩ | ⟨q, _⟩
      · exfalso; omega
      · exfalso; omega
      · exfalso; omega
      · exact q
      · exfalso; omega
    obtain ⟨k2, k3⟩ := k1
    refine Aj.aload_n C 0 dX9_does_82 rfl ?_
    refine Aj.iload_n C 2 dX9_does_83 rfl ?_
    refine Aj.callVi (As := [qi a]) (st := []) C lm_RX9_157 m_X9_dropsTitle mk_X9_dropsTitle ms_X9_dropsTitle (c_X9_dropsTitle _ (by omega) ⟨k2, k3⟩ L c) L.a (t := 9) rfl rfl rfl rfl (by decide) (Nat.le_of_ble_eq_true rfl) (by decide) dX9_does_84 (fun z84 h_1 rz84 p84 => ?_)
    refine Aj.pop C dX9_does_87 rfl ?_
    refine Aj.goto (tgt := 104) C dX9_does_88 (by decide) ?_
    refine Aj.vret C dX9_does_104 (by rw [hmc]; exact ⟨rfl, Nat.le_of_ble_eq_true rfl⟩) ⟨rfl, rfl, ?_⟩
    exact ⟨s 5 - 1, _, by omega, Or.inr (Or.inr (Or.inr (Or.inl ⟨by omega, Or.inr ⟨⟨k2, k3⟩, rfl, rfl⟩⟩))), p84.2.1, p84.2.2⟩
  · refine Aj.lookup C (43) dX9_does_1 (by decide) (by rw [c1]; decide) (tgt := 44) (by decide) ?_
    have k1 : barP s a ∧ ((1 ≤ b ∧ b ≤ 12) ∧ (20 ≤ d ∧ d ≤ 240)) := by
      rcases hk with ⟨_, q⟩ | ⟨q, _⟩ | ⟨q, _⟩ | ⟨q, _⟩ | ⟨q, _⟩
      · exact q
      · exfalso; omega
      · exfalso; omega
      · exfalso; omega
      · exfalso; omega
    obtain ⟨k2, k3⟩ := k1
    refine Aj.aload_n C 0 dX9_does_44 rfl ?_
    refine Aj.iload_n C 2 dX9_does_45 rfl ?_
    refine Aj.iload_n C 3 dX9_does_46 rfl ?_
    refine Aj.iload C 4 dX9_does_47 rfl ?_
    refine Aj.callVv (As := [qi a, qi b, qi d]) (st := []) C lm_RX9_137 m_X9_laysBar mk_X9_laysBar ms_X9_laysBar (c_X9_laysBar _ (by unfold barP at k2; omega) L c) L.a (t := 9) rfl rfl rfl rfl (by decide) (Nat.le_of_ble_eq_true rfl) (by decide) dX9_does_49 (fun h_2 p49 => ?_)
    refine Aj.goto (tgt := 104) C dX9_does_52 (by decide) ?_
    refine Aj.vret C dX9_does_104 (by rw [hmc]; exact ⟨rfl, Nat.le_of_ble_eq_true rfl⟩) ⟨rfl, rfl, ?_⟩
    exact ⟨600 * b / d, _, Int.ediv_nonneg (by omega) (by omega), Or.inl ⟨by omega, Or.inr (Or.inr ⟨k2, k3, rfl, rfl⟩)⟩, p49.1, p49.2⟩
  · refine Aj.lookup C (54) dX9_does_1 (by decide) (by rw [c1]; decide) (tgt := 55) (by decide) ?_
    have k1 : (barP s a ∧ barP s b) ∧ a ≤ b ∧ s 2 < 4 ∧ ¬ meetR s a b := by
      rcases hk with ⟨q, _⟩ | ⟨_, q⟩ | ⟨q, _⟩ | ⟨q, _⟩ | ⟨q, _⟩
      · exfalso; omega
      · exact q
      · exfalso; omega
      · exfalso; omega
      · exfalso; omega
    obtain ⟨k2, k3, k4, k5⟩ := k1
    refine Aj.aload_n C 0 dX9_does_55 rfl ?_
    refine Aj.bipush C dX9_does_56 (by decide) (by decide) ?_
    refine Aj.iconst C dX9_does_58 (by decide) ?_
    refine Aj.iload_n C 2 dX9_does_59 rfl ?_
    refine Aj.iload_n C 3 dX9_does_60 rfl ?_
    refine Aj.callVi (As := [qi 126, qi 2, qi a, qi b]) (st := []) C lm_RX9_147 m_X9_laysSpan mk_X9_laysSpan ms_X9_laysSpan (c_X9_laysSpan _ (s := s) (a := 126) (b := 2) (by omega) (by omega) (by omega) L c) L.a (t := 9) rfl rfl rfl rfl (by decide) (Nat.le_of_ble_eq_true rfl) (by decide) dX9_does_61 (fun z61 h_3 rz61 p61 => ?_)
    refine Aj.pop C dX9_does_64 rfl ?_
    refine Aj.goto (tgt := 104) C dX9_does_65 (by decide) ?_
    refine Aj.vret C dX9_does_104 (by rw [hmc]; exact ⟨rfl, Nat.le_of_ble_eq_true rfl⟩) ⟨rfl, rfl, ?_⟩
    exact ⟨s 2, _, by omega, Or.inr (Or.inl ⟨by omega, Or.inr (Or.inr (Or.inr (Or.inr ⟨k2, k3, k4, k5, rfl, rfl⟩)))⟩), p61.2.1, p61.2.2⟩
  · refine Aj.lookup C (67) dX9_does_1 (by decide) (by rw [c1]; decide) (tgt := 68) (by decide) ?_
    have k1 : (barP s a ∧ barP s b) ∧ a ≤ b ∧ s 3 < 4 := by
      rcases hk with ⟨q, _⟩ | ⟨q, _⟩ | ⟨_, q⟩ | ⟨q, _⟩ | ⟨q, _⟩
      · exfalso; omega
      · exfalso; omega
      · exact q
      · exfalso; omega
      · exfalso; omega
    obtain ⟨k2, k3, k4⟩ := k1
    refine Aj.aload_n C 0 dX9_does_68 rfl ?_
    refine Aj.sipush C dX9_does_69 (by decide) (by decide) ?_
    refine Aj.iconst C dX9_does_72 (by decide) ?_
    refine Aj.iload_n C 2 dX9_does_73 rfl ?_
    refine Aj.iload_n C 3 dX9_does_74 rfl ?_
    refine Aj.callVi (As := [qi 134, qi 3, qi a, qi b]) (st := []) C lm_RX9_147 m_X9_laysSpan mk_X9_laysSpan ms_X9_laysSpan (c_X9_laysSpan _ (s := s) (a := 134) (b := 3) (by omega) (by omega) (by omega) L c) L.a (t := 9) rfl rfl rfl rfl (by decide) (Nat.le_of_ble_eq_true rfl) (by decide) dX9_does_75 (fun z75 h_4 rz75 p75 => ?_)
    refine Aj.pop C dX9_does_78 rfl ?_
    refine Aj.goto (tgt := 104) C dX9_does_79 (by decide) ?_
    refine Aj.vret C dX9_does_104 (by rw [hmc]; exact ⟨rfl, Nat.le_of_ble_eq_true rfl⟩) ⟨rfl, rfl, ?_⟩
    exact ⟨s 3, _, by omega, Or.inr (Or.inr (Or.inl ⟨by omega, Or.inr (Or.inr (Or.inr ⟨k2, k3, k4, rfl, rfl⟩))⟩)), p75.2.1, p75.2.2⟩
  · refine Aj.lookup C (90) dX9_does_1 (by decide) (q_lkd _ _ _ (by simp; omega)) (tgt := 91) (by decide) ?_
    have k1 : (e = 108 ∨ e = 101 ∨ e = 110) ∧ barP s a ∧ okT (kdP e) b d ∧ s 5 < 20 := by
      rcases hk with ⟨q, _⟩ | ⟨q, _⟩ | ⟨q, _⟩ | ⟨q, _⟩ | q
      · exfalso; omega
      · exfalso; omega
      · exfalso; omega
      · exfalso; omega
      · exact q
    obtain ⟨k2, k3, k4, k5⟩ := k1
    refine Aj.aload_n C 0 dX9_does_91 rfl ?_
    refine Aj.iload_n C 1 dX9_does_92 rfl ?_
    refine Aj.callSi (As := [qi e]) (st := [qa M]) C lm_RX9_218 m_X9_kindBy mk_X9_kindBy (c_X9_kindBy _) rfl rfl (by decide) (Nat.le_of_ble_eq_true rfl) (by decide) dX9_does_93 (fun z93 h_5 rz93 p93 => ?_)
    obtain ⟨rfl, pk⟩ := p93
    subst pk
    refine Aj.iload_n C 2 dX9_does_96 rfl ?_
    refine Aj.iload_n C 3 dX9_does_97 rfl ?_
    refine Aj.iload C 4 dX9_does_98 rfl ?_
    refine Aj.callVi (As := [qi (kdP e), qi a, qi b, qi d]) (st := []) C lm_RX9_154 m_X9_laysTitle mk_X9_laysTitle ms_X9_laysTitle (c_X9_laysTitle _ (by omega) L c) L.a (t := 9) rfl rfl rfl rfl (by decide) (Nat.le_of_ble_eq_true rfl) (by decide) dX9_does_100 (fun z100 h_6 rz100 p100 => ?_)
    refine Aj.pop C dX9_does_103 rfl ?_
    refine Aj.vret C dX9_does_104 (by rw [hmc]; exact ⟨rfl, Nat.le_of_ble_eq_true rfl⟩) ⟨rfl, rfl, ?_⟩
    exact ⟨s 5, _, by omega, Or.inr (Or.inr (Or.inr (Or.inr ⟨k2, Or.inr (Or.inr (Or.inr ⟨k3, k4, k5, rfl, rfl⟩))⟩))), p100.2.1, p100.2.2⟩
