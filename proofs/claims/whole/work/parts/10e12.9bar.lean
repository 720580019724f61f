set_option maxHeartbeats 400000 in
set_option maxRecDepth 100000 in
theorem c_X9_bar (l : Launch) {G : qG} {n : Int} {r h : qH} {a b d : Int} {M : Int} {st : qS} (L : LModel G n r M) (c : IM h M st) (gs : GS st) : q_Cm l G yX9_bar cX9_bar 5 (some .int) 3 66 [qa M, qi a, qi b, qi d] n r h (q_Pi r (fun z h' => ∃ s2, O_bar st.1 a b d z s2 ∧ IM h' M (chg st z s2) ∧ FR M 16 h h')) 0 0 := by
  refine q_enter (al := [(0, qa M), (1, qi a), (2, qi b), (3, qi d)]) m_X9_bar rfl (Nat.le_of_ble_eq_true rfl) ?_
  intro hok X C hmc hxl hin
  have g := gs.1
  have gn := g.n
  have gh := gs.2.2.1
  refine Aj.aload_n C 0 dX9_bar_0 rfl ?_
  refine Aj.iconst C dX9_bar_1 (by decide) ?_
  refine Aj.putI C lf_RX9_56 L.a dX9_bar_2 (fun h_1 eh_1 => ?_)
  have f1 : FS M h h_1 := fun x y w => by rw [eh_1, hset_ne _ _ (by omega)]
  have c1 : IM h_1 M st := c.fs f1
  refine Aj.aload_n C 0 dX9_bar_5 rfl ?_
  refine Aj.iload_n C 1 dX9_bar_6 rfl ?_
  refine Aj.iload_n C 2 dX9_bar_7 rfl ?_
  refine Aj.iload_n C 3 dX9_bar_8 rfl ?_
  refine Aj.callVi (As := [qi a, qi b, qi d]) (st := []) C lm_RX9_133 m_X9_refusesBar mk_X9_refusesBar ms_X9_refusesBar (c_X9_refusesBar _ L c1.1 g) L.a (t := 9) rfl rfl rfl rfl (by decide) (Nat.le_of_ble_eq_true rfl) (by decide) dX9_bar_9 (fun z9 h_2 rz9 p9 => ?_)
  obtain ⟨rfl, pr⟩ := p9
  refine Aj.istore (al2 := [(4, qi z9), (0, qa M), (1, qi a), (2, qi b), (3, qi d)]) C dX9_bar_12 (by decide) rfl ?_
  refine Aj.iload C 0 dX9_bar_14 rfl ?_
  refine Aj.if_eq (tgt := 22) C dX9_bar_16 (by decide) (fun c16 => ?_) (fun c16 => ?_)
  · have pb : barP st.1 a ∧ ((1 ≤ b ∧ b ≤ 12) ∧ (20 ≤ d ∧ d ≤ 240)) := by
      rcases pr with ⟨q1, q2⟩ | ⟨q1, q2, q3⟩ | ⟨q1, q2, q3⟩
      · omega
      · omega
      · exact ⟨q1, q2⟩
    have oo : O_bar st.1 a b d (600 * b / d) (sset (sset st.1 (6 + a) b) (66 + a) d) := Or.inr (Or.inr ⟨pb.1, pb.2, rfl, rfl⟩)
    have gg := O_bar.good g oo
    obtain ⟨pb, pb2⟩ := pb
    refine Aj.aload_n C 1 dX9_bar_22 rfl ?_
    refine Aj.callVv (As := []) (st := []) C lm_RX9_127 m_X9_records mk_X9_records ms_X9_records (c_X9_records _ L c1.1 c1.2.2.1 gh) L.a (t := 9) rfl rfl rfl rfl (by decide) (Nat.le_of_ble_eq_true rfl) (by decide) dX9_bar_23 (fun hr p23 => ?_)
    obtain ⟨hr1, hr2⟩ := p23
    have cr : IMs hr M st.1 := c1.1.frec hr2
    refine Aj.aload_n C 1 dX9_bar_26 rfl ?_
    refine Aj.iload_n C 2 dX9_bar_27 rfl ?_
    refine Aj.iload_n C 3 dX9_bar_28 rfl ?_
    refine Aj.iload_n C 4 dX9_bar_29 rfl ?_
    refine Aj.callVv (As := [qi a, qi b, qi d]) (st := []) C lm_RX9_137 m_X9_laysBar mk_X9_laysBar ms_X9_laysBar (c_X9_laysBar _ (by unfold barP at pb; omega) L cr) L.a (t := 9) rfl rfl rfl rfl (by decide) (Nat.le_of_ble_eq_true rfl) (by decide) dX9_bar_30 (fun hb p30 => ?_)
    obtain ⟨b1, b2x⟩ := p30
    have b2 := b2x.q
    refine Aj.aload_n C 1 dX9_bar_33 rfl ?_
    refine Aj.iload_n C 2 dX9_bar_34 rfl ?_
    refine Aj.callVi (As := [qi a]) (st := []) C lm_RX9_77 m_X9_tenths mk_X9_tenths ms_X9_tenths (c_X9_tenths _ (by unfold barP at pb; omega) L b1 gg) L.a (t := 9) rfl rfl rfl rfl (by decide) (Nat.le_of_ble_eq_true rfl) (by decide) dX9_bar_35 (fun z35 h_3 rz35 p35 => ?_)
    obtain ⟨rfl, pt⟩ := p35
    refine Aj.iret C dX9_bar_38 (by rw [hmc]; exact ⟨rfl, Nat.le_of_ble_eq_true rfl⟩) ⟨_, rfl, rfl, ?_⟩
    have e : tenP (sset (sset st.1 (6 + a) b) (66 + a) d) a = 600 * b / d := by
      unfold tenP
      unfold barP at pb
      rw [sset_ap, if_neg (by omega), sset_ap, if_pos rfl, sset_ap, if_pos rfl]
    rw [pt, e]
    exact ⟨_, oo, IM.chg c (Int.ediv_nonneg (by omega) (by omega)) f1 hr1 hr2 b2 b1⟩
  · refine Aj.iload C 0 dX9_bar_19 rfl ?_
    refine Aj.iret C dX9_bar_21 (by rw [hmc]; exact ⟨rfl, Nat.le_of_ble_eq_true rfl⟩) ⟨_, rfl, rfl, ?_⟩
    rcases pr with ⟨q1, q2⟩ | ⟨q1, q2, q3⟩ | ⟨q1, q2, q3⟩
    · rw [q2]; exact ⟨st.1, Or.inl ⟨q1, rfl, rfl⟩, by rw [chg_n (by decide)]; exact c1, f1.fr⟩
    · rw [q3]; exact ⟨st.1, Or.inr (Or.inl ⟨q1, q2, rfl, rfl⟩), by rw [chg_n (by decide)]; exact c1, f1.fr⟩
    · omega
