set_option maxHeartbeats 400000 in
set_option maxRecDepth 100000 in
theorem c_X9_restore (l : Launch) {G : qG} {n : Int} {r h : qH} {a : Int} {M : Int} {st : qS} (L : LModel G n r M) (c : IM h M st) (gs : GS st) : q_Cm l G yX9_restore cX9_restore 3 (some .int) 1 22 [qa M, qi a] n r h (q_Pi r (fun z h' => ∃ st2, O_restore st a z st2 ∧ IM h' M st2 ∧ FR M 16 h h')) 0 0 := by
  refine q_enter (al := [(0, qa M), (1, qi a)]) m_X9_restore rfl (Nat.le_of_ble_eq_true rfl) ?_
  intro hok X C hmc hxl hin
  have g := gs.1
  have gn := g.n
  have gh := gs.2.2.1
  refine Aj.aload_n C 0 dX9_restore_0 rfl ?_
  refine Aj.iconst C dX9_restore_1 (by decide) ?_
  refine Aj.putI C lf_RX9_56 L.a dX9_restore_2 (fun h_1 eh_1 => ?_)
  have f1 : FS M h h_1 := fun x y w => by rw [eh_1, hset_ne _ _ (by omega)]
  have c1 : IM h_1 M st := c.fs f1
  refine Aj.iload_n C 1 dX9_restore_5 rfl ?_
  refine Aj.iconst C dX9_restore_6 (by decide) ?_
  refine Aj.iconst C dX9_restore_7 (by decide) ?_
  refine Aj.callSi (As := [qi a, qi 0, qi 1]) (st := []) C lm_RX9_60 m_X9_in mk_X9_in (c_X9_in _) rfl rfl (by decide) (Nat.le_of_ble_eq_true rfl) (by decide) dX9_restore_8 (fun z8 h_2 rz8 p8 => ?_)
  obtain ⟨rfl, pzi, pei⟩ := p8
  refine Aj.if_ne (tgt := 17) C dX9_restore_11 (by decide) (fun c11 => ?_) (fun c11 => ?_)
  · refine Aj.aload_n C 0 dX9_restore_17 rfl ?_
    refine Aj.getR C lf_RX9_19 rfl L.a L.r5 dX9_restore_18 ?_
    refine Aj.iload_n C 1 dX9_restore_21 rfl ?_
    refine Aj.zalde (w := st.2.2.2.1 a) C L.a4 (by omega) dX9_restore_22 (c1.2.2.2 _ (by omega) (by omega)).1 ?_
    refine Aj.if_ne (tgt := 29) C dX9_restore_23 (by decide) (fun c23 => ?_) (fun c23 => ?_)
    · have sv0 := (gs.2.2.2.2 a (by omega) (by omega)).1
      have sv1 : st.2.2.2.1 a = 1 := by omega
      have gz := ((gs.2.2.2.2 a (by omega) (by omega)).2 sv1).n.2.2.2.2.2.1
      refine Aj.aload_n C 0 dX9_restore_29 rfl ?_
      refine Aj.callVv (As := []) (st := []) C lm_RX9_127 m_X9_records mk_X9_records ms_X9_records (c_X9_records _ L c1.1 c1.2.2.1 gh) L.a (t := 9) rfl rfl rfl rfl (by decide) (Nat.le_of_ble_eq_true rfl) (by decide) dX9_restore_30 (fun hr p30 => ?_)
      obtain ⟨hr1, hr2⟩ := p30
      have cr : IMs hr M st.1 := c1.1.frec hr2
      refine Aj.iconst C dX9_restore_33 (by decide) ?_
      refine Aj.istore_n (al2 := [(2, qi 0), (0, qa M), (1, qi a)]) C dX9_restore_34 (by decide) rfl ?_
      refine Aj.pick (al2 := [(0, qa M), (1, qi a), (2, qi 0)]) [1, 2, 0] rfl ?_
      suffices L35 : ∀ (N : Nat) (k : Int) (hh : qH) , (0 ≤ k ∧ k ≤ 228 ∧ (∀ j, 0 ≤ j → j < k → hh (M + 1) j = st.2.2.2.2 a j) ∧ FQ M hr hh) → (228 - k).toNat < N → Aj G X (q_Pi r (fun z h' => ∃ st2, O_restore st a z st2 ∧ IM h' M st2 ∧ FR M 16 h h')) cX9_restore 3 (0, 0) n r hh 35 [(0, qa M), (1, qi a), (2, qi k)] [] from L35 (_ + 1) 0 hr (⟨by omega, by omega, fun j j1 j2 => by omega, FQ.rf⟩) (Nat.lt_succ_self _)
      intro N35
      induction N35 with
      | zero => intro k hh _ hN; exact absurd hN (Nat.not_lt_zero _)
      | succ N ih35 =>
        intro k hh hI35 hN35
        obtain ⟨hk0, hk1, hk2, hk3⟩ := hI35
        refine Aj.iload_n C 2 dX9_restore_35 rfl ?_
        refine Aj.sipush C dX9_restore_36 (by decide) (by decide) ?_
        refine Aj.icmp_ge (tgt := 66) C dX9_restore_39 (by decide) (fun c39 => ?_) (fun c39 => ?_)
        · refine Aj.aload_n C 0 dX9_restore_66 rfl ?_
          refine Aj.getR C lf_RX9_7 rfl L.a L.r1 dX9_restore_67 ?_
          refine Aj.iconst C dX9_restore_70 (by decide) ?_
          refine Aj.ialde (w := st.2.2.2.2 a 5) C L.a1 (by omega) dX9_restore_71 (hk2 _ (by omega) (by omega)) ?_
          refine Aj.iret C dX9_restore_72 (by rw [hmc]; exact ⟨rfl, Nat.le_of_ble_eq_true rfl⟩) ⟨_, rfl, rfl, ?_⟩
          have cv := IM.chg c gz f1 hr1 hr2 hk3 (fun j j1 j2 => hk2 j j1 (by omega))
          exact ⟨_, Or.inr (Or.inr ⟨by omega, sv1, rfl, rfl⟩), cv.1, cv.2⟩
        · refine Aj.aload_n C 0 dX9_restore_42 rfl ?_
          refine Aj.getR C lf_RX9_7 rfl L.a L.r1 dX9_restore_43 ?_
          refine Aj.iload_n C 2 dX9_restore_46 rfl ?_
          refine Aj.aload_n C 0 dX9_restore_47 rfl ?_
          refine Aj.getR C lf_RX9_16 rfl L.a L.r4 dX9_restore_48 ?_
          refine Aj.sipush C dX9_restore_51 (by decide) (by decide) ?_
          refine Aj.iload_n C 1 dX9_restore_54 rfl ?_
          refine Aj.imul C dX9_restore_55 (by omega) ?_
          refine Aj.iload_n C 2 dX9_restore_56 rfl ?_
          refine Aj.iadd C dX9_restore_57 (by omega) ?_
          refine Aj.ialde (w := st.2.2.2.2 a k) C L.a3 (by omega) dX9_restore_58 (((hk3 _ _ (by omega)).trans (hr2 _ _ (by omega) (by omega))).trans ((c1.2.2.2 a (by omega) (by omega)).2 sv1 k hk0 (by omega))) ?_
          refine Aj.iast C L.a1 (by omega) dX9_restore_59 (fun h_3 eh_3 => ?_)
          refine Aj.iinc (al2 := [(2, qi (k + 1)), (0, qa M), (1, qi a)]) C 2 dX9_restore_60 rfl (by decide) (by omega) rfl ?_
          refine Aj.goto (tgt := 35) C dX9_restore_63 (by decide) ?_
          refine Aj.pick (al2 := [(0, qa M), (1, qi a), (2, qi (k + 1))]) [1, 2, 0] rfl ?_
          exact ih35 (k + 1) h_3 (⟨by omega, by omega, fun j j1 j2 => by
            rw [eh_3, hset_ap]
            by_cases q : j = k
            · rw [if_pos ⟨rfl, q⟩, q]
            · rw [if_neg (fun w => q w.2)]; exact hk2 j j1 (by omega), hk3.tr (FQ.set eh_3)⟩) (by omega)
    · refine Aj.bipush C dX9_restore_26 (by decide) (by decide) ?_
      refine Aj.iret C dX9_restore_28 (by rw [hmc]; exact ⟨rfl, Nat.le_of_ble_eq_true rfl⟩) ⟨_, rfl, rfl, ?_⟩
      exact ⟨st, Or.inr (Or.inl ⟨by omega, by omega, rfl, rfl⟩), c1, f1.fr⟩
  · refine Aj.bipush C dX9_restore_14 (by decide) (by decide) ?_
    refine Aj.iret C dX9_restore_16 (by rw [hmc]; exact ⟨rfl, Nat.le_of_ble_eq_true rfl⟩) ⟨_, rfl, rfl, ?_⟩
    exact ⟨st, Or.inl ⟨by omega, rfl, rfl⟩, c1, f1.fr⟩
