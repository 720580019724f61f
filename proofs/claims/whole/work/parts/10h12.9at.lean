set_option maxHeartbeats 400000 in
set_option maxRecDepth 100000 in
theorem c_X9_at (l : Launch) {G : qG} {n : Int} {r h : qH} {a : Int} {M : Int} {st : qS} (L : LModel G n r M) (c : IM h M st) (gs : GS st) : q_Cm l G yX9_at cX9_at 3 (some .int) 6 133 [qa M, qi a] n r h (q_Pi r (fun z h' => O_at st.1 a z ∧ FS M h h')) 0 0 := by
  refine q_enter (al := [(0, qa M), (1, qi a)]) m_X9_at rfl (Nat.le_of_ble_eq_true rfl) ?_
  intro hok X C hmc hxl hin
  have g := gs.1
  have gn := g.n
  have gh := gs.2.2.1
  refine Aj.aload_n C 0 dX9_at_0 rfl ?_
  refine Aj.iconst C dX9_at_1 (by decide) ?_
  refine Aj.putI C lf_RX9_56 L.a dX9_at_2 (fun h_1 eh_1 => ?_)
  have f1 : FS M h h_1 := fun x y w => by rw [eh_1, hset_ne _ _ (by omega)]
  have c1 : IM h_1 M st := c.fs f1
  refine Aj.iload_n C 1 dX9_at_5 rfl ?_
  refine Aj.if_ge (tgt := 12) C dX9_at_6 (by decide) (fun c6 => ?_) (fun c6 => ?_)
  · refine Aj.aload_n C 0 dX9_at_12 rfl ?_
    refine Aj.callVv (As := []) (st := []) C lm_RX9_166 m_X9_laysShowings mk_X9_laysShowings ms_X9_laysShowings (c_X9_laysShowings _ L c1.1 g) L.a (t := 9) rfl rfl rfl rfl (by decide) (Nat.le_of_ble_eq_true rfl) (by decide) dX9_at_13 (fun hn p13 => ?_)
    obtain ⟨d, u, w, fN⟩ := p13
    have f2 : FS M h hn := f1.tr fN
    have c2 := c.fs f2
    have tt := night_TG g
    have tl := night_le g
    have sl := show_le g
    have ug := show_UG g
    have wg := show_WG g
    refine Aj.iconst C dX9_at_16 (by decide) ?_
    refine Aj.istore_n (al2 := [(2, qi 0), (0, qa M), (1, qi a)]) C dX9_at_17 (by decide) rfl ?_
    refine Aj.pick (al2 := [(0, qa M), (1, qi a), (2, qi 0)]) [1, 2, 0] rfl ?_
    suffices L18 : ∀ (N : Nat) (i : Int) , (0 ≤ i ∧ i ≤ (showU st.1).1 ∧ ∀ j, 0 ≤ j → j < i → ¬ hitP (showW st.1) a j) → ((showU st.1).1 - i).toNat < N → Aj G X (q_Pi r (fun z h' => O_at st.1 a z ∧ FS M h h')) cX9_at 3 (0, 0) n r hn 18 [(0, qa M), (1, qi a), (2, qi i)] [] from L18 (_ + 1) 0 (⟨by omega, sl.1, fun j j1 j2 => by omega⟩) (Nat.lt_succ_self _)
    intro N18
    induction N18 with
    | zero => intro i _ hN; exact absurd hN (Nat.not_lt_zero _)
    | succ N ih18 =>
      intro i hI18 hN18
      obtain ⟨hi0, hi1, hi2⟩ := hI18
      refine Aj.iload_n C 2 dX9_at_18 rfl ?_
      refine Aj.aload_n C 0 dX9_at_19 rfl ?_
      refine Aj.getIe (z := (showU st.1).1) C lf_RX9_102 rfl L.a dX9_at_20 u.1 ?_
      refine Aj.icmp_ge (tgt := 68) C dX9_at_23 (by decide) (fun c23 => ?_) (fun c23 => ?_)
      · refine Aj.bipush C dX9_at_68 (by decide) (by decide) ?_
        refine Aj.iret C dX9_at_70 (by rw [hmc]; exact ⟨rfl, Nat.le_of_ble_eq_true rfl⟩) ⟨_, rfl, rfl, ?_⟩
        have e : i = (showU st.1).1 := by clear hi2; omega
        rw [e] at hi2
        exact ⟨Or.inr ⟨by omega, Or.inr ⟨hi2, rfl⟩⟩, f2⟩
      · refine Aj.aload_n C 0 dX9_at_26 rfl ?_
        refine Aj.getR C lf_RX9_44 rfl L.a L.r16 dX9_at_27 ?_
        refine Aj.iload_n C 2 dX9_at_30 rfl ?_
        refine Aj.ialde (w := (showW st.1).1 i) C L.a12 (by omega) dX9_at_31 (w _ (by omega) (by omega)).1 ?_
        refine Aj.if_ne (tgt := 62) C dX9_at_32 (by decide) (fun c32 => ?_) (fun c32 => ?_)
        · refine Aj.iinc (al2 := [(2, qi (i + 1)), (0, qa M), (1, qi a)]) C 2 dX9_at_62 rfl (by decide) (by omega) rfl ?_
          refine Aj.goto (tgt := 18) C dX9_at_65 (by decide) ?_
          refine Aj.pick (al2 := [(0, qa M), (1, qi a), (2, qi (i + 1))]) [1, 2, 0] rfl ?_
          exact ih18 (i + 1) (⟨by omega, by omega, fun j j1 j2 => by
            by_cases q : j = i
            · rw [q]; unfold hitP; omega
            · exact hi2 j j1 (by omega)⟩) (by clear hi2; omega)
        · refine Aj.aload_n C 0 dX9_at_35 rfl ?_
          refine Aj.getR C lf_RX9_47 rfl L.a L.r17 dX9_at_36 ?_
          refine Aj.iload_n C 2 dX9_at_39 rfl ?_
          refine Aj.ialde (w := (showW st.1).2.1 i) C L.a13 (by omega) dX9_at_40 (w _ (by omega) (by omega)).2.1 ?_
          refine Aj.iload_n C 1 dX9_at_41 rfl ?_
          refine Aj.icmp_gt (tgt := 62) C dX9_at_42 (by decide) (fun c42 => ?_) (fun c42 => ?_)
          · refine Aj.iinc (al2 := [(2, qi (i + 1)), (0, qa M), (1, qi a)]) C 2 dX9_at_62 rfl (by decide) (by omega) rfl ?_
            refine Aj.goto (tgt := 18) C dX9_at_65 (by decide) ?_
            refine Aj.pick (al2 := [(0, qa M), (1, qi a), (2, qi (i + 1))]) [1, 2, 0] rfl ?_
            exact ih18 (i + 1) (⟨by omega, by omega, fun j j1 j2 => by
              by_cases q : j = i
              · rw [q]; unfold hitP; omega
              · exact hi2 j j1 (by omega)⟩) (by clear hi2; omega)
          · refine Aj.aload_n C 0 dX9_at_45 rfl ?_
            refine Aj.getR C lf_RX9_50 rfl L.a L.r18 dX9_at_46 ?_
            refine Aj.iload_n C 2 dX9_at_49 rfl ?_
            refine Aj.ialde (w := (showW st.1).2.2.1 i) C L.a14 (by omega) dX9_at_50 (w _ (by omega) (by omega)).2.2 ?_
            refine Aj.iload_n C 1 dX9_at_51 rfl ?_
            refine Aj.icmp_le (tgt := 62) C dX9_at_52 (by decide) (fun c52 => ?_) (fun c52 => ?_)
            · refine Aj.iinc (al2 := [(2, qi (i + 1)), (0, qa M), (1, qi a)]) C 2 dX9_at_62 rfl (by decide) (by omega) rfl ?_
              refine Aj.goto (tgt := 18) C dX9_at_65 (by decide) ?_
              refine Aj.pick (al2 := [(0, qa M), (1, qi a), (2, qi (i + 1))]) [1, 2, 0] rfl ?_
              exact ih18 (i + 1) (⟨by omega, by omega, fun j j1 j2 => by
                by_cases q : j = i
                · rw [q]; unfold hitP; omega
                · exact hi2 j j1 (by omega)⟩) (by clear hi2; omega)
            · refine Aj.aload_n C 0 dX9_at_55 rfl ?_
              refine Aj.getR C lf_RX9_32 rfl L.a L.r12 dX9_at_56 ?_
              refine Aj.iload_n C 2 dX9_at_59 rfl ?_
              refine Aj.ialde (w := (showU st.1).2.1 i) C L.a8 (by omega) dX9_at_60 (u.2 _ (by omega) (by omega)).1 ?_
              refine Aj.iret C dX9_at_61 (by rw [hmc]; exact ⟨rfl, Nat.le_of_ble_eq_true rfl⟩) ⟨_, rfl, rfl, ?_⟩
              exact ⟨Or.inr ⟨by omega, Or.inl ⟨i, hi0, by omega, ⟨by omega, by omega, by omega⟩, rfl, hi2⟩⟩, f2⟩
  · refine Aj.bipush C dX9_at_9 (by decide) (by decide) ?_
    refine Aj.iret C dX9_at_11 (by rw [hmc]; exact ⟨rfl, Nat.le_of_ble_eq_true rfl⟩) ⟨_, rfl, rfl, ?_⟩
    exact ⟨Or.inl ⟨by omega, rfl⟩, f1⟩
