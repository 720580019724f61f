set_option maxHeartbeats 400000 in
set_option maxRecDepth 100000 in
theorem c_X9_slowest (l : Launch) {G : qG} {n : Int} {r h : qH} {a : Int} {M : Int} {st : qS} (L : LModel G n r M) (c : IM h M st) (gs : GS st) : q_Cm l G yX9_slowest cX9_slowest 3 (some .int) 5 111 [qa M, qi a] n r h (q_Pi r (fun z h' => O_slow st.1 a z ∧ FS M h h')) 0 0 := by
  refine q_enter (al := [(0, qa M), (1, qi a)]) m_X9_slowest rfl (Nat.le_of_ble_eq_true rfl) ?_
  intro hok X C hmc hxl hin
  have g := gs.1
  have gn := g.n
  have gh := gs.2.2.1
  refine Aj.aload_n C 0 dX9_slowest_0 rfl ?_
  refine Aj.iconst C dX9_slowest_1 (by decide) ?_
  refine Aj.putI C lf_RX9_56 L.a dX9_slowest_2 (fun h_1 eh_1 => ?_)
  have f1 : FS M h h_1 := fun x y w => by rw [eh_1, hset_ne _ _ (by omega)]
  have c1 : IM h_1 M st := c.fs f1
  refine Aj.iload_n C 1 dX9_slowest_5 rfl ?_
  refine Aj.if_ge (tgt := 12) C dX9_slowest_6 (by decide) (fun c6 => ?_) (fun c6 => ?_)
  · refine Aj.aload_n C 0 dX9_slowest_12 rfl ?_
    refine Aj.callVv (As := []) (st := []) C lm_RX9_108 m_X9_laysNight mk_X9_laysNight ms_X9_laysNight (c_X9_laysNight _ L c1.1 g) L.a (t := 9) rfl rfl rfl rfl (by decide) (Nat.le_of_ble_eq_true rfl) (by decide) dX9_slowest_13 (fun hn p13 => ?_)
    obtain ⟨d, fN⟩ := p13
    have f2 : FS M h hn := f1.tr fN.s
    have c2 := c.fs f2
    have tt := night_TG g
    have tl := night_le g
    refine Aj.bipush C dX9_slowest_16 (by decide) (by decide) ?_
    refine Aj.istore_n (al2 := [(2, qi 20), (0, qa M), (1, qi a)]) C dX9_slowest_18 (by decide) rfl ?_
    refine Aj.pick (al2 := [(0, qa M), (1, qi a), (2, qi 20)]) [1, 2, 0] rfl ?_
    suffices L19 : ∀ (N : Nat) (i : Int) , (20 ≤ i ∧ i ≤ 241 ∧ ∀ x, 20 ≤ x → x < i → a < endN st.1 (nightT st.1) x (st.1 0).toNat) → (241 - i).toNat < N → Aj G X (q_Pi r (fun z h' => O_slow st.1 a z ∧ FS M h h')) cX9_slowest 3 (0, 0) n r hn 19 [(0, qa M), (1, qi a), (2, qi i)] [] from L19 (_ + 1) 20 (⟨by omega, by omega, fun j j1 j2 => by omega⟩) (Nat.lt_succ_self _)
    intro N19
    induction N19 with
    | zero => intro i _ hN; exact absurd hN (Nat.not_lt_zero _)
    | succ N ih19 =>
      intro i hI19 hN19
      obtain ⟨hi0, hi1, hi2⟩ := hI19
      refine Aj.iload_n C 2 dX9_slowest_19 rfl ?_
      refine Aj.sipush C dX9_slowest_20 (by decide) (by decide) ?_
      refine Aj.icmp_gt (tgt := 43) C dX9_slowest_23 (by decide) (fun c23 => ?_) (fun c23 => ?_)
      · refine Aj.bipush C dX9_slowest_43 (by decide) (by decide) ?_
        refine Aj.iret C dX9_slowest_45 (by rw [hmc]; exact ⟨rfl, Nat.le_of_ble_eq_true rfl⟩) ⟨_, rfl, rfl, ?_⟩
        exact ⟨Or.inr ⟨by omega, Or.inr ⟨rfl, fun x x1 x2 => hi2 x x1 (by omega)⟩⟩, f2⟩
      · refine Aj.aload_n C 0 dX9_slowest_26 rfl ?_
        refine Aj.iload_n C 2 dX9_slowest_27 rfl ?_
        refine Aj.callVi (As := [qi i]) (st := []) C lm_RX9_188 m_X9_nightAt mk_X9_nightAt ms_X9_nightAt (c_X9_nightAt _ L c2.1 g d tt tl (by omega)) L.a (t := 9) rfl rfl rfl rfl (by decide) (Nat.le_of_ble_eq_true rfl) (by decide) dX9_slowest_28 (fun z28 h_2 rz28 p28 => ?_)
        obtain ⟨rfl, pv⟩ := p28
        rw [plN_end g] at pv
        refine Aj.iload_n C 1 dX9_slowest_31 rfl ?_
        refine Aj.icmp_gt (tgt := 37) C dX9_slowest_32 (by decide) (fun c32 => ?_) (fun c32 => ?_)
        · refine Aj.iinc (al2 := [(2, qi (i + 1)), (0, qa M), (1, qi a)]) C 2 dX9_slowest_37 rfl (by decide) (by omega) rfl ?_
          refine Aj.goto (tgt := 19) C dX9_slowest_40 (by decide) ?_
          refine Aj.pick (al2 := [(0, qa M), (1, qi a), (2, qi (i + 1))]) [1, 2, 0] rfl ?_
          exact ih19 (i + 1) (⟨by omega, by omega, fun x x1 x2 => by
            by_cases q : x = i
            · rw [q]; omega
            · exact hi2 x x1 (by omega)⟩) (by omega)
        · refine Aj.iload_n C 2 dX9_slowest_35 rfl ?_
          refine Aj.iret C dX9_slowest_36 (by rw [hmc]; exact ⟨rfl, Nat.le_of_ble_eq_true rfl⟩) ⟨_, rfl, rfl, ?_⟩
          exact ⟨Or.inr ⟨by omega, Or.inl ⟨by omega, by omega, by omega, hi2⟩⟩, f2⟩
  · refine Aj.bipush C dX9_slowest_9 (by decide) (by decide) ?_
    refine Aj.iret C dX9_slowest_11 (by rw [hmc]; exact ⟨rfl, Nat.le_of_ble_eq_true rfl⟩) ⟨_, rfl, rfl, ?_⟩
    exact ⟨Or.inl ⟨by omega, rfl⟩, f1⟩
