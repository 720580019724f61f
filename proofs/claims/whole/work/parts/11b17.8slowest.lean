set_option maxHeartbeats 400000 in
set_option maxRecDepth 100000 in
theorem c_X8_slowest (l : Launch) {G : qG} {n : Int} {r h : qH} {a : Int} {b : Int} {st : qS} (L : LCall G n r b) (I : I8 h b st) (gs : GS st) : q_Cm l G yX8_slowest cX8_slowest 4 (some .int) 2 45 [qa b, qi a] n r h (q_Pi r (fun z h' => h = h' ∧ O_slow st.1 a z)) 0 0 := by
  refine q_enter (al := [(0, qa b), (1, qi a)]) m_X8_slowest rfl (Nat.le_of_ble_eq_true rfl) ?_
  intro hok X C hmc hxl hin
  have g := gs.1
  have gn := g.n
  have gh := gs.2.2.1
  have tt := night_TG g
  have tl := night_le g
  have t0 := tt.1
  have sl := show_le g
  have ug := show_UG g
  have wg := show_WG g
  refine Aj.iload_n C 1 dX8_slowest_0 rfl ?_
  refine Aj.if_ge (tgt := 7) C dX8_slowest_1 (by decide) (fun c1 => ?_) (fun c1 => ?_)
  · refine Aj.bipush C dX8_slowest_7 (by decide) (by decide) ?_
    refine Aj.istore_n (al2 := [(2, qi 19), (0, qa b), (1, qi a)]) C dX8_slowest_9 (by decide) rfl ?_
    refine Aj.sipush C dX8_slowest_10 (by decide) (by decide) ?_
    refine Aj.istore_n (al2 := [(3, qi 128), (2, qi 19), (0, qa b), (1, qi a)]) C dX8_slowest_13 (by decide) rfl ?_
    refine Aj.pick (al2 := [(0, qa b), (1, qi a), (2, qi 19), (3, qi 128)]) [2, 3, 1, 0] rfl ?_
    suffices L14 : ∀ (N : Nat) (v sp : Int) , ((19 ≤ v ∧ v ≤ 240) ∧ (sp = 128 ∨ sp = 64 ∨ sp = 32 ∨ sp = 16 ∨ sp = 8 ∨ sp = 4 ∨ sp = 2 ∨ sp = 1 ∨ sp = 0) ∧ (∀ x, 20 ≤ x → x ≤ v → a < endN st.1 (nightT st.1) x (st.1 0).toNat) ∧ (∀ x, v + 2 * sp ≤ x → 1 ≤ sp ∨ v < x → x ≤ 240 → 20 ≤ x → endN st.1 (nightT st.1) x (st.1 0).toNat ≤ a)) → (sp).toNat < N → Aj G X (q_Pi r (fun z h' => h = h' ∧ O_slow st.1 a z)) cX8_slowest 4 (0, 0) n r h 14 [(0, qa b), (1, qi a), (2, qi v), (3, qi sp)] [] from L14 (_ + 1) 19 128 (⟨by omega, by omega, fun x x1 x2 => by omega, fun x x1 x2 x3 x4 => by omega⟩) (Nat.lt_succ_self _)
    intro N14
    induction N14 with
    | zero => intro v sp _ hN; exact absurd hN (Nat.not_lt_zero _)
    | succ N ih14 =>
      intro v sp hI14 hN14
      obtain ⟨hi0, hi1, hi3, hi4⟩ := hI14
      refine Aj.iload_n C 3 dX8_slowest_14 rfl ?_
      refine Aj.if_le (tgt := 56) C dX8_slowest_15 (by decide) (fun c15 => ?_) (fun c15 => ?_)
      · refine Aj.iload_n C 2 dX8_slowest_56 rfl ?_
        refine Aj.sipush C dX8_slowest_57 (by decide) (by decide) ?_
        refine Aj.icmp_lt (tgt := 68) C dX8_slowest_60 (by decide) (fun c60 => ?_) (fun c60 => ?_)
        · refine Aj.iload_n C 2 dX8_slowest_68 rfl ?_
          refine Aj.iconst C dX8_slowest_69 (by decide) ?_
          refine Aj.iadd C dX8_slowest_70 (by omega) ?_
          refine Aj.iret C dX8_slowest_71 (by rw [hmc]; exact ⟨rfl, Nat.le_of_ble_eq_true rfl⟩) ⟨_, rfl, rfl, ?_⟩
          exact ⟨rfl, Or.inr ⟨by omega, Or.inl ⟨by omega, by omega, hi4 (v + 1) (by omega) (by omega) (by omega) (by omega), fun x x1 x2 => hi3 x x1 (by omega)⟩⟩⟩
        · refine Aj.bipush C dX8_slowest_63 (by decide) (by decide) ?_
          refine Aj.goto (tgt := 71) C dX8_slowest_65 (by decide) ?_
          refine Aj.iret C dX8_slowest_71 (by rw [hmc]; exact ⟨rfl, Nat.le_of_ble_eq_true rfl⟩) ⟨_, rfl, rfl, ?_⟩
          exact ⟨rfl, Or.inr ⟨by omega, Or.inr ⟨rfl, fun x x1 x2 => hi3 x x1 (by omega)⟩⟩⟩
      · refine Aj.iload_n C 2 dX8_slowest_18 rfl ?_
        refine Aj.iload_n C 3 dX8_slowest_19 rfl ?_
        refine Aj.iadd C dX8_slowest_20 (by omega) ?_
        refine Aj.sipush C dX8_slowest_21 (by decide) (by decide) ?_
        refine Aj.icmp_gt (tgt := 49) C dX8_slowest_24 (by decide) (fun c24 => ?_) (fun c24 => ?_)
        · refine Aj.iload_n C 3 dX8_slowest_49 rfl ?_
          refine Aj.iconst C dX8_slowest_50 (by decide) ?_
          refine Aj.idiv C dX8_slowest_51 (by omega) (by omega) ?_
          refine Aj.istore_n (al2 := [(3, qi (sp / 2)), (0, qa b), (1, qi a), (2, qi v)]) C dX8_slowest_52 (by decide) rfl ?_
          refine Aj.goto (tgt := 14) C dX8_slowest_53 (by decide) ?_
          refine Aj.pick (al2 := [(0, qa b), (1, qi a), (2, qi v), (3, qi (sp / 2))]) [1, 2, 3, 0] rfl ?_
          exact ih14 v (sp / 2) (⟨by omega, by omega, fun x x1 x2 => by
            first
            | exact hi3 x x1 (by omega)
            | (have := endN_mono g (T := nightT st.1) (x := x) (y := v + sp) (by omega) (by omega) (st.1 0).toNat (by omega); omega), fun x x1 x2 x3 x4 => by
            first
            | exact hi4 x (by omega) (by omega) x3 x4
            | omega
            | (have := endN_mono g (T := nightT st.1) (x := v + sp) (y := x) (by omega) (by omega) (st.1 0).toNat (by omega); omega)⟩) (by omega)
        · refine Aj.aload_n C 0 dX8_slowest_27 rfl ?_
          refine Aj.getR C lf_RX8_19 rfl L.a L.r1 dX8_slowest_28 ?_
          refine Aj.aload_n C 0 dX8_slowest_31 rfl ?_
          refine Aj.getR C lf_RX8_12 rfl L.a L.r0 dX8_slowest_32 ?_
          refine Aj.iload_n C 2 dX8_slowest_35 rfl ?_
          refine Aj.iload_n C 3 dX8_slowest_36 rfl ?_
          refine Aj.iadd C dX8_slowest_37 (by omega) ?_
          refine Aj.callVi (As := [qa (b + 1), qi (v + sp)]) (st := []) C lm_RX8_244 m_X1_endIfAllAt mk_X1_endIfAllAt ms_X1_endIfAllAt (c_X1_endIfAllAt _ L.ni I.2.1.1 L.sc I.1 g (by omega) tt tl (by omega)) L.ni.a (t := 1) rfl rfl rfl rfl (by decide) (Nat.le_of_ble_eq_true rfl) (by decide) dX8_slowest_38 (fun z38 h_1 rz38 p38 => ?_)
          obtain ⟨rfl, pv⟩ := p38
          refine Aj.iload_n C 1 dX8_slowest_41 rfl ?_
          refine Aj.icmp_le (tgt := 49) C dX8_slowest_42 (by decide) (fun c42 => ?_) (fun c42 => ?_)
          · refine Aj.iload_n C 3 dX8_slowest_49 rfl ?_
            refine Aj.iconst C dX8_slowest_50 (by decide) ?_
            refine Aj.idiv C dX8_slowest_51 (by omega) (by omega) ?_
            refine Aj.istore_n (al2 := [(3, qi (sp / 2)), (0, qa b), (1, qi a), (2, qi v)]) C dX8_slowest_52 (by decide) rfl ?_
            refine Aj.goto (tgt := 14) C dX8_slowest_53 (by decide) ?_
            refine Aj.pick (al2 := [(0, qa b), (1, qi a), (2, qi v), (3, qi (sp / 2))]) [1, 2, 3, 0] rfl ?_
            exact ih14 v (sp / 2) (⟨by omega, by omega, fun x x1 x2 => by
              first
              | exact hi3 x x1 (by omega)
              | (have := endN_mono g (T := nightT st.1) (x := x) (y := v + sp) (by omega) (by omega) (st.1 0).toNat (by omega); omega), fun x x1 x2 x3 x4 => by
              first
              | exact hi4 x (by omega) (by omega) x3 x4
              | omega
              | (have := endN_mono g (T := nightT st.1) (x := v + sp) (y := x) (by omega) (by omega) (st.1 0).toNat (by omega); omega)⟩) (by omega)
          · refine Aj.iload_n C 2 dX8_slowest_45 rfl ?_
            refine Aj.iload_n C 3 dX8_slowest_46 rfl ?_
            refine Aj.iadd C dX8_slowest_47 (by omega) ?_
            refine Aj.istore_n (al2 := [(2, qi (v + sp)), (0, qa b), (1, qi a), (3, qi sp)]) C dX8_slowest_48 (by decide) rfl ?_
            refine Aj.iload_n C 3 dX8_slowest_49 rfl ?_
            refine Aj.iconst C dX8_slowest_50 (by decide) ?_
            refine Aj.idiv C dX8_slowest_51 (by omega) (by omega) ?_
            refine Aj.istore_n (al2 := [(3, qi (sp / 2)), (2, qi (v + sp)), (0, qa b), (1, qi a)]) C dX8_slowest_52 (by decide) rfl ?_
            refine Aj.goto (tgt := 14) C dX8_slowest_53 (by decide) ?_
            refine Aj.pick (al2 := [(0, qa b), (1, qi a), (2, qi (v + sp)), (3, qi (sp / 2))]) [2, 3, 1, 0] rfl ?_
            exact ih14 (v + sp) (sp / 2) (⟨by omega, by omega, fun x x1 x2 => by
              first
              | exact hi3 x x1 (by omega)
              | (have := endN_mono g (T := nightT st.1) (x := x) (y := v + sp) (by omega) (by omega) (st.1 0).toNat (by omega); omega), fun x x1 x2 x3 x4 => by
              first
              | exact hi4 x (by omega) (by omega) x3 x4
              | omega
              | (have := endN_mono g (T := nightT st.1) (x := v + sp) (y := x) (by omega) (by omega) (st.1 0).toNat (by omega); omega)⟩) (by omega)
  · refine Aj.bipush C dX8_slowest_4 (by decide) (by decide) ?_
    refine Aj.iret C dX8_slowest_6 (by rw [hmc]; exact ⟨rfl, Nat.le_of_ble_eq_true rfl⟩) ⟨_, rfl, rfl, ?_⟩
    exact ⟨rfl, Or.inl ⟨by omega, rfl⟩⟩
