set_option maxHeartbeats 400000 in
set_option maxRecDepth 100000 in
theorem c_X9_refusesTitle (l : Launch) {G : qG} {n : Int} {r h : qH} {a b d e : Int} {M : Int} {s : Int → Int} (L : LModel G n r M) (c : IMs h M s) (g : SG s) : q_Cm l G yX9_refusesTitle cX9_refusesTitle 5 (some .int) 2 43 [qa M, qi a, qi b, qi d, qi e] n r h (q_Pi r (fun z h' => h = h' ∧ ((¬ barP s b ∧ z = -1) ∨ (barP s b ∧ ¬ okT a d e ∧ z = -2) ∨ (barP s b ∧ okT a d e ∧ s 5 = 20 ∧ z = -4) ∨ (barP s b ∧ okT a d e ∧ s 5 ≠ 20 ∧ z = 0)))) 0 0 := by
  refine q_enter (al := [(0, qa M), (1, qi a), (2, qi b), (3, qi d), (4, qi e)]) m_X9_refusesTitle rfl (Nat.le_of_ble_eq_true rfl) ?_
  intro hok X C hmc hxl hin
  have gn := g.n
  refine Aj.aload_n C 0 dX9_refusesTitle_0 rfl ?_
  refine Aj.iload_n C 2 dX9_refusesTitle_1 rfl ?_
  refine Aj.callVi (As := [qi b]) (st := []) C lm_RX9_130 m_X9_isBar mk_X9_isBar ms_X9_isBar (c_X9_isBar _ L c g) L.a (t := 9) rfl rfl rfl rfl (by decide) (Nat.le_of_ble_eq_true rfl) (by decide) dX9_refusesTitle_2 (fun z2 h_1 rz2 p2 => ?_)
  obtain ⟨rfl, pz, pe⟩ := p2
  refine Aj.if_ne (tgt := 10) C dX9_refusesTitle_5 (by decide) (fun c5 => ?_) (fun c5 => ?_)
  · refine Aj.iload_n C 1 dX9_refusesTitle_10 rfl ?_
    refine Aj.iconst C dX9_refusesTitle_11 (by decide) ?_
    refine Aj.iconst C dX9_refusesTitle_12 (by decide) ?_
    refine Aj.callSi (As := [qi a, qi 0, qi 2]) (st := []) C lm_RX9_60 m_X9_in mk_X9_in (c_X9_in _) rfl rfl (by decide) (Nat.le_of_ble_eq_true rfl) (by decide) dX9_refusesTitle_13 (fun z13 h_2 rz13 p13 => ?_)
    obtain ⟨rfl, pza, pea⟩ := p13
    refine Aj.if_eq (tgt := 40) C dX9_refusesTitle_16 (by decide) (fun c16 => ?_) (fun c16 => ?_)
    · refine Aj.bipush C dX9_refusesTitle_40 (by decide) (by decide) ?_
      refine Aj.iret C dX9_refusesTitle_42 (by rw [hmc]; exact ⟨rfl, Nat.le_of_ble_eq_true rfl⟩) ⟨_, rfl, rfl, ?_⟩
      refine ⟨rfl, ?_⟩
      unfold okT
      first
      | exact Or.inl ⟨fun q => by have := pe.mpr q; omega, rfl⟩
      | exact Or.inr (Or.inl ⟨pe.mp (by omega), by omega, rfl⟩)
      | exact Or.inr (Or.inr (Or.inl ⟨pe.mp (by omega), by omega, by omega, rfl⟩))
      | exact Or.inr (Or.inr (Or.inr ⟨pe.mp (by omega), by omega, by omega, rfl⟩))
    · refine Aj.iload_n C 3 dX9_refusesTitle_19 rfl ?_
      refine Aj.iconst C dX9_refusesTitle_20 (by decide) ?_
      refine Aj.bipush C dX9_refusesTitle_21 (by decide) (by decide) ?_
      refine Aj.callSi (As := [qi d, qi 1, qi 20]) (st := []) C lm_RX9_60 m_X9_in mk_X9_in (c_X9_in _) rfl rfl (by decide) (Nat.le_of_ble_eq_true rfl) (by decide) dX9_refusesTitle_23 (fun z23 h_3 rz23 p23 => ?_)
      obtain ⟨rfl, pzd, ped⟩ := p23
      refine Aj.if_eq (tgt := 40) C dX9_refusesTitle_26 (by decide) (fun c26 => ?_) (fun c26 => ?_)
      · refine Aj.bipush C dX9_refusesTitle_40 (by decide) (by decide) ?_
        refine Aj.iret C dX9_refusesTitle_42 (by rw [hmc]; exact ⟨rfl, Nat.le_of_ble_eq_true rfl⟩) ⟨_, rfl, rfl, ?_⟩
        refine ⟨rfl, ?_⟩
        unfold okT
        first
        | exact Or.inl ⟨fun q => by have := pe.mpr q; omega, rfl⟩
        | exact Or.inr (Or.inl ⟨pe.mp (by omega), by omega, rfl⟩)
        | exact Or.inr (Or.inr (Or.inl ⟨pe.mp (by omega), by omega, by omega, rfl⟩))
        | exact Or.inr (Or.inr (Or.inr ⟨pe.mp (by omega), by omega, by omega, rfl⟩))
      · refine Aj.iload C 4 dX9_refusesTitle_29 rfl ?_
        refine Aj.iconst C dX9_refusesTitle_31 (by decide) ?_
        refine Aj.bipush C dX9_refusesTitle_32 (by decide) (by decide) ?_
        refine Aj.callSi (As := [qi e, qi 1, qi 80]) (st := []) C lm_RX9_60 m_X9_in mk_X9_in (c_X9_in _) rfl rfl (by decide) (Nat.le_of_ble_eq_true rfl) (by decide) dX9_refusesTitle_34 (fun z34 h_4 rz34 p34 => ?_)
        obtain ⟨rfl, pze, pee⟩ := p34
        refine Aj.if_ne (tgt := 43) C dX9_refusesTitle_37 (by decide) (fun c37 => ?_) (fun c37 => ?_)
        · refine Aj.aload_n C 0 dX9_refusesTitle_43 rfl ?_
          refine Aj.getR C lf_RX9_7 rfl L.a L.r1 dX9_refusesTitle_44 ?_
          refine Aj.iconst C dX9_refusesTitle_47 (by decide) ?_
          refine Aj.ialde (w := s 5) C L.a1 (by omega) dX9_refusesTitle_48 (c _ (by omega) (by omega)) ?_
          refine Aj.bipush C dX9_refusesTitle_49 (by decide) (by decide) ?_
          refine Aj.icmp_ne (tgt := 59) C dX9_refusesTitle_51 (by decide) (fun c51 => ?_) (fun c51 => ?_)
          · refine Aj.iconst C dX9_refusesTitle_59 (by decide) ?_
            refine Aj.iret C dX9_refusesTitle_60 (by rw [hmc]; exact ⟨rfl, Nat.le_of_ble_eq_true rfl⟩) ⟨_, rfl, rfl, ?_⟩
            refine ⟨rfl, ?_⟩
            unfold okT
            first
            | exact Or.inl ⟨fun q => by have := pe.mpr q; omega, rfl⟩
            | exact Or.inr (Or.inl ⟨pe.mp (by omega), by omega, rfl⟩)
            | exact Or.inr (Or.inr (Or.inl ⟨pe.mp (by omega), by omega, by omega, rfl⟩))
            | exact Or.inr (Or.inr (Or.inr ⟨pe.mp (by omega), by omega, by omega, rfl⟩))
          · refine Aj.bipush C dX9_refusesTitle_54 (by decide) (by decide) ?_
            refine Aj.goto (tgt := 60) C dX9_refusesTitle_56 (by decide) ?_
            refine Aj.iret C dX9_refusesTitle_60 (by rw [hmc]; exact ⟨rfl, Nat.le_of_ble_eq_true rfl⟩) ⟨_, rfl, rfl, ?_⟩
            refine ⟨rfl, ?_⟩
            unfold okT
            first
            | exact Or.inl ⟨fun q => by have := pe.mpr q; omega, rfl⟩
            | exact Or.inr (Or.inl ⟨pe.mp (by omega), by omega, rfl⟩)
            | exact Or.inr (Or.inr (Or.inl ⟨pe.mp (by omega), by omega, by omega, rfl⟩))
            | exact Or.inr (Or.inr (Or.inr ⟨pe.mp (by omega), by omega, by omega, rfl⟩))
        · refine Aj.bipush C dX9_refusesTitle_40 (by decide) (by decide) ?_
          refine Aj.iret C dX9_refusesTitle_42 (by rw [hmc]; exact ⟨rfl, Nat.le_of_ble_eq_true rfl⟩) ⟨_, rfl, rfl, ?_⟩
          refine ⟨rfl, ?_⟩
          unfold okT
          first
          | exact Or.inl ⟨fun q => by have := pe.mpr q; omega, rfl⟩
          | exact Or.inr (Or.inl ⟨pe.mp (by omega), by omega, rfl⟩)
          | exact Or.inr (Or.inr (Or.inl ⟨pe.mp (by omega), by omega, by omega, rfl⟩))
          | exact Or.inr (Or.inr (Or.inr ⟨pe.mp (by omega), by omega, by omega, rfl⟩))
  · refine Aj.iconst C dX9_refusesTitle_8 (by decide) ?_
    refine Aj.iret C dX9_refusesTitle_9 (by rw [hmc]; exact ⟨rfl, Nat.le_of_ble_eq_true rfl⟩) ⟨_, rfl, rfl, ?_⟩
    refine ⟨rfl, ?_⟩
    unfold okT
    first
    | exact Or.inl ⟨fun q => by have := pe.mpr q; omega, rfl⟩
    | exact Or.inr (Or.inl ⟨pe.mp (by omega), by omega, rfl⟩)
    | exact Or.inr (Or.inr (Or.inl ⟨pe.mp (by omega), by omega, by omega, rfl⟩))
    | exact Or.inr (Or.inr (Or.inr ⟨pe.mp (by omega), by omega, by omega, rfl⟩))
