set_option maxHeartbeats 400000 in
set_option maxRecDepth 100000 in
theorem c_X9_refusesSpan (l : Launch) {G : qG} {n : Int} {r h : qH} {a b d : Int} (hd : d = 2 ∨ d = 3) {M : Int} {s : Int → Int} (L : LModel G n r M) (c : IMs h M s) (g : SG s) : q_Cm l G yX9_refusesSpan cX9_refusesSpan 4 (some .int) 2 43 [qa M, qi a, qi b, qi d] n r h (q_Pi r (fun z h' => h = h' ∧ ((¬ (barP s a ∧ barP s b) ∧ z = -1) ∨ ((barP s a ∧ barP s b) ∧ b < a ∧ z = -2) ∨ ((barP s a ∧ barP s b) ∧ a ≤ b ∧ s d = 4 ∧ z = -4) ∨ ((barP s a ∧ barP s b) ∧ a ≤ b ∧ s d ≠ 4 ∧ z = 0)))) 0 0 := by
  refine q_enter (al := [(0, qa M), (1, qi a), (2, qi b), (3, qi d)]) m_X9_refusesSpan rfl (Nat.le_of_ble_eq_true rfl) ?_
  intro hok X C hmc hxl hin
  have gn := g.n
  refine Aj.aload_n C 0 dX9_refusesSpan_0 rfl ?_
  refine Aj.iload_n C 1 dX9_refusesSpan_1 rfl ?_
  refine Aj.callVi (As := [qi a]) (st := []) C lm_RX9_130 m_X9_isBar mk_X9_isBar ms_X9_isBar (c_X9_isBar _ L c g) L.a (t := 9) rfl rfl rfl rfl (by decide) (Nat.le_of_ble_eq_true rfl) (by decide) dX9_refusesSpan_2 (fun z2 h_1 rz2 p2 => ?_)
  obtain ⟨rfl, pz1, pe1⟩ := p2
  refine Aj.if_eq (tgt := 16) C dX9_refusesSpan_5 (by decide) (fun c5 => ?_) (fun c5 => ?_)
  · refine Aj.iconst C dX9_refusesSpan_16 (by decide) ?_
    refine Aj.iret C dX9_refusesSpan_17 (by rw [hmc]; exact ⟨rfl, Nat.le_of_ble_eq_true rfl⟩) ⟨_, rfl, rfl, ?_⟩
    refine ⟨rfl, ?_⟩
    first
    | exact Or.inl ⟨fun q => by have := pe1.mpr q.1; omega, rfl⟩
    | exact Or.inl ⟨fun q => by have := pe2.mpr q.2; omega, rfl⟩
    | exact Or.inr (Or.inl ⟨⟨pe1.mp (by omega), pe2.mp (by omega)⟩, by omega, rfl⟩)
    | exact Or.inr (Or.inr (Or.inl ⟨⟨pe1.mp (by omega), pe2.mp (by omega)⟩, by omega, by omega, rfl⟩))
    | exact Or.inr (Or.inr (Or.inr ⟨⟨pe1.mp (by omega), pe2.mp (by omega)⟩, by omega, by omega, rfl⟩))
  · refine Aj.aload_n C 0 dX9_refusesSpan_8 rfl ?_
    refine Aj.iload_n C 2 dX9_refusesSpan_9 rfl ?_
    refine Aj.callVi (As := [qi b]) (st := []) C lm_RX9_130 m_X9_isBar mk_X9_isBar ms_X9_isBar (c_X9_isBar _ L c g) L.a (t := 9) rfl rfl rfl rfl (by decide) (Nat.le_of_ble_eq_true rfl) (by decide) dX9_refusesSpan_10 (fun z10 h_2 rz10 p10 => ?_)
    obtain ⟨rfl, pz2, pe2⟩ := p10
    refine Aj.if_ne (tgt := 18) C dX9_refusesSpan_13 (by decide) (fun c13 => ?_) (fun c13 => ?_)
    · refine Aj.iload_n C 2 dX9_refusesSpan_18 rfl ?_
      refine Aj.iload_n C 1 dX9_refusesSpan_19 rfl ?_
      refine Aj.icmp_ge (tgt := 26) C dX9_refusesSpan_20 (by decide) (fun c20 => ?_) (fun c20 => ?_)
      · refine Aj.aload_n C 0 dX9_refusesSpan_26 rfl ?_
        refine Aj.getR C lf_RX9_7 rfl L.a L.r1 dX9_refusesSpan_27 ?_
        refine Aj.iload_n C 3 dX9_refusesSpan_30 rfl ?_
        refine Aj.ialde (w := s d) C L.a1 (by omega) dX9_refusesSpan_31 (c _ (by omega) (by omega)) ?_
        refine Aj.iconst C dX9_refusesSpan_32 (by decide) ?_
        refine Aj.icmp_ne (tgt := 41) C dX9_refusesSpan_33 (by decide) (fun c33 => ?_) (fun c33 => ?_)
        · refine Aj.iconst C dX9_refusesSpan_41 (by decide) ?_
          refine Aj.iret C dX9_refusesSpan_42 (by rw [hmc]; exact ⟨rfl, Nat.le_of_ble_eq_true rfl⟩) ⟨_, rfl, rfl, ?_⟩
          refine ⟨rfl, ?_⟩
          first
          | exact Or.inl ⟨fun q => by have := pe1.mpr q.1; omega, rfl⟩
          | exact Or.inl ⟨fun q => by have := pe2.mpr q.2; omega, rfl⟩
          | exact Or.inr (Or.inl ⟨⟨pe1.mp (by omega), pe2.mp (by omega)⟩, by omega, rfl⟩)
          | exact Or.inr (Or.inr (Or.inl ⟨⟨pe1.mp (by omega), pe2.mp (by omega)⟩, by omega, by omega, rfl⟩))
          | exact Or.inr (Or.inr (Or.inr ⟨⟨pe1.mp (by omega), pe2.mp (by omega)⟩, by omega, by omega, rfl⟩))
        · refine Aj.bipush C dX9_refusesSpan_36 (by decide) (by decide) ?_
          refine Aj.goto (tgt := 42) C dX9_refusesSpan_38 (by decide) ?_
          refine Aj.iret C dX9_refusesSpan_42 (by rw [hmc]; exact ⟨rfl, Nat.le_of_ble_eq_true rfl⟩) ⟨_, rfl, rfl, ?_⟩
          refine ⟨rfl, ?_⟩
          first
          | exact Or.inl ⟨fun q => by have := pe1.mpr q.1; omega, rfl⟩
          | exact Or.inl ⟨fun q => by have := pe2.mpr q.2; omega, rfl⟩
          | exact Or.inr (Or.inl ⟨⟨pe1.mp (by omega), pe2.mp (by omega)⟩, by omega, rfl⟩)
          | exact Or.inr (Or.inr (Or.inl ⟨⟨pe1.mp (by omega), pe2.mp (by omega)⟩, by omega, by omega, rfl⟩))
          | exact Or.inr (Or.inr (Or.inr ⟨⟨pe1.mp (by omega), pe2.mp (by omega)⟩, by omega, by omega, rfl⟩))
      · refine Aj.bipush C dX9_refusesSpan_23 (by decide) (by decide) ?_
        refine Aj.iret C dX9_refusesSpan_25 (by rw [hmc]; exact ⟨rfl, Nat.le_of_ble_eq_true rfl⟩) ⟨_, rfl, rfl, ?_⟩
        refine ⟨rfl, ?_⟩
        first
        | exact Or.inl ⟨fun q => by have := pe1.mpr q.1; omega, rfl⟩
        | exact Or.inl ⟨fun q => by have := pe2.mpr q.2; omega, rfl⟩
        | exact Or.inr (Or.inl ⟨⟨pe1.mp (by omega), pe2.mp (by omega)⟩, by omega, rfl⟩)
        | exact Or.inr (Or.inr (Or.inl ⟨⟨pe1.mp (by omega), pe2.mp (by omega)⟩, by omega, by omega, rfl⟩))
        | exact Or.inr (Or.inr (Or.inr ⟨⟨pe1.mp (by omega), pe2.mp (by omega)⟩, by omega, by omega, rfl⟩))
    · refine Aj.iconst C dX9_refusesSpan_16 (by decide) ?_
      refine Aj.iret C dX9_refusesSpan_17 (by rw [hmc]; exact ⟨rfl, Nat.le_of_ble_eq_true rfl⟩) ⟨_, rfl, rfl, ?_⟩
      refine ⟨rfl, ?_⟩
      first
      | exact Or.inl ⟨fun q => by have := pe1.mpr q.1; omega, rfl⟩
      | exact Or.inl ⟨fun q => by have := pe2.mpr q.2; omega, rfl⟩
      | exact Or.inr (Or.inl ⟨⟨pe1.mp (by omega), pe2.mp (by omega)⟩, by omega, rfl⟩)
      | exact Or.inr (Or.inr (Or.inl ⟨⟨pe1.mp (by omega), pe2.mp (by omega)⟩, by omega, by omega, rfl⟩))
      | exact Or.inr (Or.inr (Or.inr ⟨⟨pe1.mp (by omega), pe2.mp (by omega)⟩, by omega, by omega, rfl⟩))
