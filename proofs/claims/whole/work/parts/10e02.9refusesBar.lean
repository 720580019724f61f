set_option maxHeartbeats 400000 in
set_option maxRecDepth 100000 in
theorem c_X9_refusesBar (l : Launch) {G : qG} {n : Int} {r h : qH} {a b d : Int} {M : Int} {s : Int → Int} (L : LModel G n r M) (c : IMs h M s) (g : SG s) : q_Cm l G yX9_refusesBar cX9_refusesBar 4 (some .int) 2 43 [qa M, qi a, qi b, qi d] n r h (q_Pi r (fun z h' => h = h' ∧ ((¬ barP s a ∧ z = -1) ∨ (barP s a ∧ ¬ ((1 ≤ b ∧ b ≤ 12) ∧ (20 ≤ d ∧ d ≤ 240)) ∧ z = -2) ∨ (barP s a ∧ ((1 ≤ b ∧ b ≤ 12) ∧ (20 ≤ d ∧ d ≤ 240)) ∧ z = 0)))) 0 0 := by
  refine q_enter (al := [(0, qa M), (1, qi a), (2, qi b), (3, qi d)]) m_X9_refusesBar rfl (Nat.le_of_ble_eq_true rfl) ?_
  intro hok X C hmc hxl hin
  have gn := g.n
  refine Aj.aload_n C 0 dX9_refusesBar_0 rfl ?_
  refine Aj.iload_n C 1 dX9_refusesBar_1 rfl ?_
  refine Aj.callVi (As := [qi a]) (st := []) C lm_RX9_130 m_X9_isBar mk_X9_isBar ms_X9_isBar (c_X9_isBar _ L c g) L.a (t := 9) rfl rfl rfl rfl (by decide) (Nat.le_of_ble_eq_true rfl) (by decide) dX9_refusesBar_2 (fun z2 h_1 rz2 p2 => ?_)
  obtain ⟨rfl, pz, pe⟩ := p2
  refine Aj.if_ne (tgt := 10) C dX9_refusesBar_5 (by decide) (fun c5 => ?_) (fun c5 => ?_)
  · refine Aj.iload_n C 2 dX9_refusesBar_10 rfl ?_
    refine Aj.iconst C dX9_refusesBar_11 (by decide) ?_
    refine Aj.bipush C dX9_refusesBar_12 (by decide) (by decide) ?_
    refine Aj.callSi (As := [qi b, qi 1, qi 12]) (st := []) C lm_RX9_60 m_X9_in mk_X9_in (c_X9_in _) rfl rfl (by decide) (Nat.le_of_ble_eq_true rfl) (by decide) dX9_refusesBar_14 (fun z14 h_2 rz14 p14 => ?_)
    obtain ⟨rfl, pzb, peb⟩ := p14
    refine Aj.if_eq (tgt := 36) C dX9_refusesBar_17 (by decide) (fun c17 => ?_) (fun c17 => ?_)
    · refine Aj.bipush C dX9_refusesBar_36 (by decide) (by decide) ?_
      refine Aj.iret C dX9_refusesBar_38 (by rw [hmc]; exact ⟨rfl, Nat.le_of_ble_eq_true rfl⟩) ⟨_, rfl, rfl, ?_⟩
      refine ⟨rfl, ?_⟩
      first
      | exact Or.inl ⟨fun q => by have := pe.mpr q; omega, rfl⟩
      | exact Or.inr (Or.inl ⟨pe.mp (by omega), by omega, rfl⟩)
      | exact Or.inr (Or.inr ⟨pe.mp (by omega), by omega, rfl⟩)
    · refine Aj.iload_n C 3 dX9_refusesBar_20 rfl ?_
      refine Aj.bipush C dX9_refusesBar_21 (by decide) (by decide) ?_
      refine Aj.sipush C dX9_refusesBar_23 (by decide) (by decide) ?_
      refine Aj.callSi (As := [qi d, qi 20, qi 240]) (st := []) C lm_RX9_60 m_X9_in mk_X9_in (c_X9_in _) rfl rfl (by decide) (Nat.le_of_ble_eq_true rfl) (by decide) dX9_refusesBar_26 (fun z26 h_3 rz26 p26 => ?_)
      obtain ⟨rfl, pzd, ped⟩ := p26
      refine Aj.if_eq (tgt := 36) C dX9_refusesBar_29 (by decide) (fun c29 => ?_) (fun c29 => ?_)
      · refine Aj.bipush C dX9_refusesBar_36 (by decide) (by decide) ?_
        refine Aj.iret C dX9_refusesBar_38 (by rw [hmc]; exact ⟨rfl, Nat.le_of_ble_eq_true rfl⟩) ⟨_, rfl, rfl, ?_⟩
        refine ⟨rfl, ?_⟩
        first
        | exact Or.inl ⟨fun q => by have := pe.mpr q; omega, rfl⟩
        | exact Or.inr (Or.inl ⟨pe.mp (by omega), by omega, rfl⟩)
        | exact Or.inr (Or.inr ⟨pe.mp (by omega), by omega, rfl⟩)
      · refine Aj.iconst C dX9_refusesBar_32 (by decide) ?_
        refine Aj.goto (tgt := 38) C dX9_refusesBar_33 (by decide) ?_
        refine Aj.iret C dX9_refusesBar_38 (by rw [hmc]; exact ⟨rfl, Nat.le_of_ble_eq_true rfl⟩) ⟨_, rfl, rfl, ?_⟩
        refine ⟨rfl, ?_⟩
        first
        | exact Or.inl ⟨fun q => by have := pe.mpr q; omega, rfl⟩
        | exact Or.inr (Or.inl ⟨pe.mp (by omega), by omega, rfl⟩)
        | exact Or.inr (Or.inr ⟨pe.mp (by omega), by omega, rfl⟩)
  · refine Aj.iconst C dX9_refusesBar_8 (by decide) ?_
    refine Aj.iret C dX9_refusesBar_9 (by rw [hmc]; exact ⟨rfl, Nat.le_of_ble_eq_true rfl⟩) ⟨_, rfl, rfl, ?_⟩
    refine ⟨rfl, ?_⟩
    first
    | exact Or.inl ⟨fun q => by have := pe.mpr q; omega, rfl⟩
    | exact Or.inr (Or.inl ⟨pe.mp (by omega), by omega, rfl⟩)
    | exact Or.inr (Or.inr ⟨pe.mp (by omega), by omega, rfl⟩)
