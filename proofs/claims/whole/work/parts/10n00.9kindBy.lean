set_option maxHeartbeats 400000 in
set_option maxRecDepth 100000 in
theorem c_X9_kindBy (l : Launch) {G : qG} {n : Int} {r h : qH} {a : Int} : q_Cm l G yX9_kindBy cX9_kindBy 1 (some .int) 0 0 [qi a] n r h (q_Pi r (fun z h' => h = h' ∧ z = kdP a)) 0 0 := by
  refine q_enter (al := [(0, qi a)]) m_X9_kindBy rfl (Nat.le_of_ble_eq_true rfl) ?_
  intro hok X C hmc hxl hin
  refine Aj.iload_n C 0 dX9_kindBy_0 rfl ?_
  refine Aj.bipush C dX9_kindBy_1 (by decide) (by decide) ?_
  refine Aj.icmp_ne (tgt := 10) C dX9_kindBy_3 (by decide) (fun c3 => ?_) (fun c3 => ?_)
  · refine Aj.iload_n C 0 dX9_kindBy_10 rfl ?_
    refine Aj.bipush C dX9_kindBy_11 (by decide) (by decide) ?_
    refine Aj.icmp_ne (tgt := 20) C dX9_kindBy_13 (by decide) (fun c13 => ?_) (fun c13 => ?_)
    · refine Aj.iconst C dX9_kindBy_20 (by decide) ?_
      refine Aj.iret C dX9_kindBy_21 (by rw [hmc]; exact ⟨rfl, Nat.le_of_ble_eq_true rfl⟩) ⟨_, rfl, rfl, ?_⟩
      refine ⟨rfl, ?_⟩
      unfold kdP
      repeat (first | rw [if_neg (by omega)] | rw [if_pos (by omega)])
    · refine Aj.iconst C dX9_kindBy_16 (by decide) ?_
      refine Aj.goto (tgt := 21) C dX9_kindBy_17 (by decide) ?_
      refine Aj.iret C dX9_kindBy_21 (by rw [hmc]; exact ⟨rfl, Nat.le_of_ble_eq_true rfl⟩) ⟨_, rfl, rfl, ?_⟩
      refine ⟨rfl, ?_⟩
      unfold kdP
      repeat (first | rw [if_neg (by omega)] | rw [if_pos (by omega)])
  · refine Aj.iconst C dX9_kindBy_6 (by decide) ?_
    refine Aj.goto (tgt := 21) C dX9_kindBy_7 (by decide) ?_
    refine Aj.iret C dX9_kindBy_21 (by rw [hmc]; exact ⟨rfl, Nat.le_of_ble_eq_true rfl⟩) ⟨_, rfl, rfl, ?_⟩
    refine ⟨rfl, ?_⟩
    unfold kdP
    repeat (first | rw [if_neg (by omega)] | rw [if_pos (by omega)])
