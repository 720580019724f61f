set_option maxHeartbeats 400000 in
set_option maxRecDepth 100000 in
theorem c_X9_in (l : Launch) {G : qG} {n : Int} {r h : qH} {a b c : Int} : q_Cm l G yX9_in cX9_in 3 (some .boolean) 0 0 [qi a, qi b, qi c] n r h (q_Pi r (fun z h' => h = h' ∧ (z = 0 ∨ z = 1) ∧ (z = 1 ↔ b ≤ a ∧ a ≤ c))) 0 0 := by
  refine q_enter (al := [(0, qi a), (1, qi b), (2, qi c)]) m_X9_in rfl (Nat.le_of_ble_eq_true rfl) ?_
  intro hok X C hmc hxl hin
  refine Aj.iload_n C 0 dX9_in_0 rfl ?_
  refine Aj.iload_n C 1 dX9_in_1 rfl ?_
  refine Aj.icmp_lt (tgt := 14) C dX9_in_2 (by decide) (fun c2 => ?_) (fun c2 => ?_)
  · refine Aj.iconst C dX9_in_14 (by decide) ?_
    refine Aj.zret C dX9_in_15 (by omega) (by rw [hmc]; exact ⟨rfl, Nat.le_of_ble_eq_true rfl⟩) ⟨_, rfl, rfl, ?_⟩
    exact ⟨rfl, by omega, by omega⟩
  · refine Aj.iload_n C 0 dX9_in_5 rfl ?_
    refine Aj.iload_n C 2 dX9_in_6 rfl ?_
    refine Aj.icmp_gt (tgt := 14) C dX9_in_7 (by decide) (fun c7 => ?_) (fun c7 => ?_)
    · refine Aj.iconst C dX9_in_14 (by decide) ?_
      refine Aj.zret C dX9_in_15 (by omega) (by rw [hmc]; exact ⟨rfl, Nat.le_of_ble_eq_true rfl⟩) ⟨_, rfl, rfl, ?_⟩
      exact ⟨rfl, by omega, by omega⟩
    · refine Aj.iconst C dX9_in_10 (by decide) ?_
      refine Aj.goto (tgt := 15) C dX9_in_11 (by decide) ?_
      refine Aj.zret C dX9_in_15 (by omega) (by rw [hmc]; exact ⟨rfl, Nat.le_of_ble_eq_true rfl⟩) ⟨_, rfl, rfl, ?_⟩
      exact ⟨rfl, by omega, by omega⟩
