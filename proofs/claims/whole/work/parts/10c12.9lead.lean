set_option maxHeartbeats 400000 in
set_option maxRecDepth 100000 in
theorem c_X9_lead (l : Launch) {G : qG} {n : Int} {r h : qH} {a : Int} : q_Cm l G yX9_lead cX9_lead 1 (some .int) 0 0 [qi a] n r h (q_Pi r (fun z h' => h = h' ∧ z = leadP a)) 0 0 := by
  refine q_enter (al := [(0, qi a)]) m_X9_lead rfl (Nat.le_of_ble_eq_true rfl) ?_
  intro hok X C hmc hxl hin
  refine Aj.iload_n C 0 dX9_lead_0 rfl ?_
  refine Aj.if_ne (tgt := 8) C dX9_lead_1 (by decide) (fun c1 => ?_) (fun c1 => ?_)
  · refine Aj.iload_n C 0 dX9_lead_8 rfl ?_
    refine Aj.iconst C dX9_lead_9 (by decide) ?_
    refine Aj.icmp_ne (tgt := 18) C dX9_lead_10 (by decide) (fun c10 => ?_) (fun c10 => ?_)
    · refine Aj.iconst C dX9_lead_18 (by decide) ?_
      refine Aj.iret C dX9_lead_19 (by rw [hmc]; exact ⟨rfl, Nat.le_of_ble_eq_true rfl⟩) ⟨_, rfl, rfl, ?_⟩
      exact ⟨rfl, by unfold leadP; omega⟩
    · refine Aj.bipush C dX9_lead_13 (by decide) (by decide) ?_
      refine Aj.goto (tgt := 19) C dX9_lead_15 (by decide) ?_
      refine Aj.iret C dX9_lead_19 (by rw [hmc]; exact ⟨rfl, Nat.le_of_ble_eq_true rfl⟩) ⟨_, rfl, rfl, ?_⟩
      exact ⟨rfl, by unfold leadP; omega⟩
  · refine Aj.iconst C dX9_lead_4 (by decide) ?_
    refine Aj.goto (tgt := 19) C dX9_lead_5 (by decide) ?_
    refine Aj.iret C dX9_lead_19 (by rw [hmc]; exact ⟨rfl, Nat.le_of_ble_eq_true rfl⟩) ⟨_, rfl, rfl, ?_⟩
    exact ⟨rfl, by unfold leadP; omega⟩
