set_option maxHeartbeats 400000 in
set_option maxRecDepth 100000 in
theorem c_X8_slotAt (l : Launch) {G : qG} {n : Int} {r h : qH} {a b : Int} (L : LCall G n r b) : q_Cm l G yX8_slotAt cX8_slotAt 2 (some (.object "TitleCaller$Score")) 0 0 [qa b, qi a] n r h (q_Pq r (fun z h' => h = h' ∧ ((¬ (0 ≤ a ∧ a ≤ 1) ∧ z = 0) ∨ ((0 ≤ a ∧ a ≤ 1) ∧ z = b + 189 + 17 * a)))) 0 0 := by
  refine q_enter (al := [(0, qa b), (1, qi a)]) m_X8_slotAt rfl (Nat.le_of_ble_eq_true rfl) ?_
  intro hok X C hmc hxl hin
  refine Aj.iload_n C 1 dX8_slotAt_0 rfl ?_
  refine Aj.if_lt (tgt := 18) C dX8_slotAt_1 (by decide) (fun c1 => ?_) (fun c1 => ?_)
  · refine Aj.anull C dX8_slotAt_18 ?_
    refine Aj.aret C dX8_slotAt_19 (by rw [hmc]; exact ⟨rfl, Nat.le_of_ble_eq_true rfl⟩) ⟨_, rfl, rfl, ?_⟩
    exact ⟨rfl, Or.inl ⟨by omega, rfl⟩⟩
  · refine Aj.iload_n C 1 dX8_slotAt_4 rfl ?_
    refine Aj.iconst C dX8_slotAt_5 (by decide) ?_
    refine Aj.icmp_ge (tgt := 18) C dX8_slotAt_6 (by decide) (fun c6 => ?_) (fun c6 => ?_)
    · refine Aj.anull C dX8_slotAt_18 ?_
      refine Aj.aret C dX8_slotAt_19 (by rw [hmc]; exact ⟨rfl, Nat.le_of_ble_eq_true rfl⟩) ⟨_, rfl, rfl, ?_⟩
      exact ⟨rfl, Or.inl ⟨by omega, rfl⟩⟩
    · refine Aj.aload_n C 0 dX8_slotAt_9 rfl ?_
      refine Aj.getR C lf_RX8_50 rfl L.a L.r7 dX8_slotAt_10 ?_
      refine Aj.iload_n C 1 dX8_slotAt_13 rfl ?_
      refine Aj.aald (w := b + 189 + 17 * a) C L.sl (by omega) (L.sr (by omega) (by omega)) dX8_slotAt_14 ?_
      refine Aj.goto (tgt := 19) C dX8_slotAt_15 (by decide) ?_
      refine Aj.aret C dX8_slotAt_19 (by rw [hmc]; exact ⟨rfl, Nat.le_of_ble_eq_true rfl⟩) ⟨_, rfl, rfl, ?_⟩
      exact ⟨rfl, Or.inr ⟨by omega, rfl⟩⟩
