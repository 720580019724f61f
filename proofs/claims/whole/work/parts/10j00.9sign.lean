set_option maxHeartbeats 4000000 in
set_option maxRecDepth 100000 in
theorem c_X9_sign (l : Launch) {G : qG} {n : Int} {r h : qH} {M i m : Int} {P : Int → Int} (L : LModel G n r M) (cp : IMp h M (m, P)) (pg : PG m P) (hi : h M 20 = i) (h0 : 0 ≤ i ∧ i ≤ 200) : q_Cm l G yX9_sign cX9_sign 1 (some .int) 0 0 [qa M] n r h (q_Pi r (fun z h' => h = h' ∧ z = sgn P m i)) 0 0 := by
  refine q_enter (al := [(0, qa M)]) m_X9_sign rfl (Nat.le_of_ble_eq_true rfl) ?_
  intro hok X C hmc hxl hin
  have pm : 0 ≤ m ∧ m ≤ 80 := ⟨pg.1, pg.2.1⟩
  refine Aj.aload_n C 0 dX9_sign_0 rfl ?_
  refine Aj.getIe (z := i) C lf_RX9_193 rfl L.a dX9_sign_1 hi ?_
  refine Aj.aload_n C 0 dX9_sign_4 rfl ?_
  refine Aj.getIe (z := m) C lf_RX9_182 rfl L.a dX9_sign_5 cp.1 ?_
  refine Aj.icmp_ge (tgt := 23) C dX9_sign_8 (by decide) (fun c8 => ?_) (fun c8 => ?_)
  · refine Aj.iconst C dX9_sign_23 (by decide) ?_
    refine Aj.iret C dX9_sign_24 (by rw [hmc]; exact ⟨rfl, Nat.le_of_ble_eq_true rfl⟩) ⟨_, rfl, rfl, ?_⟩
    refine ⟨rfl, ?_⟩
    unfold sgn
    first
    | rw [if_pos (by omega)]
    | rw [if_neg (by omega)]
  · refine Aj.aload_n C 0 dX9_sign_11 rfl ?_
    refine Aj.getR C lf_RX9_23 rfl L.a L.r6 dX9_sign_12 ?_
    refine Aj.aload_n C 0 dX9_sign_15 rfl ?_
    refine Aj.getIe (z := i) C lf_RX9_193 rfl L.a dX9_sign_16 hi ?_
    refine Aj.ialde (w := P i) C L.a5 (by omega) dX9_sign_19 (cp.2 _ (by omega) (by omega)) ?_
    refine Aj.goto (tgt := 24) C dX9_sign_20 (by decide) ?_
    refine Aj.iret C dX9_sign_24 (by rw [hmc]; exact ⟨rfl, Nat.le_of_ble_eq_true rfl⟩) ⟨_, rfl, rfl, ?_⟩
    refine ⟨rfl, ?_⟩
    unfold sgn
    first
    | rw [if_pos (by omega)]
    | rw [if_neg (by omega)]
