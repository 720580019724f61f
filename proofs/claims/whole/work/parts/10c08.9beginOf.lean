set_option maxHeartbeats 400000 in
set_option maxRecDepth 100000 in
theorem c_X9_beginOf (l : Launch) {G : qG} {n : Int} {r h : qH} {a : Int} (ha : 0 ≤ a) {M : Int} {s : Int → Int} (L : LModel G n r M) (c : IMs h M s) (g : SG s) {T : qT} (d : CP h M T) (t : TG T) (hT : T.1 ≤ 120) : q_Cm l G yX9_beginOf cX9_beginOf 2 (some .int) 0 0 [qa M, qi a] n r h (q_Pi r (fun z h' => h = h' ∧ z = bOE T a)) 0 0 := by
  refine q_enter (al := [(0, qa M), (1, qi a)]) m_X9_beginOf rfl (Nat.le_of_ble_eq_true rfl) ?_
  intro hok X C hmc hxl hin
  have gn := g.n
  have t0 := t.1
  refine Aj.iload_n C 1 dX9_beginOf_0 rfl ?_
  refine Aj.aload_n C 0 dX9_beginOf_1 rfl ?_
  refine Aj.getIe (z := T.1) C lf_RX9_71 rfl L.a dX9_beginOf_2 d.1 ?_
  refine Aj.icmp_ge (tgt := 17) C dX9_beginOf_5 (by decide) (fun c5 => ?_) (fun c5 => ?_)
  · refine Aj.aload_n C 0 dX9_beginOf_17 rfl ?_
    refine Aj.getIe (z := T.2.1) C lf_RX9_74 rfl L.a dX9_beginOf_18 d.2.1 ?_
    refine Aj.iret C dX9_beginOf_21 (by rw [hmc]; exact ⟨rfl, Nat.le_of_ble_eq_true rfl⟩) ⟨_, rfl, rfl, ?_⟩
    refine ⟨rfl, ?_⟩
    unfold bOE
    first
    | rw [if_pos (by omega)]
    | rw [if_neg (by omega)]
  · refine Aj.aload_n C 0 dX9_beginOf_8 rfl ?_
    refine Aj.getR C lf_RX9_29 rfl L.a L.r9 dX9_beginOf_9 ?_
    refine Aj.iload_n C 1 dX9_beginOf_12 rfl ?_
    refine Aj.ialde (w := T.2.2.2 a) C L.a7 (by omega) dX9_beginOf_13 (d.2.2 _ (by omega) (by omega)).2 ?_
    refine Aj.goto (tgt := 21) C dX9_beginOf_14 (by decide) ?_
    refine Aj.iret C dX9_beginOf_21 (by rw [hmc]; exact ⟨rfl, Nat.le_of_ble_eq_true rfl⟩) ⟨_, rfl, rfl, ?_⟩
    refine ⟨rfl, ?_⟩
    unfold bOE
    first
    | rw [if_pos (by omega)]
    | rw [if_neg (by omega)]
