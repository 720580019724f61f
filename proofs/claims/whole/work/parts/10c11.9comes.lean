set_option maxHeartbeats 400000 in
set_option maxRecDepth 100000 in
theorem c_X9_comes (l : Launch) {G : qG} {n : Int} {r h : qH} {a b : Int} {M : Int} {s : Int → Int} (L : LModel G n r M) (c : IMs h M s) (g : SG s) {T : qT} (d : CP h M T) (t : TG T) (hT : T.1 ≤ 120) (ha : 0 ≤ a ∧ a < s 5) (hb : 0 ≤ b ∧ b < T.1) : q_Cm l G yX9_comes cX9_comes 5 (some .boolean) 1 23 [qa M, qi a, qi b] n r h (q_Pi r (fun z h' => h = h' ∧ (z = 0 ∨ z = 1) ∧ (z = 1 ↔ comesP s T a b))) 0 0 := by
  refine q_enter (al := [(0, qa M), (1, qi a), (2, qi b)]) m_X9_comes rfl (Nat.le_of_ble_eq_true rfl) ?_
  intro hok X C hmc hxl hin
  have gn := g.n
  have t0 := t.1
  have gt := g.ti a ha.1 ha.2
  refine Aj.aload_n C 0 dX9_comes_0 rfl ?_
  refine Aj.iload_n C 1 dX9_comes_1 rfl ?_
  refine Aj.iconst C dX9_comes_2 (by decide) ?_
  refine Aj.callVi (As := [qi a, qi 1]) (st := []) C lm_RX9_89 m_X9_of mk_X9_of ms_X9_of (c_X9_of _ (a := a) (b := 1) (by omega) (by decide) L c g) L.a (t := 9) rfl rfl rfl rfl (by decide) (Nat.le_of_ble_eq_true rfl) (by decide) dX9_comes_3 (fun z3 h_1 rz3 p3 => ?_)
  obtain ⟨rfl, po1⟩ := p3
  have pq1 : z3 = s (149 + 4 * a) := po1.trans (congrArg s (by omega))
  clear po1
  refine Aj.istore_n (al2 := [(3, qi z3), (0, qa M), (1, qi a), (2, qi b)]) C dX9_comes_6 (by decide) rfl ?_
  refine Aj.aload_n C 1 dX9_comes_7 rfl ?_
  refine Aj.iload_n C 2 dX9_comes_8 rfl ?_
  refine Aj.iconst C dX9_comes_9 (by decide) ?_
  refine Aj.callVi (As := [qi a, qi 0]) (st := []) C lm_RX9_89 m_X9_of mk_X9_of ms_X9_of (c_X9_of _ (a := a) (b := 0) (by omega) (by decide) L c g) L.a (t := 9) rfl rfl rfl rfl (by decide) (Nat.le_of_ble_eq_true rfl) (by decide) dX9_comes_10 (fun z10 h_2 rz10 p10 => ?_)
  obtain ⟨rfl, po0⟩ := p10
  have pq0 : z10 = s (148 + 4 * a) := po0.trans (congrArg s (by omega))
  clear po0
  refine Aj.istore (al2 := [(4, qi z10), (3, qi z3), (0, qa M), (1, qi a), (2, qi b)]) C dX9_comes_13 (by decide) rfl ?_
  refine Aj.aload_n C 2 dX9_comes_15 rfl ?_
  refine Aj.getR C lf_RX9_26 rfl L.a L.r8 dX9_comes_16 ?_
  refine Aj.iload_n C 4 dX9_comes_19 rfl ?_
  refine Aj.ialde (w := T.2.2.1 b) C L.a6 (by omega) dX9_comes_20 (d.2.2 _ (by omega) (by omega)).1 ?_
  refine Aj.iload_n C 1 dX9_comes_21 rfl ?_
  refine Aj.icmp_ne (tgt := 57) C dX9_comes_22 (by decide) (fun c22 => ?_) (fun c22 => ?_)
  · refine Aj.iconst C dX9_comes_57 (by decide) ?_
    refine Aj.zret C dX9_comes_58 (by omega) (by rw [hmc]; exact ⟨rfl, Nat.le_of_ble_eq_true rfl⟩) ⟨_, rfl, rfl, ?_⟩
    refine ⟨rfl, by omega, ?_⟩
    unfold comesP
    omega
  · refine Aj.iload C 0 dX9_comes_25 rfl ?_
    refine Aj.iconst C dX9_comes_27 (by decide) ?_
    refine Aj.icmp_eq (tgt := 53) C dX9_comes_28 (by decide) (fun c28 => ?_) (fun c28 => ?_)
    · refine Aj.iconst C dX9_comes_53 (by decide) ?_
      refine Aj.goto (tgt := 58) C dX9_comes_54 (by decide) ?_
      refine Aj.zret C dX9_comes_58 (by omega) (by rw [hmc]; exact ⟨rfl, Nat.le_of_ble_eq_true rfl⟩) ⟨_, rfl, rfl, ?_⟩
      refine ⟨rfl, by omega, ?_⟩
      unfold comesP
      omega
    · refine Aj.iload_n C 4 dX9_comes_31 rfl ?_
      refine Aj.iload C 0 dX9_comes_32 rfl ?_
      refine Aj.if_ne (tgt := 45) C dX9_comes_34 (by decide) (fun c34 => ?_) (fun c34 => ?_)
      · refine Aj.aload_n C 2 dX9_comes_45 rfl ?_
        refine Aj.iload_n C 1 dX9_comes_46 rfl ?_
        refine Aj.callVi (As := [qi z3]) (st := [qi b]) C lm_RX9_96 m_X9_lastPlace mk_X9_lastPlace ms_X9_lastPlace (c_X9_lastPlace _ L c g d t hT) L.a (t := 9) rfl rfl rfl rfl (by decide) (Nat.le_of_ble_eq_true rfl) (by decide) dX9_comes_47 (fun z47 h_3 rz47 p47 => ?_)
        obtain ⟨rfl, pl⟩ := p47
        rw [pq1] at pl
        refine Aj.icmp_ne (tgt := 57) C dX9_comes_50 (by decide) (fun c50 => ?_) (fun c50 => ?_)
        · refine Aj.iconst C dX9_comes_57 (by decide) ?_
          refine Aj.zret C dX9_comes_58 (by omega) (by rw [hmc]; exact ⟨rfl, Nat.le_of_ble_eq_true rfl⟩) ⟨_, rfl, rfl, ?_⟩
          refine ⟨rfl, by omega, ?_⟩
          unfold comesP
          omega
        · refine Aj.iconst C dX9_comes_53 (by decide) ?_
          refine Aj.goto (tgt := 58) C dX9_comes_54 (by decide) ?_
          refine Aj.zret C dX9_comes_58 (by omega) (by rw [hmc]; exact ⟨rfl, Nat.le_of_ble_eq_true rfl⟩) ⟨_, rfl, rfl, ?_⟩
          refine ⟨rfl, by omega, ?_⟩
          unfold comesP
          omega
      · refine Aj.aload_n C 2 dX9_comes_37 rfl ?_
        refine Aj.iload_n C 1 dX9_comes_38 rfl ?_
        refine Aj.callVi (As := [qi z3]) (st := [qi b]) C lm_RX9_93 m_X9_firstPlace mk_X9_firstPlace ms_X9_firstPlace (c_X9_firstPlace _ L c g d t hT) L.a (t := 9) rfl rfl rfl rfl (by decide) (Nat.le_of_ble_eq_true rfl) (by decide) dX9_comes_39 (fun z39 h_4 rz39 p39 => ?_)
        obtain ⟨rfl, pf⟩ := p39
        rw [pq1] at pf
        refine Aj.goto (tgt := 50) C dX9_comes_42 (by decide) ?_
        refine Aj.icmp_ne (tgt := 57) C dX9_comes_50 (by decide) (fun c50 => ?_) (fun c50 => ?_)
        · refine Aj.iconst C dX9_comes_57 (by decide) ?_
          refine Aj.zret C dX9_comes_58 (by omega) (by rw [hmc]; exact ⟨rfl, Nat.le_of_ble_eq_true rfl⟩) ⟨_, rfl, rfl, ?_⟩
          refine ⟨rfl, by omega, ?_⟩
          unfold comesP
          omega
        · refine Aj.iconst C dX9_comes_53 (by decide) ?_
          refine Aj.goto (tgt := 58) C dX9_comes_54 (by decide) ?_
          refine Aj.zret C dX9_comes_58 (by omega) (by rw [hmc]; exact ⟨rfl, Nat.le_of_ble_eq_true rfl⟩) ⟨_, rfl, rfl, ?_⟩
          refine ⟨rfl, by omega, ?_⟩
          unfold comesP
          omega
