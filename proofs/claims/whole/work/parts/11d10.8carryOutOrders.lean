set_option maxHeartbeats 400000 in
set_option maxRecDepth 100000 in
theorem c_X8_carryOutOrders (l : Launch) {G : qG} {n : Int} {r h : qH} {b m : Int} {s : Int → Int} {P : Int → Int} (L : LCall G n r b) (cp : CPad h (b + 63) m P) (pg : PG m P) (nf : noF m P) (c1 : CScore h (b + 1) s) (g : SG s) : q_Cm l G yX8_carryOutOrders cX8_carryOutOrders 4 (some .int) 4 87 [qa b] n r h (q_Pi r (fun z h' => ∃ s2, runE (allO P m).2 (allO P m).1 s z s2 ∧ CScore h' (b + 1) s2 ∧ SG s2 ∧ FCO b h h')) 0 0 := by
  refine q_enter (al := [(0, qa b)]) m_X8_carryOutOrders rfl (Nat.le_of_ble_eq_true rfl) ?_
  intro hok X C hmc hxl hin
  have pm : 0 ≤ m ∧ m ≤ 80 := ⟨pg.1, pg.2.1⟩
  refine Aj.iconst C dX8_carryOutOrders_0 (by decide) ?_
  refine Aj.istore_n (al2 := [(1, qi 0), (0, qa b)]) C dX8_carryOutOrders_1 (by decide) rfl ?_
  refine Aj.aload_n C 1 dX8_carryOutOrders_2 rfl ?_
  refine Aj.getR C lf_RX8_39 rfl L.a L.r5 dX8_carryOutOrders_3 ?_
  refine Aj.callVv (As := []) (st := []) C lm_RX8_270 m_X3_start mk_X3_start ms_X3_start (c_X3_start _ L.rd) L.rd.a (t := 3) rfl rfl rfl rfl (by decide) (Nat.le_of_ble_eq_true rfl) (by decide) dX8_carryOutOrders_6 (fun h0 p6 => ?_)
  obtain ⟨s1, s2f⟩ := p6
  have F0 : FCO b h h0 := fun x y q => s2f x y (by omega)
  refine Aj.iconst C dX8_carryOutOrders_9 (by decide) ?_
  refine Aj.istore_n (al2 := [(2, qi 0), (1, qi 0), (0, qa b)]) C dX8_carryOutOrders_10 (by decide) rfl ?_
  refine Aj.pick (al2 := [(0, qa b), (1, qi 0), (2, qi 0)]) [2, 1, 0] rfl ?_
  suffices L11 : ∀ (N : Nat) (k i : Int) (sx : Int → Int) (hh : qH) , ((0 ≤ i ∧ i ≤ m + 1) ∧ (i ≤ m → CRead hh (b + 65) (runD P i.toNat) ∧ k = (ordS P i.toNat).1) ∧ (i = m + 1 → k = (allO P m).1) ∧ (0 ≤ k ∧ k ≤ (allO P m).1 ∧ k ≤ 100 + i) ∧ runO (allO P m).2 s k.toNat sx ∧ CScore hh (b + 1) sx ∧ FCO b h hh ∧ SG sx) → (m + 1 - i).toNat < N → Aj G X (q_Pi r (fun z h' => ∃ s2, runE (allO P m).2 (allO P m).1 s z s2 ∧ CScore h' (b + 1) s2 ∧ SG s2 ∧ FCO b h h')) cX8_carryOutOrders 4 (0, 0) n r hh 11 [(0, qa b), (1, qi k), (2, qi i)] [] from L11 (_ + 1) 0 0 s h0 (⟨⟨by omega, by omega⟩, fun _ => ⟨s1, rfl⟩, fun q => by omega, ⟨by omega, by have := ordS_nn P m.toNat; show 0 ≤ (ordS P m.toNat).1 + 1; omega, by omega⟩, rfl, c1.fr (fun x y a e => s2f x y (by omega)), F0, g⟩) (Nat.lt_succ_self _)
  intro N11
  induction N11 with
  | zero => intro k i sx hh _ hN; exact absurd hN (Nat.not_lt_zero _)
  | succ N ih11 =>
    intro k i sx hh hI11 hN11
    obtain ⟨hi0, hi1, hi2, hi3, hi4, hi5, hi6, hi7⟩ := hI11
    refine Aj.iload_n C 2 dX8_carryOutOrders_11 rfl ?_
    refine Aj.aload_n C 0 dX8_carryOutOrders_12 rfl ?_
    refine Aj.getR C lf_RX8_32 rfl L.a L.r4 dX8_carryOutOrders_13 ?_
    refine Aj.getIe (z := m) C lf_RX8_232 rfl L.pa.a dX8_carryOutOrders_16 ((hi6 _ _ (by omega)).trans cp.1) ?_
    refine Aj.icmp_gt (tgt := 81) C dX8_carryOutOrders_19 (by decide) (fun c19 => ?_) (fun c19 => ?_)
    · refine Aj.iload_n C 1 dX8_carryOutOrders_81 rfl ?_
      refine Aj.iret C dX8_carryOutOrders_82 (by rw [hmc]; exact ⟨rfl, Nat.le_of_ble_eq_true rfl⟩) ⟨_, rfl, rfl, ?_⟩
      have e := hi2 (by omega)
      exact ⟨sx, ⟨⟨hi3.1, hi3.2.1⟩, hi4, Or.inl e⟩, hi5, hi7, hi6⟩
    · have cri := hi1 (by omega)
      have rci : runC P i.toNat := fun x hx => nf.1 x (by omega)
      have rgi := runD_RG _ rci
      refine Aj.iload_n C 2 dX8_carryOutOrders_22 rfl ?_
      refine Aj.aload_n C 0 dX8_carryOutOrders_23 rfl ?_
      refine Aj.getR C lf_RX8_32 rfl L.a L.r4 dX8_carryOutOrders_24 ?_
      refine Aj.getIe (z := m) C lf_RX8_232 rfl L.pa.a dX8_carryOutOrders_27 ((hi6 _ _ (by omega)).trans cp.1) ?_
      refine Aj.icmp_ge (tgt := 45) C dX8_carryOutOrders_30 (by decide) (fun c30 => ?_) (fun c30 => ?_)
      · refine Aj.bipush C dX8_carryOutOrders_45 (by decide) (by decide) ?_
        refine Aj.istore_n (al2 := [(3, qi 59), (0, qa b), (1, qi k), (2, qi i)]) C dX8_carryOutOrders_47 (by decide) rfl ?_
        refine Aj.iload_n C 0 dX8_carryOutOrders_48 rfl ?_
        refine Aj.bipush C dX8_carryOutOrders_49 (by decide) (by decide) ?_
        refine Aj.icmp_ne (tgt := 66) C dX8_carryOutOrders_51 (by decide) (fun c51 => ?_) (fun c51 => ?_)
        · exact absurd c51 (by decide)
        · have opn : openP (runD P i.toNat).1 := by
            have im : i = m := by omega
            rw [im]; exact (runD_RG _ nf.1).1.resolve_left nf.2.1
          have qk : (allO P m).2 k = runD P i.toNat ∧ k + 1 ≤ (allO P m).1 ∧ (i < m → (ordS P (i + 1).toNat).1 = k + 1) ∧ (i = m → k + 1 = (allO P m).1) := by
            rw [cri.2]
            have im : i = m := by omega
            rw [im]
            exact ⟨(allO_end P m).1, by rw [(allO_end P m).2]; exact Int.le_refl _, fun q => by omega, fun _ => (allO_end P m).2.symm⟩
          refine Aj.aload_n C 1 dX8_carryOutOrders_54 rfl ?_
          refine Aj.callVi (As := []) (st := []) C lm_RX8_276 m_X8_carryOutOrder mk_X8_carryOutOrder ms_X8_carryOutOrder (c_X8_carryOutOrder _ L cri.1 opn hi5 hi7) L.a (t := 8) rfl rfl rfl rfl (by decide) (Nat.le_of_ble_eq_true rfl) (by decide) dX8_carryOutOrders_55 (fun z55 h2 rz55 p55 => ?_)
          obtain ⟨s3, q1, q2, q3⟩ := p55
          have F2 : FCO b h h2 := hi6.tr (fun x y q => q3 x y (by omega))
          have cr2 : CRead h2 (b + 65) (runD P i.toNat) := cri.1.fr (fun x y a e => q3 x y (by omega))
          refine Aj.if_ge (tgt := 63) C dX8_carryOutOrders_58 (by decide) (fun c58 => ?_) (fun c58 => ?_)
          · refine Aj.iinc (al2 := [(1, qi (k + 1)), (3, qi 59), (0, qa b), (2, qi i)]) C 2 dX8_carryOutOrders_63 rfl (by decide) (by omega) rfl ?_
            refine Aj.aload_n C 2 dX8_carryOutOrders_66 rfl ?_
            refine Aj.getR C lf_RX8_39 rfl L.a L.r5 dX8_carryOutOrders_67 ?_
            refine Aj.iload_n C 1 dX8_carryOutOrders_70 rfl ?_
            refine Aj.callVi (As := [qi 59]) (st := []) C lm_RX8_279 m_X3_take mk_X3_take ms_X3_take (c_X3_take _ L.rd cr2 rgi) L.rd.a (t := 3) rfl rfl rfl rfl (by decide) (Nat.le_of_ble_eq_true rfl) (by decide) dX8_carryOutOrders_71 (fun z71 h3 rz71 p71 => ?_)
            obtain ⟨k1, k2, -, k3, k4⟩ := p71
            refine Aj.pop C dX8_carryOutOrders_74 rfl ?_
            refine Aj.iinc (al2 := [(2, qi (i + 1)), (1, qi (k + 1)), (3, qi 59), (0, qa b)]) C 3 dX8_carryOutOrders_75 rfl (by decide) (by omega) rfl ?_
            refine Aj.goto (tgt := 11) C dX8_carryOutOrders_78 (by decide) ?_
            refine Aj.pick (al2 := [(0, qa b), (1, qi (k + 1)), (2, qi (i + 1))]) [3, 1, 0] rfl ?_
            exact ih11 (k + 1) (i + 1) s3 h3 (⟨⟨by omega, by omega⟩, fun q => by omega, fun q => qk.2.2.2 (by omega), ⟨by omega, qk.2.1, by omega⟩, runO_s hi3.1 hi4 (by rw [qk.1]; exact q1) (by omega), (q2.fr (fun x y a e => k4 x y (by omega))), (F2.tr (fun x y q => k4 x y (by omega))), ordA_good hi7 q1⟩) (by omega)
          · refine Aj.iload_n C 2 dX8_carryOutOrders_61 rfl ?_
            refine Aj.iret C dX8_carryOutOrders_62 (by rw [hmc]; exact ⟨rfl, Nat.le_of_ble_eq_true rfl⟩) ⟨_, rfl, rfl, ?_⟩
            exact ⟨sx, ⟨⟨hi3.1, hi3.2.1⟩, hi4, Or.inr ⟨_, s3, by rw [qk.1]; exact q1, by omega⟩⟩, by rw [← ordA_neg hi7 q1 (by omega)]; exact q2, hi7, F2⟩
      · refine Aj.aload_n C 0 dX8_carryOutOrders_33 rfl ?_
        refine Aj.getR C lf_RX8_32 rfl L.a L.r4 dX8_carryOutOrders_34 ?_
        refine Aj.getR C lf_RX8_273 rfl L.pa.a L.pa.r0 dX8_carryOutOrders_37 ?_
        refine Aj.iload_n C 2 dX8_carryOutOrders_40 rfl ?_
        refine Aj.ialde (w := P i) C L.pa.a1 (by omega) dX8_carryOutOrders_41 ((hi6 _ _ (by omega)).trans (cp.2 _ (by omega) (by omega))) ?_
        refine Aj.goto (tgt := 47) C dX8_carryOutOrders_42 (by decide) ?_
        refine Aj.istore_n (al2 := [(3, qi (P i)), (0, qa b), (1, qi k), (2, qi i)]) C dX8_carryOutOrders_47 (by decide) rfl ?_
        refine Aj.iload_n C 0 dX8_carryOutOrders_48 rfl ?_
        refine Aj.bipush C dX8_carryOutOrders_49 (by decide) (by decide) ?_
        refine Aj.icmp_ne (tgt := 66) C dX8_carryOutOrders_51 (by decide) (fun c51 => ?_) (fun c51 => ?_)
        · refine Aj.aload_n C 1 dX8_carryOutOrders_66 rfl ?_
          refine Aj.getR C lf_RX8_39 rfl L.a L.r5 dX8_carryOutOrders_67 ?_
          refine Aj.iload_n C 0 dX8_carryOutOrders_70 rfl ?_
          refine Aj.callVi (As := [qi (P i)]) (st := []) C lm_RX8_279 m_X3_take mk_X3_take ms_X3_take (c_X3_take _ L.rd cri.1 rgi) L.rd.a (t := 3) rfl rfl rfl rfl (by decide) (Nat.le_of_ble_eq_true rfl) (by decide) dX8_carryOutOrders_71 (fun z71 h3 rz71 p71 => ?_)
          obtain ⟨k1, k2, -, k3, k4⟩ := p71
          refine Aj.pop C dX8_carryOutOrders_74 rfl ?_
          refine Aj.iinc (al2 := [(2, qi (i + 1)), (3, qi (P i)), (0, qa b), (1, qi k)]) C 3 dX8_carryOutOrders_75 rfl (by decide) (by omega) rfl ?_
          refine Aj.goto (tgt := 11) C dX8_carryOutOrders_78 (by decide) ?_
          refine Aj.pick (al2 := [(0, qa b), (1, qi k), (2, qi (i + 1))]) [2, 3, 0] rfl ?_
          exact ih11 k (i + 1) sx h3 (⟨⟨by omega, by omega⟩, fun q => ⟨by rw [runD_take hi0.1]; exact k3 (k2.mpr (by have t := nf.1 i.toNat (by omega); rw [show ((i.toNat : Nat) : Int) = i by omega] at t; exact t)), by rw [ord_no hi0.1 (by omega)]; exact cri.2⟩, fun q => by omega, ⟨hi3.1, hi3.2.1, by omega⟩, hi4, (hi5.fr (fun x y a e => k4 x y (by omega))), (hi6.tr (fun x y q => k4 x y (by omega))), hi7⟩) (by omega)
        · have tk := nf.1 i.toNat (by omega)
          rw [show ((i.toNat : Nat) : Int) = i by omega] at tk
          have opn : openP (runD P i.toNat).1 := rgi.1.resolve_left (fun q => by
            rcases tk with ⟨_, t⟩ | ⟨t, _⟩ | ⟨t, _⟩
            · unfold openP at t; omega
            · exact t q
            · exact t q)
          have qk : (allO P m).2 k = runD P i.toNat ∧ k + 1 ≤ (allO P m).1 ∧ (i < m → (ordS P (i + 1).toNat).1 = k + 1) ∧ (i = m → k + 1 = (allO P m).1) := by
            rw [cri.2]
            have aa := allO_at (m := m) hi0.1 (by omega) (show P i = 59 by omega)
            exact ⟨aa.2.1, by omega, fun _ => aa.2.2, fun q => by omega⟩
          refine Aj.aload_n C 1 dX8_carryOutOrders_54 rfl ?_
          refine Aj.callVi (As := []) (st := []) C lm_RX8_276 m_X8_carryOutOrder mk_X8_carryOutOrder ms_X8_carryOutOrder (c_X8_carryOutOrder _ L cri.1 opn hi5 hi7) L.a (t := 8) rfl rfl rfl rfl (by decide) (Nat.le_of_ble_eq_true rfl) (by decide) dX8_carryOutOrders_55 (fun z55 h2 rz55 p55 => ?_)
          obtain ⟨s3, q1, q2, q3⟩ := p55
          have F2 : FCO b h h2 := hi6.tr (fun x y q => q3 x y (by omega))
          have cr2 : CRead h2 (b + 65) (runD P i.toNat) := cri.1.fr (fun x y a e => q3 x y (by omega))
          refine Aj.if_ge (tgt := 63) C dX8_carryOutOrders_58 (by decide) (fun c58 => ?_) (fun c58 => ?_)
          · refine Aj.iinc (al2 := [(1, qi (k + 1)), (3, qi (P i)), (0, qa b), (2, qi i)]) C 2 dX8_carryOutOrders_63 rfl (by decide) (by omega) rfl ?_
            refine Aj.aload_n C 2 dX8_carryOutOrders_66 rfl ?_
            refine Aj.getR C lf_RX8_39 rfl L.a L.r5 dX8_carryOutOrders_67 ?_
            refine Aj.iload_n C 1 dX8_carryOutOrders_70 rfl ?_
            refine Aj.callVi (As := [qi (P i)]) (st := []) C lm_RX8_279 m_X3_take mk_X3_take ms_X3_take (c_X3_take _ L.rd cr2 rgi) L.rd.a (t := 3) rfl rfl rfl rfl (by decide) (Nat.le_of_ble_eq_true rfl) (by decide) dX8_carryOutOrders_71 (fun z71 h3 rz71 p71 => ?_)
            obtain ⟨k1, k2, -, k3, k4⟩ := p71
            refine Aj.pop C dX8_carryOutOrders_74 rfl ?_
            refine Aj.iinc (al2 := [(2, qi (i + 1)), (1, qi (k + 1)), (3, qi (P i)), (0, qa b)]) C 3 dX8_carryOutOrders_75 rfl (by decide) (by omega) rfl ?_
            refine Aj.goto (tgt := 11) C dX8_carryOutOrders_78 (by decide) ?_
            refine Aj.pick (al2 := [(0, qa b), (1, qi (k + 1)), (2, qi (i + 1))]) [3, 1, 0] rfl ?_
            exact ih11 (k + 1) (i + 1) s3 h3 (⟨⟨by omega, by omega⟩, fun q => ⟨by rw [runD_take hi0.1]; exact k3 (k2.mpr (by have t := nf.1 i.toNat (by omega); rw [show ((i.toNat : Nat) : Int) = i by omega] at t; exact t)), (qk.2.2.1 (by omega)).symm⟩, fun q => qk.2.2.2 (by omega), ⟨by omega, qk.2.1, by omega⟩, runO_s hi3.1 hi4 (by rw [qk.1]; exact q1) (by omega), (q2.fr (fun x y a e => k4 x y (by omega))), (F2.tr (fun x y q => k4 x y (by omega))), ordA_good hi7 q1⟩) (by omega)
          · refine Aj.iload_n C 2 dX8_carryOutOrders_61 rfl ?_
            refine Aj.iret C dX8_carryOutOrders_62 (by rw [hmc]; exact ⟨rfl, Nat.le_of_ble_eq_true rfl⟩) ⟨_, rfl, rfl, ?_⟩
            exact ⟨sx, ⟨⟨hi3.1, hi3.2.1⟩, hi4, Or.inr ⟨_, s3, by rw [qk.1]; exact q1, by omega⟩⟩, by rw [← ordA_neg hi7 q1 (by omega)]; exact q2, hi7, F2⟩
