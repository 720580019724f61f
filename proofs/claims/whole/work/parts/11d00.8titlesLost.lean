set_option maxHeartbeats 400000 in
set_option maxRecDepth 100000 in
theorem c_X8_titlesLost (l : Launch) {G : qG} {n : Int} {r h : qH} {b : Int} {s s2 : Int → Int} (L : LCall G n r b) (c1 : CScore h (b + 1) s) (g : SG s) (g2 : SG s2) (n1 : CNight h (b + 18) s) (n2 : CNight h (b + 49) s2) : q_Cm l G yX8_titlesLost cX8_titlesLost 3 (some .int) 1 23 [qa b] n r h (q_Pi r (fun z h' => h = h' ∧ lostP s s2 z)) 0 0 := by
  refine q_enter (al := [(0, qa b)]) m_X8_titlesLost rfl (Nat.le_of_ble_eq_true rfl) ?_
  intro hok X C hmc hxl hin
  have gn := g.n
  have sl := show_le g
  have sl2 := show_le g2
  refine Aj.iconst C dX8_titlesLost_0 (by decide) ?_
  refine Aj.istore_n (al2 := [(1, qi 0), (0, qa b)]) C dX8_titlesLost_1 (by decide) rfl ?_
  refine Aj.iconst C dX8_titlesLost_2 (by decide) ?_
  refine Aj.istore_n (al2 := [(2, qi 0), (1, qi 0), (0, qa b)]) C dX8_titlesLost_3 (by decide) rfl ?_
  refine Aj.pick (al2 := [(0, qa b), (1, qi 0), (2, qi 0)]) [2, 1, 0] rfl ?_
  suffices L4 : ∀ (N : Nat) (w k : Int) , (0 ≤ k ∧ k ≤ s 5 ∧ q_r32 w ∧ ∀ i : Nat, i < 32 → (bitP w i ↔ (i : Int) < k ∧ shwP s (i : Int) ∧ ¬ shwP s2 (i : Int))) → (s 5 - k).toNat < N → Aj G X (q_Pi r (fun z h' => h = h' ∧ lostP s s2 z)) cX8_titlesLost 3 (0, 0) n r h 4 [(0, qa b), (1, qi w), (2, qi k)] [] from L4 (_ + 1) 0 0 (⟨by omega, by omega, by decide, fun i hi => ⟨fun q => absurd q (bitP_0 i), fun q => by omega⟩⟩) (Nat.lt_succ_self _)
  intro N4
  induction N4 with
  | zero => intro w k _ hN; exact absurd hN (Nat.not_lt_zero _)
  | succ N ih4 =>
    intro w k hI4 hN4
    obtain ⟨hi0, hi1, hiR, hi2⟩ := hI4
    refine Aj.iload_n C 2 dX8_titlesLost_4 rfl ?_
    refine Aj.aload_n C 0 dX8_titlesLost_5 rfl ?_
    refine Aj.getR C lf_RX8_12 rfl L.a L.r0 dX8_titlesLost_6 ?_
    refine Aj.getR C lf_RX8_140 rfl L.sc.a L.sc.r7 dX8_titlesLost_9 ?_
    refine Aj.getIe (z := s 5) C lf_RX8_215 rfl L.sc.ti.a dX8_titlesLost_12 c1.2.2.2.2.2.2.1 ?_
    refine Aj.icmp_ge (tgt := 58) C dX8_titlesLost_15 (by decide) (fun c15 => ?_) (fun c15 => ?_)
    · refine Aj.iload_n C 1 dX8_titlesLost_58 rfl ?_
      refine Aj.iret C dX8_titlesLost_59 (by rw [hmc]; exact ⟨rfl, Nat.le_of_ble_eq_true rfl⟩) ⟨_, rfl, rfl, ?_⟩
      refine ⟨rfl, hiR, fun i hi => ?_⟩
      have e : k = s 5 := by clear hi2; omega
      rw [e] at hi2
      exact hi2 i hi
    · refine Aj.aload_n C 0 dX8_titlesLost_18 rfl ?_
      refine Aj.getR C lf_RX8_19 rfl L.a L.r1 dX8_titlesLost_19 ?_
      refine Aj.getR C lf_RX8_161 rfl L.ni.a L.ni.r5 dX8_titlesLost_22 ?_
      refine Aj.iload_n C 2 dX8_titlesLost_25 rfl ?_
      refine Aj.callVi (As := [qi k]) (st := []) C lm_RX8_170 m_X5_countShownOf mk_X5_countShownOf ms_X5_countShownOf (c_X5_countShownOf _ L.ni.sh n1.2.1 sl n1.2.2) L.ni.sh.a (t := 5) rfl rfl rfl rfl (by decide) (Nat.le_of_ble_eq_true rfl) (by decide) dX8_titlesLost_26 (fun z26 h_1 rz26 p26 => ?_)
      obtain ⟨rfl, pa⟩ := p26
      have pa2 : 0 < z26 ↔ shwP s k := by rw [pa]; exact Iff.rfl
      refine Aj.if_le (tgt := 52) C dX8_titlesLost_29 (by decide) (fun c29 => ?_) (fun c29 => ?_)
      · refine Aj.iinc (al2 := [(2, qi (k + 1)), (0, qa b), (1, qi w)]) C 2 dX8_titlesLost_52 rfl (by decide) (by omega) rfl ?_
        refine Aj.goto (tgt := 4) C dX8_titlesLost_55 (by decide) ?_
        refine Aj.pick (al2 := [(0, qa b), (1, qi w), (2, qi (k + 1))]) [1, 2, 0] rfl ?_
        exact ih4 w (k + 1) (⟨by omega, by omega, hiR, fun i hi => by
          have hs := hi2 i hi
          rw [hs]
          constructor
          · rintro ⟨q1, q2, q3⟩
            exact ⟨by omega, q2, q3⟩
          · rintro ⟨q1, q2, q3⟩
            by_cases q : (i : Int) = k
            · exfalso
              rw [q] at q2 q3
              first
              | (have := pa2.mpr q2; omega)
              | exact q3 (pb2.mp (by omega))
            · exact ⟨by omega, q2, q3⟩⟩) (by clear hi2; omega)
      · refine Aj.aload_n C 0 dX8_titlesLost_32 rfl ?_
        refine Aj.getR C lf_RX8_26 rfl L.a L.r3 dX8_titlesLost_33 ?_
        refine Aj.getR C lf_RX8_161 rfl L.tn.a L.tn.r5 dX8_titlesLost_36 ?_
        refine Aj.iload_n C 2 dX8_titlesLost_39 rfl ?_
        refine Aj.callVi (As := [qi k]) (st := []) C lm_RX8_170 m_X5_countShownOf mk_X5_countShownOf ms_X5_countShownOf (c_X5_countShownOf _ L.tn.sh n2.2.1 sl2 n2.2.2) L.tn.sh.a (t := 5) rfl rfl rfl rfl (by decide) (Nat.le_of_ble_eq_true rfl) (by decide) dX8_titlesLost_40 (fun z40 h_2 rz40 p40 => ?_)
        obtain ⟨rfl, pb⟩ := p40
        have pb2 : 0 < z40 ↔ shwP s2 k := by rw [pb]; exact Iff.rfl
        have pb3 : 0 ≤ z40 := by rw [pb]; exact (shcN_in _ _ _ _).1
        refine Aj.if_ne (tgt := 52) C dX8_titlesLost_43 (by decide) (fun c43 => ?_) (fun c43 => ?_)
        · refine Aj.iinc (al2 := [(2, qi (k + 1)), (0, qa b), (1, qi w)]) C 2 dX8_titlesLost_52 rfl (by decide) (by omega) rfl ?_
          refine Aj.goto (tgt := 4) C dX8_titlesLost_55 (by decide) ?_
          refine Aj.pick (al2 := [(0, qa b), (1, qi w), (2, qi (k + 1))]) [1, 2, 0] rfl ?_
          exact ih4 w (k + 1) (⟨by omega, by omega, hiR, fun i hi => by
            have hs := hi2 i hi
            rw [hs]
            constructor
            · rintro ⟨q1, q2, q3⟩
              exact ⟨by omega, q2, q3⟩
            · rintro ⟨q1, q2, q3⟩
              by_cases q : (i : Int) = k
              · exfalso
                rw [q] at q2 q3
                first
                | (have := pa2.mpr q2; omega)
                | exact q3 (pb2.mp (by omega))
              · exact ⟨by omega, q2, q3⟩⟩) (by clear hi2; omega)
        · refine Aj.iload_n C 1 dX8_titlesLost_46 rfl ?_
          refine Aj.iconst C dX8_titlesLost_47 (by decide) ?_
          refine Aj.iload_n C 2 dX8_titlesLost_48 rfl ?_
          refine Aj.ishl C dX8_titlesLost_49 ?_
          refine Aj.ior C dX8_titlesLost_50 ?_
          refine Aj.istore_n (al2 := [(1, qi (b_or w (b_shl 1 k))), (0, qa b), (2, qi k)]) C dX8_titlesLost_51 (by decide) rfl ?_
          refine Aj.iinc (al2 := [(2, qi (k + 1)), (1, qi (b_or w (b_shl 1 k))), (0, qa b)]) C 2 dX8_titlesLost_52 rfl (by decide) (by omega) rfl ?_
          refine Aj.goto (tgt := 4) C dX8_titlesLost_55 (by decide) ?_
          refine Aj.pick (al2 := [(0, qa b), (1, qi (b_or w (b_shl 1 k))), (2, qi (k + 1))]) [2, 1, 0] rfl ?_
          exact ih4 (b_or w (b_shl 1 k)) (k + 1) (⟨by omega, by omega, q_rI _, fun i hi => by
            have hs := hi2 i hi
            rw [bitP_or, bitP_shl (by omega) hi, hs]
            constructor
            · rintro (⟨q1, q2, q3⟩ | q)
              · exact ⟨by omega, q2, q3⟩
              · exact ⟨by omega, by rw [q]; exact pa2.mp (by omega), by rw [q]; exact fun w => by have := pb2.mpr w; omega⟩
            · rintro ⟨q1, q2, q3⟩
              by_cases q : (i : Int) = k
              · exact Or.inr q
              · exact Or.inl ⟨by omega, q2, q3⟩⟩) (by clear hi2; omega)
