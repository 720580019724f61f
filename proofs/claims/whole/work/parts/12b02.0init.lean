set_option maxHeartbeats 1000000 in
set_option maxRecDepth 100000 in
theorem c_X0_init (l : Launch) {G : qG} {n : Int} {r h : qH} {p : Int} (hn : n = p + 1) (hb : (G.1 : Int) ≤ p) (SH : SHist G p) (zf : ZF n r h) : q_Cm l G yX0_init cX0_init 2 none 3 62 [qa p] n r h (q_Pn (fun r' h' => LHist G (p + 121) r' p ∧ ZF (p + 121) r' h' ∧ (∀ a b, a < p → r' a b = r a b) ∧ ∀ a b, (a < p + 2 ∨ p + 121 ≤ a) → h' a b = h a b)) 120 1715 := by
  refine q_enter (al := [(0, qa p)]) m_X0_init rfl (Nat.le_of_ble_eq_true rfl) ?_
  intro hok X C hmc hxl hin
  subst hn
  have sh0 : SScore G (p + 2) := by have q := SH.2.2 0 (by decide) (by decide); rw [show p + 2 + 17 * 0 = p + 2 by omega] at q; exact q
  have sh1 : SScore G (p + 19) := by have q := SH.2.2 1 (by decide) (by decide); rw [show p + 2 + 17 * 1 = p + 19 by omega] at q; exact q
  have sh2 : SScore G (p + 36) := by have q := SH.2.2 2 (by decide) (by decide); rw [show p + 2 + 17 * 2 = p + 36 by omega] at q; exact q
  have sh3 : SScore G (p + 53) := by have q := SH.2.2 3 (by decide) (by decide); rw [show p + 2 + 17 * 3 = p + 53 by omega] at q; exact q
  have sh4 : SScore G (p + 70) := by have q := SH.2.2 4 (by decide) (by decide); rw [show p + 2 + 17 * 4 = p + 70 by omega] at q; exact q
  have sh5 : SScore G (p + 87) := by have q := SH.2.2 5 (by decide) (by decide); rw [show p + 2 + 17 * 5 = p + 87 by omega] at q; exact q
  have sh6 : SScore G (p + 104) := by have q := SH.2.2 6 (by decide) (by decide); rw [show p + 2 + 17 * 6 = p + 104 by omega] at q; exact q
  refine Aj.aload_n C 0 dX0_init_0 rfl ?_
  refine Aj.objInit C lm_RX0_3 (al_mk (SH.1) (by omega) (by omega) (by decide)) ⟨Nat.le_of_ble_eq_true rfl, Nat.le_of_ble_eq_true rfl⟩ dX0_init_1 ?_
  refine Aj.aload_n C 0 dX0_init_4 rfl ?_
  refine Aj.bipush C dX0_init_5 (by decide) (by decide) ?_
  refine Aj.newaR C (by decide) (by decide) lc_RX0_11 SH.2.1 (fun b => zf _ b (by omega)) (by decide) dX0_init_7 ?_
  rw [show p + 1 + 1 = p + 2 by omega]
  have zf_1 := ZF.up (m := p + 2) zf (by omega)
  refine Aj.putR C lf_RX0_13 rfl (al_mk (SH.1) (by omega) (by omega) (by decide)) (hin rfl) rfl dX0_init_10 (fun r_2 er_2 => ?_)
  have zf_3 := ZF.r zf_1 er_2 (by omega)
  refine Aj.iconst C dX0_init_13 (by decide) ?_
  refine Aj.istore_n (al2 := [(1, qi 0), (0, qa p)]) C dX0_init_14 (by decide) rfl ?_
  refine Aj.iload_n C 0 dX0_init_15 rfl ?_
  refine Aj.bipush C dX0_init_16 (by decide) (by decide) ?_
  refine Aj.icmp_ge (tgt := 40) C dX0_init_18 (by decide) (fun c18 => ?_) (fun c18 => ?_)
  · exact absurd c18 (by decide)
  · refine Aj.aload_n C 1 dX0_init_21 rfl ?_
    refine Aj.getR (z := p + 1) C lf_RX0_13 rfl (al_mk (SH.1) (by omega) (by omega) (by decide)) (by rw [er_2]; exact hset_same _ _ _ _) dX0_init_22 ?_
    refine Aj.iload_n C 0 dX0_init_25 rfl ?_
    refine Aj.new C lc_RX0_11 lk_RX4 li_RX4 (t := 4) rfl (by first | exact sh0.1 | exact sh1.1 | exact sh2.1 | exact sh3.1 | exact sh4.1 | exact sh5.1 | exact sh6.1) (by decide) (fun b => zf_3 _ b (by omega)) (by decide) dX0_init_26 ?_
    rw [show p + 2 + 1 = p + 3 by omega]
    have zf_4 := ZF.up (m := p + 3) zf_3 (by omega)
    refine Aj.dup_qa C dX0_init_29 ?_
    refine Aj.callIn (As := []) (st := [qa (p + 2), qi 0, qa (p + 1)]) C lm_RX0_17 m_X4_init mk_X4_init rfl (c_X4_init _ (p := p + 2) (by omega) (by omega) sh0 zf_4) (al_mk (sh0.1) (by omega) (by omega) (by decide)) rfl rfl (by decide) (Nat.le_of_ble_eq_true rfl) (by decide) dX0_init_30 (fun r_6 h_5 p30 => ?_)
    obtain ⟨lsi0, csi0, zsi0, rsi0, hsi0⟩ := p30
    refine Aj.nc (m := p + 19) (cs2 := (18, 251)) (by omega) rfl ?_
    have zsi0 := ZF.up (m := p + 19) zsi0 (by omega)
    refine Aj.aast C (al_mk (SH.2.1) (by omega) (by omega) (by decide)) (al_mk (sh0.1) (by omega) (by omega) (by decide)) (by omega) dX0_init_33 (fun r_7 er_7 => ?_)
    have zf_8 := ZF.r zsi0 er_7 (by omega)
    refine Aj.iinc (al2 := [(1, qi 1), (0, qa p)]) C 0 dX0_init_34 rfl (by decide) (by omega) rfl ?_
    refine Aj.goto (tgt := 15) C dX0_init_37 (by decide) ?_
    refine Aj.iload_n C 0 dX0_init_15 rfl ?_
    refine Aj.bipush C dX0_init_16 (by decide) (by decide) ?_
    refine Aj.icmp_ge (tgt := 40) C dX0_init_18 (by decide) (fun c18 => ?_) (fun c18 => ?_)
    · exact absurd c18 (by decide)
    · refine Aj.aload_n C 1 dX0_init_21 rfl ?_
      refine Aj.getR (z := p + 1) C lf_RX0_13 rfl (al_mk (SH.1) (by omega) (by omega) (by decide)) (by rw [er_7, hset_nea _ _ _ (by omega), rsi0 _ _ (by omega), er_2]; exact hset_same _ _ _ _) dX0_init_22 ?_
      refine Aj.iload_n C 0 dX0_init_25 rfl ?_
      refine Aj.new C lc_RX0_11 lk_RX4 li_RX4 (t := 4) rfl (by first | exact sh0.1 | exact sh1.1 | exact sh2.1 | exact sh3.1 | exact sh4.1 | exact sh5.1 | exact sh6.1) (by decide) (fun b => zf_8 _ b (by omega)) (by decide) dX0_init_26 ?_
      rw [show p + 19 + 1 = p + 20 by omega]
      have zf_9 := ZF.up (m := p + 20) zf_8 (by omega)
      refine Aj.dup_qa C dX0_init_29 ?_
      refine Aj.callIn (As := []) (st := [qa (p + 19), qi 1, qa (p + 1)]) C lm_RX0_17 m_X4_init mk_X4_init rfl (c_X4_init _ (p := p + 19) (by omega) (by omega) sh1 zf_9) (al_mk (sh1.1) (by omega) (by omega) (by decide)) rfl rfl (by decide) (Nat.le_of_ble_eq_true rfl) (by decide) dX0_init_30 (fun r_11 h_10 p30 => ?_)
      obtain ⟨lsi1, csi1, zsi1, rsi1, hsi1⟩ := p30
      refine Aj.nc (m := p + 36) (cs2 := (35, 495)) (by omega) rfl ?_
      have zsi1 := ZF.up (m := p + 36) zsi1 (by omega)
      refine Aj.aast C (al_mk (SH.2.1) (by omega) (by omega) (by decide)) (al_mk (sh1.1) (by omega) (by omega) (by decide)) (by omega) dX0_init_33 (fun r_12 er_12 => ?_)
      have zf_13 := ZF.r zsi1 er_12 (by omega)
      refine Aj.iinc (al2 := [(1, qi 2), (0, qa p)]) C 0 dX0_init_34 rfl (by decide) (by omega) rfl ?_
      refine Aj.goto (tgt := 15) C dX0_init_37 (by decide) ?_
      refine Aj.iload_n C 0 dX0_init_15 rfl ?_
      refine Aj.bipush C dX0_init_16 (by decide) (by decide) ?_
      refine Aj.icmp_ge (tgt := 40) C dX0_init_18 (by decide) (fun c18 => ?_) (fun c18 => ?_)
      · exact absurd c18 (by decide)
      · refine Aj.aload_n C 1 dX0_init_21 rfl ?_
        refine Aj.getR (z := p + 1) C lf_RX0_13 rfl (al_mk (SH.1) (by omega) (by omega) (by decide)) (by rw [er_12, hset_nea _ _ _ (by omega), rsi1 _ _ (by omega), er_7, hset_nea _ _ _ (by omega), rsi0 _ _ (by omega), er_2]; exact hset_same _ _ _ _) dX0_init_22 ?_
        refine Aj.iload_n C 0 dX0_init_25 rfl ?_
        refine Aj.new C lc_RX0_11 lk_RX4 li_RX4 (t := 4) rfl (by first | exact sh0.1 | exact sh1.1 | exact sh2.1 | exact sh3.1 | exact sh4.1 | exact sh5.1 | exact sh6.1) (by decide) (fun b => zf_13 _ b (by omega)) (by decide) dX0_init_26 ?_
        rw [show p + 36 + 1 = p + 37 by omega]
        have zf_14 := ZF.up (m := p + 37) zf_13 (by omega)
        refine Aj.dup_qa C dX0_init_29 ?_
        refine Aj.callIn (As := []) (st := [qa (p + 36), qi 2, qa (p + 1)]) C lm_RX0_17 m_X4_init mk_X4_init rfl (c_X4_init _ (p := p + 36) (by omega) (by omega) sh2 zf_14) (al_mk (sh2.1) (by omega) (by omega) (by decide)) rfl rfl (by decide) (Nat.le_of_ble_eq_true rfl) (by decide) dX0_init_30 (fun r_16 h_15 p30 => ?_)
        obtain ⟨lsi2, csi2, zsi2, rsi2, hsi2⟩ := p30
        refine Aj.nc (m := p + 53) (cs2 := (52, 739)) (by omega) rfl ?_
        have zsi2 := ZF.up (m := p + 53) zsi2 (by omega)
        refine Aj.aast C (al_mk (SH.2.1) (by omega) (by omega) (by decide)) (al_mk (sh2.1) (by omega) (by omega) (by decide)) (by omega) dX0_init_33 (fun r_17 er_17 => ?_)
        have zf_18 := ZF.r zsi2 er_17 (by omega)
        refine Aj.iinc (al2 := [(1, qi 3), (0, qa p)]) C 0 dX0_init_34 rfl (by decide) (by omega) rfl ?_
        refine Aj.goto (tgt := 15) C dX0_init_37 (by decide) ?_
        refine Aj.iload_n C 0 dX0_init_15 rfl ?_
        refine Aj.bipush C dX0_init_16 (by decide) (by decide) ?_
        refine Aj.icmp_ge (tgt := 40) C dX0_init_18 (by decide) (fun c18 => ?_) (fun c18 => ?_)
        · exact absurd c18 (by decide)
        · refine Aj.aload_n C 1 dX0_init_21 rfl ?_
          refine Aj.getR (z := p + 1) C lf_RX0_13 rfl (al_mk (SH.1) (by omega) (by omega) (by decide)) (by rw [er_17, hset_nea _ _ _ (by omega), rsi2 _ _ (by omega), er_12, hset_nea _ _ _ (by omega), rsi1 _ _ (by omega), er_7, hset_nea _ _ _ (by omega), rsi0 _ _ (by omega), er_2]; exact hset_same _ _ _ _) dX0_init_22 ?_
          refine Aj.iload_n C 0 dX0_init_25 rfl ?_
          refine Aj.new C lc_RX0_11 lk_RX4 li_RX4 (t := 4) rfl (by first | exact sh0.1 | exact sh1.1 | exact sh2.1 | exact sh3.1 | exact sh4.1 | exact sh5.1 | exact sh6.1) (by decide) (fun b => zf_18 _ b (by omega)) (by decide) dX0_init_26 ?_
          rw [show p + 53 + 1 = p + 54 by omega]
          have zf_19 := ZF.up (m := p + 54) zf_18 (by omega)
          refine Aj.dup_qa C dX0_init_29 ?_
          refine Aj.callIn (As := []) (st := [qa (p + 53), qi 3, qa (p + 1)]) C lm_RX0_17 m_X4_init mk_X4_init rfl (c_X4_init _ (p := p + 53) (by omega) (by omega) sh3 zf_19) (al_mk (sh3.1) (by omega) (by omega) (by decide)) rfl rfl (by decide) (Nat.le_of_ble_eq_true rfl) (by decide) dX0_init_30 (fun r_21 h_20 p30 => ?_)
          obtain ⟨lsi3, csi3, zsi3, rsi3, hsi3⟩ := p30
          refine Aj.nc (m := p + 70) (cs2 := (69, 983)) (by omega) rfl ?_
          have zsi3 := ZF.up (m := p + 70) zsi3 (by omega)
          refine Aj.aast C (al_mk (SH.2.1) (by omega) (by omega) (by decide)) (al_mk (sh3.1) (by omega) (by omega) (by decide)) (by omega) dX0_init_33 (fun r_22 er_22 => ?_)
          have zf_23 := ZF.r zsi3 er_22 (by omega)
          refine Aj.iinc (al2 := [(1, qi 4), (0, qa p)]) C 0 dX0_init_34 rfl (by decide) (by omega) rfl ?_
          refine Aj.goto (tgt := 15) C dX0_init_37 (by decide) ?_
          refine Aj.iload_n C 0 dX0_init_15 rfl ?_
          refine Aj.bipush C dX0_init_16 (by decide) (by decide) ?_
          refine Aj.icmp_ge (tgt := 40) C dX0_init_18 (by decide) (fun c18 => ?_) (fun c18 => ?_)
          · exact absurd c18 (by decide)
          · refine Aj.aload_n C 1 dX0_init_21 rfl ?_
            refine Aj.getR (z := p + 1) C lf_RX0_13 rfl (al_mk (SH.1) (by omega) (by omega) (by decide)) (by rw [er_22, hset_nea _ _ _ (by omega), rsi3 _ _ (by omega), er_17, hset_nea _ _ _ (by omega), rsi2 _ _ (by omega), er_12, hset_nea _ _ _ (by omega), rsi1 _ _ (by omega), er_7, hset_nea _ _ _ (by omega), rsi0 _ _ (by omega), er_2]; exact hset_same _ _ _ _) dX0_init_22 ?_
            refine Aj.iload_n C 0 dX0_init_25 rfl ?_
            refine Aj.new C lc_RX0_11 lk_RX4 li_RX4 (t := 4) rfl (by first | exact sh0.1 | exact sh1.1 | exact sh2.1 | exact sh3.1 | exact sh4.1 | exact sh5.1 | exact sh6.1) (by decide) (fun b => zf_23 _ b (by omega)) (by decide) dX0_init_26 ?_
            rw [show p + 70 + 1 = p + 71 by omega]
            have zf_24 := ZF.up (m := p + 71) zf_23 (by omega)
            refine Aj.dup_qa C dX0_init_29 ?_
            refine Aj.callIn (As := []) (st := [qa (p + 70), qi 4, qa (p + 1)]) C lm_RX0_17 m_X4_init mk_X4_init rfl (c_X4_init _ (p := p + 70) (by omega) (by omega) sh4 zf_24) (al_mk (sh4.1) (by omega) (by omega) (by decide)) rfl rfl (by decide) (Nat.le_of_ble_eq_true rfl) (by decide) dX0_init_30 (fun r_26 h_25 p30 => ?_)
            obtain ⟨lsi4, csi4, zsi4, rsi4, hsi4⟩ := p30
            refine Aj.nc (m := p + 87) (cs2 := (86, 1227)) (by omega) rfl ?_
            have zsi4 := ZF.up (m := p + 87) zsi4 (by omega)
            refine Aj.aast C (al_mk (SH.2.1) (by omega) (by omega) (by decide)) (al_mk (sh4.1) (by omega) (by omega) (by decide)) (by omega) dX0_init_33 (fun r_27 er_27 => ?_)
            have zf_28 := ZF.r zsi4 er_27 (by omega)
            refine Aj.iinc (al2 := [(1, qi 5), (0, qa p)]) C 0 dX0_init_34 rfl (by decide) (by omega) rfl ?_
            refine Aj.goto (tgt := 15) C dX0_init_37 (by decide) ?_
            refine Aj.iload_n C 0 dX0_init_15 rfl ?_
            refine Aj.bipush C dX0_init_16 (by decide) (by decide) ?_
            refine Aj.icmp_ge (tgt := 40) C dX0_init_18 (by decide) (fun c18 => ?_) (fun c18 => ?_)
            · exact absurd c18 (by decide)
            · refine Aj.aload_n C 1 dX0_init_21 rfl ?_
              refine Aj.getR (z := p + 1) C lf_RX0_13 rfl (al_mk (SH.1) (by omega) (by omega) (by decide)) (by rw [er_27, hset_nea _ _ _ (by omega), rsi4 _ _ (by omega), er_22, hset_nea _ _ _ (by omega), rsi3 _ _ (by omega), er_17, hset_nea _ _ _ (by omega), rsi2 _ _ (by omega), er_12, hset_nea _ _ _ (by omega), rsi1 _ _ (by omega), er_7, hset_nea _ _ _ (by omega), rsi0 _ _ (by omega), er_2]; exact hset_same _ _ _ _) dX0_init_22 ?_
              refine Aj.iload_n C 0 dX0_init_25 rfl ?_
              refine Aj.new C lc_RX0_11 lk_RX4 li_RX4 (t := 4) rfl (by first | exact sh0.1 | exact sh1.1 | exact sh2.1 | exact sh3.1 | exact sh4.1 | exact sh5.1 | exact sh6.1) (by decide) (fun b => zf_28 _ b (by omega)) (by decide) dX0_init_26 ?_
              rw [show p + 87 + 1 = p + 88 by omega]
              have zf_29 := ZF.up (m := p + 88) zf_28 (by omega)
              refine Aj.dup_qa C dX0_init_29 ?_
              refine Aj.callIn (As := []) (st := [qa (p + 87), qi 5, qa (p + 1)]) C lm_RX0_17 m_X4_init mk_X4_init rfl (c_X4_init _ (p := p + 87) (by omega) (by omega) sh5 zf_29) (al_mk (sh5.1) (by omega) (by omega) (by decide)) rfl rfl (by decide) (Nat.le_of_ble_eq_true rfl) (by decide) dX0_init_30 (fun r_31 h_30 p30 => ?_)
              obtain ⟨lsi5, csi5, zsi5, rsi5, hsi5⟩ := p30
              refine Aj.nc (m := p + 104) (cs2 := (103, 1471)) (by omega) rfl ?_
              have zsi5 := ZF.up (m := p + 104) zsi5 (by omega)
              refine Aj.aast C (al_mk (SH.2.1) (by omega) (by omega) (by decide)) (al_mk (sh5.1) (by omega) (by omega) (by decide)) (by omega) dX0_init_33 (fun r_32 er_32 => ?_)
              have zf_33 := ZF.r zsi5 er_32 (by omega)
              refine Aj.iinc (al2 := [(1, qi 6), (0, qa p)]) C 0 dX0_init_34 rfl (by decide) (by omega) rfl ?_
              refine Aj.goto (tgt := 15) C dX0_init_37 (by decide) ?_
              refine Aj.iload_n C 0 dX0_init_15 rfl ?_
              refine Aj.bipush C dX0_init_16 (by decide) (by decide) ?_
              refine Aj.icmp_ge (tgt := 40) C dX0_init_18 (by decide) (fun c18 => ?_) (fun c18 => ?_)
              · exact absurd c18 (by decide)
              · refine Aj.aload_n C 1 dX0_init_21 rfl ?_
                refine Aj.getR (z := p + 1) C lf_RX0_13 rfl (al_mk (SH.1) (by omega) (by omega) (by decide)) (by rw [er_32, hset_nea _ _ _ (by omega), rsi5 _ _ (by omega), er_27, hset_nea _ _ _ (by omega), rsi4 _ _ (by omega), er_22, hset_nea _ _ _ (by omega), rsi3 _ _ (by omega), er_17, hset_nea _ _ _ (by omega), rsi2 _ _ (by omega), er_12, hset_nea _ _ _ (by omega), rsi1 _ _ (by omega), er_7, hset_nea _ _ _ (by omega), rsi0 _ _ (by omega), er_2]; exact hset_same _ _ _ _) dX0_init_22 ?_
                refine Aj.iload_n C 0 dX0_init_25 rfl ?_
                refine Aj.new C lc_RX0_11 lk_RX4 li_RX4 (t := 4) rfl (by first | exact sh0.1 | exact sh1.1 | exact sh2.1 | exact sh3.1 | exact sh4.1 | exact sh5.1 | exact sh6.1) (by decide) (fun b => zf_33 _ b (by omega)) (by decide) dX0_init_26 ?_
                rw [show p + 104 + 1 = p + 105 by omega]
                have zf_34 := ZF.up (m := p + 105) zf_33 (by omega)
                refine Aj.dup_qa C dX0_init_29 ?_
                refine Aj.callIn (As := []) (st := [qa (p + 104), qi 6, qa (p + 1)]) C lm_RX0_17 m_X4_init mk_X4_init rfl (c_X4_init _ (p := p + 104) (by omega) (by omega) sh6 zf_34) (al_mk (sh6.1) (by omega) (by omega) (by decide)) rfl rfl (by decide) (Nat.le_of_ble_eq_true rfl) (by decide) dX0_init_30 (fun r_36 h_35 p30 => ?_)
                obtain ⟨lsi6, csi6, zsi6, rsi6, hsi6⟩ := p30
                refine Aj.nc (m := p + 121) (cs2 := (120, 1715)) (by omega) rfl ?_
                have zsi6 := ZF.up (m := p + 121) zsi6 (by omega)
                refine Aj.aast C (al_mk (SH.2.1) (by omega) (by omega) (by decide)) (al_mk (sh6.1) (by omega) (by omega) (by decide)) (by omega) dX0_init_33 (fun r_37 er_37 => ?_)
                have zf_38 := ZF.r zsi6 er_37 (by omega)
                refine Aj.iinc (al2 := [(1, qi 7), (0, qa p)]) C 0 dX0_init_34 rfl (by decide) (by omega) rfl ?_
                refine Aj.goto (tgt := 15) C dX0_init_37 (by decide) ?_
                refine Aj.iload_n C 0 dX0_init_15 rfl ?_
                refine Aj.bipush C dX0_init_16 (by decide) (by decide) ?_
                refine Aj.icmp_ge (tgt := 40) C dX0_init_18 (by decide) (fun c18 => ?_) (fun c18 => ?_)
                · refine Aj.vret C dX0_init_40 (by rw [hmc]; exact ⟨rfl, Nat.le_of_ble_eq_true rfl⟩) ⟨rfl, ?_⟩
                  refine ⟨⟨(al_mk (SH.1) (by omega) (by omega) (by decide)), (al_mk (SH.2.1) (by omega) (by omega) (by decide)), (by rw [er_37, hset_nea _ _ _ (by omega), rsi6 _ _ (by omega), er_32, hset_nea _ _ _ (by omega), rsi5 _ _ (by omega), er_27, hset_nea _ _ _ (by omega), rsi4 _ _ (by omega), er_22, hset_nea _ _ _ (by omega), rsi3 _ _ (by omega), er_17, hset_nea _ _ _ (by omega), rsi2 _ _ (by omega), er_12, hset_nea _ _ _ (by omega), rsi1 _ _ (by omega), er_7, hset_nea _ _ _ (by omega), rsi0 _ _ (by omega), er_2]; exact hset_same _ _ _ _), fun i i0 i1 => ?_⟩, zf_38, fun a k w => by rw [er_37, hset_nea _ _ _ (by omega), rsi6 _ _ (by omega), er_32, hset_nea _ _ _ (by omega), rsi5 _ _ (by omega), er_27, hset_nea _ _ _ (by omega), rsi4 _ _ (by omega), er_22, hset_nea _ _ _ (by omega), rsi3 _ _ (by omega), er_17, hset_nea _ _ _ (by omega), rsi2 _ _ (by omega), er_12, hset_nea _ _ _ (by omega), rsi1 _ _ (by omega), er_7, hset_nea _ _ _ (by omega), rsi0 _ _ (by omega), er_2, hset_nea _ _ _ (by omega)], fun a k w => by rw [hsi6 _ _ (by omega), hsi5 _ _ (by omega), hsi4 _ _ (by omega), hsi3 _ _ (by omega), hsi2 _ _ (by omega), hsi1 _ _ (by omega), hsi0 _ _ (by omega)]⟩
                  rcases (show i = 0 ∨ i = 1 ∨ i = 2 ∨ i = 3 ∨ i = 4 ∨ i = 5 ∨ i = 6 by omega) with rfl | rfl | rfl | rfl | rfl | rfl | rfl
                  · rw [show p + 2 + 17 * 0 = p + 2 by omega]
                    exact ⟨(by rw [er_37, hset_neb _ _ _ (by decide), rsi6 _ _ (by omega), er_32, hset_neb _ _ _ (by decide), rsi5 _ _ (by omega), er_27, hset_neb _ _ _ (by decide), rsi4 _ _ (by omega), er_22, hset_neb _ _ _ (by decide), rsi3 _ _ (by omega), er_17, hset_neb _ _ _ (by decide), rsi2 _ _ (by omega), er_12, hset_neb _ _ _ (by decide), rsi1 _ _ (by omega), er_7]; exact hset_same _ _ _ _), lsi0.mv (by omega) (fun a k h1 h2 => by rw [er_37, hset_nea _ _ _ (by omega), rsi6 _ _ (by omega), er_32, hset_nea _ _ _ (by omega), rsi5 _ _ (by omega), er_27, hset_nea _ _ _ (by omega), rsi4 _ _ (by omega), er_22, hset_nea _ _ _ (by omega), rsi3 _ _ (by omega), er_17, hset_nea _ _ _ (by omega), rsi2 _ _ (by omega), er_12, hset_nea _ _ _ (by omega), rsi1 _ _ (by omega), er_7, hset_nea _ _ _ (by omega)])⟩
                  · rw [show p + 2 + 17 * 1 = p + 19 by omega]
                    exact ⟨(by rw [er_37, hset_neb _ _ _ (by decide), rsi6 _ _ (by omega), er_32, hset_neb _ _ _ (by decide), rsi5 _ _ (by omega), er_27, hset_neb _ _ _ (by decide), rsi4 _ _ (by omega), er_22, hset_neb _ _ _ (by decide), rsi3 _ _ (by omega), er_17, hset_neb _ _ _ (by decide), rsi2 _ _ (by omega), er_12]; exact hset_same _ _ _ _), lsi1.mv (by omega) (fun a k h1 h2 => by rw [er_37, hset_nea _ _ _ (by omega), rsi6 _ _ (by omega), er_32, hset_nea _ _ _ (by omega), rsi5 _ _ (by omega), er_27, hset_nea _ _ _ (by omega), rsi4 _ _ (by omega), er_22, hset_nea _ _ _ (by omega), rsi3 _ _ (by omega), er_17, hset_nea _ _ _ (by omega), rsi2 _ _ (by omega), er_12, hset_nea _ _ _ (by omega)])⟩
                  · rw [show p + 2 + 17 * 2 = p + 36 by omega]
                    exact ⟨(by rw [er_37, hset_neb _ _ _ (by decide), rsi6 _ _ (by omega), er_32, hset_neb _ _ _ (by decide), rsi5 _ _ (by omega), er_27, hset_neb _ _ _ (by decide), rsi4 _ _ (by omega), er_22, hset_neb _ _ _ (by decide), rsi3 _ _ (by omega), er_17]; exact hset_same _ _ _ _), lsi2.mv (by omega) (fun a k h1 h2 => by rw [er_37, hset_nea _ _ _ (by omega), rsi6 _ _ (by omega), er_32, hset_nea _ _ _ (by omega), rsi5 _ _ (by omega), er_27, hset_nea _ _ _ (by omega), rsi4 _ _ (by omega), er_22, hset_nea _ _ _ (by omega), rsi3 _ _ (by omega), er_17, hset_nea _ _ _ (by omega)])⟩
                  · rw [show p + 2 + 17 * 3 = p + 53 by omega]
                    exact ⟨(by rw [er_37, hset_neb _ _ _ (by decide), rsi6 _ _ (by omega), er_32, hset_neb _ _ _ (by decide), rsi5 _ _ (by omega), er_27, hset_neb _ _ _ (by decide), rsi4 _ _ (by omega), er_22]; exact hset_same _ _ _ _), lsi3.mv (by omega) (fun a k h1 h2 => by rw [er_37, hset_nea _ _ _ (by omega), rsi6 _ _ (by omega), er_32, hset_nea _ _ _ (by omega), rsi5 _ _ (by omega), er_27, hset_nea _ _ _ (by omega), rsi4 _ _ (by omega), er_22, hset_nea _ _ _ (by omega)])⟩
                  · rw [show p + 2 + 17 * 4 = p + 70 by omega]
                    exact ⟨(by rw [er_37, hset_neb _ _ _ (by decide), rsi6 _ _ (by omega), er_32, hset_neb _ _ _ (by decide), rsi5 _ _ (by omega), er_27]; exact hset_same _ _ _ _), lsi4.mv (by omega) (fun a k h1 h2 => by rw [er_37, hset_nea _ _ _ (by omega), rsi6 _ _ (by omega), er_32, hset_nea _ _ _ (by omega), rsi5 _ _ (by omega), er_27, hset_nea _ _ _ (by omega)])⟩
                  · rw [show p + 2 + 17 * 5 = p + 87 by omega]
                    exact ⟨(by rw [er_37, hset_neb _ _ _ (by decide), rsi6 _ _ (by omega), er_32]; exact hset_same _ _ _ _), lsi5.mv (by omega) (fun a k h1 h2 => by rw [er_37, hset_nea _ _ _ (by omega), rsi6 _ _ (by omega), er_32, hset_nea _ _ _ (by omega)])⟩
                  · rw [show p + 2 + 17 * 6 = p + 104 by omega]
                    exact ⟨(by rw [er_37]; exact hset_same _ _ _ _), lsi6.mv (by omega) (fun a k h1 h2 => by rw [er_37, hset_nea _ _ _ (by omega)])⟩
                · exact absurd c18 (by decide)
