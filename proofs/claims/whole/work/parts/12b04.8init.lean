set_option maxHeartbeats 1000000 in
set_option maxRecDepth 100000 in
theorem c_X8_init (l : Launch) {G : qG} {n : Int} {r h : qH} {p : Int} (hn : n = p + 1) (hb : (G.1 : Int) ≤ p) (SH : SCall G p) (zf : ZF n r h) : q_Cm l G yX8_init cX8_init 2 none 5 111 [qa p] n r h (q_Pn (fun r' h' => LCall G (p + 224) r' p ∧ I8 h' p st0 ∧ ZF (p + 224) r' h' ∧ (∀ a b, a < p → r' a b = r a b) ∧ ∀ a b, a < p → h' a b = h a b)) 223 4219 := by
  refine q_enter (al := [(0, qa p)]) m_X8_init rfl (Nat.le_of_ble_eq_true rfl) ?_
  intro hok X C hmc hxl hin
  have zf0 := zf
  subst hn
  refine Aj.aload_n C 0 dX8_init_0 rfl ?_
  refine Aj.objInit C lm_RX8_3 (al_mk (SH.1) (by omega) (by omega) (by decide)) ⟨Nat.le_of_ble_eq_true rfl, Nat.le_of_ble_eq_true rfl⟩ dX8_init_1 ?_
  refine Aj.aload_n C 0 dX8_init_4 rfl ?_
  refine Aj.new C lc_RX8_9 lk_RX4 li_RX4 (t := 4) rfl SH.2.1.1 (by decide) (fun b => zf _ b (by omega)) (by decide) dX8_init_5 ?_
  rw [show p + 1 + 1 = p + 2 by omega]
  have zf_1 := ZF.up (m := p + 2) zf (by omega)
  refine Aj.dup_qa C dX8_init_8 ?_
  refine Aj.callIn (As := []) (st := [qa (p + 1), qa p]) C lm_RX8_11 m_X4_init mk_X4_init rfl (c_X4_init _ (p := p + 1) (by omega) (by omega) SH.2.1 zf_1) (al_mk (SH.2.1.1) (by omega) (by omega) (by decide)) rfl rfl (by decide) (Nat.le_of_ble_eq_true rfl) (by decide) dX8_init_9 (fun r_3 h_2 p9 => ?_)
  obtain ⟨ls1, cs1, zs1, rs1, hs1⟩ := p9
  refine Aj.nc (m := p + 18) (cs2 := (17, 244)) (by omega) rfl ?_
  have zs1 := ZF.up (m := p + 18) zs1 (by omega)
  refine Aj.putR C lf_RX8_12 rfl (al_mk (SH.1) (by omega) (by omega) (by decide)) (hin rfl) rfl dX8_init_12 (fun r_4 er_4 => ?_)
  have zf_5 := ZF.r zs1 er_4 (by omega)
  refine Aj.aload_n C 0 dX8_init_15 rfl ?_
  refine Aj.new C lc_RX8_16 lk_RX1 li_RX1 (t := 1) rfl SH.2.2.1.1 (by decide) (fun b => zf_5 _ b (by omega)) (by decide) dX8_init_16 ?_
  rw [show p + 18 + 1 = p + 19 by omega]
  have zf_6 := ZF.up (m := p + 19) zf_5 (by omega)
  refine Aj.dup_qa C dX8_init_19 ?_
  refine Aj.callIn (As := []) (st := [qa (p + 18), qa p]) C lm_RX8_18 m_X1_init mk_X1_init rfl (c_X1_init _ (p := p + 18) (by omega) (by omega) SH.2.2.1 zf_6) (al_mk (SH.2.2.1.1) (by omega) (by omega) (by decide)) rfl rfl (by decide) (Nat.le_of_ble_eq_true rfl) (by decide) dX8_init_20 (fun r_8 h_7 p20 => ?_)
  obtain ⟨rfl, ls18, zs18, rs18⟩ := p20
  refine Aj.nc (m := p + 32) (cs2 := (31, 960)) (by omega) rfl ?_
  have zs18 := ZF.up (m := p + 32) zs18 (by omega)
  refine Aj.putR C lf_RX8_19 rfl (al_mk (SH.1) (by omega) (by omega) (by decide)) (hin rfl) rfl dX8_init_23 (fun r_9 er_9 => ?_)
  have zf_10 := ZF.r zs18 er_9 (by omega)
  refine Aj.aload_n C 0 dX8_init_26 rfl ?_
  refine Aj.new C lc_RX8_9 lk_RX4 li_RX4 (t := 4) rfl SH.2.2.2.1.1 (by decide) (fun b => zf_10 _ b (by omega)) (by decide) dX8_init_27 ?_
  rw [show p + 32 + 1 = p + 33 by omega]
  have zf_11 := ZF.up (m := p + 33) zf_10 (by omega)
  refine Aj.dup_qa C dX8_init_30 ?_
  refine Aj.callIn (As := []) (st := [qa (p + 32), qa p]) C lm_RX8_11 m_X4_init mk_X4_init rfl (c_X4_init _ (p := p + 32) (by omega) (by omega) SH.2.2.2.1 zf_11) (al_mk (SH.2.2.2.1.1) (by omega) (by omega) (by decide)) rfl rfl (by decide) (Nat.le_of_ble_eq_true rfl) (by decide) dX8_init_31 (fun r_13 h_12 p31 => ?_)
  obtain ⟨ls32, cs32, zs32, rs32, hs32⟩ := p31
  refine Aj.nc (m := p + 49) (cs2 := (48, 1204)) (by omega) rfl ?_
  have zs32 := ZF.up (m := p + 49) zs32 (by omega)
  refine Aj.putR C lf_RX8_23 rfl (al_mk (SH.1) (by omega) (by omega) (by decide)) (hin rfl) rfl dX8_init_34 (fun r_14 er_14 => ?_)
  have zf_15 := ZF.r zs32 er_14 (by omega)
  refine Aj.aload_n C 0 dX8_init_37 rfl ?_
  refine Aj.new C lc_RX8_16 lk_RX1 li_RX1 (t := 1) rfl SH.2.2.2.2.1.1 (by decide) (fun b => zf_15 _ b (by omega)) (by decide) dX8_init_38 ?_
  rw [show p + 49 + 1 = p + 50 by omega]
  have zf_16 := ZF.up (m := p + 50) zf_15 (by omega)
  refine Aj.dup_qa C dX8_init_41 ?_
  refine Aj.callIn (As := []) (st := [qa (p + 49), qa p]) C lm_RX8_18 m_X1_init mk_X1_init rfl (c_X1_init _ (p := p + 49) (by omega) (by omega) SH.2.2.2.2.1 zf_16) (al_mk (SH.2.2.2.2.1.1) (by omega) (by omega) (by decide)) rfl rfl (by decide) (Nat.le_of_ble_eq_true rfl) (by decide) dX8_init_42 (fun r_18 h_17 p42 => ?_)
  obtain ⟨rfl, ls49, zs49, rs49⟩ := p42
  refine Aj.nc (m := p + 63) (cs2 := (62, 1920)) (by omega) rfl ?_
  have zs49 := ZF.up (m := p + 63) zs49 (by omega)
  refine Aj.putR C lf_RX8_26 rfl (al_mk (SH.1) (by omega) (by omega) (by decide)) (hin rfl) rfl dX8_init_45 (fun r_19 er_19 => ?_)
  have zf_20 := ZF.r zs49 er_19 (by omega)
  refine Aj.aload_n C 0 dX8_init_48 rfl ?_
  refine Aj.new C lc_RX8_29 lk_RX2 li_RX2 (t := 2) rfl SH.2.2.2.2.2.1.1 (by decide) (fun b => zf_20 _ b (by omega)) (by decide) dX8_init_49 ?_
  rw [show p + 63 + 1 = p + 64 by omega]
  have zf_21 := ZF.up (m := p + 64) zf_20 (by omega)
  refine Aj.dup_qa C dX8_init_52 ?_
  refine Aj.callIn (As := []) (st := [qa (p + 63), qa p]) C lm_RX8_31 m_X2_init mk_X2_init rfl (c_X2_init _ (p := p + 63) (by omega) (by omega) SH.2.2.2.2.2.1 zf_21) (al_mk (SH.2.2.2.2.2.1.1) (by omega) (by omega) (by decide)) rfl rfl (by decide) (Nat.le_of_ble_eq_true rfl) (by decide) dX8_init_53 (fun r_23 h_22 p53 => ?_)
  obtain ⟨rfl, ls63, zs63, rs63⟩ := p53
  refine Aj.nc (m := p + 65) (cs2 := (64, 2002)) (by omega) rfl ?_
  have zs63 := ZF.up (m := p + 65) zs63 (by omega)
  refine Aj.putR C lf_RX8_32 rfl (al_mk (SH.1) (by omega) (by omega) (by decide)) (hin rfl) rfl dX8_init_56 (fun r_24 er_24 => ?_)
  have zf_25 := ZF.r zs63 er_24 (by omega)
  refine Aj.aload_n C 0 dX8_init_59 rfl ?_
  refine Aj.new C lc_RX8_36 lk_RX3 li_RX3 (t := 3) rfl SH.2.2.2.2.2.2.1.1 (by decide) (fun b => zf_25 _ b (by omega)) (by decide) dX8_init_60 ?_
  rw [show p + 65 + 1 = p + 66 by omega]
  have zf_26 := ZF.up (m := p + 66) zf_25 (by omega)
  refine Aj.dup_qa C dX8_init_63 ?_
  refine Aj.callIn (As := []) (st := [qa (p + 65), qa p]) C lm_RX8_38 m_X3_init mk_X3_init rfl (c_X3_init _ (p := p + 65) (by omega) (by omega) SH.2.2.2.2.2.2.1 zf_26) (al_mk (SH.2.2.2.2.2.2.1.1) (by omega) (by omega) (by decide)) rfl rfl (by decide) (Nat.le_of_ble_eq_true rfl) (by decide) dX8_init_64 (fun r_28 h_27 p64 => ?_)
  obtain ⟨rfl, ls65, zs65, rs65⟩ := p64
  refine Aj.nc (m := p + 67) (cs2 := (66, 2009)) (by omega) rfl ?_
  have zs65 := ZF.up (m := p + 67) zs65 (by omega)
  refine Aj.putR C lf_RX8_39 rfl (al_mk (SH.1) (by omega) (by omega) (by decide)) (hin rfl) rfl dX8_init_67 (fun r_29 er_29 => ?_)
  have zf_30 := ZF.r zs65 er_29 (by omega)
  refine Aj.aload_n C 0 dX8_init_70 rfl ?_
  refine Aj.new C lc_RX8_43 lk_RX0 li_RX0 (t := 0) rfl SH.2.2.2.2.2.2.2.1.1 (by decide) (fun b => zf_30 _ b (by omega)) (by decide) dX8_init_71 ?_
  rw [show p + 67 + 1 = p + 68 by omega]
  have zf_31 := ZF.up (m := p + 68) zf_30 (by omega)
  refine Aj.dup_qa C dX8_init_74 ?_
  refine Aj.callIn (As := []) (st := [qa (p + 67), qa p]) C lm_RX8_45 m_X0_init mk_X0_init rfl (c_X0_init _ (p := p + 67) (by omega) (by omega) SH.2.2.2.2.2.2.2.1 zf_31) (al_mk (SH.2.2.2.2.2.2.2.1.1) (by omega) (by omega) (by decide)) rfl rfl (by decide) (Nat.le_of_ble_eq_true rfl) (by decide) dX8_init_75 (fun r_33 h_32 p75 => ?_)
  obtain ⟨ls67, zs67, rs67, hs67⟩ := p75
  refine Aj.nc (m := p + 188) (cs2 := (187, 3727)) (by omega) rfl ?_
  have zs67 := ZF.up (m := p + 188) zs67 (by omega)
  refine Aj.putR C lf_RX8_46 rfl (al_mk (SH.1) (by omega) (by omega) (by decide)) (hin rfl) rfl dX8_init_78 (fun r_34 er_34 => ?_)
  have zf_35 := ZF.r zs67 er_34 (by omega)
  refine Aj.aload_n C 0 dX8_init_81 rfl ?_
  refine Aj.iconst C dX8_init_82 (by decide) ?_
  refine Aj.newaR C (by decide) (by decide) lc_RX8_9 SH.2.2.2.2.2.2.2.2.1 (fun b => zf_35 _ b (by omega)) (by decide) dX8_init_83 ?_
  rw [show p + 188 + 1 = p + 189 by omega]
  have zf_36 := ZF.up (m := p + 189) zf_35 (by omega)
  refine Aj.putR C lf_RX8_50 rfl (al_mk (SH.1) (by omega) (by omega) (by decide)) (hin rfl) rfl dX8_init_86 (fun r_37 er_37 => ?_)
  have zf_38 := ZF.r zf_36 er_37 (by omega)
  refine Aj.iconst C dX8_init_89 (by decide) ?_
  refine Aj.istore_n (al2 := [(1, qi 0), (0, qa p)]) C dX8_init_90 (by decide) rfl ?_
  refine Aj.iload_n C 0 dX8_init_91 rfl ?_
  refine Aj.iconst C dX8_init_92 (by decide) ?_
  refine Aj.icmp_ge (tgt := 115) C dX8_init_93 (by decide) (fun c93 => ?_) (fun c93 => ?_)
  · exact absurd c93 (by decide)
  · refine Aj.aload_n C 1 dX8_init_96 rfl ?_
    refine Aj.getR (z := p + 188) C lf_RX8_50 rfl (al_mk (SH.1) (by omega) (by omega) (by decide)) (by rw [er_37]; exact hset_same _ _ _ _) dX8_init_97 ?_
    refine Aj.iload_n C 0 dX8_init_100 rfl ?_
    refine Aj.new C lc_RX8_9 lk_RX4 li_RX4 (t := 4) rfl (by first | exact SH.2.2.2.2.2.2.2.2.2.1.1 | exact SH.2.2.2.2.2.2.2.2.2.2.1.1) (by decide) (fun b => zf_38 _ b (by omega)) (by decide) dX8_init_101 ?_
    rw [show p + 189 + 1 = p + 190 by omega]
    have zf_39 := ZF.up (m := p + 190) zf_38 (by omega)
    refine Aj.dup_qa C dX8_init_104 ?_
    refine Aj.callIn (As := []) (st := [qa (p + 189), qi 0, qa (p + 188)]) C lm_RX8_11 m_X4_init mk_X4_init rfl (c_X4_init _ (p := p + 189) (by omega) (by omega) SH.2.2.2.2.2.2.2.2.2.1 zf_39) (al_mk (SH.2.2.2.2.2.2.2.2.2.1.1) (by omega) (by omega) (by decide)) rfl rfl (by decide) (Nat.le_of_ble_eq_true rfl) (by decide) dX8_init_105 (fun r_41 h_40 p105 => ?_)
    obtain ⟨ls189, cs189, zs189, rs189, hs189⟩ := p105
    refine Aj.nc (m := p + 206) (cs2 := (205, 3973)) (by omega) rfl ?_
    have zs189 := ZF.up (m := p + 206) zs189 (by omega)
    refine Aj.aast C (al_mk (SH.2.2.2.2.2.2.2.2.1) (by omega) (by omega) (by decide)) (al_mk (SH.2.2.2.2.2.2.2.2.2.1.1) (by omega) (by omega) (by decide)) (by omega) dX8_init_108 (fun r_42 er_42 => ?_)
    have zf_43 := ZF.r zs189 er_42 (by omega)
    refine Aj.iinc (al2 := [(1, qi 1), (0, qa p)]) C 0 dX8_init_109 rfl (by decide) (by omega) rfl ?_
    refine Aj.goto (tgt := 91) C dX8_init_112 (by decide) ?_
    refine Aj.iload_n C 0 dX8_init_91 rfl ?_
    refine Aj.iconst C dX8_init_92 (by decide) ?_
    refine Aj.icmp_ge (tgt := 115) C dX8_init_93 (by decide) (fun c93 => ?_) (fun c93 => ?_)
    · exact absurd c93 (by decide)
    · refine Aj.aload_n C 1 dX8_init_96 rfl ?_
      refine Aj.getR (z := p + 188) C lf_RX8_50 rfl (al_mk (SH.1) (by omega) (by omega) (by decide)) (by rw [er_42, hset_nea _ _ _ (by omega), rs189 _ _ (by omega), er_37]; exact hset_same _ _ _ _) dX8_init_97 ?_
      refine Aj.iload_n C 0 dX8_init_100 rfl ?_
      refine Aj.new C lc_RX8_9 lk_RX4 li_RX4 (t := 4) rfl (by first | exact SH.2.2.2.2.2.2.2.2.2.1.1 | exact SH.2.2.2.2.2.2.2.2.2.2.1.1) (by decide) (fun b => zf_43 _ b (by omega)) (by decide) dX8_init_101 ?_
      rw [show p + 206 + 1 = p + 207 by omega]
      have zf_44 := ZF.up (m := p + 207) zf_43 (by omega)
      refine Aj.dup_qa C dX8_init_104 ?_
      refine Aj.callIn (As := []) (st := [qa (p + 206), qi 1, qa (p + 188)]) C lm_RX8_11 m_X4_init mk_X4_init rfl (c_X4_init _ (p := p + 206) (by omega) (by omega) SH.2.2.2.2.2.2.2.2.2.2.1 zf_44) (al_mk (SH.2.2.2.2.2.2.2.2.2.2.1.1) (by omega) (by omega) (by decide)) rfl rfl (by decide) (Nat.le_of_ble_eq_true rfl) (by decide) dX8_init_105 (fun r_46 h_45 p105 => ?_)
      obtain ⟨ls206, cs206, zs206, rs206, hs206⟩ := p105
      refine Aj.nc (m := p + 223) (cs2 := (222, 4217)) (by omega) rfl ?_
      have zs206 := ZF.up (m := p + 223) zs206 (by omega)
      refine Aj.aast C (al_mk (SH.2.2.2.2.2.2.2.2.1) (by omega) (by omega) (by decide)) (al_mk (SH.2.2.2.2.2.2.2.2.2.2.1.1) (by omega) (by omega) (by decide)) (by omega) dX8_init_108 (fun r_47 er_47 => ?_)
      have zf_48 := ZF.r zs206 er_47 (by omega)
      refine Aj.iinc (al2 := [(1, qi 2), (0, qa p)]) C 0 dX8_init_109 rfl (by decide) (by omega) rfl ?_
      refine Aj.goto (tgt := 91) C dX8_init_112 (by decide) ?_
      refine Aj.iload_n C 0 dX8_init_91 rfl ?_
      refine Aj.iconst C dX8_init_92 (by decide) ?_
      refine Aj.icmp_ge (tgt := 115) C dX8_init_93 (by decide) (fun c93 => ?_) (fun c93 => ?_)
      · refine Aj.aload_n C 1 dX8_init_115 rfl ?_
        refine Aj.iconst C dX8_init_116 (by decide) ?_
        refine Aj.newaZ C (by decide) (by decide) SH.2.2.2.2.2.2.2.2.2.2.2 (fun b => zf_48 _ b (by omega)) ⟨Nat.le_of_ble_eq_true rfl, Nat.le_of_ble_eq_true rfl⟩ dX8_init_117 ?_
        rw [show p + 223 + 1 = p + 224 by omega]
        have zf_49 := ZF.up (m := p + 224) zf_48 (by omega)
        refine Aj.putR C lf_RX8_54 rfl (al_mk (SH.1) (by omega) (by omega) (by decide)) (hin rfl) rfl dX8_init_119 (fun r_50 er_50 => ?_)
        have zf_51 := ZF.r zf_49 er_50 (by omega)
        refine Aj.aload_n C 1 dX8_init_122 rfl ?_
        refine Aj.getR (z := p + 18) C lf_RX8_19 rfl (al_mk (SH.1) (by omega) (by omega) (by decide)) (by rw [er_50, hset_neb _ _ _ (by decide), er_47, hset_nea _ _ _ (by omega), rs206 _ _ (by omega), er_42, hset_nea _ _ _ (by omega), rs189 _ _ (by omega), er_37, hset_neb _ _ _ (by decide), er_34, hset_neb _ _ _ (by decide), rs67 _ _ (by omega), er_29, hset_neb _ _ _ (by decide), rs65 _ _ (by omega), er_24, hset_neb _ _ _ (by decide), rs63 _ _ (by omega), er_19, hset_neb _ _ _ (by decide), rs49 _ _ (by omega), er_14, hset_neb _ _ _ (by decide), rs32 _ _ (by omega), er_9]; exact hset_same _ _ _ _) dX8_init_123 ?_
        refine Aj.aload_n C 1 dX8_init_126 rfl ?_
        refine Aj.getR (z := p + 1) C lf_RX8_12 rfl (al_mk (SH.1) (by omega) (by omega) (by decide)) (by rw [er_50, hset_neb _ _ _ (by decide), er_47, hset_nea _ _ _ (by omega), rs206 _ _ (by omega), er_42, hset_nea _ _ _ (by omega), rs189 _ _ (by omega), er_37, hset_neb _ _ _ (by decide), er_34, hset_neb _ _ _ (by decide), rs67 _ _ (by omega), er_29, hset_neb _ _ _ (by decide), rs65 _ _ (by omega), er_24, hset_neb _ _ _ (by decide), rs63 _ _ (by omega), er_19, hset_neb _ _ _ (by decide), rs49 _ _ (by omega), er_14, hset_neb _ _ _ (by decide), rs32 _ _ (by omega), er_9, hset_neb _ _ _ (by decide), rs18 _ _ (by omega), er_4]; exact hset_same _ _ _ _) dX8_init_127 ?_
        have LN : LNight G (p + 224) r_50 (p + 18) := ls18.mv (by omega) (fun a k h1 h2 => by rw [er_50, hset_nea _ _ _ (by omega), er_47, hset_nea _ _ _ (by omega), rs206 _ _ (by omega), er_42, hset_nea _ _ _ (by omega), rs189 _ _ (by omega), er_37, hset_nea _ _ _ (by omega), er_34, hset_nea _ _ _ (by omega), rs67 _ _ (by omega), er_29, hset_nea _ _ _ (by omega), rs65 _ _ (by omega), er_24, hset_nea _ _ _ (by omega), rs63 _ _ (by omega), er_19, hset_nea _ _ _ (by omega), rs49 _ _ (by omega), er_14, hset_nea _ _ _ (by omega), rs32 _ _ (by omega), er_9, hset_nea _ _ _ (by omega)])
        have LS : LScore G (p + 224) r_50 (p + 1) := ls1.mv (by omega) (fun a k h1 h2 => by rw [er_50, hset_nea _ _ _ (by omega), er_47, hset_nea _ _ _ (by omega), rs206 _ _ (by omega), er_42, hset_nea _ _ _ (by omega), rs189 _ _ (by omega), er_37, hset_nea _ _ _ (by omega), er_34, hset_nea _ _ _ (by omega), rs67 _ _ (by omega), er_29, hset_nea _ _ _ (by omega), rs65 _ _ (by omega), er_24, hset_nea _ _ _ (by omega), rs63 _ _ (by omega), er_19, hset_nea _ _ _ (by omega), rs49 _ _ (by omega), er_14, hset_nea _ _ _ (by omega), rs32 _ _ (by omega), er_9, hset_nea _ _ _ (by omega), rs18 _ _ (by omega), er_4, hset_nea _ _ _ (by omega)])
        have CS : CScore h_45 (p + 1) st0.1 := cs1.fr (fun x y z1 z2 => by rw [hs206 _ _ (by omega), hs189 _ _ (by omega), hs67 _ _ (by omega), hs32 _ _ (by omega)])
        refine Aj.callVv (As := [qa (p + 1)]) (st := []) C lm_RX8_58 m_X1_workOut mk_X1_workOut ms_X1_workOut (c_X1_workOut _ LN LS CS SG_st0 (by omega)) (al_mk (SH.2.2.1.1) (by omega) (by omega) (by decide)) (t := 1) rfl rfl rfl rfl (by decide) (Nat.le_of_ble_eq_true rfl) (by decide) dX8_init_130 (fun hw p130 => ?_)
        obtain ⟨w1, w2, w3, w4⟩ := p130
        refine Aj.vret C dX8_init_133 (by rw [hmc]; exact ⟨rfl, Nat.le_of_ble_eq_true rfl⟩) ⟨rfl, ?_⟩
        have hz : ∀ a k, ((p + 63 ≤ a ∧ a < p + 69) ∨ a = p + 223) → hw a k = 0 := fun a k q => by
          rw [w4 _ _ (by omega), hs206 _ _ (by omega), hs189 _ _ (by omega), hs67 _ _ (by omega), hs32 _ _ (by omega), hs1 _ _ (by omega)]; exact (zf0 a k (by omega)).2
        refine ⟨⟨(al_mk (SH.1) (by omega) (by omega) (by decide)), ⟨(by rw [er_50, hset_neb _ _ _ (by decide), er_47, hset_nea _ _ _ (by omega), rs206 _ _ (by omega), er_42, hset_nea _ _ _ (by omega), rs189 _ _ (by omega), er_37, hset_neb _ _ _ (by decide), er_34, hset_neb _ _ _ (by decide), rs67 _ _ (by omega), er_29, hset_neb _ _ _ (by decide), rs65 _ _ (by omega), er_24, hset_neb _ _ _ (by decide), rs63 _ _ (by omega), er_19, hset_neb _ _ _ (by decide), rs49 _ _ (by omega), er_14, hset_neb _ _ _ (by decide), rs32 _ _ (by omega), er_9, hset_neb _ _ _ (by decide), rs18 _ _ (by omega), er_4]; exact hset_same _ _ _ _), (by rw [er_50, hset_neb _ _ _ (by decide), er_47, hset_nea _ _ _ (by omega), rs206 _ _ (by omega), er_42, hset_nea _ _ _ (by omega), rs189 _ _ (by omega), er_37, hset_neb _ _ _ (by decide), er_34, hset_neb _ _ _ (by decide), rs67 _ _ (by omega), er_29, hset_neb _ _ _ (by decide), rs65 _ _ (by omega), er_24, hset_neb _ _ _ (by decide), rs63 _ _ (by omega), er_19, hset_neb _ _ _ (by decide), rs49 _ _ (by omega), er_14, hset_neb _ _ _ (by decide), rs32 _ _ (by omega), er_9]; exact hset_same _ _ _ _), (by rw [er_50, hset_neb _ _ _ (by decide), er_47, hset_nea _ _ _ (by omega), rs206 _ _ (by omega), er_42, hset_nea _ _ _ (by omega), rs189 _ _ (by omega), er_37, hset_neb _ _ _ (by decide), er_34, hset_neb _ _ _ (by decide), rs67 _ _ (by omega), er_29, hset_neb _ _ _ (by decide), rs65 _ _ (by omega), er_24, hset_neb _ _ _ (by decide), rs63 _ _ (by omega), er_19, hset_neb _ _ _ (by decide), rs49 _ _ (by omega), er_14]; exact hset_same _ _ _ _), (by rw [er_50, hset_neb _ _ _ (by decide), er_47, hset_nea _ _ _ (by omega), rs206 _ _ (by omega), er_42, hset_nea _ _ _ (by omega), rs189 _ _ (by omega), er_37, hset_neb _ _ _ (by decide), er_34, hset_neb _ _ _ (by decide), rs67 _ _ (by omega), er_29, hset_neb _ _ _ (by decide), rs65 _ _ (by omega), er_24, hset_neb _ _ _ (by decide), rs63 _ _ (by omega), er_19]; exact hset_same _ _ _ _), (by rw [er_50, hset_neb _ _ _ (by decide), er_47, hset_nea _ _ _ (by omega), rs206 _ _ (by omega), er_42, hset_nea _ _ _ (by omega), rs189 _ _ (by omega), er_37, hset_neb _ _ _ (by decide), er_34, hset_neb _ _ _ (by decide), rs67 _ _ (by omega), er_29, hset_neb _ _ _ (by decide), rs65 _ _ (by omega), er_24]; exact hset_same _ _ _ _), (by rw [er_50, hset_neb _ _ _ (by decide), er_47, hset_nea _ _ _ (by omega), rs206 _ _ (by omega), er_42, hset_nea _ _ _ (by omega), rs189 _ _ (by omega), er_37, hset_neb _ _ _ (by decide), er_34, hset_neb _ _ _ (by decide), rs67 _ _ (by omega), er_29]; exact hset_same _ _ _ _), (by rw [er_50, hset_neb _ _ _ (by decide), er_47, hset_nea _ _ _ (by omega), rs206 _ _ (by omega), er_42, hset_nea _ _ _ (by omega), rs189 _ _ (by omega), er_37, hset_neb _ _ _ (by decide), er_34]; exact hset_same _ _ _ _), (by rw [er_50, hset_neb _ _ _ (by decide), er_47, hset_nea _ _ _ (by omega), rs206 _ _ (by omega), er_42, hset_nea _ _ _ (by omega), rs189 _ _ (by omega), er_37]; exact hset_same _ _ _ _), (by rw [er_50]; exact hset_same _ _ _ _)⟩, ⟨LS, LN, ls32.mv (by omega) (fun a k h1 h2 => by rw [er_50, hset_nea _ _ _ (by omega), er_47, hset_nea _ _ _ (by omega), rs206 _ _ (by omega), er_42, hset_nea _ _ _ (by omega), rs189 _ _ (by omega), er_37, hset_nea _ _ _ (by omega), er_34, hset_nea _ _ _ (by omega), rs67 _ _ (by omega), er_29, hset_nea _ _ _ (by omega), rs65 _ _ (by omega), er_24, hset_nea _ _ _ (by omega), rs63 _ _ (by omega), er_19, hset_nea _ _ _ (by omega), rs49 _ _ (by omega), er_14, hset_nea _ _ _ (by omega)]), ls49.mv (by omega) (fun a k h1 h2 => by rw [er_50, hset_nea _ _ _ (by omega), er_47, hset_nea _ _ _ (by omega), rs206 _ _ (by omega), er_42, hset_nea _ _ _ (by omega), rs189 _ _ (by omega), er_37, hset_nea _ _ _ (by omega), er_34, hset_nea _ _ _ (by omega), rs67 _ _ (by omega), er_29, hset_nea _ _ _ (by omega), rs65 _ _ (by omega), er_24, hset_nea _ _ _ (by omega), rs63 _ _ (by omega), er_19, hset_nea _ _ _ (by omega)]), ls63.mv (by omega) (fun a k h1 h2 => by rw [er_50, hset_nea _ _ _ (by omega), er_47, hset_nea _ _ _ (by omega), rs206 _ _ (by omega), er_42, hset_nea _ _ _ (by omega), rs189 _ _ (by omega), er_37, hset_nea _ _ _ (by omega), er_34, hset_nea _ _ _ (by omega), rs67 _ _ (by omega), er_29, hset_nea _ _ _ (by omega), rs65 _ _ (by omega), er_24, hset_nea _ _ _ (by omega)]), ls65.mv (by omega) (fun a k h1 h2 => by rw [er_50, hset_nea _ _ _ (by omega), er_47, hset_nea _ _ _ (by omega), rs206 _ _ (by omega), er_42, hset_nea _ _ _ (by omega), rs189 _ _ (by omega), er_37, hset_nea _ _ _ (by omega), er_34, hset_nea _ _ _ (by omega), rs67 _ _ (by omega), er_29, hset_nea _ _ _ (by omega)]), ls67.mv (by omega) (fun a k h1 h2 => by rw [er_50, hset_nea _ _ _ (by omega), er_47, hset_nea _ _ _ (by omega), rs206 _ _ (by omega), er_42, hset_nea _ _ _ (by omega), rs189 _ _ (by omega), er_37, hset_nea _ _ _ (by omega), er_34, hset_nea _ _ _ (by omega)])⟩, ⟨(al_mk (SH.2.2.2.2.2.2.2.2.1) (by omega) (by omega) (by decide)), (by rw [er_50, hset_nea _ _ _ (by omega), er_47, hset_neb _ _ _ (by decide), rs206 _ _ (by omega), er_42]; exact hset_same _ _ _ _), (by rw [er_50, hset_nea _ _ _ (by omega), er_47]; exact hset_same _ _ _ _)⟩, ls189.mv (by omega) (fun a k h1 h2 => by rw [er_50, hset_nea _ _ _ (by omega), er_47, hset_nea _ _ _ (by omega), rs206 _ _ (by omega), er_42, hset_nea _ _ _ (by omega)]), ls206.mv (by omega) (fun a k h1 h2 => by rw [er_50, hset_nea _ _ _ (by omega), er_47, hset_nea _ _ _ (by omega)]), (al_mk (SH.2.2.2.2.2.2.2.2.2.2.2) (by omega) (by omega) (by decide))⟩, ⟨CS.fr (fun x y z1 z2 => w4 x y (by omega)), ⟨w1, w2, w3⟩, ⟨hz _ _ (by omega), fun k k1 k2 => by have k2 : k < 0 := k2; omega⟩, ⟨0, hz _ _ (by omega), hz _ _ (by omega), by decide, fun i i1 i2 => by have i2 : i < 0 := i2; omega⟩, fun k k1 k2 => ⟨hz _ _ (by omega), fun w => absurd (show (0 : Int) = 1 from w) (by decide)⟩⟩, fun a k q => ⟨(zf_51 a k q).1, (w4 _ _ (by omega)).trans (zf_51 a k q).2⟩, fun a k w => by rw [er_50, hset_nea _ _ _ (by omega), er_47, hset_nea _ _ _ (by omega), rs206 _ _ (by omega), er_42, hset_nea _ _ _ (by omega), rs189 _ _ (by omega), er_37, hset_nea _ _ _ (by omega), er_34, hset_nea _ _ _ (by omega), rs67 _ _ (by omega), er_29, hset_nea _ _ _ (by omega), rs65 _ _ (by omega), er_24, hset_nea _ _ _ (by omega), rs63 _ _ (by omega), er_19, hset_nea _ _ _ (by omega), rs49 _ _ (by omega), er_14, hset_nea _ _ _ (by omega), rs32 _ _ (by omega), er_9, hset_nea _ _ _ (by omega), rs18 _ _ (by omega), er_4, hset_nea _ _ _ (by omega), rs1 _ _ (by omega)], fun a k w => by rw [w4 _ _ (by omega), hs206 _ _ (by omega), hs189 _ _ (by omega), hs67 _ _ (by omega), hs32 _ _ (by omega), hs1 _ _ (by omega)]⟩
      · exact absurd c93 (by decide)
