set_option maxHeartbeats 2000000 in
set_option maxRecDepth 100000 in
theorem c_X9_number (l : Launch) {G : qG} {n : Int} {r h : qH} {w : Int} {M i m : Int} {P : Int → Int} (L : LModel G n r M) (cp : IMp h M (m, P)) (pg : PG m P) (hi : h M 20 = i) (h0 : 0 ≤ i ∧ i ≤ 200) (hw : h M 21 = w) (w0 : w = 0 ∨ w = 1) : q_Cm l G yX9_number cX9_number 3 (some .int) 1 22 [qa M] n r h (q_Pi r (fun z h' => ∃ w2 j, h' M 21 = w2 ∧ h' M 20 = j ∧ NumP P m w i w2 j z ∧ FRd M h h')) 0 0 := by
  refine q_enter (al := [(0, qa M)]) m_X9_number rfl (Nat.le_of_ble_eq_true rfl) ?_
  intro hok X C hmc hxl hin
  have pm : 0 ≤ m ∧ m ≤ 80 := ⟨pg.1, pg.2.1⟩
  refine Aj.aload_n C 0 dX9_number_0 rfl ?_
  refine Aj.aload_n C 0 dX9_number_1 rfl ?_
  refine Aj.getIe (z := w) C lf_RX9_196 rfl L.a dX9_number_2 hw ?_
  refine Aj.if_eq (tgt := 26) C dX9_number_5 (by decide) (fun c5 => ?_) (fun c5 => ?_)
  · refine Aj.iconst C dX9_number_26 (by decide) ?_
    refine Aj.putZ C lf_RX9_196 L.a dX9_number_27 (by omega) (fun h_1 eh_1 => ?_)
    refine Aj.aload_n C 0 dX9_number_30 rfl ?_
    refine Aj.callVi (As := []) (st := []) C lm_RX9_200 m_X9_sign mk_X9_sign ms_X9_sign (c_X9_sign _ (i := i) L (cp.r (fun x y q => by rw [eh_1, hset_ne _ _ (by omega)])) pg (by rw [eh_1, hset_neb _ _ _ (by decide)]; exact hi) (by omega)) L.a (t := 9) rfl rfl rfl rfl (by decide) (Nat.le_of_ble_eq_true rfl) (by decide) dX9_number_31 (fun z31 h_2 rz31 p31 => ?_)
    obtain ⟨rfl, ps31⟩ := p31
    subst ps31
    have gs31 := sgn_in pg (i) (by omega)
    refine Aj.bipush C dX9_number_34 (by decide) (by decide) ?_
    refine Aj.isub C dX9_number_36 (by omega) ?_
    refine Aj.istore_n (al2 := [(1, qi (sgn P m i - 48)), (0, qa M)]) C dX9_number_37 (by decide) rfl ?_
    refine Aj.aload_n C 1 dX9_number_38 rfl ?_
    refine Aj.dup_qa C dX9_number_39 ?_
    refine Aj.getIe (z := i) C lf_RX9_193 rfl L.a dX9_number_40 (by rw [eh_1, hset_neb _ _ _ (by decide)]; exact hi) ?_
    refine Aj.aload_n C 1 dX9_number_43 rfl ?_
    refine Aj.getIe (z := 0) C lf_RX9_196 rfl L.a dX9_number_44 (by rw [eh_1]; exact hset_same _ _ _ _) ?_
    refine Aj.if_eq (tgt := 54) C dX9_number_47 (by decide) (fun c47 => ?_) (fun c47 => ?_)
    · refine Aj.iconst C dX9_number_54 (by decide) ?_
      refine Aj.iadd C dX9_number_55 (by omega) ?_
      refine Aj.putI C lf_RX9_193 L.a dX9_number_56 (fun h_3 eh_3 => ?_)
      refine Aj.iconst C dX9_number_59 (by decide) ?_
      refine Aj.istore_n (al2 := [(2, qi 1), (1, qi (sgn P m i - 48)), (0, qa M)]) C dX9_number_60 (by decide) rfl ?_
      refine Aj.iload_n C 0 dX9_number_61 rfl ?_
      refine Aj.iconst C dX9_number_62 (by decide) ?_
      refine Aj.icmp_ge (tgt := 120) C dX9_number_63 (by decide) (fun c63 => ?_) (fun c63 => ?_)
      · exact absurd c63 (by decide)
      · refine Aj.aload_n C 2 dX9_number_66 rfl ?_
        refine Aj.getIe (z := 0) C lf_RX9_196 rfl L.a dX9_number_67 (by rw [eh_3, hset_neb _ _ _ (by decide)]; exact (by rw [eh_1]; exact hset_same _ _ _ _)) ?_
        refine Aj.if_eq (tgt := 120) C dX9_number_70 (by decide) (fun c70 => ?_) (fun c70 => ?_)
        · refine Aj.iload_n C 1 dX9_number_120 rfl ?_
          refine Aj.iret C dX9_number_121 (by rw [hmc]; exact ⟨rfl, Nat.le_of_ble_eq_true rfl⟩) ⟨_, rfl, rfl, ?_⟩
          exact ⟨0, i + 0, (by rw [eh_3, hset_neb _ _ _ (by decide)]; exact (by rw [eh_1]; exact hset_same _ _ _ _)), (by rw [eh_3]; exact hset_same _ _ _ _), by unfold NumP; omega, (fun x y q => by rw [eh_3, eh_1, hset_ne _ _ (by omega), hset_ne _ _ (by omega)])⟩
        · exact absurd c70 (by decide)
    · exact absurd c47 (by decide)
  · refine Aj.aload_n C 0 dX9_number_8 rfl ?_
    refine Aj.callVi (As := []) (st := [qa M]) C lm_RX9_200 m_X9_sign mk_X9_sign ms_X9_sign (c_X9_sign _ (i := i) L (cp.r (fun x y q => rfl)) pg hi (by omega)) L.a (t := 9) rfl rfl rfl rfl (by decide) (Nat.le_of_ble_eq_true rfl) (by decide) dX9_number_9 (fun z9 h_4 rz9 p9 => ?_)
    obtain ⟨rfl, ps9⟩ := p9
    subst ps9
    have gs9 := sgn_in pg (i) (by omega)
    refine Aj.bipush C dX9_number_12 (by decide) (by decide) ?_
    refine Aj.bipush C dX9_number_14 (by decide) (by decide) ?_
    refine Aj.callSi (As := [qi (sgn P m i), qi 48, qi 57]) (st := [qa M]) C lm_RX9_60 m_X9_in mk_X9_in (c_X9_in _) rfl rfl (by decide) (Nat.le_of_ble_eq_true rfl) (by decide) dX9_number_16 (fun z16 h_5 rz16 p16 => ?_)
    obtain ⟨rfl, pzi16_4, pei16_4⟩ := p16
    refine Aj.if_eq (tgt := 26) C dX9_number_19 (by decide) (fun c19 => ?_) (fun c19 => ?_)
    · refine Aj.iconst C dX9_number_26 (by decide) ?_
      refine Aj.putZ C lf_RX9_196 L.a dX9_number_27 (by omega) (fun h_6 eh_6 => ?_)
      refine Aj.aload_n C 0 dX9_number_30 rfl ?_
      refine Aj.callVi (As := []) (st := []) C lm_RX9_200 m_X9_sign mk_X9_sign ms_X9_sign (c_X9_sign _ (i := i) L (cp.r (fun x y q => by rw [eh_6, hset_ne _ _ (by omega)])) pg (by rw [eh_6, hset_neb _ _ _ (by decide)]; exact hi) (by omega)) L.a (t := 9) rfl rfl rfl rfl (by decide) (Nat.le_of_ble_eq_true rfl) (by decide) dX9_number_31 (fun z31 h_7 rz31 p31 => ?_)
      obtain ⟨rfl, ps31⟩ := p31
      subst ps31
      have gs31 := sgn_in pg (i) (by omega)
      refine Aj.bipush C dX9_number_34 (by decide) (by decide) ?_
      refine Aj.isub C dX9_number_36 (by omega) ?_
      refine Aj.istore_n (al2 := [(1, qi (sgn P m i - 48)), (0, qa M)]) C dX9_number_37 (by decide) rfl ?_
      refine Aj.aload_n C 1 dX9_number_38 rfl ?_
      refine Aj.dup_qa C dX9_number_39 ?_
      refine Aj.getIe (z := i) C lf_RX9_193 rfl L.a dX9_number_40 (by rw [eh_6, hset_neb _ _ _ (by decide)]; exact hi) ?_
      refine Aj.aload_n C 1 dX9_number_43 rfl ?_
      refine Aj.getIe (z := 0) C lf_RX9_196 rfl L.a dX9_number_44 (by rw [eh_6]; exact hset_same _ _ _ _) ?_
      refine Aj.if_eq (tgt := 54) C dX9_number_47 (by decide) (fun c47 => ?_) (fun c47 => ?_)
      · refine Aj.iconst C dX9_number_54 (by decide) ?_
        refine Aj.iadd C dX9_number_55 (by omega) ?_
        refine Aj.putI C lf_RX9_193 L.a dX9_number_56 (fun h_8 eh_8 => ?_)
        refine Aj.iconst C dX9_number_59 (by decide) ?_
        refine Aj.istore_n (al2 := [(2, qi 1), (1, qi (sgn P m i - 48)), (0, qa M)]) C dX9_number_60 (by decide) rfl ?_
        refine Aj.iload_n C 0 dX9_number_61 rfl ?_
        refine Aj.iconst C dX9_number_62 (by decide) ?_
        refine Aj.icmp_ge (tgt := 120) C dX9_number_63 (by decide) (fun c63 => ?_) (fun c63 => ?_)
        · exact absurd c63 (by decide)
        · refine Aj.aload_n C 2 dX9_number_66 rfl ?_
          refine Aj.getIe (z := 0) C lf_RX9_196 rfl L.a dX9_number_67 (by rw [eh_8, hset_neb _ _ _ (by decide)]; exact (by rw [eh_6]; exact hset_same _ _ _ _)) ?_
          refine Aj.if_eq (tgt := 120) C dX9_number_70 (by decide) (fun c70 => ?_) (fun c70 => ?_)
          · refine Aj.iload_n C 1 dX9_number_120 rfl ?_
            refine Aj.iret C dX9_number_121 (by rw [hmc]; exact ⟨rfl, Nat.le_of_ble_eq_true rfl⟩) ⟨_, rfl, rfl, ?_⟩
            exact ⟨0, i + 0, (by rw [eh_8, hset_neb _ _ _ (by decide)]; exact (by rw [eh_6]; exact hset_same _ _ _ _)), (by rw [eh_8]; exact hset_same _ _ _ _), by unfold NumP; omega, (fun x y q => by rw [eh_8, eh_6, hset_ne _ _ (by omega), hset_ne _ _ (by omega)])⟩
          · exact absurd c70 (by decide)
      · exact absurd c47 (by decide)
    · refine Aj.iconst C dX9_number_22 (by decide) ?_
      refine Aj.goto (tgt := 27) C dX9_number_23 (by decide) ?_
      refine Aj.putZ C lf_RX9_196 L.a dX9_number_27 (by omega) (fun h_9 eh_9 => ?_)
      refine Aj.aload_n C 0 dX9_number_30 rfl ?_
      refine Aj.callVi (As := []) (st := []) C lm_RX9_200 m_X9_sign mk_X9_sign ms_X9_sign (c_X9_sign _ (i := i) L (cp.r (fun x y q => by rw [eh_9, hset_ne _ _ (by omega)])) pg (by rw [eh_9, hset_neb _ _ _ (by decide)]; exact hi) (by omega)) L.a (t := 9) rfl rfl rfl rfl (by decide) (Nat.le_of_ble_eq_true rfl) (by decide) dX9_number_31 (fun z31 h_10 rz31 p31 => ?_)
      obtain ⟨rfl, ps31⟩ := p31
      subst ps31
      have gs31 := sgn_in pg (i) (by omega)
      refine Aj.bipush C dX9_number_34 (by decide) (by decide) ?_
      refine Aj.isub C dX9_number_36 (by omega) ?_
      refine Aj.istore_n (al2 := [(1, qi (sgn P m i - 48)), (0, qa M)]) C dX9_number_37 (by decide) rfl ?_
      refine Aj.aload_n C 1 dX9_number_38 rfl ?_
      refine Aj.dup_qa C dX9_number_39 ?_
      refine Aj.getIe (z := i) C lf_RX9_193 rfl L.a dX9_number_40 (by rw [eh_9, hset_neb _ _ _ (by decide)]; exact hi) ?_
      refine Aj.aload_n C 1 dX9_number_43 rfl ?_
      refine Aj.getIe (z := 1) C lf_RX9_196 rfl L.a dX9_number_44 (by rw [eh_9]; exact hset_same _ _ _ _) ?_
      refine Aj.if_eq (tgt := 54) C dX9_number_47 (by decide) (fun c47 => ?_) (fun c47 => ?_)
      · exact absurd c47 (by decide)
      · refine Aj.iconst C dX9_number_50 (by decide) ?_
        refine Aj.goto (tgt := 55) C dX9_number_51 (by decide) ?_
        refine Aj.iadd C dX9_number_55 (by omega) ?_
        refine Aj.putI C lf_RX9_193 L.a dX9_number_56 (fun h_11 eh_11 => ?_)
        refine Aj.iconst C dX9_number_59 (by decide) ?_
        refine Aj.istore_n (al2 := [(2, qi 1), (1, qi (sgn P m i - 48)), (0, qa M)]) C dX9_number_60 (by decide) rfl ?_
        refine Aj.iload_n C 0 dX9_number_61 rfl ?_
        refine Aj.iconst C dX9_number_62 (by decide) ?_
        refine Aj.icmp_ge (tgt := 120) C dX9_number_63 (by decide) (fun c63 => ?_) (fun c63 => ?_)
        · exact absurd c63 (by decide)
        · refine Aj.aload_n C 2 dX9_number_66 rfl ?_
          refine Aj.getIe (z := 1) C lf_RX9_196 rfl L.a dX9_number_67 (by rw [eh_11, hset_neb _ _ _ (by decide)]; exact (by rw [eh_9]; exact hset_same _ _ _ _)) ?_
          refine Aj.if_eq (tgt := 120) C dX9_number_70 (by decide) (fun c70 => ?_) (fun c70 => ?_)
          · exact absurd c70 (by decide)
          · refine Aj.iload_n C 1 dX9_number_73 rfl ?_
            refine Aj.if_le (tgt := 120) C dX9_number_74 (by decide) (fun c74 => ?_) (fun c74 => ?_)
            · refine Aj.iload_n C 1 dX9_number_120 rfl ?_
              refine Aj.iret C dX9_number_121 (by rw [hmc]; exact ⟨rfl, Nat.le_of_ble_eq_true rfl⟩) ⟨_, rfl, rfl, ?_⟩
              exact ⟨1, i + 1, (by rw [eh_11, hset_neb _ _ _ (by decide)]; exact (by rw [eh_9]; exact hset_same _ _ _ _)), (by rw [eh_11]; exact hset_same _ _ _ _), by unfold NumP; omega, (fun x y q => by rw [eh_11, eh_9, hset_ne _ _ (by omega), hset_ne _ _ (by omega)])⟩
            · refine Aj.aload_n C 2 dX9_number_77 rfl ?_
              refine Aj.callVi (As := []) (st := []) C lm_RX9_200 m_X9_sign mk_X9_sign ms_X9_sign (c_X9_sign _ (i := i + 1) L (cp.r (fun x y q => by rw [eh_11, eh_9, hset_ne _ _ (by omega), hset_ne _ _ (by omega)])) pg (by rw [eh_11]; exact hset_same _ _ _ _) (by omega)) L.a (t := 9) rfl rfl rfl rfl (by decide) (Nat.le_of_ble_eq_true rfl) (by decide) dX9_number_78 (fun z78 h_12 rz78 p78 => ?_)
              obtain ⟨rfl, ps78⟩ := p78
              subst ps78
              have gs78 := sgn_in pg (i + 1) (by omega)
              refine Aj.bipush C dX9_number_81 (by decide) (by decide) ?_
              refine Aj.bipush C dX9_number_83 (by decide) (by decide) ?_
              refine Aj.callSi (As := [qi (sgn P m (i + 1)), qi 48, qi 57]) (st := []) C lm_RX9_60 m_X9_in mk_X9_in (c_X9_in _) rfl rfl (by decide) (Nat.le_of_ble_eq_true rfl) (by decide) dX9_number_85 (fun z85 h_13 rz85 p85 => ?_)
              obtain ⟨rfl, pzi85_12, pei85_12⟩ := p85
              refine Aj.if_eq (tgt := 120) C dX9_number_88 (by decide) (fun c88 => ?_) (fun c88 => ?_)
              · refine Aj.iload_n C 1 dX9_number_120 rfl ?_
                refine Aj.iret C dX9_number_121 (by rw [hmc]; exact ⟨rfl, Nat.le_of_ble_eq_true rfl⟩) ⟨_, rfl, rfl, ?_⟩
                exact ⟨1, i + 1, (by rw [eh_11, hset_neb _ _ _ (by decide)]; exact (by rw [eh_9]; exact hset_same _ _ _ _)), (by rw [eh_11]; exact hset_same _ _ _ _), by unfold NumP; omega, (fun x y q => by rw [eh_11, eh_9, hset_ne _ _ (by omega), hset_ne _ _ (by omega)])⟩
              · refine Aj.bipush C dX9_number_91 (by decide) (by decide) ?_
                refine Aj.iload_n C 1 dX9_number_93 rfl ?_
                refine Aj.imul C dX9_number_94 (by omega) ?_
                refine Aj.aload_n C 2 dX9_number_95 rfl ?_
                refine Aj.callVi (As := []) (st := [qi (10 * (sgn P m i - 48))]) C lm_RX9_200 m_X9_sign mk_X9_sign ms_X9_sign (c_X9_sign _ (i := i + 1) L (cp.r (fun x y q => by rw [eh_11, eh_9, hset_ne _ _ (by omega), hset_ne _ _ (by omega)])) pg (by rw [eh_11]; exact hset_same _ _ _ _) (by omega)) L.a (t := 9) rfl rfl rfl rfl (by decide) (Nat.le_of_ble_eq_true rfl) (by decide) dX9_number_96 (fun z96 h_14 rz96 p96 => ?_)
                obtain ⟨rfl, ps96⟩ := p96
                subst ps96
                have gs96 := sgn_in pg (i + 1) (by omega)
                refine Aj.iadd C dX9_number_99 (by omega) ?_
                refine Aj.bipush C dX9_number_100 (by decide) (by decide) ?_
                refine Aj.isub C dX9_number_102 (by omega) ?_
                refine Aj.istore_n (al2 := [(1, qi (10 * (sgn P m i - 48) + (sgn P m (i + 1)) - 48)), (2, qi 1), (0, qa M)]) C dX9_number_103 (by decide) rfl ?_
                refine Aj.aload_n C 2 dX9_number_104 rfl ?_
                refine Aj.dup_qa C dX9_number_105 ?_
                refine Aj.getIe (z := i + 1) C lf_RX9_193 rfl L.a dX9_number_106 (by rw [eh_11]; exact hset_same _ _ _ _) ?_
                refine Aj.iconst C dX9_number_109 (by decide) ?_
                refine Aj.iadd C dX9_number_110 (by omega) ?_
                refine Aj.putI C lf_RX9_193 L.a dX9_number_111 (fun h_15 eh_15 => ?_)
                refine Aj.iinc (al2 := [(2, qi 2), (1, qi (10 * (sgn P m i - 48) + (sgn P m (i + 1)) - 48)), (0, qa M)]) C 1 dX9_number_114 rfl (by decide) (by omega) rfl ?_
                refine Aj.goto (tgt := 61) C dX9_number_117 (by decide) ?_
                refine Aj.iload_n C 0 dX9_number_61 rfl ?_
                refine Aj.iconst C dX9_number_62 (by decide) ?_
                refine Aj.icmp_ge (tgt := 120) C dX9_number_63 (by decide) (fun c63 => ?_) (fun c63 => ?_)
                · exact absurd c63 (by decide)
                · refine Aj.aload_n C 2 dX9_number_66 rfl ?_
                  refine Aj.getIe (z := 1) C lf_RX9_196 rfl L.a dX9_number_67 (by rw [eh_15, hset_neb _ _ _ (by decide)]; exact (by rw [eh_11, hset_neb _ _ _ (by decide)]; exact (by rw [eh_9]; exact hset_same _ _ _ _))) ?_
                  refine Aj.if_eq (tgt := 120) C dX9_number_70 (by decide) (fun c70 => ?_) (fun c70 => ?_)
                  · exact absurd c70 (by decide)
                  · refine Aj.iload_n C 1 dX9_number_73 rfl ?_
                    refine Aj.if_le (tgt := 120) C dX9_number_74 (by decide) (fun c74 => ?_) (fun c74 => ?_)
                    · refine Aj.iload_n C 1 dX9_number_120 rfl ?_
                      refine Aj.iret C dX9_number_121 (by rw [hmc]; exact ⟨rfl, Nat.le_of_ble_eq_true rfl⟩) ⟨_, rfl, rfl, ?_⟩
                      exact ⟨1, i + 1 + 1, (by rw [eh_15, hset_neb _ _ _ (by decide)]; exact (by rw [eh_11, hset_neb _ _ _ (by decide)]; exact (by rw [eh_9]; exact hset_same _ _ _ _))), (by rw [eh_15]; exact hset_same _ _ _ _), by unfold NumP; omega, (fun x y q => by rw [eh_15, eh_11, eh_9, hset_ne _ _ (by omega), hset_ne _ _ (by omega), hset_ne _ _ (by omega)])⟩
                    · refine Aj.aload_n C 2 dX9_number_77 rfl ?_
                      refine Aj.callVi (As := []) (st := []) C lm_RX9_200 m_X9_sign mk_X9_sign ms_X9_sign (c_X9_sign _ (i := i + 1 + 1) L (cp.r (fun x y q => by rw [eh_15, eh_11, eh_9, hset_ne _ _ (by omega), hset_ne _ _ (by omega), hset_ne _ _ (by omega)])) pg (by rw [eh_15]; exact hset_same _ _ _ _) (by omega)) L.a (t := 9) rfl rfl rfl rfl (by decide) (Nat.le_of_ble_eq_true rfl) (by decide) dX9_number_78 (fun z78 h_16 rz78 p78 => ?_)
                      obtain ⟨rfl, ps78⟩ := p78
                      subst ps78
                      have gs78 := sgn_in pg (i + 1 + 1) (by omega)
                      refine Aj.bipush C dX9_number_81 (by decide) (by decide) ?_
                      refine Aj.bipush C dX9_number_83 (by decide) (by decide) ?_
                      refine Aj.callSi (As := [qi (sgn P m (i + 1 + 1)), qi 48, qi 57]) (st := []) C lm_RX9_60 m_X9_in mk_X9_in (c_X9_in _) rfl rfl (by decide) (Nat.le_of_ble_eq_true rfl) (by decide) dX9_number_85 (fun z85 h_17 rz85 p85 => ?_)
                      obtain ⟨rfl, pzi85_16, pei85_16⟩ := p85
                      refine Aj.if_eq (tgt := 120) C dX9_number_88 (by decide) (fun c88 => ?_) (fun c88 => ?_)
                      · refine Aj.iload_n C 1 dX9_number_120 rfl ?_
                        refine Aj.iret C dX9_number_121 (by rw [hmc]; exact ⟨rfl, Nat.le_of_ble_eq_true rfl⟩) ⟨_, rfl, rfl, ?_⟩
                        exact ⟨1, i + 1 + 1, (by rw [eh_15, hset_neb _ _ _ (by decide)]; exact (by rw [eh_11, hset_neb _ _ _ (by decide)]; exact (by rw [eh_9]; exact hset_same _ _ _ _))), (by rw [eh_15]; exact hset_same _ _ _ _), by unfold NumP; omega, (fun x y q => by rw [eh_15, eh_11, eh_9, hset_ne _ _ (by omega), hset_ne _ _ (by omega), hset_ne _ _ (by omega)])⟩
                      · refine Aj.bipush C dX9_number_91 (by decide) (by decide) ?_
                        refine Aj.iload_n C 1 dX9_number_93 rfl ?_
                        refine Aj.imul C dX9_number_94 (by omega) ?_
                        refine Aj.aload_n C 2 dX9_number_95 rfl ?_
                        refine Aj.callVi (As := []) (st := [qi (10 * (10 * (sgn P m i - 48) + (sgn P m (i + 1)) - 48))]) C lm_RX9_200 m_X9_sign mk_X9_sign ms_X9_sign (c_X9_sign _ (i := i + 1 + 1) L (cp.r (fun x y q => by rw [eh_15, eh_11, eh_9, hset_ne _ _ (by omega), hset_ne _ _ (by omega), hset_ne _ _ (by omega)])) pg (by rw [eh_15]; exact hset_same _ _ _ _) (by omega)) L.a (t := 9) rfl rfl rfl rfl (by decide) (Nat.le_of_ble_eq_true rfl) (by decide) dX9_number_96 (fun z96 h_18 rz96 p96 => ?_)
                        obtain ⟨rfl, ps96⟩ := p96
                        subst ps96
                        have gs96 := sgn_in pg (i + 1 + 1) (by omega)
                        refine Aj.iadd C dX9_number_99 (by omega) ?_
                        refine Aj.bipush C dX9_number_100 (by decide) (by decide) ?_
                        refine Aj.isub C dX9_number_102 (by omega) ?_
                        refine Aj.istore_n (al2 := [(1, qi (10 * (10 * (sgn P m i - 48) + (sgn P m (i + 1)) - 48) + (sgn P m (i + 1 + 1)) - 48)), (2, qi 2), (0, qa M)]) C dX9_number_103 (by decide) rfl ?_
                        refine Aj.aload_n C 2 dX9_number_104 rfl ?_
                        refine Aj.dup_qa C dX9_number_105 ?_
                        refine Aj.getIe (z := i + 1 + 1) C lf_RX9_193 rfl L.a dX9_number_106 (by rw [eh_15]; exact hset_same _ _ _ _) ?_
                        refine Aj.iconst C dX9_number_109 (by decide) ?_
                        refine Aj.iadd C dX9_number_110 (by omega) ?_
                        refine Aj.putI C lf_RX9_193 L.a dX9_number_111 (fun h_19 eh_19 => ?_)
                        refine Aj.iinc (al2 := [(2, qi 3), (1, qi (10 * (10 * (sgn P m i - 48) + (sgn P m (i + 1)) - 48) + (sgn P m (i + 1 + 1)) - 48)), (0, qa M)]) C 1 dX9_number_114 rfl (by decide) (by omega) rfl ?_
                        refine Aj.goto (tgt := 61) C dX9_number_117 (by decide) ?_
                        refine Aj.iload_n C 0 dX9_number_61 rfl ?_
                        refine Aj.iconst C dX9_number_62 (by decide) ?_
                        refine Aj.icmp_ge (tgt := 120) C dX9_number_63 (by decide) (fun c63 => ?_) (fun c63 => ?_)
                        · refine Aj.iload_n C 1 dX9_number_120 rfl ?_
                          refine Aj.iret C dX9_number_121 (by rw [hmc]; exact ⟨rfl, Nat.le_of_ble_eq_true rfl⟩) ⟨_, rfl, rfl, ?_⟩
                          exact ⟨1, i + 1 + 1 + 1, (by rw [eh_19, hset_neb _ _ _ (by decide)]; exact (by rw [eh_15, hset_neb _ _ _ (by decide)]; exact (by rw [eh_11, hset_neb _ _ _ (by decide)]; exact (by rw [eh_9]; exact hset_same _ _ _ _)))), (by rw [eh_19]; exact hset_same _ _ _ _), by unfold NumP; omega, (fun x y q => by rw [eh_19, eh_15, eh_11, eh_9, hset_ne _ _ (by omega), hset_ne _ _ (by omega), hset_ne _ _ (by omega), hset_ne _ _ (by omega)])⟩
                        · exact absurd c63 (by decide)
