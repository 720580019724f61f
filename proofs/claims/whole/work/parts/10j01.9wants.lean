set_option maxHeartbeats 4000000 in
set_option maxRecDepth 100000 in
theorem c_X9_wants (l : Launch) {G : qG} {n : Int} {r h : qH} {a w : Int} {M i m : Int} {P : Int → Int} (L : LModel G n r M) (cp : IMp h M (m, P)) (pg : PG m P) (hi : h M 20 = i) (h0 : 0 ≤ i ∧ i ≤ 200) (hw : h M 21 = w) (w0 : w = 0 ∨ w = 1) : q_Cm l G yX9_wants cX9_wants 2 none 1 20 [qa M, qi a] n r h (q_Pv r (fun h' => ∃ w2 j, h' M 21 = w2 ∧ h' M 20 = j ∧ WantP P m w i a w2 j ∧ FRd M h h')) 0 0 := by
  refine q_enter (al := [(0, qa M), (1, qi a)]) m_X9_wants rfl (Nat.le_of_ble_eq_true rfl) ?_
  intro hok X C hmc hxl hin
  have pm : 0 ≤ m ∧ m ≤ 80 := ⟨pg.1, pg.2.1⟩
  refine Aj.aload_n C 0 dX9_wants_0 rfl ?_
  refine Aj.aload_n C 0 dX9_wants_1 rfl ?_
  refine Aj.getIe (z := w) C lf_RX9_196 rfl L.a dX9_wants_2 hw ?_
  refine Aj.if_eq (tgt := 20) C dX9_wants_5 (by decide) (fun c5 => ?_) (fun c5 => ?_)
  · refine Aj.iconst C dX9_wants_20 (by decide) ?_
    refine Aj.putZ C lf_RX9_196 L.a dX9_wants_21 (by omega) (fun h_1 eh_1 => ?_)
    refine Aj.aload_n C 0 dX9_wants_24 rfl ?_
    refine Aj.dup_qa C dX9_wants_25 ?_
    refine Aj.getIe (z := i) C lf_RX9_193 rfl L.a dX9_wants_26 (by rw [eh_1, hset_neb _ _ _ (by decide)]; exact hi) ?_
    refine Aj.aload_n C 0 dX9_wants_29 rfl ?_
    refine Aj.getIe (z := 0) C lf_RX9_196 rfl L.a dX9_wants_30 (by rw [eh_1]; exact hset_same _ _ _ _) ?_
    refine Aj.if_eq (tgt := 40) C dX9_wants_33 (by decide) (fun c33 => ?_) (fun c33 => ?_)
    · refine Aj.iconst C dX9_wants_40 (by decide) ?_
      refine Aj.iadd C dX9_wants_41 (by omega) ?_
      refine Aj.putI C lf_RX9_193 L.a dX9_wants_42 (fun h_2 eh_2 => ?_)
      refine Aj.vret C dX9_wants_45 (by rw [hmc]; exact ⟨rfl, Nat.le_of_ble_eq_true rfl⟩) ⟨rfl, rfl, ?_⟩
      exact ⟨0, i + 0, (by rw [eh_2, hset_neb _ _ _ (by decide)]; exact (by rw [eh_1]; exact hset_same _ _ _ _)), (by rw [eh_2]; exact hset_same _ _ _ _), by unfold WantP; omega, (fun x y q => by rw [eh_2, eh_1, hset_ne _ _ (by omega), hset_ne _ _ (by omega)])⟩
    · exact absurd c33 (by decide)
  · refine Aj.aload_n C 0 dX9_wants_8 rfl ?_
    refine Aj.callVi (As := []) (st := [qa M]) C lm_RX9_200 m_X9_sign mk_X9_sign ms_X9_sign (c_X9_sign _ (i := i) L (cp.r (fun x y q => rfl)) pg hi (by omega)) L.a (t := 9) rfl rfl rfl rfl (by decide) (Nat.le_of_ble_eq_true rfl) (by decide) dX9_wants_9 (fun z9 h_3 rz9 p9 => ?_)
    obtain ⟨rfl, ps9⟩ := p9
    subst ps9
    have gs9 := sgn_in pg (i) (by omega)
    refine Aj.iload_n C 1 dX9_wants_12 rfl ?_
    refine Aj.icmp_ne (tgt := 20) C dX9_wants_13 (by decide) (fun c13 => ?_) (fun c13 => ?_)
    · refine Aj.iconst C dX9_wants_20 (by decide) ?_
      refine Aj.putZ C lf_RX9_196 L.a dX9_wants_21 (by omega) (fun h_4 eh_4 => ?_)
      refine Aj.aload_n C 0 dX9_wants_24 rfl ?_
      refine Aj.dup_qa C dX9_wants_25 ?_
      refine Aj.getIe (z := i) C lf_RX9_193 rfl L.a dX9_wants_26 (by rw [eh_4, hset_neb _ _ _ (by decide)]; exact hi) ?_
      refine Aj.aload_n C 0 dX9_wants_29 rfl ?_
      refine Aj.getIe (z := 0) C lf_RX9_196 rfl L.a dX9_wants_30 (by rw [eh_4]; exact hset_same _ _ _ _) ?_
      refine Aj.if_eq (tgt := 40) C dX9_wants_33 (by decide) (fun c33 => ?_) (fun c33 => ?_)
      · refine Aj.iconst C dX9_wants_40 (by decide) ?_
        refine Aj.iadd C dX9_wants_41 (by omega) ?_
        refine Aj.putI C lf_RX9_193 L.a dX9_wants_42 (fun h_5 eh_5 => ?_)
        refine Aj.vret C dX9_wants_45 (by rw [hmc]; exact ⟨rfl, Nat.le_of_ble_eq_true rfl⟩) ⟨rfl, rfl, ?_⟩
        exact ⟨0, i + 0, (by rw [eh_5, hset_neb _ _ _ (by decide)]; exact (by rw [eh_4]; exact hset_same _ _ _ _)), (by rw [eh_5]; exact hset_same _ _ _ _), by unfold WantP; omega, (fun x y q => by rw [eh_5, eh_4, hset_ne _ _ (by omega), hset_ne _ _ (by omega)])⟩
      · exact absurd c33 (by decide)
    · refine Aj.iconst C dX9_wants_16 (by decide) ?_
      refine Aj.goto (tgt := 21) C dX9_wants_17 (by decide) ?_
      refine Aj.putZ C lf_RX9_196 L.a dX9_wants_21 (by omega) (fun h_6 eh_6 => ?_)
      refine Aj.aload_n C 0 dX9_wants_24 rfl ?_
      refine Aj.dup_qa C dX9_wants_25 ?_
      refine Aj.getIe (z := i) C lf_RX9_193 rfl L.a dX9_wants_26 (by rw [eh_6, hset_neb _ _ _ (by decide)]; exact hi) ?_
      refine Aj.aload_n C 0 dX9_wants_29 rfl ?_
      refine Aj.getIe (z := 1) C lf_RX9_196 rfl L.a dX9_wants_30 (by rw [eh_6]; exact hset_same _ _ _ _) ?_
      refine Aj.if_eq (tgt := 40) C dX9_wants_33 (by decide) (fun c33 => ?_) (fun c33 => ?_)
      · exact absurd c33 (by decide)
      · refine Aj.iconst C dX9_wants_36 (by decide) ?_
        refine Aj.goto (tgt := 41) C dX9_wants_37 (by decide) ?_
        refine Aj.iadd C dX9_wants_41 (by omega) ?_
        refine Aj.putI C lf_RX9_193 L.a dX9_wants_42 (fun h_7 eh_7 => ?_)
        refine Aj.vret C dX9_wants_45 (by rw [hmc]; exact ⟨rfl, Nat.le_of_ble_eq_true rfl⟩) ⟨rfl, rfl, ?_⟩
        exact ⟨1, i + 1, (by rw [eh_7, hset_neb _ _ _ (by decide)]; exact (by rw [eh_6]; exact hset_same _ _ _ _)), (by rw [eh_7]; exact hset_same _ _ _ _), by unfold WantP; omega, (fun x y q => by rw [eh_7, eh_6, hset_ne _ _ (by omega), hset_ne _ _ (by omega)])⟩
