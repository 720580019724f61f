set_option maxHeartbeats 400000 in
set_option maxRecDepth 100000 in
theorem c_X9_shownTenths (l : Launch) {G : qG} {n : Int} {r h : qH} {M : Int} {s : Int → Int} (L : LModel G n r M) (c : IMs h M s) (g : SG s) {T : qT} (d : CP h M T) (t : TG T) (hT : T.1 ≤ 120) {U : qU} (u : CU h M U) {W : qW} (cw : CW h M W U.1) (wg : WG U.1 W) (hu : U.1 ≤ 40) (ug : UG s T U) : q_Cm l G yX9_shownTenths cX9_shownTenths 3 (some .int) 0 0 [qa M] n r h (q_Pi r (fun z h' => h = h' ∧ z = tenA W U.1.toNat)) 0 0 := by
  refine q_enter (al := [(0, qa M)]) m_X9_shownTenths rfl (Nat.le_of_ble_eq_true rfl) ?_
  intro hok X C hmc hxl hin
  have gn := g.n
  have t0 := t.1
  refine Aj.iconst C dX9_shownTenths_0 (by decide) ?_
  refine Aj.istore_n (al2 := [(1, qi 0), (0, qa M)]) C dX9_shownTenths_1 (by decide) rfl ?_
  refine Aj.iconst C dX9_shownTenths_2 (by decide) ?_
  refine Aj.istore_n (al2 := [(2, qi 0), (1, qi 0), (0, qa M)]) C dX9_shownTenths_3 (by decide) rfl ?_
  refine Aj.pick (al2 := [(0, qa M), (1, qi 0), (2, qi 0)]) [2, 1, 0] rfl ?_
  suffices L4 : ∀ (N : Nat) (w i : Int) , (0 ≤ i ∧ i ≤ U.1 ∧ w = tenA W i.toNat ∧ 0 ≤ w ∧ w ≤ 48000 * i) → (U.1 - i).toNat < N → Aj G X (q_Pi r (fun z h' => h = h' ∧ z = tenA W U.1.toNat)) cX9_shownTenths 3 (0, 0) n r h 4 [(0, qa M), (1, qi w), (2, qi i)] [] from L4 (_ + 1) 0 0 (⟨by omega, ug.1, rfl, by omega, by omega⟩) (Nat.lt_succ_self _)
  intro N4
  induction N4 with
  | zero => intro w i _ hN; exact absurd hN (Nat.not_lt_zero _)
  | succ N ih4 =>
    intro w i hI4 hN4
    obtain ⟨hi0, hi1, hi2, hi3, hi4⟩ := hI4
    refine Aj.iload_n C 2 dX9_shownTenths_4 rfl ?_
    refine Aj.aload_n C 0 dX9_shownTenths_5 rfl ?_
    refine Aj.getIe (z := U.1) C lf_RX9_102 rfl L.a dX9_shownTenths_6 u.1 ?_
    refine Aj.icmp_ge (tgt := 47) C dX9_shownTenths_9 (by decide) (fun c9 => ?_) (fun c9 => ?_)
    · refine Aj.iload_n C 1 dX9_shownTenths_47 rfl ?_
      refine Aj.iret C dX9_shownTenths_48 (by rw [hmc]; exact ⟨rfl, Nat.le_of_ble_eq_true rfl⟩) ⟨_, rfl, rfl, ?_⟩
      have e : i = U.1 := by omega
      rw [e] at hi2
      exact ⟨rfl, hi2⟩
    · have wi := wg.2 i hi0 (by omega)
      refine Aj.iload_n C 1 dX9_shownTenths_12 rfl ?_
      refine Aj.aload_n C 0 dX9_shownTenths_13 rfl ?_
      refine Aj.getR C lf_RX9_44 rfl L.a L.r16 dX9_shownTenths_14 ?_
      refine Aj.iload_n C 2 dX9_shownTenths_17 rfl ?_
      refine Aj.ialde (w := W.1 i) C L.a12 (by omega) dX9_shownTenths_18 (cw _ (by omega) (by omega)).1 ?_
      refine Aj.if_ne (tgt := 38) C dX9_shownTenths_19 (by decide) (fun c19 => ?_) (fun c19 => ?_)
      · refine Aj.iconst C dX9_shownTenths_38 (by decide) ?_
        refine Aj.iadd C dX9_shownTenths_39 (by omega) ?_
        refine Aj.istore_n (al2 := [(1, qi (w + 0)), (0, qa M), (2, qi i)]) C dX9_shownTenths_40 (by decide) rfl ?_
        refine Aj.iinc (al2 := [(2, qi (i + 1)), (1, qi (w + 0)), (0, qa M)]) C 2 dX9_shownTenths_41 rfl (by decide) (by omega) rfl ?_
        refine Aj.goto (tgt := 4) C dX9_shownTenths_44 (by decide) ?_
        refine Aj.pick (al2 := [(0, qa M), (1, qi (w + 0)), (2, qi (i + 1))]) [2, 1, 0] rfl ?_
        exact ih4 (w + 0) (i + 1) (⟨by omega, by omega, by rw [tenA_s hi0]; first | rw [if_pos (by omega), hi2] | rw [if_neg (by omega), hi2], by omega, by omega⟩) (by omega)
      · refine Aj.aload_n C 0 dX9_shownTenths_22 rfl ?_
        refine Aj.getR C lf_RX9_50 rfl L.a L.r18 dX9_shownTenths_23 ?_
        refine Aj.iload_n C 2 dX9_shownTenths_26 rfl ?_
        refine Aj.ialde (w := W.2.2.1 i) C L.a14 (by omega) dX9_shownTenths_27 (cw _ (by omega) (by omega)).2.2 ?_
        refine Aj.aload_n C 0 dX9_shownTenths_28 rfl ?_
        refine Aj.getR C lf_RX9_47 rfl L.a L.r17 dX9_shownTenths_29 ?_
        refine Aj.iload_n C 2 dX9_shownTenths_32 rfl ?_
        refine Aj.ialde (w := W.2.1 i) C L.a13 (by omega) dX9_shownTenths_33 (cw _ (by omega) (by omega)).2.1 ?_
        refine Aj.isub C dX9_shownTenths_34 (by omega) ?_
        refine Aj.goto (tgt := 39) C dX9_shownTenths_35 (by decide) ?_
        refine Aj.iadd C dX9_shownTenths_39 (by omega) ?_
        refine Aj.istore_n (al2 := [(1, qi (w + (W.2.2.1 i - (W.2.1 i)))), (0, qa M), (2, qi i)]) C dX9_shownTenths_40 (by decide) rfl ?_
        refine Aj.iinc (al2 := [(2, qi (i + 1)), (1, qi (w + (W.2.2.1 i - (W.2.1 i)))), (0, qa M)]) C 2 dX9_shownTenths_41 rfl (by decide) (by omega) rfl ?_
        refine Aj.goto (tgt := 4) C dX9_shownTenths_44 (by decide) ?_
        refine Aj.pick (al2 := [(0, qa M), (1, qi (w + (W.2.2.1 i - (W.2.1 i)))), (2, qi (i + 1))]) [2, 1, 0] rfl ?_
        exact ih4 (w + (W.2.2.1 i - (W.2.1 i))) (i + 1) (⟨by omega, by omega, by rw [tenA_s hi0]; first | rw [if_pos (by omega), hi2] | rw [if_neg (by omega), hi2], by omega, by omega⟩) (by omega)
