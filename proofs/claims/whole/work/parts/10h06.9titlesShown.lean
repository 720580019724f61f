set_option maxHeartbeats 400000 in
set_option maxRecDepth 100000 in
theorem c_X9_titlesShown (l : Launch) {G : qG} {n : Int} {r h : qH} {M : Int} {s : Int → Int} (L : LModel G n r M) (c : IMs h M s) (g : SG s) {T : qT} (d : CP h M T) (t : TG T) (hT : T.1 ≤ 120) {U : qU} (u : CU h M U) {W : qW} (cw : CW h M W U.1) (wg : WG U.1 W) (hu : U.1 ≤ 40) (ug : UG s T U) : q_Cm l G yX9_titlesShown cX9_titlesShown 3 (some .int) 0 0 [qa M] n r h (q_Pi r (fun z h' => h = h' ∧ ∀ i : Nat, i < 32 → (bitP z i ↔ 0 < shcN U W (i : Int) U.1.toNat))) 0 0 := by
  refine q_enter (al := [(0, qa M)]) m_X9_titlesShown rfl (Nat.le_of_ble_eq_true rfl) ?_
  intro hok X C hmc hxl hin
  have gn := g.n
  have t0 := t.1
  refine Aj.iconst C dX9_titlesShown_0 (by decide) ?_
  refine Aj.istore_n (al2 := [(1, qi 0), (0, qa M)]) C dX9_titlesShown_1 (by decide) rfl ?_
  refine Aj.iconst C dX9_titlesShown_2 (by decide) ?_
  refine Aj.istore_n (al2 := [(2, qi 0), (1, qi 0), (0, qa M)]) C dX9_titlesShown_3 (by decide) rfl ?_
  refine Aj.pick (al2 := [(0, qa M), (1, qi 0), (2, qi 0)]) [2, 1, 0] rfl ?_
  suffices L4 : ∀ (N : Nat) (w k : Int) , (0 ≤ k ∧ k ≤ U.1 ∧ ∀ i : Nat, i < 32 → (bitP w i ↔ 0 < shcN U W (i : Int) k.toNat)) → (U.1 - k).toNat < N → Aj G X (q_Pi r (fun z h' => h = h' ∧ ∀ i : Nat, i < 32 → (bitP z i ↔ 0 < shcN U W (i : Int) U.1.toNat))) cX9_titlesShown 3 (0, 0) n r h 4 [(0, qa M), (1, qi w), (2, qi k)] [] from L4 (_ + 1) 0 0 (⟨by omega, ug.1, fun i hi => ⟨fun q => absurd q (bitP_0 i), fun q => absurd q (by show ¬ (0 : Int) < 0; omega)⟩⟩) (Nat.lt_succ_self _)
  intro N4
  induction N4 with
  | zero => intro w k _ hN; exact absurd hN (Nat.not_lt_zero _)
  | succ N ih4 =>
    intro w k hI4 hN4
    obtain ⟨hi0, hi1, hi2⟩ := hI4
    refine Aj.iload_n C 2 dX9_titlesShown_4 rfl ?_
    refine Aj.aload_n C 0 dX9_titlesShown_5 rfl ?_
    refine Aj.getIe (z := U.1) C lf_RX9_102 rfl L.a dX9_titlesShown_6 u.1 ?_
    refine Aj.icmp_ge (tgt := 42) C dX9_titlesShown_9 (by decide) (fun c9 => ?_) (fun c9 => ?_)
    · refine Aj.iload_n C 1 dX9_titlesShown_42 rfl ?_
      refine Aj.iret C dX9_titlesShown_43 (by rw [hmc]; exact ⟨rfl, Nat.le_of_ble_eq_true rfl⟩) ⟨_, rfl, rfl, ?_⟩
      have e : k = U.1 := by clear hi2; omega
      rw [e] at hi2
      exact ⟨rfl, hi2⟩
    · have wi := wg.2 k hi0 (by omega)
      have ui := ug.2 k hi0 (by omega)
      refine Aj.iload_n C 1 dX9_titlesShown_12 rfl ?_
      refine Aj.aload_n C 0 dX9_titlesShown_13 rfl ?_
      refine Aj.getR C lf_RX9_44 rfl L.a L.r16 dX9_titlesShown_14 ?_
      refine Aj.iload_n C 2 dX9_titlesShown_17 rfl ?_
      refine Aj.ialde (w := W.1 k) C L.a12 (by omega) dX9_titlesShown_18 (cw _ (by omega) (by omega)).1 ?_
      refine Aj.if_ne (tgt := 33) C dX9_titlesShown_19 (by decide) (fun c19 => ?_) (fun c19 => ?_)
      · refine Aj.iconst C dX9_titlesShown_33 (by decide) ?_
        refine Aj.ior C dX9_titlesShown_34 ?_
        refine Aj.istore_n (al2 := [(1, qi (b_or w 0)), (0, qa M), (2, qi k)]) C dX9_titlesShown_35 (by decide) rfl ?_
        refine Aj.iinc (al2 := [(2, qi (k + 1)), (1, qi (b_or w 0)), (0, qa M)]) C 2 dX9_titlesShown_36 rfl (by decide) (by omega) rfl ?_
        refine Aj.goto (tgt := 4) C dX9_titlesShown_39 (by decide) ?_
        refine Aj.pick (al2 := [(0, qa M), (1, qi (b_or w 0)), (2, qi (k + 1))]) [2, 1, 0] rfl ?_
        exact ih4 (b_or w 0) (k + 1) (⟨by omega, by omega, fun i hi => by
          have q0 := shcN_in U W (i : Int) k.toNat
          rw [bitP_or, hi2 i hi, shcN_s hi0]
          first
          | (rw [bitP_shl (by omega) hi]; split <;> omega)
          | (rw [if_neg (by omega)]; exact ⟨fun q => q.elim (fun q => by omega) (fun q => absurd q (bitP_0 i)), fun q => Or.inl (by omega)⟩)⟩) (by omega)
      · refine Aj.iconst C dX9_titlesShown_22 (by decide) ?_
        refine Aj.aload_n C 0 dX9_titlesShown_23 rfl ?_
        refine Aj.getR C lf_RX9_32 rfl L.a L.r12 dX9_titlesShown_24 ?_
        refine Aj.iload_n C 2 dX9_titlesShown_27 rfl ?_
        refine Aj.ialde (w := U.2.1 k) C L.a8 (by omega) dX9_titlesShown_28 (u.2 _ (by omega) (by omega)).1 ?_
        refine Aj.ishl C dX9_titlesShown_29 ?_
        refine Aj.goto (tgt := 34) C dX9_titlesShown_30 (by decide) ?_
        refine Aj.ior C dX9_titlesShown_34 ?_
        refine Aj.istore_n (al2 := [(1, qi (b_or w (b_shl 1 (U.2.1 k)))), (0, qa M), (2, qi k)]) C dX9_titlesShown_35 (by decide) rfl ?_
        refine Aj.iinc (al2 := [(2, qi (k + 1)), (1, qi (b_or w (b_shl 1 (U.2.1 k)))), (0, qa M)]) C 2 dX9_titlesShown_36 rfl (by decide) (by omega) rfl ?_
        refine Aj.goto (tgt := 4) C dX9_titlesShown_39 (by decide) ?_
        refine Aj.pick (al2 := [(0, qa M), (1, qi (b_or w (b_shl 1 (U.2.1 k)))), (2, qi (k + 1))]) [2, 1, 0] rfl ?_
        exact ih4 (b_or w (b_shl 1 (U.2.1 k))) (k + 1) (⟨by omega, by omega, fun i hi => by
          have q0 := shcN_in U W (i : Int) k.toNat
          rw [bitP_or, hi2 i hi, shcN_s hi0]
          first
          | (rw [bitP_shl (by omega) hi]; split <;> omega)
          | (rw [if_neg (by omega)]; exact ⟨fun q => q.elim (fun q => by omega) (fun q => absurd q (bitP_0 i)), fun q => Or.inl (by omega)⟩)⟩) (by omega)
