set_option maxHeartbeats 400000 in
set_option maxRecDepth 100000 in
theorem c_X9_lastPlace (l : Launch) {G : qG} {n : Int} {r h : qH} {a : Int} {M : Int} {s : Int → Int} (L : LModel G n r M) (c : IMs h M s) (g : SG s) {T : qT} (d : CP h M T) (t : TG T) (hT : T.1 ≤ 120) : q_Cm l G yX9_lastPlace cX9_lastPlace 4 (some .int) 0 0 [qa M, qi a] n r h (q_Pi r (fun z h' => h = h' ∧ z = lstN T.2.2.1 a T.1.toNat)) 0 0 := by
  refine q_enter (al := [(0, qa M), (1, qi a)]) m_X9_lastPlace rfl (Nat.le_of_ble_eq_true rfl) ?_
  intro hok X C hmc hxl hin
  have gn := g.n
  have t0 := t.1
  refine Aj.bipush C dX9_lastPlace_0 (by decide) (by decide) ?_
  refine Aj.istore_n (al2 := [(2, qi (-6)), (0, qa M), (1, qi a)]) C dX9_lastPlace_2 (by decide) rfl ?_
  refine Aj.iconst C dX9_lastPlace_3 (by decide) ?_
  refine Aj.istore_n (al2 := [(3, qi 0), (2, qi (-6)), (0, qa M), (1, qi a)]) C dX9_lastPlace_4 (by decide) rfl ?_
  refine Aj.pick (al2 := [(0, qa M), (1, qi a), (2, qi (-6)), (3, qi 0)]) [2, 3, 1, 0] rfl ?_
  suffices L5 : ∀ (N : Nat) (w i : Int) , (0 ≤ i ∧ i ≤ T.1 ∧ w = lstN T.2.2.1 a i.toNat) → (T.1 - i).toNat < N → Aj G X (q_Pi r (fun z h' => h = h' ∧ z = lstN T.2.2.1 a T.1.toNat)) cX9_lastPlace 4 (0, 0) n r h 5 [(0, qa M), (1, qi a), (2, qi w), (3, qi i)] [] from L5 (_ + 1) (-6) 0 (⟨by omega, by omega, rfl⟩) (Nat.lt_succ_self _)
  intro N5
  induction N5 with
  | zero => intro w i _ hN; exact absurd hN (Nat.not_lt_zero _)
  | succ N ih5 =>
    intro w i hI5 hN5
    obtain ⟨hi0, hi1, hi2⟩ := hI5
    refine Aj.iload_n C 3 dX9_lastPlace_5 rfl ?_
    refine Aj.aload_n C 0 dX9_lastPlace_6 rfl ?_
    refine Aj.getIe (z := T.1) C lf_RX9_71 rfl L.a dX9_lastPlace_7 d.1 ?_
    refine Aj.icmp_ge (tgt := 35) C dX9_lastPlace_10 (by decide) (fun c10 => ?_) (fun c10 => ?_)
    · refine Aj.iload_n C 2 dX9_lastPlace_35 rfl ?_
      refine Aj.iret C dX9_lastPlace_36 (by rw [hmc]; exact ⟨rfl, Nat.le_of_ble_eq_true rfl⟩) ⟨_, rfl, rfl, ?_⟩
      have e : i = T.1 := by omega
      rw [e] at hi2
      exact ⟨rfl, hi2⟩
    · refine Aj.aload_n C 0 dX9_lastPlace_13 rfl ?_
      refine Aj.getR C lf_RX9_26 rfl L.a L.r8 dX9_lastPlace_14 ?_
      refine Aj.iload_n C 3 dX9_lastPlace_17 rfl ?_
      refine Aj.ialde (w := T.2.2.1 i) C L.a6 (by omega) dX9_lastPlace_18 (d.2.2 _ (by omega) (by omega)).1 ?_
      refine Aj.iload_n C 1 dX9_lastPlace_19 rfl ?_
      refine Aj.icmp_ne (tgt := 27) C dX9_lastPlace_20 (by decide) (fun c20 => ?_) (fun c20 => ?_)
      · refine Aj.iload_n C 2 dX9_lastPlace_27 rfl ?_
        refine Aj.istore_n (al2 := [(2, qi w), (0, qa M), (1, qi a), (3, qi i)]) C dX9_lastPlace_28 (by decide) rfl ?_
        refine Aj.iinc (al2 := [(3, qi (i + 1)), (2, qi w), (0, qa M), (1, qi a)]) C 3 dX9_lastPlace_29 rfl (by decide) (by omega) rfl ?_
        refine Aj.goto (tgt := 5) C dX9_lastPlace_32 (by decide) ?_
        refine Aj.pick (al2 := [(0, qa M), (1, qi a), (2, qi w), (3, qi (i + 1))]) [2, 3, 1, 0] rfl ?_
        exact ih5 w (i + 1) (⟨by omega, by omega, by rw [lstN_s hi0]; first | rw [if_pos (by omega)] | (rw [if_neg (by omega)]; exact hi2)⟩) (by omega)
      · refine Aj.iload_n C 3 dX9_lastPlace_23 rfl ?_
        refine Aj.goto (tgt := 28) C dX9_lastPlace_24 (by decide) ?_
        refine Aj.istore_n (al2 := [(2, qi i), (0, qa M), (1, qi a), (3, qi i)]) C dX9_lastPlace_28 (by decide) rfl ?_
        refine Aj.iinc (al2 := [(3, qi (i + 1)), (2, qi i), (0, qa M), (1, qi a)]) C 3 dX9_lastPlace_29 rfl (by decide) (by omega) rfl ?_
        refine Aj.goto (tgt := 5) C dX9_lastPlace_32 (by decide) ?_
        refine Aj.pick (al2 := [(0, qa M), (1, qi a), (2, qi i), (3, qi (i + 1))]) [2, 3, 1, 0] rfl ?_
        exact ih5 i (i + 1) (⟨by omega, by omega, by rw [lstN_s hi0]; first | rw [if_pos (by omega)] | (rw [if_neg (by omega)]; exact hi2)⟩) (by omega)
