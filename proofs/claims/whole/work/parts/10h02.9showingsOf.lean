set_option maxHeartbeats 400000 in
set_option maxRecDepth 100000 in
theorem c_X9_showingsOf (l : Launch) {G : qG} {n : Int} {r h : qH} {a b : Int} {M : Int} {s : Int → Int} (L : LModel G n r M) (c : IMs h M s) (g : SG s) {T : qT} (d : CP h M T) (t : TG T) (hT : T.1 ≤ 120) {U : qU} (u : CU h M U) {W : qW} (cw : CW h M W U.1) (wg : WG U.1 W) (hu : U.1 ≤ 40) (ug : UG s T U) (hb : 4 ≤ b ∧ b ≤ 6) : q_Cm l G yX9_showingsOf cX9_showingsOf 7 (some .int) 0 0 [qa M, qi a, qi b] n r h (q_Pi r (fun z h' => h = h' ∧ z = if b = 4 then cntN U.2.1 a U.1.toNat else if b = 5 then shcN U W a U.1.toNat else tenN U W a U.1.toNat)) 0 0 := by
  refine q_enter (al := [(0, qa M), (1, qi a), (2, qi b)]) m_X9_showingsOf rfl (Nat.le_of_ble_eq_true rfl) ?_
  intro hok X C hmc hxl hin
  have gn := g.n
  have t0 := t.1
  refine Aj.iconst C dX9_showingsOf_0 (by decide) ?_
  refine Aj.istore_n (al2 := [(3, qi 0), (0, qa M), (1, qi a), (2, qi b)]) C dX9_showingsOf_1 (by decide) rfl ?_
  refine Aj.iconst C dX9_showingsOf_2 (by decide) ?_
  refine Aj.istore (al2 := [(4, qi 0), (3, qi 0), (0, qa M), (1, qi a), (2, qi b)]) C dX9_showingsOf_3 (by decide) rfl ?_
  refine Aj.pick (al2 := [(0, qa M), (1, qi a), (2, qi b), (3, qi 0), (4, qi 0)]) [2, 3, 4, 1, 0] rfl ?_
  suffices L5 : ∀ (N : Nat) (w i : Int) , (0 ≤ i ∧ i ≤ U.1 ∧ w = (if b = 4 then cntN U.2.1 a i.toNat else if b = 5 then shcN U W a i.toNat else tenN U W a i.toNat) ∧ 0 ≤ w ∧ w ≤ 48000 * i) → (U.1 - i).toNat < N → Aj G X (q_Pi r (fun z h' => h = h' ∧ z = if b = 4 then cntN U.2.1 a U.1.toNat else if b = 5 then shcN U W a U.1.toNat else tenN U W a U.1.toNat)) cX9_showingsOf 7 (0, 0) n r h 5 [(0, qa M), (1, qi a), (2, qi b), (3, qi w), (4, qi i)] [] from L5 (_ + 1) 0 0 (⟨by omega, ug.1, by split; rfl; split; rfl; rfl, by omega, by omega⟩) (Nat.lt_succ_self _)
  intro N5
  induction N5 with
  | zero => intro w i _ hN; exact absurd hN (Nat.not_lt_zero _)
  | succ N ih5 =>
    intro w i hI5 hN5
    obtain ⟨hi0, hi1, hi2, hi3, hi4⟩ := hI5
    refine Aj.iload C 4 dX9_showingsOf_5 rfl ?_
    refine Aj.aload_n C 0 dX9_showingsOf_7 rfl ?_
    refine Aj.getIe (z := U.1) C lf_RX9_102 rfl L.a dX9_showingsOf_8 u.1 ?_
    refine Aj.icmp_ge (tgt := 101) C dX9_showingsOf_11 (by decide) (fun c11 => ?_) (fun c11 => ?_)
    · refine Aj.iload_n C 3 dX9_showingsOf_101 rfl ?_
      refine Aj.iret C dX9_showingsOf_102 (by rw [hmc]; exact ⟨rfl, Nat.le_of_ble_eq_true rfl⟩) ⟨_, rfl, rfl, ?_⟩
      have e : i = U.1 := by clear hi2; omega
      rw [e] at hi2
      exact ⟨rfl, hi2⟩
    · have wi := wg.2 i hi0 (by omega)
      refine Aj.aload_n C 0 dX9_showingsOf_14 rfl ?_
      refine Aj.getR C lf_RX9_44 rfl L.a L.r16 dX9_showingsOf_15 ?_
      refine Aj.iload C 4 dX9_showingsOf_18 rfl ?_
      refine Aj.ialde (w := W.1 i) C L.a12 (by omega) dX9_showingsOf_20 (cw _ (by omega) (by omega)).1 ?_
      refine Aj.if_ne (tgt := 28) C dX9_showingsOf_21 (by decide) (fun c21 => ?_) (fun c21 => ?_)
      · refine Aj.iconst C dX9_showingsOf_28 (by decide) ?_
        refine Aj.istore (al2 := [(5, qi 0), (0, qa M), (1, qi a), (2, qi b), (3, qi w), (4, qi i)]) C dX9_showingsOf_29 (by decide) rfl ?_
        refine Aj.iload_n C 3 dX9_showingsOf_31 rfl ?_
        refine Aj.iconst C dX9_showingsOf_32 (by decide) ?_
        refine Aj.icmp_ne (tgt := 40) C dX9_showingsOf_33 (by decide) (fun c33 => ?_) (fun c33 => ?_)
        · refine Aj.iload C 0 dX9_showingsOf_40 rfl ?_
          refine Aj.if_ne (tgt := 49) C dX9_showingsOf_42 (by decide) (fun c42 => ?_) (fun c42 => ?_)
          · exact absurd c42 (by decide)
          · refine Aj.iconst C dX9_showingsOf_45 (by decide) ?_
            refine Aj.goto (tgt := 73) C dX9_showingsOf_46 (by decide) ?_
            refine Aj.istore (al2 := [(6, qi 0), (5, qi 0), (0, qa M), (1, qi a), (2, qi b), (3, qi w), (4, qi i)]) C dX9_showingsOf_73 (by decide) rfl ?_
            refine Aj.iload_n C 5 dX9_showingsOf_75 rfl ?_
            refine Aj.aload_n C 2 dX9_showingsOf_76 rfl ?_
            refine Aj.getR C lf_RX9_32 rfl L.a L.r12 dX9_showingsOf_77 ?_
            refine Aj.iload C 6 dX9_showingsOf_80 rfl ?_
            refine Aj.ialde (w := U.2.1 i) C L.a8 (by omega) dX9_showingsOf_82 (u.2 _ (by omega) (by omega)).1 ?_
            refine Aj.iload_n C 3 dX9_showingsOf_83 rfl ?_
            refine Aj.icmp_ne (tgt := 92) C dX9_showingsOf_84 (by decide) (fun c84 => ?_) (fun c84 => ?_)
            · refine Aj.iconst C dX9_showingsOf_92 (by decide) ?_
              refine Aj.iadd C dX9_showingsOf_93 (by omega) ?_
              refine Aj.istore_n (al2 := [(3, qi (w + 0)), (6, qi 0), (5, qi 0), (0, qa M), (1, qi a), (2, qi b), (4, qi i)]) C dX9_showingsOf_94 (by decide) rfl ?_
              refine Aj.iinc (al2 := [(4, qi (i + 1)), (3, qi (w + 0)), (6, qi 0), (5, qi 0), (0, qa M), (1, qi a), (2, qi b)]) C 6 dX9_showingsOf_95 rfl (by decide) (by omega) rfl ?_
              refine Aj.goto (tgt := 5) C dX9_showingsOf_98 (by decide) ?_
              refine Aj.pick (al2 := [(0, qa M), (1, qi a), (2, qi b), (3, qi (w + 0)), (4, qi (i + 1))]) [4, 5, 6, 1, 0] rfl ?_
              exact ih5 (w + 0) (i + 1) (⟨by omega, by omega, by
                rw [cntN_s hi0, shcN_s hi0, tenN_s hi0]
                split at hi2 <;> (try split at hi2) <;> (repeat (first | rw [if_neg (by omega)] | rw [if_pos (by omega)])) <;> omega, by omega, by omega⟩) (by clear hi2; omega)
            · refine Aj.iload C 0 dX9_showingsOf_87 rfl ?_
              refine Aj.goto (tgt := 93) C dX9_showingsOf_89 (by decide) ?_
              refine Aj.iadd C dX9_showingsOf_93 (by omega) ?_
              refine Aj.istore_n (al2 := [(3, qi (w + 0)), (6, qi 0), (5, qi 0), (0, qa M), (1, qi a), (2, qi b), (4, qi i)]) C dX9_showingsOf_94 (by decide) rfl ?_
              refine Aj.iinc (al2 := [(4, qi (i + 1)), (3, qi (w + 0)), (6, qi 0), (5, qi 0), (0, qa M), (1, qi a), (2, qi b)]) C 6 dX9_showingsOf_95 rfl (by decide) (by omega) rfl ?_
              refine Aj.goto (tgt := 5) C dX9_showingsOf_98 (by decide) ?_
              refine Aj.pick (al2 := [(0, qa M), (1, qi a), (2, qi b), (3, qi (w + 0)), (4, qi (i + 1))]) [4, 5, 6, 1, 0] rfl ?_
              exact ih5 (w + 0) (i + 1) (⟨by omega, by omega, by
                rw [cntN_s hi0, shcN_s hi0, tenN_s hi0]
                split at hi2 <;> (try split at hi2) <;> (repeat (first | rw [if_neg (by omega)] | rw [if_pos (by omega)])) <;> omega, by omega, by omega⟩) (by clear hi2; omega)
        · refine Aj.iconst C dX9_showingsOf_36 (by decide) ?_
          refine Aj.goto (tgt := 73) C dX9_showingsOf_37 (by decide) ?_
          refine Aj.istore (al2 := [(6, qi 1), (5, qi 0), (0, qa M), (1, qi a), (2, qi b), (3, qi w), (4, qi i)]) C dX9_showingsOf_73 (by decide) rfl ?_
          refine Aj.iload_n C 5 dX9_showingsOf_75 rfl ?_
          refine Aj.aload_n C 2 dX9_showingsOf_76 rfl ?_
          refine Aj.getR C lf_RX9_32 rfl L.a L.r12 dX9_showingsOf_77 ?_
          refine Aj.iload C 6 dX9_showingsOf_80 rfl ?_
          refine Aj.ialde (w := U.2.1 i) C L.a8 (by omega) dX9_showingsOf_82 (u.2 _ (by omega) (by omega)).1 ?_
          refine Aj.iload_n C 3 dX9_showingsOf_83 rfl ?_
          refine Aj.icmp_ne (tgt := 92) C dX9_showingsOf_84 (by decide) (fun c84 => ?_) (fun c84 => ?_)
          · refine Aj.iconst C dX9_showingsOf_92 (by decide) ?_
            refine Aj.iadd C dX9_showingsOf_93 (by omega) ?_
            refine Aj.istore_n (al2 := [(3, qi (w + 0)), (6, qi 1), (5, qi 0), (0, qa M), (1, qi a), (2, qi b), (4, qi i)]) C dX9_showingsOf_94 (by decide) rfl ?_
            refine Aj.iinc (al2 := [(4, qi (i + 1)), (3, qi (w + 0)), (6, qi 1), (5, qi 0), (0, qa M), (1, qi a), (2, qi b)]) C 6 dX9_showingsOf_95 rfl (by decide) (by omega) rfl ?_
            refine Aj.goto (tgt := 5) C dX9_showingsOf_98 (by decide) ?_
            refine Aj.pick (al2 := [(0, qa M), (1, qi a), (2, qi b), (3, qi (w + 0)), (4, qi (i + 1))]) [4, 5, 6, 1, 0] rfl ?_
            exact ih5 (w + 0) (i + 1) (⟨by omega, by omega, by
              rw [cntN_s hi0, shcN_s hi0, tenN_s hi0]
              split at hi2 <;> (try split at hi2) <;> (repeat (first | rw [if_neg (by omega)] | rw [if_pos (by omega)])) <;> omega, by omega, by omega⟩) (by clear hi2; omega)
          · refine Aj.iload C 0 dX9_showingsOf_87 rfl ?_
            refine Aj.goto (tgt := 93) C dX9_showingsOf_89 (by decide) ?_
            refine Aj.iadd C dX9_showingsOf_93 (by omega) ?_
            refine Aj.istore_n (al2 := [(3, qi (w + 1)), (6, qi 1), (5, qi 0), (0, qa M), (1, qi a), (2, qi b), (4, qi i)]) C dX9_showingsOf_94 (by decide) rfl ?_
            refine Aj.iinc (al2 := [(4, qi (i + 1)), (3, qi (w + 1)), (6, qi 1), (5, qi 0), (0, qa M), (1, qi a), (2, qi b)]) C 6 dX9_showingsOf_95 rfl (by decide) (by omega) rfl ?_
            refine Aj.goto (tgt := 5) C dX9_showingsOf_98 (by decide) ?_
            refine Aj.pick (al2 := [(0, qa M), (1, qi a), (2, qi b), (3, qi (w + 1)), (4, qi (i + 1))]) [4, 5, 6, 1, 0] rfl ?_
            exact ih5 (w + 1) (i + 1) (⟨by omega, by omega, by
              rw [cntN_s hi0, shcN_s hi0, tenN_s hi0]
              split at hi2 <;> (try split at hi2) <;> (repeat (first | rw [if_neg (by omega)] | rw [if_pos (by omega)])) <;> omega, by omega, by omega⟩) (by clear hi2; omega)
      · refine Aj.iconst C dX9_showingsOf_24 (by decide) ?_
        refine Aj.goto (tgt := 29) C dX9_showingsOf_25 (by decide) ?_
        refine Aj.istore (al2 := [(5, qi 1), (0, qa M), (1, qi a), (2, qi b), (3, qi w), (4, qi i)]) C dX9_showingsOf_29 (by decide) rfl ?_
        refine Aj.iload_n C 3 dX9_showingsOf_31 rfl ?_
        refine Aj.iconst C dX9_showingsOf_32 (by decide) ?_
        refine Aj.icmp_ne (tgt := 40) C dX9_showingsOf_33 (by decide) (fun c33 => ?_) (fun c33 => ?_)
        · refine Aj.iload C 0 dX9_showingsOf_40 rfl ?_
          refine Aj.if_ne (tgt := 49) C dX9_showingsOf_42 (by decide) (fun c42 => ?_) (fun c42 => ?_)
          · refine Aj.iload_n C 3 dX9_showingsOf_49 rfl ?_
            refine Aj.iconst C dX9_showingsOf_50 (by decide) ?_
            refine Aj.icmp_ne (tgt := 58) C dX9_showingsOf_51 (by decide) (fun c51 => ?_) (fun c51 => ?_)
            · refine Aj.aload_n C 1 dX9_showingsOf_58 rfl ?_
              refine Aj.getR C lf_RX9_50 rfl L.a L.r18 dX9_showingsOf_59 ?_
              refine Aj.iload C 5 dX9_showingsOf_62 rfl ?_
              refine Aj.ialde (w := W.2.2.1 i) C L.a14 (by omega) dX9_showingsOf_64 (cw _ (by omega) (by omega)).2.2 ?_
              refine Aj.aload_n C 1 dX9_showingsOf_65 rfl ?_
              refine Aj.getR C lf_RX9_47 rfl L.a L.r17 dX9_showingsOf_66 ?_
              refine Aj.iload C 5 dX9_showingsOf_69 rfl ?_
              refine Aj.ialde (w := W.2.1 i) C L.a13 (by omega) dX9_showingsOf_71 (cw _ (by omega) (by omega)).2.1 ?_
              refine Aj.isub C dX9_showingsOf_72 (by omega) ?_
              refine Aj.istore (al2 := [(6, qi (W.2.2.1 i - (W.2.1 i))), (5, qi 1), (0, qa M), (1, qi a), (2, qi b), (3, qi w), (4, qi i)]) C dX9_showingsOf_73 (by decide) rfl ?_
              refine Aj.iload_n C 5 dX9_showingsOf_75 rfl ?_
              refine Aj.aload_n C 2 dX9_showingsOf_76 rfl ?_
              refine Aj.getR C lf_RX9_32 rfl L.a L.r12 dX9_showingsOf_77 ?_
              refine Aj.iload C 6 dX9_showingsOf_80 rfl ?_
              refine Aj.ialde (w := U.2.1 i) C L.a8 (by omega) dX9_showingsOf_82 (u.2 _ (by omega) (by omega)).1 ?_
              refine Aj.iload_n C 3 dX9_showingsOf_83 rfl ?_
              refine Aj.icmp_ne (tgt := 92) C dX9_showingsOf_84 (by decide) (fun c84 => ?_) (fun c84 => ?_)
              · refine Aj.iconst C dX9_showingsOf_92 (by decide) ?_
                refine Aj.iadd C dX9_showingsOf_93 (by omega) ?_
                refine Aj.istore_n (al2 := [(3, qi (w + 0)), (6, qi (W.2.2.1 i - (W.2.1 i))), (5, qi 1), (0, qa M), (1, qi a), (2, qi b), (4, qi i)]) C dX9_showingsOf_94 (by decide) rfl ?_
                refine Aj.iinc (al2 := [(4, qi (i + 1)), (3, qi (w + 0)), (6, qi (W.2.2.1 i - (W.2.1 i))), (5, qi 1), (0, qa M), (1, qi a), (2, qi b)]) C 6 dX9_showingsOf_95 rfl (by decide) (by omega) rfl ?_
                refine Aj.goto (tgt := 5) C dX9_showingsOf_98 (by decide) ?_
                refine Aj.pick (al2 := [(0, qa M), (1, qi a), (2, qi b), (3, qi (w + 0)), (4, qi (i + 1))]) [4, 5, 6, 1, 0] rfl ?_
                exact ih5 (w + 0) (i + 1) (⟨by omega, by omega, by
                  rw [cntN_s hi0, shcN_s hi0, tenN_s hi0]
                  split at hi2 <;> (try split at hi2) <;> (repeat (first | rw [if_neg (by omega)] | rw [if_pos (by omega)])) <;> omega, by omega, by omega⟩) (by clear hi2; omega)
              · refine Aj.iload C 0 dX9_showingsOf_87 rfl ?_
                refine Aj.goto (tgt := 93) C dX9_showingsOf_89 (by decide) ?_
                refine Aj.iadd C dX9_showingsOf_93 (by omega) ?_
                refine Aj.istore_n (al2 := [(3, qi (w + (W.2.2.1 i - (W.2.1 i)))), (6, qi (W.2.2.1 i - (W.2.1 i))), (5, qi 1), (0, qa M), (1, qi a), (2, qi b), (4, qi i)]) C dX9_showingsOf_94 (by decide) rfl ?_
                refine Aj.iinc (al2 := [(4, qi (i + 1)), (3, qi (w + (W.2.2.1 i - (W.2.1 i)))), (6, qi (W.2.2.1 i - (W.2.1 i))), (5, qi 1), (0, qa M), (1, qi a), (2, qi b)]) C 6 dX9_showingsOf_95 rfl (by decide) (by omega) rfl ?_
                refine Aj.goto (tgt := 5) C dX9_showingsOf_98 (by decide) ?_
                refine Aj.pick (al2 := [(0, qa M), (1, qi a), (2, qi b), (3, qi (w + (W.2.2.1 i - (W.2.1 i)))), (4, qi (i + 1))]) [4, 5, 6, 1, 0] rfl ?_
                exact ih5 (w + (W.2.2.1 i - (W.2.1 i))) (i + 1) (⟨by omega, by omega, by
                  rw [cntN_s hi0, shcN_s hi0, tenN_s hi0]
                  split at hi2 <;> (try split at hi2) <;> (repeat (first | rw [if_neg (by omega)] | rw [if_pos (by omega)])) <;> omega, by omega, by omega⟩) (by clear hi2; omega)
            · refine Aj.iconst C dX9_showingsOf_54 (by decide) ?_
              refine Aj.goto (tgt := 73) C dX9_showingsOf_55 (by decide) ?_
              refine Aj.istore (al2 := [(6, qi 1), (5, qi 1), (0, qa M), (1, qi a), (2, qi b), (3, qi w), (4, qi i)]) C dX9_showingsOf_73 (by decide) rfl ?_
              refine Aj.iload_n C 5 dX9_showingsOf_75 rfl ?_
              refine Aj.aload_n C 2 dX9_showingsOf_76 rfl ?_
              refine Aj.getR C lf_RX9_32 rfl L.a L.r12 dX9_showingsOf_77 ?_
              refine Aj.iload C 6 dX9_showingsOf_80 rfl ?_
              refine Aj.ialde (w := U.2.1 i) C L.a8 (by omega) dX9_showingsOf_82 (u.2 _ (by omega) (by omega)).1 ?_
              refine Aj.iload_n C 3 dX9_showingsOf_83 rfl ?_
              refine Aj.icmp_ne (tgt := 92) C dX9_showingsOf_84 (by decide) (fun c84 => ?_) (fun c84 => ?_)
              · refine Aj.iconst C dX9_showingsOf_92 (by decide) ?_
                refine Aj.iadd C dX9_showingsOf_93 (by omega) ?_
                refine Aj.istore_n (al2 := [(3, qi (w + 0)), (6, qi 1), (5, qi 1), (0, qa M), (1, qi a), (2, qi b), (4, qi i)]) C dX9_showingsOf_94 (by decide) rfl ?_
                refine Aj.iinc (al2 := [(4, qi (i + 1)), (3, qi (w + 0)), (6, qi 1), (5, qi 1), (0, qa M), (1, qi a), (2, qi b)]) C 6 dX9_showingsOf_95 rfl (by decide) (by omega) rfl ?_
                refine Aj.goto (tgt := 5) C dX9_showingsOf_98 (by decide) ?_
                refine Aj.pick (al2 := [(0, qa M), (1, qi a), (2, qi b), (3, qi (w + 0)), (4, qi (i + 1))]) [4, 5, 6, 1, 0] rfl ?_
                exact ih5 (w + 0) (i + 1) (⟨by omega, by omega, by
                  rw [cntN_s hi0, shcN_s hi0, tenN_s hi0]
                  split at hi2 <;> (try split at hi2) <;> (repeat (first | rw [if_neg (by omega)] | rw [if_pos (by omega)])) <;> omega, by omega, by omega⟩) (by clear hi2; omega)
              · refine Aj.iload C 0 dX9_showingsOf_87 rfl ?_
                refine Aj.goto (tgt := 93) C dX9_showingsOf_89 (by decide) ?_
                refine Aj.iadd C dX9_showingsOf_93 (by omega) ?_
                refine Aj.istore_n (al2 := [(3, qi (w + 1)), (6, qi 1), (5, qi 1), (0, qa M), (1, qi a), (2, qi b), (4, qi i)]) C dX9_showingsOf_94 (by decide) rfl ?_
                refine Aj.iinc (al2 := [(4, qi (i + 1)), (3, qi (w + 1)), (6, qi 1), (5, qi 1), (0, qa M), (1, qi a), (2, qi b)]) C 6 dX9_showingsOf_95 rfl (by decide) (by omega) rfl ?_
                refine Aj.goto (tgt := 5) C dX9_showingsOf_98 (by decide) ?_
                refine Aj.pick (al2 := [(0, qa M), (1, qi a), (2, qi b), (3, qi (w + 1)), (4, qi (i + 1))]) [4, 5, 6, 1, 0] rfl ?_
                exact ih5 (w + 1) (i + 1) (⟨by omega, by omega, by
                  rw [cntN_s hi0, shcN_s hi0, tenN_s hi0]
                  split at hi2 <;> (try split at hi2) <;> (repeat (first | rw [if_neg (by omega)] | rw [if_pos (by omega)])) <;> omega, by omega, by omega⟩) (by clear hi2; omega)
          · exact absurd c42 (by decide)
        · refine Aj.iconst C dX9_showingsOf_36 (by decide) ?_
          refine Aj.goto (tgt := 73) C dX9_showingsOf_37 (by decide) ?_
          refine Aj.istore (al2 := [(6, qi 1), (5, qi 1), (0, qa M), (1, qi a), (2, qi b), (3, qi w), (4, qi i)]) C dX9_showingsOf_73 (by decide) rfl ?_
          refine Aj.iload_n C 5 dX9_showingsOf_75 rfl ?_
          refine Aj.aload_n C 2 dX9_showingsOf_76 rfl ?_
          refine Aj.getR C lf_RX9_32 rfl L.a L.r12 dX9_showingsOf_77 ?_
          refine Aj.iload C 6 dX9_showingsOf_80 rfl ?_
          refine Aj.ialde (w := U.2.1 i) C L.a8 (by omega) dX9_showingsOf_82 (u.2 _ (by omega) (by omega)).1 ?_
          refine Aj.iload_n C 3 dX9_showingsOf_83 rfl ?_
          refine Aj.icmp_ne (tgt := 92) C dX9_showingsOf_84 (by decide) (fun c84 => ?_) (fun c84 => ?_)
          · refine Aj.iconst C dX9_showingsOf_92 (by decide) ?_
            refine Aj.iadd C dX9_showingsOf_93 (by omega) ?_
            refine Aj.istore_n (al2 := [(3, qi (w + 0)), (6, qi 1), (5, qi 1), (0, qa M), (1, qi a), (2, qi b), (4, qi i)]) C dX9_showingsOf_94 (by decide) rfl ?_
            refine Aj.iinc (al2 := [(4, qi (i + 1)), (3, qi (w + 0)), (6, qi 1), (5, qi 1), (0, qa M), (1, qi a), (2, qi b)]) C 6 dX9_showingsOf_95 rfl (by decide) (by omega) rfl ?_
            refine Aj.goto (tgt := 5) C dX9_showingsOf_98 (by decide) ?_
            refine Aj.pick (al2 := [(0, qa M), (1, qi a), (2, qi b), (3, qi (w + 0)), (4, qi (i + 1))]) [4, 5, 6, 1, 0] rfl ?_
            exact ih5 (w + 0) (i + 1) (⟨by omega, by omega, by
              rw [cntN_s hi0, shcN_s hi0, tenN_s hi0]
              split at hi2 <;> (try split at hi2) <;> (repeat (first | rw [if_neg (by omega)] | rw [if_pos (by omega)])) <;> omega, by omega, by omega⟩) (by clear hi2; omega)
          · refine Aj.iload C 0 dX9_showingsOf_87 rfl ?_
            refine Aj.goto (tgt := 93) C dX9_showingsOf_89 (by decide) ?_
            refine Aj.iadd C dX9_showingsOf_93 (by omega) ?_
            refine Aj.istore_n (al2 := [(3, qi (w + 1)), (6, qi 1), (5, qi 1), (0, qa M), (1, qi a), (2, qi b), (4, qi i)]) C dX9_showingsOf_94 (by decide) rfl ?_
            refine Aj.iinc (al2 := [(4, qi (i + 1)), (3, qi (w + 1)), (6, qi 1), (5, qi 1), (0, qa M), (1, qi a), (2, qi b)]) C 6 dX9_showingsOf_95 rfl (by decide) (by omega) rfl ?_
            refine Aj.goto (tgt := 5) C dX9_showingsOf_98 (by decide) ?_
            refine Aj.pick (al2 := [(0, qa M), (1, qi a), (2, qi b), (3, qi (w + 1)), (4, qi (i + 1))]) [4, 5, 6, 1, 0] rfl ?_
            exact ih5 (w + 1) (i + 1) (⟨by omega, by omega, by
              rw [cntN_s hi0, shcN_s hi0, tenN_s hi0]
              split at hi2 <;> (try split at hi2) <;> (repeat (first | rw [if_neg (by omega)] | rw [if_pos (by omega)])) <;> omega, by omega, by omega⟩) (by clear hi2; omega)
