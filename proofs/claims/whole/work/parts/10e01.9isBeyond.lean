set_option maxHeartbeats 400000 in
set_option maxRecDepth 100000 in
theorem c_X9_isBeyond (l : Launch) {G : qG} {n : Int} {r h : qH} {a : Int} {M : Int} {s : Int → Int} (L : LModel G n r M) (c : IMs h M s) (g : SG s) : q_Cm l G yX9_isBeyond cX9_isBeyond 4 (some .boolean) 1 22 [qa M, qi a] n r h (q_Pi r (fun z h' => h = h' ∧ (z = 0 ∨ z = 1) ∧ (z = 1 ↔ beyP s a))) 0 0 := by
  refine q_enter (al := [(0, qa M), (1, qi a)]) m_X9_isBeyond rfl (Nat.le_of_ble_eq_true rfl) ?_
  intro hok X C hmc hxl hin
  have gn := g.n
  refine Aj.iconst C dX9_isBeyond_0 (by decide) ?_
  refine Aj.istore_n (al2 := [(2, qi 0), (0, qa M), (1, qi a)]) C dX9_isBeyond_1 (by decide) rfl ?_
  refine Aj.iconst C dX9_isBeyond_2 (by decide) ?_
  refine Aj.istore_n (al2 := [(3, qi 0), (2, qi 0), (0, qa M), (1, qi a)]) C dX9_isBeyond_3 (by decide) rfl ?_
  refine Aj.pick (al2 := [(0, qa M), (1, qi a), (2, qi 0), (3, qi 0)]) [2, 3, 1, 0] rfl ?_
  suffices L4 : ∀ (N : Nat) (w1 i1 : Int) , (0 ≤ i1 ∧ i1 ≤ s 2 ∧ (w1 = 0 ∨ w1 = 1) ∧ BX w1 i1 (fun k => a ≤ s (127 + 2 * k))) → (s 2 - i1).toNat < N → Aj G X (q_Pi r (fun z h' => h = h' ∧ (z = 0 ∨ z = 1) ∧ (z = 1 ↔ beyP s a))) cX9_isBeyond 4 (0, 0) n r h 4 [(0, qa M), (1, qi a), (2, qi w1), (3, qi i1)] [] from L4 (_ + 1) 0 0 (⟨by omega, by omega, by omega, BX.z⟩) (Nat.lt_succ_self _)
  intro N4
  induction N4 with
  | zero => intro w1 i1 _ hN; exact absurd hN (Nat.not_lt_zero _)
  | succ N ih4 =>
    intro w1 i1 hI4 hN4
    obtain ⟨ha0, ha1, ha2, ha3⟩ := hI4
    refine Aj.iload_n C 3 dX9_isBeyond_4 rfl ?_
    refine Aj.aload_n C 0 dX9_isBeyond_5 rfl ?_
    refine Aj.getR C lf_RX9_7 rfl L.a L.r1 dX9_isBeyond_6 ?_
    refine Aj.iconst C dX9_isBeyond_9 (by decide) ?_
    refine Aj.ialde (w := s 2) C L.a1 (by omega) dX9_isBeyond_10 (c _ (by omega) (by omega)) ?_
    refine Aj.icmp_ge (tgt := 47) C dX9_isBeyond_11 (by decide) (fun c11 => ?_) (fun c11 => ?_)
    · refine Aj.iconst C dX9_isBeyond_47 (by decide) ?_
      refine Aj.istore_n (al2 := [(3, qi 0), (0, qa M), (1, qi a), (2, qi w1)]) C dX9_isBeyond_48 (by decide) rfl ?_
      refine Aj.pick (al2 := [(0, qa M), (1, qi a), (2, qi w1), (3, qi 0)]) [1, 2, 3, 0] rfl ?_
      suffices L49 : ∀ (N : Nat) (w2 i2 : Int) , (0 ≤ i2 ∧ i2 ≤ s 3 ∧ (w2 = 0 ∨ w2 = 1) ∧ BY w1 w2 i2 (fun k => a ≤ s (135 + 2 * k))) → (s 3 - i2).toNat < N → Aj G X (q_Pi r (fun z h' => h = h' ∧ (z = 0 ∨ z = 1) ∧ (z = 1 ↔ beyP s a))) cX9_isBeyond 4 (0, 0) n r h 49 [(0, qa M), (1, qi a), (2, qi w2), (3, qi i2)] [] from L49 (_ + 1) w1 0 (⟨by omega, by omega, by omega, BY.z⟩) (Nat.lt_succ_self _)
      intro N49
      induction N49 with
      | zero => intro w2 i2 _ hN; exact absurd hN (Nat.not_lt_zero _)
      | succ N ih49 =>
        intro w2 i2 hI49 hN49
        obtain ⟨hb0, hb1, hb2, hb3⟩ := hI49
        refine Aj.iload_n C 3 dX9_isBeyond_49 rfl ?_
        refine Aj.aload_n C 0 dX9_isBeyond_50 rfl ?_
        refine Aj.getR C lf_RX9_7 rfl L.a L.r1 dX9_isBeyond_51 ?_
        refine Aj.iconst C dX9_isBeyond_54 (by decide) ?_
        refine Aj.ialde (w := s 3) C L.a1 (by omega) dX9_isBeyond_55 (c _ (by omega) (by omega)) ?_
        refine Aj.icmp_ge (tgt := 93) C dX9_isBeyond_56 (by decide) (fun c56 => ?_) (fun c56 => ?_)
        · refine Aj.iconst C dX9_isBeyond_93 (by decide) ?_
          refine Aj.istore_n (al2 := [(3, qi 0), (0, qa M), (1, qi a), (2, qi w2)]) C dX9_isBeyond_94 (by decide) rfl ?_
          refine Aj.pick (al2 := [(0, qa M), (1, qi a), (2, qi w2), (3, qi 0)]) [1, 2, 3, 0] rfl ?_
          suffices L95 : ∀ (N : Nat) (w3 i3 : Int) , (0 ≤ i3 ∧ i3 ≤ s 5 ∧ (w3 = 0 ∨ w3 = 1) ∧ BY w2 w3 i3 (fun k => a ≤ s (149 + 4 * k))) → (s 5 - i3).toNat < N → Aj G X (q_Pi r (fun z h' => h = h' ∧ (z = 0 ∨ z = 1) ∧ (z = 1 ↔ beyP s a))) cX9_isBeyond 4 (0, 0) n r h 95 [(0, qa M), (1, qi a), (2, qi w3), (3, qi i3)] [] from L95 (_ + 1) w2 0 (⟨by omega, by omega, by omega, BY.z⟩) (Nat.lt_succ_self _)
          intro N95
          induction N95 with
          | zero => intro w3 i3 _ hN; exact absurd hN (Nat.not_lt_zero _)
          | succ N ih95 =>
            intro w3 i3 hI95 hN95
            obtain ⟨hc0, hc1, hc2, hc3⟩ := hI95
            refine Aj.iload_n C 3 dX9_isBeyond_95 rfl ?_
            refine Aj.aload_n C 0 dX9_isBeyond_96 rfl ?_
            refine Aj.getR C lf_RX9_7 rfl L.a L.r1 dX9_isBeyond_97 ?_
            refine Aj.iconst C dX9_isBeyond_100 (by decide) ?_
            refine Aj.ialde (w := s 5) C L.a1 (by omega) dX9_isBeyond_101 (c _ (by omega) (by omega)) ?_
            refine Aj.icmp_ge (tgt := 131) C dX9_isBeyond_102 (by decide) (fun c102 => ?_) (fun c102 => ?_)
            · refine Aj.iload_n C 2 dX9_isBeyond_131 rfl ?_
              refine Aj.zret C dX9_isBeyond_132 (by omega) (by rw [hmc]; exact ⟨rfl, Nat.le_of_ble_eq_true rfl⟩) ⟨_, rfl, rfl, ?_⟩
              have e1 : i1 = s 2 := by omega
              have e2 : i2 = s 3 := by omega
              have e3 : i3 = s 5 := by omega
              rw [e1] at ha3
              rw [e2] at hb3
              rw [e3] at hc3
              refine ⟨rfl, hc2, ?_⟩
              unfold beyP
              unfold BY at hb3 hc3
              unfold BX at ha3
              rw [hc3, hb3, ha3]
              exact or_assoc
            · refine Aj.iload_n C 2 dX9_isBeyond_105 rfl ?_
              refine Aj.if_ne (tgt := 119) C dX9_isBeyond_106 (by decide) (fun c106 => ?_) (fun c106 => ?_)
              · refine Aj.iconst C dX9_isBeyond_119 (by decide) ?_
                refine Aj.goto (tgt := 124) C dX9_isBeyond_120 (by decide) ?_
                refine Aj.istore_n (al2 := [(2, qi 1), (0, qa M), (1, qi a), (3, qi i3)]) C dX9_isBeyond_124 (by decide) rfl ?_
                refine Aj.iinc (al2 := [(3, qi (i3 + 1)), (2, qi 1), (0, qa M), (1, qi a)]) C 3 dX9_isBeyond_125 rfl (by decide) (by omega) rfl ?_
                refine Aj.goto (tgt := 95) C dX9_isBeyond_128 (by decide) ?_
                refine Aj.pick (al2 := [(0, qa M), (1, qi a), (2, qi 1), (3, qi (i3 + 1))]) [2, 3, 1, 0] rfl ?_
                exact ih95 1 (i3 + 1) (⟨by omega, by omega, by omega, BY.s hc0 hc3 (by omega)⟩) (by omega)
              · refine Aj.aload_n C 0 dX9_isBeyond_109 rfl ?_
                refine Aj.iload_n C 3 dX9_isBeyond_110 rfl ?_
                refine Aj.iconst C dX9_isBeyond_111 (by decide) ?_
                refine Aj.callVi (As := [qi i3, qi 1]) (st := []) C lm_RX9_89 m_X9_of mk_X9_of ms_X9_of (c_X9_of _ (a := i3) (b := 1) (by omega) (by decide) L c g) L.a (t := 9) rfl rfl rfl rfl (by decide) (Nat.le_of_ble_eq_true rfl) (by decide) dX9_isBeyond_112 (fun z112 h_1 rz112 p112 => ?_)
                obtain ⟨rfl, po⟩ := p112
                have pq : z112 = s (149 + 4 * i3) := po.trans (congrArg s (by omega))
                clear po
                refine Aj.iload_n C 1 dX9_isBeyond_115 rfl ?_
                refine Aj.icmp_lt (tgt := 123) C dX9_isBeyond_116 (by decide) (fun c116 => ?_) (fun c116 => ?_)
                · refine Aj.iconst C dX9_isBeyond_123 (by decide) ?_
                  refine Aj.istore_n (al2 := [(2, qi 0), (0, qa M), (1, qi a), (3, qi i3)]) C dX9_isBeyond_124 (by decide) rfl ?_
                  refine Aj.iinc (al2 := [(3, qi (i3 + 1)), (2, qi 0), (0, qa M), (1, qi a)]) C 3 dX9_isBeyond_125 rfl (by decide) (by omega) rfl ?_
                  refine Aj.goto (tgt := 95) C dX9_isBeyond_128 (by decide) ?_
                  refine Aj.pick (al2 := [(0, qa M), (1, qi a), (2, qi 0), (3, qi (i3 + 1))]) [2, 3, 1, 0] rfl ?_
                  exact ih95 0 (i3 + 1) (⟨by omega, by omega, by omega, BY.s hc0 hc3 (by omega)⟩) (by omega)
                · refine Aj.iconst C dX9_isBeyond_119 (by decide) ?_
                  refine Aj.goto (tgt := 124) C dX9_isBeyond_120 (by decide) ?_
                  refine Aj.istore_n (al2 := [(2, qi 1), (0, qa M), (1, qi a), (3, qi i3)]) C dX9_isBeyond_124 (by decide) rfl ?_
                  refine Aj.iinc (al2 := [(3, qi (i3 + 1)), (2, qi 1), (0, qa M), (1, qi a)]) C 3 dX9_isBeyond_125 rfl (by decide) (by omega) rfl ?_
                  refine Aj.goto (tgt := 95) C dX9_isBeyond_128 (by decide) ?_
                  refine Aj.pick (al2 := [(0, qa M), (1, qi a), (2, qi 1), (3, qi (i3 + 1))]) [2, 3, 1, 0] rfl ?_
                  exact ih95 1 (i3 + 1) (⟨by omega, by omega, by omega, BY.s hc0 hc3 (by omega)⟩) (by omega)
        · refine Aj.iload_n C 2 dX9_isBeyond_59 rfl ?_
          refine Aj.if_ne (tgt := 81) C dX9_isBeyond_60 (by decide) (fun c60 => ?_) (fun c60 => ?_)
          · refine Aj.iconst C dX9_isBeyond_81 (by decide) ?_
            refine Aj.goto (tgt := 86) C dX9_isBeyond_82 (by decide) ?_
            refine Aj.istore_n (al2 := [(2, qi 1), (0, qa M), (1, qi a), (3, qi i2)]) C dX9_isBeyond_86 (by decide) rfl ?_
            refine Aj.iinc (al2 := [(3, qi (i2 + 1)), (2, qi 1), (0, qa M), (1, qi a)]) C 3 dX9_isBeyond_87 rfl (by decide) (by omega) rfl ?_
            refine Aj.goto (tgt := 49) C dX9_isBeyond_90 (by decide) ?_
            refine Aj.pick (al2 := [(0, qa M), (1, qi a), (2, qi 1), (3, qi (i2 + 1))]) [2, 3, 1, 0] rfl ?_
            exact ih49 1 (i2 + 1) (⟨by omega, by omega, by omega, BY.s hb0 hb3 (by omega)⟩) (by omega)
          · refine Aj.aload_n C 0 dX9_isBeyond_63 rfl ?_
            refine Aj.getR C lf_RX9_7 rfl L.a L.r1 dX9_isBeyond_64 ?_
            refine Aj.sipush C dX9_isBeyond_67 (by decide) (by decide) ?_
            refine Aj.iconst C dX9_isBeyond_70 (by decide) ?_
            refine Aj.iload_n C 3 dX9_isBeyond_71 rfl ?_
            refine Aj.imul C dX9_isBeyond_72 (by omega) ?_
            refine Aj.iadd C dX9_isBeyond_73 (by omega) ?_
            refine Aj.iconst C dX9_isBeyond_74 (by decide) ?_
            refine Aj.iadd C dX9_isBeyond_75 (by omega) ?_
            refine Aj.ialde (w := s (135 + 2 * i2)) C L.a1 (by omega) dX9_isBeyond_76 ((c _ (by omega) (by omega)).trans (congrArg s (by omega))) ?_
            refine Aj.iload_n C 1 dX9_isBeyond_77 rfl ?_
            refine Aj.icmp_lt (tgt := 85) C dX9_isBeyond_78 (by decide) (fun c78 => ?_) (fun c78 => ?_)
            · refine Aj.iconst C dX9_isBeyond_85 (by decide) ?_
              refine Aj.istore_n (al2 := [(2, qi 0), (0, qa M), (1, qi a), (3, qi i2)]) C dX9_isBeyond_86 (by decide) rfl ?_
              refine Aj.iinc (al2 := [(3, qi (i2 + 1)), (2, qi 0), (0, qa M), (1, qi a)]) C 3 dX9_isBeyond_87 rfl (by decide) (by omega) rfl ?_
              refine Aj.goto (tgt := 49) C dX9_isBeyond_90 (by decide) ?_
              refine Aj.pick (al2 := [(0, qa M), (1, qi a), (2, qi 0), (3, qi (i2 + 1))]) [2, 3, 1, 0] rfl ?_
              exact ih49 0 (i2 + 1) (⟨by omega, by omega, by omega, BY.s hb0 hb3 (by omega)⟩) (by omega)
            · refine Aj.iconst C dX9_isBeyond_81 (by decide) ?_
              refine Aj.goto (tgt := 86) C dX9_isBeyond_82 (by decide) ?_
              refine Aj.istore_n (al2 := [(2, qi 1), (0, qa M), (1, qi a), (3, qi i2)]) C dX9_isBeyond_86 (by decide) rfl ?_
              refine Aj.iinc (al2 := [(3, qi (i2 + 1)), (2, qi 1), (0, qa M), (1, qi a)]) C 3 dX9_isBeyond_87 rfl (by decide) (by omega) rfl ?_
              refine Aj.goto (tgt := 49) C dX9_isBeyond_90 (by decide) ?_
              refine Aj.pick (al2 := [(0, qa M), (1, qi a), (2, qi 1), (3, qi (i2 + 1))]) [2, 3, 1, 0] rfl ?_
              exact ih49 1 (i2 + 1) (⟨by omega, by omega, by omega, BY.s hb0 hb3 (by omega)⟩) (by omega)
    · refine Aj.iload_n C 2 dX9_isBeyond_14 rfl ?_
      refine Aj.if_ne (tgt := 35) C dX9_isBeyond_15 (by decide) (fun c15 => ?_) (fun c15 => ?_)
      · refine Aj.iconst C dX9_isBeyond_35 (by decide) ?_
        refine Aj.goto (tgt := 40) C dX9_isBeyond_36 (by decide) ?_
        refine Aj.istore_n (al2 := [(2, qi 1), (0, qa M), (1, qi a), (3, qi i1)]) C dX9_isBeyond_40 (by decide) rfl ?_
        refine Aj.iinc (al2 := [(3, qi (i1 + 1)), (2, qi 1), (0, qa M), (1, qi a)]) C 3 dX9_isBeyond_41 rfl (by decide) (by omega) rfl ?_
        refine Aj.goto (tgt := 4) C dX9_isBeyond_44 (by decide) ?_
        refine Aj.pick (al2 := [(0, qa M), (1, qi a), (2, qi 1), (3, qi (i1 + 1))]) [2, 3, 1, 0] rfl ?_
        exact ih4 1 (i1 + 1) (⟨by omega, by omega, by omega, BX.s ha0 ha3 (by omega)⟩) (by omega)
      · refine Aj.aload_n C 0 dX9_isBeyond_18 rfl ?_
        refine Aj.getR C lf_RX9_7 rfl L.a L.r1 dX9_isBeyond_19 ?_
        refine Aj.bipush C dX9_isBeyond_22 (by decide) (by decide) ?_
        refine Aj.iconst C dX9_isBeyond_24 (by decide) ?_
        refine Aj.iload_n C 3 dX9_isBeyond_25 rfl ?_
        refine Aj.imul C dX9_isBeyond_26 (by omega) ?_
        refine Aj.iadd C dX9_isBeyond_27 (by omega) ?_
        refine Aj.iconst C dX9_isBeyond_28 (by decide) ?_
        refine Aj.iadd C dX9_isBeyond_29 (by omega) ?_
        refine Aj.ialde (w := s (127 + 2 * i1)) C L.a1 (by omega) dX9_isBeyond_30 ((c _ (by omega) (by omega)).trans (congrArg s (by omega))) ?_
        refine Aj.iload_n C 1 dX9_isBeyond_31 rfl ?_
        refine Aj.icmp_lt (tgt := 39) C dX9_isBeyond_32 (by decide) (fun c32 => ?_) (fun c32 => ?_)
        · refine Aj.iconst C dX9_isBeyond_39 (by decide) ?_
          refine Aj.istore_n (al2 := [(2, qi 0), (0, qa M), (1, qi a), (3, qi i1)]) C dX9_isBeyond_40 (by decide) rfl ?_
          refine Aj.iinc (al2 := [(3, qi (i1 + 1)), (2, qi 0), (0, qa M), (1, qi a)]) C 3 dX9_isBeyond_41 rfl (by decide) (by omega) rfl ?_
          refine Aj.goto (tgt := 4) C dX9_isBeyond_44 (by decide) ?_
          refine Aj.pick (al2 := [(0, qa M), (1, qi a), (2, qi 0), (3, qi (i1 + 1))]) [2, 3, 1, 0] rfl ?_
          exact ih4 0 (i1 + 1) (⟨by omega, by omega, by omega, BX.s ha0 ha3 (by omega)⟩) (by omega)
        · refine Aj.iconst C dX9_isBeyond_35 (by decide) ?_
          refine Aj.goto (tgt := 40) C dX9_isBeyond_36 (by decide) ?_
          refine Aj.istore_n (al2 := [(2, qi 1), (0, qa M), (1, qi a), (3, qi i1)]) C dX9_isBeyond_40 (by decide) rfl ?_
          refine Aj.iinc (al2 := [(3, qi (i1 + 1)), (2, qi 1), (0, qa M), (1, qi a)]) C 3 dX9_isBeyond_41 rfl (by decide) (by omega) rfl ?_
          refine Aj.goto (tgt := 4) C dX9_isBeyond_44 (by decide) ?_
          refine Aj.pick (al2 := [(0, qa M), (1, qi a), (2, qi 1), (3, qi (i1 + 1))]) [2, 3, 1, 0] rfl ?_
          exact ih4 1 (i1 + 1) (⟨by omega, by omega, by omega, BX.s ha0 ha3 (by omega)⟩) (by omega)
