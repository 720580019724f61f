set_option maxHeartbeats 4000000 in
set_option maxRecDepth 100000 in
theorem c_X2_codeAt (l : Launch) {G : qG} {n : Int} {r h : qH} {c k : Int} (hk : 0 ≤ k ∧ k < 8) : q_Cm l G yX2_codeAt cX2_codeAt 3 (some .int) 0 0 [ql c, qi k] n r h (q_Pi r (fun z h' => h = h' ∧ z = byt c k.toNat)) 0 0 := by
  refine q_enter (al := [(0, ql c), (2, qi k)]) m_X2_codeAt rfl (Nat.le_of_ble_eq_true rfl) ?_
  intro hok X C hmc hxl hin
  refine Aj.lload_n C 0 dX2_codeAt_0 rfl ?_
  refine Aj.bipush C dX2_codeAt_1 (by decide) (by decide) ?_
  refine Aj.iload_n C 1 dX2_codeAt_3 rfl ?_
  refine Aj.imul C dX2_codeAt_4 (by omega) ?_
  refine Aj.lushr C dX2_codeAt_5 ?_
  refine Aj.ldc2 (w := 255) C ll_RX2_31 dX2_codeAt_6 (by decide) (by decide) ?_
  refine Aj.land C dX2_codeAt_9 ?_
  refine Aj.l2i C dX2_codeAt_10 ?_
  refine Aj.iret C dX2_codeAt_11 (by rw [hmc]; exact ⟨rfl, Nat.le_of_ble_eq_true rfl⟩) ⟨_, rfl, rfl, ?_⟩
  exact ⟨rfl, by rw [ushr_rst c (k := k.toNat) (by omega) (by omega), land_byt, l2i_byt]⟩

set_option maxHeartbeats 4000000 in
set_option maxRecDepth 100000 in
theorem c_X2_countOf (l : Launch) {G : qG} {n : Int} {r h : qH} {c : Int} : q_Cm l G yX2_countOf cX2_countOf 5 (some .int) 1 22 [ql c] n r h (q_Pi r (fun z h' => h = h' ∧ 0 ≤ z ∧ z ≤ 8 ∧ (wellP c z.toNat ∨ (z = 0 ∧ ∀ n, ¬ wellP c n)))) 0 0 := by
  refine q_enter (al := [(0, ql c)]) m_X2_countOf rfl (Nat.le_of_ble_eq_true rfl) ?_
  intro hok X C hmc hxl hin
  refine Aj.iconst C dX2_countOf_0 (by decide) ?_
  refine Aj.istore_n (al2 := [(2, qi 0), (0, ql c)]) C dX2_countOf_1 (by decide) rfl ?_
  refine Aj.iconst C dX2_countOf_2 (by decide) ?_
  refine Aj.istore_n (al2 := [(3, qi 0), (2, qi 0), (0, ql c)]) C dX2_countOf_3 (by decide) rfl ?_
  refine Aj.pick (al2 := [(0, ql c), (2, qi 0), (3, qi 0)]) [2, 1, 0] rfl ?_
  suffices L4 : ∀ (N : Nat) (v i : Int) , (v = i ∧ 0 ≤ i ∧ i ≤ 8 ∧ ∀ k : Nat, k < i.toNat → 33 ≤ byt c k ∧ byt c k ≤ 126) → (8 - i).toNat < N → Aj G X (q_Pi r (fun z h' => h = h' ∧ 0 ≤ z ∧ z ≤ 8 ∧ (wellP c z.toNat ∨ (z = 0 ∧ ∀ n, ¬ wellP c n)))) cX2_countOf 5 (0, 0) n r h 4 [(0, ql c), (2, qi v), (3, qi i)] [] from L4 (_ + 1) 0 0 (⟨rfl, by omega, by omega, fun k hk => absurd hk (Nat.not_lt_zero _)⟩) (Nat.lt_succ_self _)
  intro N4
  induction N4 with
  | zero => intro v i _ hN; exact absurd hN (Nat.not_lt_zero _)
  | succ N ih4 =>
    intro v i hI4 hN4
    obtain ⟨ev, hi0, hi1, hi2⟩ := hI4
    refine Aj.iload_n C 2 dX2_countOf_4 rfl ?_
    refine Aj.bipush C dX2_countOf_5 (by decide) (by decide) ?_
    refine Aj.icmp_ge (tgt := 62) C dX2_countOf_7 (by decide) (fun c7 => ?_) (fun c7 => ?_)
    · refine Aj.iload_n C 1 dX2_countOf_62 rfl ?_
      refine Aj.iret C dX2_countOf_63 (by rw [hmc]; exact ⟨rfl, Nat.le_of_ble_eq_true rfl⟩) ⟨_, rfl, rfl, ?_⟩
      exact ⟨rfl, by omega, by omega, Or.inl (by rw [ev, show i = 8 by omega]; exact ⟨Nat.le_refl _, fun k hk => hi2 k (by omega), rst_8 c⟩)⟩
    · refine Aj.lload_n C 0 dX2_countOf_10 rfl ?_
      refine Aj.iload_n C 2 dX2_countOf_11 rfl ?_
      refine Aj.callSi (As := [ql c, qi i]) (st := []) C lm_RX2_23 m_X2_codeAt mk_X2_codeAt (c_X2_codeAt _ ⟨hi0, by omega⟩) rfl rfl (by decide) (Nat.le_of_ble_eq_true rfl) (by decide) dX2_countOf_12 (fun z12 h_1 rz12 p12 => ?_)
      obtain ⟨rfl, pt⟩ := p12
      have bi := byt_in c i.toNat
      refine Aj.istore (al2 := [(4, qi z12), (0, ql c), (2, qi v), (3, qi i)]) C dX2_countOf_15 (by decide) rfl ?_
      refine Aj.iload C 0 dX2_countOf_17 rfl ?_
      refine Aj.if_ne (tgt := 39) C dX2_countOf_19 (by decide) (fun c19 => ?_) (fun c19 => ?_)
      · refine Aj.iload C 0 dX2_countOf_39 rfl ?_
        refine Aj.bipush C dX2_countOf_41 (by decide) (by decide) ?_
        refine Aj.bipush C dX2_countOf_43 (by decide) (by decide) ?_
        refine Aj.callNi (As := [qi z12, qi 33, qi 126]) (st := []) C ln_RX2_27 m_X8_isWithin mk_X8_isWithin (c_X8_isWithin _) rfl rfl (by decide) (Nat.le_of_ble_eq_true rfl) (by decide) dX2_countOf_45 (fun z45 h_2 rz45 p45 => ?_)
        obtain ⟨rfl, pz, pe⟩ := p45
        refine Aj.if_ne (tgt := 53) C dX2_countOf_48 (by decide) (fun c48 => ?_) (fun c48 => ?_)
        · refine Aj.iinc (al2 := [(2, qi (v + 1)), (4, qi z12), (0, ql c), (3, qi i)]) C 2 dX2_countOf_53 rfl (by decide) (by omega) rfl ?_
          refine Aj.iinc (al2 := [(3, qi (i + 1)), (2, qi (v + 1)), (4, qi z12), (0, ql c)]) C 3 dX2_countOf_56 rfl (by decide) (by omega) rfl ?_
          refine Aj.goto (tgt := 4) C dX2_countOf_59 (by decide) ?_
          refine Aj.pick (al2 := [(0, ql c), (2, qi (v + 1)), (3, qi (i + 1))]) [3, 1, 0] rfl ?_
          exact ih4 (v + 1) (i + 1) (⟨by omega, by omega, by omega, fun k hk => if e : k = i.toNat then by subst e; omega else hi2 k (by omega)⟩) (by omega)
        · refine Aj.iconst C dX2_countOf_51 (by decide) ?_
          refine Aj.iret C dX2_countOf_52 (by rw [hmc]; exact ⟨rfl, Nat.le_of_ble_eq_true rfl⟩) ⟨_, rfl, rfl, ?_⟩
          exact ⟨rfl, by omega, by omega, Or.inr ⟨rfl, wellP_no (i := i.toNat) (Or.inr ⟨by omega, by omega⟩)⟩⟩
      · refine Aj.lload_n C 1 dX2_countOf_22 rfl ?_
        refine Aj.bipush C dX2_countOf_23 (by decide) (by decide) ?_
        refine Aj.iload_n C 3 dX2_countOf_25 rfl ?_
        refine Aj.imul C dX2_countOf_26 (by omega) ?_
        refine Aj.lushr C dX2_countOf_27 ?_
        have er := ushr_rst c (k := i.toNat) (y := 8 * i) (by omega) (by omega)
        refine Aj.lconst (w := 0) C dX2_countOf_28 (by decide) (by decide) ?_
        refine Aj.lcmp C dX2_countOf_29 ?_
        have el := l_cmp0 (l_ushr c (8 * i))
        rw [er] at el
        refine Aj.if_ne (tgt := 37) C dX2_countOf_30 (by decide) (fun c30 => ?_) (fun c30 => ?_)
        · refine Aj.iconst C dX2_countOf_37 (by decide) ?_
          refine Aj.iret C dX2_countOf_38 (by rw [hmc]; exact ⟨rfl, Nat.le_of_ble_eq_true rfl⟩) ⟨_, rfl, rfl, ?_⟩
          refine ⟨rfl, by omega, by omega, ?_⟩
          first
          | exact Or.inl (by rw [ev]; exact ⟨by omega, hi2, el.mp (by rw [er] at c30; omega)⟩)
          | exact Or.inr ⟨rfl, wellP_no (i := i.toNat) (Or.inl ⟨by omega, fun w => by have := el.mpr w; rw [er] at c30; omega⟩)⟩
        · refine Aj.iload_n C 2 dX2_countOf_33 rfl ?_
          refine Aj.goto (tgt := 38) C dX2_countOf_34 (by decide) ?_
          refine Aj.iret C dX2_countOf_38 (by rw [hmc]; exact ⟨rfl, Nat.le_of_ble_eq_true rfl⟩) ⟨_, rfl, rfl, ?_⟩
          refine ⟨rfl, by omega, by omega, ?_⟩
          first
          | exact Or.inl (by rw [ev]; exact ⟨by omega, hi2, el.mp (by rw [er] at c30; omega)⟩)
          | exact Or.inr ⟨rfl, wellP_no (i := i.toNat) (Or.inl ⟨by omega, fun w => by have := el.mpr w; rw [er] at c30; omega⟩)⟩

set_option maxHeartbeats 4000000 in
set_option maxRecDepth 100000 in
theorem c_X2_append (l : Launch) {G : qG} {n : Int} {r h : qH} {x c m : Int} {P : Int → Int} (K : LPad G n r x) (d1 : CPad h x m P) (g : PG m P) : q_Cm l G yX2_append cX2_append 5 (some .int) 2 46 [qa x, ql c] n r h (q_Pi r (fun z h' => ∃ m2 P2, O_put c m P z m2 P2 ∧ CPad h' x m2 P2 ∧ FR x 2 h h')) 0 0 := by
  refine q_enter (al := [(0, qa x), (1, ql c)]) m_X2_append rfl (Nat.le_of_ble_eq_true rfl) ?_
  intro hok X C hmc hxl hin
  have g1 := g.1
  have g2 := g.2.1
  refine Aj.lload_n C 1 dX2_append_0 rfl ?_
  refine Aj.callSi (As := [ql c]) (st := []) C lm_RX2_15 m_X2_countOf mk_X2_countOf (c_X2_countOf _) rfl rfl (by decide) (Nat.le_of_ble_eq_true rfl) (by decide) dX2_append_1 (fun z1 h_1 rz1 p1 => ?_)
  obtain ⟨rfl, pz0, pz1, pw⟩ := p1
  refine Aj.istore_n (al2 := [(3, qi z1), (0, qa x), (1, ql c)]) C dX2_append_4 (by decide) rfl ?_
  refine Aj.iload_n C 0 dX2_append_5 rfl ?_
  refine Aj.iconst C dX2_append_6 (by decide) ?_
  refine Aj.icmp_ge (tgt := 13) C dX2_append_7 (by decide) (fun c7 => ?_) (fun c7 => ?_)
  · refine Aj.aload_n C 1 dX2_append_13 rfl ?_
    refine Aj.getIe (z := m) C lf_RX2_19 rfl K.a dX2_append_14 d1.1 ?_
    refine Aj.iload_n C 0 dX2_append_17 rfl ?_
    refine Aj.iadd C dX2_append_18 (by omega) ?_
    refine Aj.bipush C dX2_append_19 (by decide) (by decide) ?_
    refine Aj.icmp_le (tgt := 27) C dX2_append_21 (by decide) (fun c21 => ?_) (fun c21 => ?_)
    · refine Aj.iconst C dX2_append_27 (by decide) ?_
      refine Aj.istore (al2 := [(4, qi 0), (3, qi z1), (0, qa x), (1, ql c)]) C dX2_append_28 (by decide) rfl ?_
      refine Aj.pick (al2 := [(0, qa x), (1, ql c), (3, qi z1), (4, qi 0)]) [2, 3, 1, 0] rfl ?_
      suffices L30 : ∀ (N : Nat) (i : Int) (h1 : qH) , (0 ≤ i ∧ i ≤ z1 ∧ (∀ a b, (a ≠ x + 1 ∨ b < m ∨ m + z1 ≤ b) → h1 a b = h a b) ∧ ∀ k, 0 ≤ k → k < i → h1 (x + 1) (m + z1 - 1 - k) = byt c k.toNat) → (z1 - i).toNat < N → Aj G X (q_Pi r (fun z h' => ∃ m2 P2, O_put c m P z m2 P2 ∧ CPad h' x m2 P2 ∧ FR x 2 h h')) cX2_append 5 (0, 0) n r h1 30 [(0, qa x), (1, ql c), (3, qi z1), (4, qi i)] [] from L30 (_ + 1) 0 h (⟨by omega, by omega, fun _ _ _ => rfl, fun k k1 k2 => by omega⟩) (Nat.lt_succ_self _)
      intro N30
      induction N30 with
      | zero => intro i h1 _ hN; exact absurd hN (Nat.not_lt_zero _)
      | succ N ih30 =>
        intro i h1 hI30 hN30
        obtain ⟨hi0, hi1, hi2, hi3⟩ := hI30
        refine Aj.iload C 3 dX2_append_30 rfl ?_
        refine Aj.iload_n C 2 dX2_append_32 rfl ?_
        refine Aj.icmp_ge (tgt := 64) C dX2_append_33 (by decide) (fun c33 => ?_) (fun c33 => ?_)
        · refine Aj.aload_n C 0 dX2_append_64 rfl ?_
          refine Aj.dup_qa C dX2_append_65 ?_
          refine Aj.getIe (z := m) C lf_RX2_19 rfl K.a dX2_append_66 ((hi2 x 1 (by omega)).trans d1.1) ?_
          refine Aj.iload_n C 2 dX2_append_69 rfl ?_
          refine Aj.iadd C dX2_append_70 (by omega) ?_
          refine Aj.putI C lf_RX2_19 K.a dX2_append_71 (fun h_2 eh_2 => ?_)
          refine Aj.aload_n C 0 dX2_append_74 rfl ?_
          refine Aj.getIe (z := m + z1) C lf_RX2_19 rfl K.a dX2_append_75 (by rw [eh_2]; exact hset_same _ _ _ _) ?_
          refine Aj.iret C dX2_append_78 (by rw [hmc]; exact ⟨rfl, Nat.le_of_ble_eq_true rfl⟩) ⟨_, rfl, rfl, ?_⟩
          have w : wellP c z1.toNat := pw.elim id (fun q => by omega)
          refine ⟨m + z1, apnd P m c z1.toNat, Or.inr ⟨z1.toNat, by omega, w, Or.inr ⟨by omega, by omega, by omega, rfl⟩⟩, ⟨by rw [eh_2, hset_same], fun k k1 k2 => ?_⟩, fun a b q => ?_⟩
          · rw [eh_2, hset_nea _ _ _ (by omega)]
            unfold apnd
            by_cases e : m ≤ k
            · rw [if_pos (by omega)]
              have e3 := hi3 (z1 - 1 - (k - m)) (by omega) (by omega)
              rw [show m + z1 - 1 - (z1 - 1 - (k - m)) = k by omega] at e3
              rw [e3]
              congr 1
              omega
            · rw [if_neg (by omega)]
              exact (hi2 _ _ (by omega)).trans (d1.2 k k1 (by omega))
          · rw [eh_2, hset_nea _ _ _ (by omega)]
            exact hi2 a b (by omega)
        · refine Aj.aload_n C 0 dX2_append_36 rfl ?_
          refine Aj.getR C lf_RX2_9 rfl K.a K.r0 dX2_append_37 ?_
          refine Aj.aload_n C 0 dX2_append_40 rfl ?_
          refine Aj.getIe (z := m) C lf_RX2_19 rfl K.a dX2_append_41 ((hi2 x 1 (by omega)).trans d1.1) ?_
          refine Aj.iload_n C 2 dX2_append_44 rfl ?_
          refine Aj.iadd C dX2_append_45 (by omega) ?_
          refine Aj.iconst C dX2_append_46 (by decide) ?_
          refine Aj.isub C dX2_append_47 (by omega) ?_
          refine Aj.iload C 3 dX2_append_48 rfl ?_
          refine Aj.isub C dX2_append_50 (by omega) ?_
          refine Aj.lload_n C 1 dX2_append_51 rfl ?_
          refine Aj.iload C 3 dX2_append_52 rfl ?_
          refine Aj.callSi (As := [ql c, qi i]) (st := [qi (m + z1 - 1 - i), qa (x + 1)]) C lm_RX2_23 m_X2_codeAt mk_X2_codeAt (c_X2_codeAt _ (by omega)) rfl rfl (by decide) (Nat.le_of_ble_eq_true rfl) (by decide) dX2_append_54 (fun z54 h_3 rz54 p54 => ?_)
          obtain ⟨rfl, pt⟩ := p54
          refine Aj.iast C K.a1 (by omega) dX2_append_57 (fun h_4 eh_4 => ?_)
          refine Aj.iinc (al2 := [(4, qi (i + 1)), (0, qa x), (1, ql c), (3, qi z1)]) C 3 dX2_append_58 rfl (by decide) (by omega) rfl ?_
          refine Aj.goto (tgt := 30) C dX2_append_61 (by decide) ?_
          refine Aj.pick (al2 := [(0, qa x), (1, ql c), (3, qi z1), (4, qi (i + 1))]) [1, 2, 3, 0] rfl ?_
          exact ih30 (i + 1) h_4 (⟨by omega, by omega, fun a b w => by
            rw [eh_4, hset_ap, if_neg (by omega)]
            exact hi2 a b w, fun k k1 k2 => by
            rw [eh_4, hset_ap]
            by_cases e : k = i
            · rw [if_pos (by omega), pt, e]
            · rw [if_neg (by omega)]; exact hi3 k k1 (by omega)⟩) (by omega)
    · refine Aj.bipush C dX2_append_24 (by decide) (by decide) ?_
      refine Aj.iret C dX2_append_26 (by rw [hmc]; exact ⟨rfl, Nat.le_of_ble_eq_true rfl⟩) ⟨_, rfl, rfl, ?_⟩
      have w : wellP c z1.toNat := pw.elim id (fun q => by omega)
      exact ⟨m, P, Or.inr ⟨z1.toNat, by omega, w, Or.inl ⟨by omega, rfl, rfl, rfl⟩⟩, d1, FR.rf⟩
  · refine Aj.bipush C dX2_append_10 (by decide) (by decide) ?_
    refine Aj.iret C dX2_append_12 (by rw [hmc]; exact ⟨rfl, Nat.le_of_ble_eq_true rfl⟩) ⟨_, rfl, rfl, ?_⟩
    exact ⟨m, P, Or.inl ⟨fun n1 n2 w => by
      rcases pw with q | ⟨_, q⟩
      · have := wellP_eq q w; omega
      · exact q n1 w, rfl, rfl, rfl⟩, d1, FR.rf⟩
