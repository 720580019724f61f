set_option maxHeartbeats 400000 in
set_option maxRecDepth 100000 in
theorem c_X9_put (l : Launch) {G : qG} {n : Int} {r h : qH} {a : Int} (ha : q_r64 a) {M : Int} {st : qS} (L : LModel G n r M) (c : IM h M st) (gs : GS st) : q_Cm l G yX9_put cX9_put 8 (some .int) 1 22 [qa M, ql a] n r h (q_Pi r (fun z h' => ∃ m2 P2, O_put a st.2.1.1 st.2.1.2 z m2 P2 ∧ IM h' M (st.1, (m2, P2), st.2.2) ∧ FR M 16 h h')) 0 0 := by
  refine q_enter (al := [(0, qa M), (1, ql a)]) m_X9_put rfl (Nat.le_of_ble_eq_true rfl) ?_
  intro hok X C hmc hxl hin
  have g := gs.1
  have gn := g.n
  have gh := gs.2.2.1
  refine Aj.aload_n C 0 dX9_put_0 rfl ?_
  refine Aj.iconst C dX9_put_1 (by decide) ?_
  refine Aj.putI C lf_RX9_56 L.a dX9_put_2 (fun h_1 eh_1 => ?_)
  have f1 : FS M h h_1 := fun x y w => by rw [eh_1, hset_ne _ _ (by omega)]
  have c1 : IM h_1 M st := c.fs f1
  refine Aj.iconst C dX9_put_5 (by decide) ?_
  refine Aj.istore_n (al2 := [(3, qi 0), (0, qa M), (1, ql a)]) C dX9_put_6 (by decide) rfl ?_
  refine Aj.lload_n C 2 dX9_put_7 rfl ?_
  refine Aj.lstore (al2 := [(4, ql a), (3, qi 0), (0, qa M), (1, ql a)]) C dX9_put_8 (by decide) rfl ?_
  refine Aj.iconst C dX9_put_10 (by decide) ?_
  refine Aj.istore (al2 := [(6, qi 1), (4, ql a), (3, qi 0), (0, qa M), (1, ql a)]) C dX9_put_11 (by decide) rfl ?_
  refine Aj.pick (al2 := [(0, qa M), (1, ql a), (3, qi 0), (4, ql a), (6, qi 1)]) [3, 4, 2, 1, 0] rfl ?_
  suffices L13 : ∀ (N : Nat) (v rs al : Int) , (0 ≤ v ∧ v ≤ 8 ∧ rs = rst a v.toNat ∧ (al = 0 ∨ al = 1) ∧ (∀ k : Nat, k < v.toNat → byt a k ≠ 0) ∧ (al = 1 → ∀ k : Nat, k < v.toNat → 33 ≤ byt a k ∧ byt a k ≤ 126) ∧ (al = 0 → badP a v.toNat)) → (8 - v).toNat < N → Aj G X (q_Pi r (fun z h' => ∃ m2 P2, O_put a st.2.1.1 st.2.1.2 z m2 P2 ∧ IM h' M (st.1, (m2, P2), st.2.2) ∧ FR M 16 h h')) cX9_put 8 (0, 0) n r h_1 13 [(0, qa M), (1, ql a), (3, qi v), (4, ql rs), (6, qi al)] [] from L13 (_ + 1) 0 a 1 (⟨by omega, by omega, (rst_0 ha).symm, by omega, fun k hk => absurd hk (Nat.not_lt_zero _), fun _ k hk => absurd hk (Nat.not_lt_zero _), fun q => by omega⟩) (Nat.lt_succ_self _)
  intro N13
  induction N13 with
  | zero => intro v rs al _ hN; exact absurd hN (Nat.not_lt_zero _)
  | succ N ih13 =>
    intro v rs al hI13 hN13
    obtain ⟨hv0, hv1, hv2, hv3, hv4, hv5, hv6⟩ := hI13
    have bv := byt_in a v.toNat
    have eb : l_and rs 255 = byt a v.toNat := by rw [hv2]; exact land_byt a v.toNat
    have ez : (l_cmp (l_and rs 255) 0 = 0) ↔ (byt a v.toNat = 0) := by rw [l_cmp0, eb]
    have ei : l_2i (l_and rs 255) = byt a v.toNat := by rw [eb]; exact l2i_byt a v.toNat
    have e8 : v = 8 → rs = 0 := fun q => by rw [hv2, q]; exact rst_8 a
    refine Aj.iload_n C 2 dX9_put_13 rfl ?_
    refine Aj.bipush C dX9_put_14 (by decide) (by decide) ?_
    refine Aj.icmp_ge (tgt := 72) C dX9_put_16 (by decide) (fun c16 => ?_) (fun c16 => ?_)
    · have pg := gs.2.1
      have pm : 0 ≤ st.2.1.1 ∧ st.2.1.1 ≤ 80 := ⟨pg.1, pg.2.1⟩
      have hend : v = 8 ∨ byt a v.toNat = 0 := by first | exact Or.inl (by omega) | exact Or.inr (ez.mp (by omega))
      have hz : rs = 0 ↔ rst a v.toNat = 0 := by rw [hv2]
      have hno : ∀ n1 : Nat, 1 ≤ n1 → wellP a n1 → (v = 0 ∨ al = 0 ∨ rs ≠ 0) → False := fun n1 hn1 wl hc => by
        have hle : v.toNat ≤ n1 := by
          rcases Nat.lt_or_ge n1 v.toNat with q | q
          · exact absurd (rst_byt wl.2.2) (hv4 n1 q)
          · exact q
        rcases hend with q | q
        · have w8 := wl.1
          rcases hc with c1 | c1 | c1
          · omega
          · obtain ⟨k, k1, k2⟩ := hv6 c1
            exact k2 (wl.2.1 k (by omega))
          · exact c1 (e8 q)
        · rcases Nat.lt_or_ge v.toNat n1 with q2 | q2
          · have := wl.2.1 _ q2; omega
          · have e : n1 = v.toNat := by omega
            rcases hc with c1 | c1 | c1
            · omega
            · obtain ⟨k, k1, k2⟩ := hv6 c1
              exact k2 (wl.2.1 k (by omega))
            · exact c1 (hz.mpr (by rw [← e]; exact wl.2.2))
      refine Aj.iload_n C 2 dX9_put_72 rfl ?_
      refine Aj.if_eq (tgt := 88) C dX9_put_73 (by decide) (fun c73 => ?_) (fun c73 => ?_)
      · refine Aj.bipush C dX9_put_88 (by decide) (by decide) ?_
        refine Aj.iret C dX9_put_90 (by rw [hmc]; exact ⟨rfl, Nat.le_of_ble_eq_true rfl⟩) ⟨_, rfl, rfl, ?_⟩
        refine ⟨st.2.1.1, st.2.1.2, Or.inl ⟨fun n1 hn1 wl => ?_, rfl, rfl, rfl⟩, c1, f1.fr⟩
        exact hno n1 hn1 wl (by omega)
      · refine Aj.iload C 4 dX9_put_76 rfl ?_
        refine Aj.if_eq (tgt := 88) C dX9_put_78 (by decide) (fun c78 => ?_) (fun c78 => ?_)
        · refine Aj.bipush C dX9_put_88 (by decide) (by decide) ?_
          refine Aj.iret C dX9_put_90 (by rw [hmc]; exact ⟨rfl, Nat.le_of_ble_eq_true rfl⟩) ⟨_, rfl, rfl, ?_⟩
          refine ⟨st.2.1.1, st.2.1.2, Or.inl ⟨fun n1 hn1 wl => ?_, rfl, rfl, rfl⟩, c1, f1.fr⟩
          exact hno n1 hn1 wl (by omega)
        · have er : l_cmp rs 0 = 0 ↔ rs = 0 := l_cmp0 rs
          refine Aj.lload C 3 dX9_put_81 rfl ?_
          refine Aj.lconst (w := 0) C dX9_put_83 (by decide) (by decide) ?_
          refine Aj.lcmp C dX9_put_84 ?_
          refine Aj.if_eq (tgt := 91) C dX9_put_85 (by decide) (fun c85 => ?_) (fun c85 => ?_)
          · have hwell : wellP a v.toNat := ⟨by omega, hv5 (by omega), hz.mp (er.mp (by omega))⟩
            clear hno
            refine Aj.aload_n C 0 dX9_put_91 rfl ?_
            refine Aj.getIe (z := st.2.1.1) C lf_RX9_182 rfl L.a dX9_put_92 c1.2.1.1 ?_
            refine Aj.iload_n C 2 dX9_put_95 rfl ?_
            refine Aj.iadd C dX9_put_96 (by omega) ?_
            refine Aj.bipush C dX9_put_97 (by decide) (by decide) ?_
            refine Aj.icmp_le (tgt := 105) C dX9_put_99 (by decide) (fun c99 => ?_) (fun c99 => ?_)
            · refine Aj.iconst C dX9_put_105 (by decide) ?_
              refine Aj.istore (al2 := [(7, qi 0), (0, qa M), (1, ql a), (3, qi v), (4, ql rs), (6, qi al)]) C dX9_put_106 (by decide) rfl ?_
              refine Aj.pick (al2 := [(0, qa M), (1, ql a), (3, qi v), (7, qi 0)]) [1, 2, 3, 0] rfl ?_
              suffices L108 : ∀ (N : Nat) (k : Int) (hk : qH) , (0 ≤ k ∧ k ≤ v ∧ (∀ j, 0 ≤ j → j < st.2.1.1 + k → hk (M + 5) j = apnd st.2.1.2 st.2.1.1 a v.toNat j) ∧ (∀ x y, x ≠ M + 5 → hk x y = h_1 x y)) → (v - k).toNat < N → Aj G X (q_Pi r (fun z h' => ∃ m2 P2, O_put a st.2.1.1 st.2.1.2 z m2 P2 ∧ IM h' M (st.1, (m2, P2), st.2.2) ∧ FR M 16 h h')) cX9_put 8 (0, 0) n r hk 108 [(0, qa M), (1, ql a), (3, qi v), (7, qi k)] [] from L108 (_ + 1) 0 h_1 (⟨by omega, by omega, fun j j1 j2 => by unfold apnd; rw [if_neg (by omega)]; exact c1.2.1.2 j j1 (by omega), fun _ _ _ => rfl⟩) (Nat.lt_succ_self _)
              intro N108
              induction N108 with
              | zero => intro k hk _ hN; exact absurd hN (Nat.not_lt_zero _)
              | succ N ih108 =>
                intro k hk hI108 hN108
                obtain ⟨hk0, hk1, hk2, hk3⟩ := hI108
                refine Aj.iload C 3 dX9_put_108 rfl ?_
                refine Aj.iload_n C 2 dX9_put_110 rfl ?_
                refine Aj.icmp_ge (tgt := 148) C dX9_put_111 (by decide) (fun c111 => ?_) (fun c111 => ?_)
                · refine Aj.aload_n C 0 dX9_put_148 rfl ?_
                  refine Aj.dup_qa C dX9_put_149 ?_
                  refine Aj.getIe (z := st.2.1.1) C lf_RX9_182 rfl L.a dX9_put_150 ((hk3 _ _ (by omega)).trans c1.2.1.1) ?_
                  refine Aj.iload_n C 2 dX9_put_153 rfl ?_
                  refine Aj.iadd C dX9_put_154 (by omega) ?_
                  refine Aj.putI C lf_RX9_182 L.a dX9_put_155 (fun h_2 eh_2 => ?_)
                  refine Aj.aload_n C 0 dX9_put_158 rfl ?_
                  refine Aj.getIe (z := st.2.1.1 + v) C lf_RX9_182 rfl L.a dX9_put_159 (by rw [eh_2]; exact hset_same _ _ _ _) ?_
                  refine Aj.iret C dX9_put_162 (by rw [hmc]; exact ⟨rfl, Nat.le_of_ble_eq_true rfl⟩) ⟨_, rfl, rfl, ?_⟩
                  exact ⟨st.2.1.1 + v, apnd st.2.1.2 st.2.1.1 a v.toNat, Or.inr ⟨v.toNat, by omega, hwell, Or.inr ⟨by omega, by omega, by omega, rfl⟩⟩, IM.pad c1 (by rw [eh_2, hset_same]) (fun j j1 j2 => by
                    rw [eh_2, hset_nea _ _ _ (by omega)]
                    exact hk2 j j1 (by omega)) (fun x y q => by rw [eh_2, hset_ne _ _ (by omega)]; exact hk3 x y (by omega)), fun x y q => by rw [eh_2, hset_ne _ _ (by omega), hk3 x y (by omega)]; exact f1.fr x y q⟩
                · refine Aj.aload_n C 0 dX9_put_114 rfl ?_
                  refine Aj.getR C lf_RX9_23 rfl L.a L.r6 dX9_put_115 ?_
                  refine Aj.aload_n C 0 dX9_put_118 rfl ?_
                  refine Aj.getIe (z := st.2.1.1) C lf_RX9_182 rfl L.a dX9_put_119 ((hk3 _ _ (by omega)).trans c1.2.1.1) ?_
                  refine Aj.iload C 3 dX9_put_122 rfl ?_
                  refine Aj.iadd C dX9_put_124 (by omega) ?_
                  refine Aj.lload_n C 1 dX9_put_125 rfl ?_
                  refine Aj.bipush C dX9_put_126 (by decide) (by decide) ?_
                  refine Aj.iload_n C 2 dX9_put_128 rfl ?_
                  refine Aj.iconst C dX9_put_129 (by decide) ?_
                  refine Aj.isub C dX9_put_130 (by omega) ?_
                  refine Aj.iload C 3 dX9_put_131 rfl ?_
                  refine Aj.isub C dX9_put_133 (by omega) ?_
                  refine Aj.imul C dX9_put_134 (by omega) ?_
                  refine Aj.lushr C dX9_put_135 ?_
                  refine Aj.ldc2 (w := 255) C ll_RX9_191 dX9_put_136 (by decide) (by decide) ?_
                  refine Aj.land C dX9_put_139 ?_
                  refine Aj.l2i C dX9_put_140 ?_
                  refine Aj.iast C L.a5 (by omega) dX9_put_141 (fun h_3 eh_3 => ?_)
                  refine Aj.iinc (al2 := [(7, qi (k + 1)), (0, qa M), (1, ql a), (3, qi v)]) C 3 dX9_put_142 rfl (by decide) (by omega) rfl ?_
                  refine Aj.goto (tgt := 108) C dX9_put_145 (by decide) ?_
                  refine Aj.pick (al2 := [(0, qa M), (1, ql a), (3, qi v), (7, qi (k + 1))]) [1, 2, 3, 0] rfl ?_
                  exact ih108 (k + 1) h_3 (⟨by omega, by omega, fun j j1 j2 => by
                    rw [eh_3, hset_ap]
                    by_cases q : j = st.2.1.1 + k
                    · rw [if_pos ⟨rfl, q⟩, ushr_rst a (k := v.toNat - 1 - k.toNat) (by omega) (by omega), land_byt, l2i_byt]
                      unfold apnd
                      rw [if_pos (by omega), show (j - st.2.1.1).toNat = k.toNat by omega]
                    · rw [if_neg (fun w => q w.2)]; exact hk2 j j1 (by omega), fun x y q => by rw [eh_3, hset_nea _ _ _ q]; exact hk3 x y q⟩) (by omega)
            · refine Aj.bipush C dX9_put_102 (by decide) (by decide) ?_
              refine Aj.iret C dX9_put_104 (by rw [hmc]; exact ⟨rfl, Nat.le_of_ble_eq_true rfl⟩) ⟨_, rfl, rfl, ?_⟩
              exact ⟨st.2.1.1, st.2.1.2, Or.inr ⟨v.toNat, by omega, hwell, Or.inl ⟨by omega, rfl, rfl, rfl⟩⟩, c1, f1.fr⟩
          · refine Aj.bipush C dX9_put_88 (by decide) (by decide) ?_
            refine Aj.iret C dX9_put_90 (by rw [hmc]; exact ⟨rfl, Nat.le_of_ble_eq_true rfl⟩) ⟨_, rfl, rfl, ?_⟩
            refine ⟨st.2.1.1, st.2.1.2, Or.inl ⟨fun n1 hn1 wl => ?_, rfl, rfl, rfl⟩, c1, f1.fr⟩
            exact hno n1 hn1 wl (by omega)
    · refine Aj.lload C 3 dX9_put_19 rfl ?_
      refine Aj.ldc2 (w := 255) C ll_RX9_191 dX9_put_21 (by decide) (by decide) ?_
      refine Aj.land C dX9_put_24 ?_
      refine Aj.lconst (w := 0) C dX9_put_25 (by decide) (by decide) ?_
      refine Aj.lcmp C dX9_put_26 ?_
      refine Aj.if_eq (tgt := 72) C dX9_put_27 (by decide) (fun c27 => ?_) (fun c27 => ?_)
      · have pg := gs.2.1
        have pm : 0 ≤ st.2.1.1 ∧ st.2.1.1 ≤ 80 := ⟨pg.1, pg.2.1⟩
        have hend : v = 8 ∨ byt a v.toNat = 0 := by first | exact Or.inl (by omega) | exact Or.inr (ez.mp (by omega))
        have hz : rs = 0 ↔ rst a v.toNat = 0 := by rw [hv2]
        have hno : ∀ n1 : Nat, 1 ≤ n1 → wellP a n1 → (v = 0 ∨ al = 0 ∨ rs ≠ 0) → False := fun n1 hn1 wl hc => by
          have hle : v.toNat ≤ n1 := by
            rcases Nat.lt_or_ge n1 v.toNat with q | q
            · exact absurd (rst_byt wl.2.2) (hv4 n1 q)
            · exact q
          rcases hend with q | q
          · have w8 := wl.1
            rcases hc with c1 | c1 | c1
            · omega
            · obtain ⟨k, k1, k2⟩ := hv6 c1
              exact k2 (wl.2.1 k (by omega))
            · exact c1 (e8 q)
          · rcases Nat.lt_or_ge v.toNat n1 with q2 | q2
            · have := wl.2.1 _ q2; omega
            · have e : n1 = v.toNat := by omega
              rcases hc with c1 | c1 | c1
              · omega
              · obtain ⟨k, k1, k2⟩ := hv6 c1
                exact k2 (wl.2.1 k (by omega))
              · exact c1 (hz.mpr (by rw [← e]; exact wl.2.2))
        refine Aj.iload_n C 2 dX9_put_72 rfl ?_
        refine Aj.if_eq (tgt := 88) C dX9_put_73 (by decide) (fun c73 => ?_) (fun c73 => ?_)
        · refine Aj.bipush C dX9_put_88 (by decide) (by decide) ?_
          refine Aj.iret C dX9_put_90 (by rw [hmc]; exact ⟨rfl, Nat.le_of_ble_eq_true rfl⟩) ⟨_, rfl, rfl, ?_⟩
          refine ⟨st.2.1.1, st.2.1.2, Or.inl ⟨fun n1 hn1 wl => ?_, rfl, rfl, rfl⟩, c1, f1.fr⟩
          exact hno n1 hn1 wl (by omega)
        · refine Aj.iload C 4 dX9_put_76 rfl ?_
          refine Aj.if_eq (tgt := 88) C dX9_put_78 (by decide) (fun c78 => ?_) (fun c78 => ?_)
          · refine Aj.bipush C dX9_put_88 (by decide) (by decide) ?_
            refine Aj.iret C dX9_put_90 (by rw [hmc]; exact ⟨rfl, Nat.le_of_ble_eq_true rfl⟩) ⟨_, rfl, rfl, ?_⟩
            refine ⟨st.2.1.1, st.2.1.2, Or.inl ⟨fun n1 hn1 wl => ?_, rfl, rfl, rfl⟩, c1, f1.fr⟩
            exact hno n1 hn1 wl (by omega)
          · have er : l_cmp rs 0 = 0 ↔ rs = 0 := l_cmp0 rs
            refine Aj.lload C 3 dX9_put_81 rfl ?_
            refine Aj.lconst (w := 0) C dX9_put_83 (by decide) (by decide) ?_
            refine Aj.lcmp C dX9_put_84 ?_
            refine Aj.if_eq (tgt := 91) C dX9_put_85 (by decide) (fun c85 => ?_) (fun c85 => ?_)
            · have hwell : wellP a v.toNat := ⟨by omega, hv5 (by omega), hz.mp (er.mp (by omega))⟩
              clear hno
              refine Aj.aload_n C 0 dX9_put_91 rfl ?_
              refine Aj.getIe (z := st.2.1.1) C lf_RX9_182 rfl L.a dX9_put_92 c1.2.1.1 ?_
              refine Aj.iload_n C 2 dX9_put_95 rfl ?_
              refine Aj.iadd C dX9_put_96 (by omega) ?_
              refine Aj.bipush C dX9_put_97 (by decide) (by decide) ?_
              refine Aj.icmp_le (tgt := 105) C dX9_put_99 (by decide) (fun c99 => ?_) (fun c99 => ?_)
              · refine Aj.iconst C dX9_put_105 (by decide) ?_
                refine Aj.istore (al2 := [(7, qi 0), (0, qa M), (1, ql a), (3, qi v), (4, ql rs), (6, qi al)]) C dX9_put_106 (by decide) rfl ?_
                refine Aj.pick (al2 := [(0, qa M), (1, ql a), (3, qi v), (7, qi 0)]) [1, 2, 3, 0] rfl ?_
                suffices L108 : ∀ (N : Nat) (k : Int) (hk : qH) , (0 ≤ k ∧ k ≤ v ∧ (∀ j, 0 ≤ j → j < st.2.1.1 + k → hk (M + 5) j = apnd st.2.1.2 st.2.1.1 a v.toNat j) ∧ (∀ x y, x ≠ M + 5 → hk x y = h_1 x y)) → (v - k).toNat < N → Aj G X (q_Pi r (fun z h' => ∃ m2 P2, O_put a st.2.1.1 st.2.1.2 z m2 P2 ∧ IM h' M (st.1, (m2, P2), st.2.2) ∧ FR M 16 h h')) cX9_put 8 (0, 0) n r hk 108 [(0, qa M), (1, ql a), (3, qi v), (7, qi k)] [] from L108 (_ + 1) 0 h_1 (⟨by omega, by omega, fun j j1 j2 => by unfold apnd; rw [if_neg (by omega)]; exact c1.2.1.2 j j1 (by omega), fun _ _ _ => rfl⟩) (Nat.lt_succ_self _)
                intro N108
                induction N108 with
                | zero => intro k hk _ hN; exact absurd hN (Nat.not_lt_zero _)
                | succ N ih108 =>
                  intro k hk hI108 hN108
                  obtain ⟨hk0, hk1, hk2, hk3⟩ := hI108
                  refine Aj.iload C 3 dX9_put_108 rfl ?_
                  refine Aj.iload_n C 2 dX9_put_110 rfl ?_
                  refine Aj.icmp_ge (tgt := 148) C dX9_put_111 (by decide) (fun c111 => ?_) (fun c111 => ?_)
                  · refine Aj.aload_n C 0 dX9_put_148 rfl ?_
                    refine Aj.dup_qa C dX9_put_149 ?_
                    refine Aj.getIe (z := st.2.1.1) C lf_RX9_182 rfl L.a dX9_put_150 ((hk3 _ _ (by omega)).trans c1.2.1.1) ?_
                    refine Aj.iload_n C 2 dX9_put_153 rfl ?_
                    refine Aj.iadd C dX9_put_154 (by omega) ?_
                    refine Aj.putI C lf_RX9_182 L.a dX9_put_155 (fun h_4 eh_4 => ?_)
                    refine Aj.aload_n C 0 dX9_put_158 rfl ?_
                    refine Aj.getIe (z := st.2.1.1 + v) C lf_RX9_182 rfl L.a dX9_put_159 (by rw [eh_4]; exact hset_same _ _ _ _) ?_
                    refine Aj.iret C dX9_put_162 (by rw [hmc]; exact ⟨rfl, Nat.le_of_ble_eq_true rfl⟩) ⟨_, rfl, rfl, ?_⟩
                    exact ⟨st.2.1.1 + v, apnd st.2.1.2 st.2.1.1 a v.toNat, Or.inr ⟨v.toNat, by omega, hwell, Or.inr ⟨by omega, by omega, by omega, rfl⟩⟩, IM.pad c1 (by rw [eh_4, hset_same]) (fun j j1 j2 => by
                      rw [eh_4, hset_nea _ _ _ (by omega)]
                      exact hk2 j j1 (by omega)) (fun x y q => by rw [eh_4, hset_ne _ _ (by omega)]; exact hk3 x y (by omega)), fun x y q => by rw [eh_4, hset_ne _ _ (by omega), hk3 x y (by omega)]; exact f1.fr x y q⟩
                  · refine Aj.aload_n C 0 dX9_put_114 rfl ?_
                    refine Aj.getR C lf_RX9_23 rfl L.a L.r6 dX9_put_115 ?_
                    refine Aj.aload_n C 0 dX9_put_118 rfl ?_
                    refine Aj.getIe (z := st.2.1.1) C lf_RX9_182 rfl L.a dX9_put_119 ((hk3 _ _ (by omega)).trans c1.2.1.1) ?_
                    refine Aj.iload C 3 dX9_put_122 rfl ?_
                    refine Aj.iadd C dX9_put_124 (by omega) ?_
                    refine Aj.lload_n C 1 dX9_put_125 rfl ?_
                    refine Aj.bipush C dX9_put_126 (by decide) (by decide) ?_
                    refine Aj.iload_n C 2 dX9_put_128 rfl ?_
                    refine Aj.iconst C dX9_put_129 (by decide) ?_
                    refine Aj.isub C dX9_put_130 (by omega) ?_
                    refine Aj.iload C 3 dX9_put_131 rfl ?_
                    refine Aj.isub C dX9_put_133 (by omega) ?_
                    refine Aj.imul C dX9_put_134 (by omega) ?_
                    refine Aj.lushr C dX9_put_135 ?_
                    refine Aj.ldc2 (w := 255) C ll_RX9_191 dX9_put_136 (by decide) (by decide) ?_
                    refine Aj.land C dX9_put_139 ?_
                    refine Aj.l2i C dX9_put_140 ?_
                    refine Aj.iast C L.a5 (by omega) dX9_put_141 (fun h_5 eh_5 => ?_)
                    refine Aj.iinc (al2 := [(7, qi (k + 1)), (0, qa M), (1, ql a), (3, qi v)]) C 3 dX9_put_142 rfl (by decide) (by omega) rfl ?_
                    refine Aj.goto (tgt := 108) C dX9_put_145 (by decide) ?_
                    refine Aj.pick (al2 := [(0, qa M), (1, ql a), (3, qi v), (7, qi (k + 1))]) [1, 2, 3, 0] rfl ?_
                    exact ih108 (k + 1) h_5 (⟨by omega, by omega, fun j j1 j2 => by
                      rw [eh_5, hset_ap]
                      by_cases q : j = st.2.1.1 + k
                      · rw [if_pos ⟨rfl, q⟩, ushr_rst a (k := v.toNat - 1 - k.toNat) (by omega) (by omega), land_byt, l2i_byt]
                        unfold apnd
                        rw [if_pos (by omega), show (j - st.2.1.1).toNat = k.toNat by omega]
                      · rw [if_neg (fun w => q w.2)]; exact hk2 j j1 (by omega), fun x y q => by rw [eh_5, hset_nea _ _ _ q]; exact hk3 x y q⟩) (by omega)
              · refine Aj.bipush C dX9_put_102 (by decide) (by decide) ?_
                refine Aj.iret C dX9_put_104 (by rw [hmc]; exact ⟨rfl, Nat.le_of_ble_eq_true rfl⟩) ⟨_, rfl, rfl, ?_⟩
                exact ⟨st.2.1.1, st.2.1.2, Or.inr ⟨v.toNat, by omega, hwell, Or.inl ⟨by omega, rfl, rfl, rfl⟩⟩, c1, f1.fr⟩
            · refine Aj.bipush C dX9_put_88 (by decide) (by decide) ?_
              refine Aj.iret C dX9_put_90 (by rw [hmc]; exact ⟨rfl, Nat.le_of_ble_eq_true rfl⟩) ⟨_, rfl, rfl, ?_⟩
              refine ⟨st.2.1.1, st.2.1.2, Or.inl ⟨fun n1 hn1 wl => ?_, rfl, rfl, rfl⟩, c1, f1.fr⟩
              exact hno n1 hn1 wl (by omega)
      · refine Aj.iload C 4 dX9_put_30 rfl ?_
        refine Aj.if_eq (tgt := 56) C dX9_put_32 (by decide) (fun c32 => ?_) (fun c32 => ?_)
        · refine Aj.iconst C dX9_put_56 (by decide) ?_
          refine Aj.istore (al2 := [(6, qi 0), (0, qa M), (1, ql a), (3, qi v), (4, ql rs)]) C dX9_put_57 (by decide) rfl ?_
          refine Aj.lload C 4 dX9_put_59 rfl ?_
          refine Aj.bipush C dX9_put_61 (by decide) (by decide) ?_
          refine Aj.lushr C dX9_put_63 ?_
          refine Aj.lstore (al2 := [(4, ql (l_ushr rs 8)), (6, qi 0), (0, qa M), (1, ql a), (3, qi v)]) C dX9_put_64 (by decide) rfl ?_
          refine Aj.iinc (al2 := [(3, qi (v + 1)), (4, ql (l_ushr rs 8)), (6, qi 0), (0, qa M), (1, ql a)]) C 4 dX9_put_66 rfl (by decide) (by omega) rfl ?_
          refine Aj.goto (tgt := 13) C dX9_put_69 (by decide) ?_
          refine Aj.pick (al2 := [(0, qa M), (1, ql a), (3, qi (v + 1)), (4, ql (l_ushr rs 8)), (6, qi 0)]) [3, 4, 0, 1, 2] rfl ?_
          exact ih13 (v + 1) (l_ushr rs 8) 0 (⟨by omega, by omega, by rw [hv2, ushr_8, show (v + 1).toNat = v.toNat + 1 by omega], by omega, fun k hk => by
            by_cases q : k = v.toNat
            · rw [q]; exact fun w => by have := ez.mpr w; omega
            · exact hv4 k (by omega), fun q => absurd q (by decide), fun _ => by
            first
            | exact badP.mk v.toNat (by omega) (fun w => by have := pei.mpr (by omega); omega)
            | (obtain ⟨k, k1, k2⟩ := hv6 (by omega); exact ⟨k, by omega, k2⟩)⟩) (by omega)
        · refine Aj.lload C 3 dX9_put_35 rfl ?_
          refine Aj.ldc2 (w := 255) C ll_RX9_191 dX9_put_37 (by decide) (by decide) ?_
          refine Aj.land C dX9_put_40 ?_
          refine Aj.l2i C dX9_put_41 ?_
          refine Aj.bipush C dX9_put_42 (by decide) (by decide) ?_
          refine Aj.bipush C dX9_put_44 (by decide) (by decide) ?_
          refine Aj.callSi (As := [qi (l_2i (l_and rs 255)), qi 33, qi 126]) (st := []) C lm_RX9_60 m_X9_in mk_X9_in (c_X9_in _) rfl rfl (by decide) (Nat.le_of_ble_eq_true rfl) (by decide) dX9_put_46 (fun z46 h_6 rz46 p46 => ?_)
          obtain ⟨rfl, pzi, pei⟩ := p46
          refine Aj.if_eq (tgt := 56) C dX9_put_49 (by decide) (fun c49 => ?_) (fun c49 => ?_)
          · refine Aj.iconst C dX9_put_56 (by decide) ?_
            refine Aj.istore (al2 := [(6, qi 0), (0, qa M), (1, ql a), (3, qi v), (4, ql rs)]) C dX9_put_57 (by decide) rfl ?_
            refine Aj.lload C 4 dX9_put_59 rfl ?_
            refine Aj.bipush C dX9_put_61 (by decide) (by decide) ?_
            refine Aj.lushr C dX9_put_63 ?_
            refine Aj.lstore (al2 := [(4, ql (l_ushr rs 8)), (6, qi 0), (0, qa M), (1, ql a), (3, qi v)]) C dX9_put_64 (by decide) rfl ?_
            refine Aj.iinc (al2 := [(3, qi (v + 1)), (4, ql (l_ushr rs 8)), (6, qi 0), (0, qa M), (1, ql a)]) C 4 dX9_put_66 rfl (by decide) (by omega) rfl ?_
            refine Aj.goto (tgt := 13) C dX9_put_69 (by decide) ?_
            refine Aj.pick (al2 := [(0, qa M), (1, ql a), (3, qi (v + 1)), (4, ql (l_ushr rs 8)), (6, qi 0)]) [3, 4, 0, 1, 2] rfl ?_
            exact ih13 (v + 1) (l_ushr rs 8) 0 (⟨by omega, by omega, by rw [hv2, ushr_8, show (v + 1).toNat = v.toNat + 1 by omega], by omega, fun k hk => by
              by_cases q : k = v.toNat
              · rw [q]; exact fun w => by have := ez.mpr w; omega
              · exact hv4 k (by omega), fun q => absurd q (by decide), fun _ => by
              first
              | exact badP.mk v.toNat (by omega) (fun w => by have := pei.mpr (by omega); omega)
              | (obtain ⟨k, k1, k2⟩ := hv6 (by omega); exact ⟨k, by omega, k2⟩)⟩) (by omega)
          · refine Aj.iconst C dX9_put_52 (by decide) ?_
            refine Aj.goto (tgt := 57) C dX9_put_53 (by decide) ?_
            refine Aj.istore (al2 := [(6, qi 1), (0, qa M), (1, ql a), (3, qi v), (4, ql rs)]) C dX9_put_57 (by decide) rfl ?_
            refine Aj.lload C 4 dX9_put_59 rfl ?_
            refine Aj.bipush C dX9_put_61 (by decide) (by decide) ?_
            refine Aj.lushr C dX9_put_63 ?_
            refine Aj.lstore (al2 := [(4, ql (l_ushr rs 8)), (6, qi 1), (0, qa M), (1, ql a), (3, qi v)]) C dX9_put_64 (by decide) rfl ?_
            refine Aj.iinc (al2 := [(3, qi (v + 1)), (4, ql (l_ushr rs 8)), (6, qi 1), (0, qa M), (1, ql a)]) C 4 dX9_put_66 rfl (by decide) (by omega) rfl ?_
            refine Aj.goto (tgt := 13) C dX9_put_69 (by decide) ?_
            refine Aj.pick (al2 := [(0, qa M), (1, ql a), (3, qi (v + 1)), (4, ql (l_ushr rs 8)), (6, qi 1)]) [3, 4, 0, 1, 2] rfl ?_
            exact ih13 (v + 1) (l_ushr rs 8) 1 (⟨by omega, by omega, by rw [hv2, ushr_8, show (v + 1).toNat = v.toNat + 1 by omega], by omega, fun k hk => by
              by_cases q : k = v.toNat
              · rw [q]; exact fun w => by have := ez.mpr w; omega
              · exact hv4 k (by omega), fun _ k hk => by
              by_cases q : k = v.toNat
              · rw [q]; have := pei.mp (by omega); omega
              · exact hv5 (by omega) k (by omega), fun q => absurd q (by decide)⟩) (by omega)
