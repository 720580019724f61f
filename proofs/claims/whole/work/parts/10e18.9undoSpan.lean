set_option maxHeartbeats 400000 in
set_option maxRecDepth 100000 in
theorem c_X9_undoSpan (l : Launch) {G : qG} {n : Int} {r h : qH} {a b : Int} {M : Int} {st : qS} (L : LModel G n r M) (c : IM h M st) (gs : GS st) : q_Cm l G yX9_undoSpan cX9_undoSpan 5 (some .int) 1 22 [qa M, qi a, qi b] n r h (q_Pi r (fun z h' => ∃ s2, O_undoSpan st.1 a b z s2 ∧ IM h' M (chg st z s2) ∧ FR M 16 h h')) 0 0 := by
  refine q_enter (al := [(0, qa M), (1, qi a), (2, qi b)]) m_X9_undoSpan rfl (Nat.le_of_ble_eq_true rfl) ?_
  intro hok X C hmc hxl hin
  have g := gs.1
  have gn := g.n
  have gh := gs.2.2.1
  refine Aj.aload_n C 0 dX9_undoSpan_0 rfl ?_
  refine Aj.iconst C dX9_undoSpan_1 (by decide) ?_
  refine Aj.putI C lf_RX9_56 L.a dX9_undoSpan_2 (fun h_1 eh_1 => ?_)
  have f1 : FS M h h_1 := fun x y w => by rw [eh_1, hset_ne _ _ (by omega)]
  have c1 : IM h_1 M st := c.fs f1
  refine Aj.iload_n C 1 dX9_undoSpan_5 rfl ?_
  refine Aj.iconst C dX9_undoSpan_6 (by decide) ?_
  refine Aj.iconst C dX9_undoSpan_7 (by decide) ?_
  refine Aj.callSi (As := [qi a, qi 0, qi 2]) (st := []) C lm_RX9_60 m_X9_in mk_X9_in (c_X9_in _) rfl rfl (by decide) (Nat.le_of_ble_eq_true rfl) (by decide) dX9_undoSpan_8 (fun z8 h_2 rz8 p8 => ?_)
  obtain ⟨rfl, pza, pea⟩ := p8
  refine Aj.if_ne (tgt := 17) C dX9_undoSpan_11 (by decide) (fun c11 => ?_) (fun c11 => ?_)
  · have ar : a = 0 ∨ a = 1 ∨ a = 2 := by omega
    have sr : 0 ≤ st.1 (2 + a) ∧ st.1 (2 + a) ≤ 4 ∧ (a = 2 → st.1 (2 + a) ≤ 3) := by rcases ar with rfl | rfl | rfl <;> simp only [Int.reduceAdd] <;> omega
    refine Aj.iload_n C 2 dX9_undoSpan_17 rfl ?_
    refine Aj.iconst C dX9_undoSpan_18 (by decide) ?_
    refine Aj.aload_n C 0 dX9_undoSpan_19 rfl ?_
    refine Aj.getR C lf_RX9_7 rfl L.a L.r1 dX9_undoSpan_20 ?_
    refine Aj.iconst C dX9_undoSpan_23 (by decide) ?_
    refine Aj.iload_n C 1 dX9_undoSpan_24 rfl ?_
    refine Aj.iadd C dX9_undoSpan_25 (by omega) ?_
    refine Aj.ialde (w := st.1 (2 + a)) C L.a1 (by omega) dX9_undoSpan_26 (c1.1 _ (by omega) (by omega)) ?_
    refine Aj.iconst C dX9_undoSpan_27 (by decide) ?_
    refine Aj.isub C dX9_undoSpan_28 (by omega) ?_
    refine Aj.callSi (As := [qi b, qi 0, qi (st.1 (2 + a) - 1)]) (st := []) C lm_RX9_60 m_X9_in mk_X9_in (c_X9_in _) rfl rfl (by decide) (Nat.le_of_ble_eq_true rfl) (by decide) dX9_undoSpan_29 (fun z29 h_3 rz29 p29 => ?_)
    obtain ⟨rfl, pzb, peb⟩ := p29
    refine Aj.if_ne (tgt := 37) C dX9_undoSpan_32 (by decide) (fun c32 => ?_) (fun c32 => ?_)
    · refine Aj.aload_n C 0 dX9_undoSpan_37 rfl ?_
      refine Aj.callVv (As := []) (st := []) C lm_RX9_127 m_X9_records mk_X9_records ms_X9_records (c_X9_records _ L c1.1 c1.2.2.1 gh) L.a (t := 9) rfl rfl rfl rfl (by decide) (Nat.le_of_ble_eq_true rfl) (by decide) dX9_undoSpan_38 (fun hr p38 => ?_)
      obtain ⟨hr1, hr2⟩ := p38
      have cr : IMs hr M st.1 := c1.1.frec hr2
      have J64 : ∀ (pl : Int) , (pl = 126 + 8 * a) → Aj G X (q_Pi r (fun z h' => ∃ s2, O_undoSpan st.1 a b z s2 ∧ IM h' M (chg st z s2) ∧ FR M 16 h h')) cX9_undoSpan 5 (0, 0) n r hr 64 [(0, qa M), (1, qi a), (2, qi b)] [qi pl] := by
        intro pl hJ64
        refine Aj.istore_n (al2 := [(3, qi pl), (0, qa M), (1, qi a), (2, qi b)]) C dX9_undoSpan_64 (by decide) rfl ?_
        refine Aj.aload_n C 1 dX9_undoSpan_65 rfl ?_
        refine Aj.getR C lf_RX9_7 rfl L.a L.r1 dX9_undoSpan_66 ?_
        refine Aj.iconst C dX9_undoSpan_69 (by decide) ?_
        refine Aj.iload_n C 2 dX9_undoSpan_70 rfl ?_
        refine Aj.iadd C dX9_undoSpan_71 (by omega) ?_
        refine Aj.dup2 C dX9_undoSpan_72 ?_
        refine Aj.ialde (w := st.1 (2 + a)) C L.a1 (by omega) dX9_undoSpan_73 (cr _ (by omega) (by omega)) ?_
        refine Aj.iconst C dX9_undoSpan_74 (by decide) ?_
        refine Aj.isub C dX9_undoSpan_75 (by omega) ?_
        refine Aj.iast C L.a1 (by omega) dX9_undoSpan_76 (fun h_4 eh_4 => ?_)
        refine Aj.iconst C dX9_undoSpan_77 (by decide) ?_
        refine Aj.iload_n C 3 dX9_undoSpan_78 rfl ?_
        refine Aj.imul C dX9_undoSpan_79 (by omega) ?_
        refine Aj.istore (al2 := [(4, qi (2 * b)), (3, qi pl), (0, qa M), (1, qi a), (2, qi b)]) C dX9_undoSpan_80 (by decide) rfl ?_
        refine Aj.pick (al2 := [(0, qa M), (1, qi a), (2, qi b), (3, qi pl), (4, qi (2 * b))]) [2, 3, 4, 1, 0] rfl ?_
        suffices L82 : ∀ (N : Nat) (k : Int) (h1 : qH) , (2 * b ≤ k ∧ k ≤ 2 * (st.1 (2 + a) - 1) ∧ (∀ j, 0 ≤ j → j < 228 → h1 (M + 1) j = if j = 2 + a then st.1 (2 + a) - 1 else if pl + 2 * b ≤ j ∧ j < pl + k then st.1 (j + 2) else st.1 j) ∧ FQ M hr h1) → (2 * (st.1 (2 + a) - 1) - k).toNat < N → Aj G X (q_Pi r (fun z h' => ∃ s2, O_undoSpan st.1 a b z s2 ∧ IM h' M (chg st z s2) ∧ FR M 16 h h')) cX9_undoSpan 5 (0, 0) n r h1 82 [(0, qa M), (1, qi a), (2, qi b), (3, qi pl), (4, qi k)] [] from L82 (_ + 1) (2 * b) h_4 (⟨by omega, by omega, fun j j1 j2 => by
          rw [eh_4, hset_ap]
          by_cases q : j = 2 + a
          · rw [if_pos ⟨rfl, q⟩, if_pos q]
          · rw [if_neg (fun w => q w.2), if_neg q, if_neg (by omega)]; exact cr j j1 j2, FQ.set eh_4⟩) (Nat.lt_succ_self _)
        intro N82
        induction N82 with
        | zero => intro k h1 _ hN; exact absurd hN (Nat.not_lt_zero _)
        | succ N ih82 =>
          intro k h1 hI82 hN82
          obtain ⟨hk0, hk1, hk2, hk3⟩ := hI82
          refine Aj.iload C 4 dX9_undoSpan_82 rfl ?_
          refine Aj.iconst C dX9_undoSpan_84 (by decide) ?_
          refine Aj.aload_n C 0 dX9_undoSpan_85 rfl ?_
          refine Aj.getR C lf_RX9_7 rfl L.a L.r1 dX9_undoSpan_86 ?_
          refine Aj.iconst C dX9_undoSpan_89 (by decide) ?_
          refine Aj.iload_n C 1 dX9_undoSpan_90 rfl ?_
          refine Aj.iadd C dX9_undoSpan_91 (by omega) ?_
          refine Aj.ialde (w := st.1 (2 + a) - 1) C L.a1 (by omega) dX9_undoSpan_92 ((hk2 _ (by omega) (by omega)).trans (if_pos rfl)) ?_
          refine Aj.imul C dX9_undoSpan_93 (by omega) ?_
          refine Aj.icmp_ge (tgt := 123) C dX9_undoSpan_94 (by decide) (fun c94 => ?_) (fun c94 => ?_)
          · refine Aj.aload_n C 0 dX9_undoSpan_123 rfl ?_
            refine Aj.getR C lf_RX9_7 rfl L.a L.r1 dX9_undoSpan_124 ?_
            refine Aj.iload_n C 3 dX9_undoSpan_127 rfl ?_
            refine Aj.iconst C dX9_undoSpan_128 (by decide) ?_
            refine Aj.aload_n C 0 dX9_undoSpan_129 rfl ?_
            refine Aj.getR C lf_RX9_7 rfl L.a L.r1 dX9_undoSpan_130 ?_
            refine Aj.iconst C dX9_undoSpan_133 (by decide) ?_
            refine Aj.iload_n C 1 dX9_undoSpan_134 rfl ?_
            refine Aj.iadd C dX9_undoSpan_135 (by omega) ?_
            refine Aj.ialde (w := st.1 (2 + a) - 1) C L.a1 (by omega) dX9_undoSpan_136 ((hk2 _ (by omega) (by omega)).trans (if_pos rfl)) ?_
            refine Aj.imul C dX9_undoSpan_137 (by omega) ?_
            refine Aj.iadd C dX9_undoSpan_138 (by omega) ?_
            refine Aj.iconst C dX9_undoSpan_139 (by decide) ?_
            refine Aj.iast C L.a1 (by omega) dX9_undoSpan_140 (fun h_5 eh_5 => ?_)
            refine Aj.aload_n C 0 dX9_undoSpan_141 rfl ?_
            refine Aj.getR C lf_RX9_7 rfl L.a L.r1 dX9_undoSpan_142 ?_
            refine Aj.iload_n C 3 dX9_undoSpan_145 rfl ?_
            refine Aj.iconst C dX9_undoSpan_146 (by decide) ?_
            refine Aj.aload_n C 0 dX9_undoSpan_147 rfl ?_
            refine Aj.getR C lf_RX9_7 rfl L.a L.r1 dX9_undoSpan_148 ?_
            refine Aj.iconst C dX9_undoSpan_151 (by decide) ?_
            refine Aj.iload_n C 1 dX9_undoSpan_152 rfl ?_
            refine Aj.iadd C dX9_undoSpan_153 (by omega) ?_
            refine Aj.ialde (w := st.1 (2 + a) - 1) C L.a1 (by omega) dX9_undoSpan_154 (by rw [eh_5, hset_neb _ _ _ (by omega)]; exact (hk2 _ (by omega) (by omega)).trans (if_pos rfl)) ?_
            refine Aj.imul C dX9_undoSpan_155 (by omega) ?_
            refine Aj.iadd C dX9_undoSpan_156 (by omega) ?_
            refine Aj.iconst C dX9_undoSpan_157 (by decide) ?_
            refine Aj.iadd C dX9_undoSpan_158 (by omega) ?_
            refine Aj.iconst C dX9_undoSpan_159 (by decide) ?_
            refine Aj.iast C L.a1 (by omega) dX9_undoSpan_160 (fun h_6 eh_6 => ?_)
            refine Aj.aload_n C 0 dX9_undoSpan_161 rfl ?_
            refine Aj.getR C lf_RX9_7 rfl L.a L.r1 dX9_undoSpan_162 ?_
            refine Aj.iconst C dX9_undoSpan_165 (by decide) ?_
            refine Aj.iload_n C 1 dX9_undoSpan_166 rfl ?_
            refine Aj.iadd C dX9_undoSpan_167 (by omega) ?_
            refine Aj.ialde (w := st.1 (2 + a) - 1) C L.a1 (by omega) dX9_undoSpan_168 (by rw [eh_6, eh_5, hset_neb _ _ _ (by omega), hset_neb _ _ _ (by omega)]; exact (hk2 _ (by omega) (by omega)).trans (if_pos rfl)) ?_
            refine Aj.iret C dX9_undoSpan_169 (by rw [hmc]; exact ⟨rfl, Nat.le_of_ble_eq_true rfl⟩) ⟨_, rfl, rfl, ?_⟩
            refine ⟨_, Or.inr (Or.inr ⟨by omega, by omega, rfl, rfl⟩), IM.chg c (by omega) f1 hr1 hr2 ((hk3.tr (FQ.set eh_5)).tr (FQ.set eh_6)) (fun j j1 j2 => ?_)⟩
            have ek : k = 2 * (st.1 (2 + a) - 1) := by omega
            subst ek
            unfold U_rm
            rw [← hJ64, eh_6, hset_ap]
            by_cases q1 : j = pl + 2 * (st.1 (2 + a) - 1) + 1
            · rw [if_pos ⟨rfl, q1⟩, if_neg (by omega), if_neg (by omega), if_pos (by omega)]
            · rw [if_neg (fun w => q1 w.2), eh_5, hset_ap]
              by_cases q2 : j = pl + 2 * (st.1 (2 + a) - 1)
              · rw [if_pos ⟨rfl, q2⟩, if_neg (by omega), if_neg (by omega), if_pos (by omega)]
              · rw [if_neg (fun w => q2 w.2), hk2 j j1 j2]
                by_cases q3 : j = 2 + a
                · rw [if_pos q3, if_pos q3]
                · rw [if_neg q3, if_neg q3]
                  by_cases q4 : pl + 2 * b ≤ j ∧ j < pl + 2 * (st.1 (2 + a) - 1)
                  · rw [if_pos q4, if_pos q4]
                  · rw [if_neg q4, if_neg q4, if_neg (by omega)]
          · refine Aj.aload_n C 0 dX9_undoSpan_97 rfl ?_
            refine Aj.getR C lf_RX9_7 rfl L.a L.r1 dX9_undoSpan_98 ?_
            refine Aj.iload_n C 3 dX9_undoSpan_101 rfl ?_
            refine Aj.iload C 4 dX9_undoSpan_102 rfl ?_
            refine Aj.iadd C dX9_undoSpan_104 (by omega) ?_
            refine Aj.aload_n C 0 dX9_undoSpan_105 rfl ?_
            refine Aj.getR C lf_RX9_7 rfl L.a L.r1 dX9_undoSpan_106 ?_
            refine Aj.iload_n C 3 dX9_undoSpan_109 rfl ?_
            refine Aj.iload C 4 dX9_undoSpan_110 rfl ?_
            refine Aj.iadd C dX9_undoSpan_112 (by omega) ?_
            refine Aj.iconst C dX9_undoSpan_113 (by decide) ?_
            refine Aj.iadd C dX9_undoSpan_114 (by omega) ?_
            refine Aj.ialde (w := st.1 (pl + k + 2)) C L.a1 (by omega) dX9_undoSpan_115 ((hk2 _ (by omega) (by omega)).trans ((if_neg (by omega)).trans (if_neg (by omega)))) ?_
            refine Aj.iast C L.a1 (by omega) dX9_undoSpan_116 (fun h_7 eh_7 => ?_)
            refine Aj.iinc (al2 := [(4, qi (k + 1)), (0, qa M), (1, qi a), (2, qi b), (3, qi pl)]) C 4 dX9_undoSpan_117 rfl (by decide) (by omega) rfl ?_
            refine Aj.goto (tgt := 82) C dX9_undoSpan_120 (by decide) ?_
            refine Aj.pick (al2 := [(0, qa M), (1, qi a), (2, qi b), (3, qi pl), (4, qi (k + 1))]) [1, 2, 3, 4, 0] rfl ?_
            exact ih82 (k + 1) h_7 (⟨by omega, by omega, fun j j1 j2 => by
              rw [eh_7, hset_ap]
              by_cases q : j = pl + k
              · rw [if_pos ⟨rfl, q⟩, if_neg (by omega), if_pos (by omega), q]
              · rw [if_neg (fun w => q w.2), hk2 j j1 j2]
                by_cases q2 : j = 2 + a
                · rw [if_pos q2, if_pos q2]
                · rw [if_neg q2, if_neg q2]
                  by_cases q3 : pl + 2 * b ≤ j ∧ j < pl + k
                  · rw [if_pos q3, if_pos (by omega)]
                  · rw [if_neg q3, if_neg (by omega)], hk3.tr (FQ.set eh_7)⟩) (by omega)
      refine Aj.iload_n C 1 dX9_undoSpan_41 rfl ?_
      refine Aj.if_ne (tgt := 50) C dX9_undoSpan_42 (by decide) (fun c42 => ?_) (fun c42 => ?_)
      · refine Aj.iload_n C 1 dX9_undoSpan_50 rfl ?_
        refine Aj.iconst C dX9_undoSpan_51 (by decide) ?_
        refine Aj.icmp_ne (tgt := 61) C dX9_undoSpan_52 (by decide) (fun c52 => ?_) (fun c52 => ?_)
        · refine Aj.sipush C dX9_undoSpan_61 (by decide) (by decide) ?_
          refine Aj.pick (al2 := [(0, qa M), (1, qi a), (2, qi b)]) [0, 1, 2] rfl ?_
          exact J64 142 (by omega)
        · refine Aj.sipush C dX9_undoSpan_55 (by decide) (by decide) ?_
          refine Aj.goto (tgt := 64) C dX9_undoSpan_58 (by decide) ?_
          refine Aj.pick (al2 := [(0, qa M), (1, qi a), (2, qi b)]) [0, 1, 2] rfl ?_
          exact J64 134 (by omega)
      · refine Aj.bipush C dX9_undoSpan_45 (by decide) (by decide) ?_
        refine Aj.goto (tgt := 64) C dX9_undoSpan_47 (by decide) ?_
        refine Aj.pick (al2 := [(0, qa M), (1, qi a), (2, qi b)]) [0, 1, 2] rfl ?_
        exact J64 126 (by omega)
    · refine Aj.iconst C dX9_undoSpan_35 (by decide) ?_
      refine Aj.iret C dX9_undoSpan_36 (by rw [hmc]; exact ⟨rfl, Nat.le_of_ble_eq_true rfl⟩) ⟨_, rfl, rfl, ?_⟩
      exact ⟨st.1, Or.inr (Or.inl ⟨by omega, by omega, rfl, rfl⟩), by rw [chg_n (by decide)]; exact c1, f1.fr⟩
  · refine Aj.bipush C dX9_undoSpan_14 (by decide) (by decide) ?_
    refine Aj.iret C dX9_undoSpan_16 (by rw [hmc]; exact ⟨rfl, Nat.le_of_ble_eq_true rfl⟩) ⟨_, rfl, rfl, ?_⟩
    exact ⟨st.1, Or.inl ⟨by omega, rfl, rfl⟩, by rw [chg_n (by decide)]; exact c1, f1.fr⟩
