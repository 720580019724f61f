set_option maxHeartbeats 400000 in
set_option maxRecDepth 100000 in
theorem c_X8_carryOutOrder (l : Launch) {G : qG} {n : Int} {r h : qH} {b : Int} {s : Int → Int} {D : qD} (L : LCall G n r b) (cr : CRead h (b + 65) D) (op : openP D.1) (c1 : CScore h (b + 1) s) (g : SG s) : q_Cm l G yX8_carryOutOrder cX8_carryOutOrder 2 (some .int) 3 66 [qa b] n r h (q_Pi r (fun z h' => ∃ s2, O_ord s D z s2 ∧ CScore h' (b + 1) s2 ∧ FR (b + 1) 17 h h')) 0 0 := by
  refine q_enter (al := [(0, qa b)]) m_X8_carryOutOrder rfl (Nat.le_of_ble_eq_true rfl) ?_
  intro hok X C hmc hxl hin
  refine Aj.aload_n C 0 dX8_carryOutOrder_0 rfl ?_
  refine Aj.getR C lf_RX8_39 rfl L.a L.r5 dX8_carryOutOrder_1 ?_
  refine Aj.getR C lf_RX8_282 rfl L.rd.a L.rd.r0 dX8_carryOutOrder_4 ?_
  refine Aj.astore_n (al2 := [(1, qa (b + 65 + 1)), (0, qa b)]) C dX8_carryOutOrder_7 (by decide) rfl ?_
  refine Aj.aload_n C 1 dX8_carryOutOrder_8 rfl ?_
  refine Aj.getR C lf_RX8_39 rfl L.a L.r5 dX8_carryOutOrder_9 ?_
  refine Aj.getIe (z := D.1) C lf_RX8_285 rfl L.rd.a dX8_carryOutOrder_12 cr.1 ?_
  rcases (show D.1 = 45 ∨ D.1 = 98 ∨ D.1 = 101 ∨ D.1 = 108 ∨ D.1 = 110 ∨ D.1 = 114 ∨ D.1 = 120 ∨ (D.1 ≠ 45 ∧ D.1 ≠ 98 ∧ D.1 ≠ 101 ∧ D.1 ≠ 108 ∧ D.1 ≠ 110 ∧ D.1 ≠ 114 ∧ D.1 ≠ 120) by omega) with c15 | c15 | c15 | c15 | c15 | c15 | c15 | c15
  · refine Aj.lookup C (164) dX8_carryOutOrder_15 (by decide) (by rw [c15]; decide) (tgt := 179) (by decide) ?_
    refine Aj.aload_n C 1 dX8_carryOutOrder_179 rfl ?_
    refine Aj.getR C lf_RX8_12 rfl L.a L.r0 dX8_carryOutOrder_180 ?_
    refine Aj.aload_n C 0 dX8_carryOutOrder_183 rfl ?_
    refine Aj.iconst C dX8_carryOutOrder_184 (by decide) ?_
    refine Aj.ialde (w := D.2.2.2 0) C L.rd.a1 (by omega) dX8_carryOutOrder_185 (cr.2.2.2 _ (by decide) (by decide)) ?_
    refine Aj.callVi (As := [qi (D.2.2.2 0)]) (st := []) C lm_RX8_96 m_X4_removeTitle mk_X4_removeTitle ms_X4_removeTitle (c_X4_removeTitle _ L.sc c1 g) L.sc.a (t := 4) rfl rfl rfl rfl (by decide) (Nat.le_of_ble_eq_true rfl) (by decide) dX8_carryOutOrder_186 (fun z186 h_1 rz186 p186 => ?_)
    obtain ⟨s2, q1, q2, q3⟩ := p186
    refine Aj.iret C dX8_carryOutOrder_189 (by rw [hmc]; exact ⟨rfl, Nat.le_of_ble_eq_true rfl⟩) ⟨_, rfl, rfl, ?_⟩
    exact ⟨s2, Or.inr (Or.inr (Or.inr (Or.inl ⟨c15, q1⟩))), q2, q3⟩
  · refine Aj.lookup C (65) dX8_carryOutOrder_15 (by decide) (by rw [c15]; decide) (tgt := 80) (by decide) ?_
    refine Aj.aload_n C 1 dX8_carryOutOrder_80 rfl ?_
    refine Aj.getR C lf_RX8_12 rfl L.a L.r0 dX8_carryOutOrder_81 ?_
    refine Aj.aload_n C 0 dX8_carryOutOrder_84 rfl ?_
    refine Aj.iconst C dX8_carryOutOrder_85 (by decide) ?_
    refine Aj.ialde (w := D.2.2.2 0) C L.rd.a1 (by omega) dX8_carryOutOrder_86 (cr.2.2.2 _ (by decide) (by decide)) ?_
    refine Aj.aload_n C 0 dX8_carryOutOrder_87 rfl ?_
    refine Aj.iconst C dX8_carryOutOrder_88 (by decide) ?_
    refine Aj.ialde (w := D.2.2.2 1) C L.rd.a1 (by omega) dX8_carryOutOrder_89 (cr.2.2.2 _ (by decide) (by decide)) ?_
    refine Aj.aload_n C 0 dX8_carryOutOrder_90 rfl ?_
    refine Aj.iconst C dX8_carryOutOrder_91 (by decide) ?_
    refine Aj.ialde (w := D.2.2.2 2) C L.rd.a1 (by omega) dX8_carryOutOrder_92 (cr.2.2.2 _ (by decide) (by decide)) ?_
    refine Aj.callVi (As := [qi (D.2.2.2 0), qi (D.2.2.2 1), qi (D.2.2.2 2)]) (st := []) C lm_RX8_75 m_X4_changeBar mk_X4_changeBar ms_X4_changeBar (c_X4_changeBar _ L.sc c1 g) L.sc.a (t := 4) rfl rfl rfl rfl (by decide) (Nat.le_of_ble_eq_true rfl) (by decide) dX8_carryOutOrder_93 (fun z93 h_2 rz93 p93 => ?_)
    obtain ⟨s2, q1, q2, q3⟩ := p93
    refine Aj.iret C dX8_carryOutOrder_96 (by rw [hmc]; exact ⟨rfl, Nat.le_of_ble_eq_true rfl⟩) ⟨_, rfl, rfl, ?_⟩
    exact ⟨s2, Or.inl ⟨c15, q1⟩, q2, q3⟩
  · refine Aj.lookup C (128) dX8_carryOutOrder_15 (by decide) (by rw [c15]; decide) (tgt := 143) (by decide) ?_
    refine Aj.aload_n C 1 dX8_carryOutOrder_143 rfl ?_
    refine Aj.getR C lf_RX8_12 rfl L.a L.r0 dX8_carryOutOrder_144 ?_
    refine Aj.iconst C dX8_carryOutOrder_147 (by decide) ?_
    refine Aj.aload_n C 0 dX8_carryOutOrder_148 rfl ?_
    refine Aj.iconst C dX8_carryOutOrder_149 (by decide) ?_
    refine Aj.ialde (w := D.2.2.2 0) C L.rd.a1 (by omega) dX8_carryOutOrder_150 (cr.2.2.2 _ (by decide) (by decide)) ?_
    refine Aj.aload_n C 0 dX8_carryOutOrder_151 rfl ?_
    refine Aj.iconst C dX8_carryOutOrder_152 (by decide) ?_
    refine Aj.ialde (w := D.2.2.2 1) C L.rd.a1 (by omega) dX8_carryOutOrder_153 (cr.2.2.2 _ (by decide) (by decide)) ?_
    refine Aj.aload_n C 0 dX8_carryOutOrder_154 rfl ?_
    refine Aj.iconst C dX8_carryOutOrder_155 (by decide) ?_
    refine Aj.ialde (w := D.2.2.2 2) C L.rd.a1 (by omega) dX8_carryOutOrder_156 (cr.2.2.2 _ (by decide) (by decide)) ?_
    refine Aj.callVi (As := [qi 1, qi (D.2.2.2 0), qi (D.2.2.2 1), qi (D.2.2.2 2)]) (st := []) C lm_RX8_92 m_X4_addTitle mk_X4_addTitle ms_X4_addTitle (c_X4_addTitle _ L.sc c1 g) L.sc.a (t := 4) rfl rfl rfl rfl (by decide) (Nat.le_of_ble_eq_true rfl) (by decide) dX8_carryOutOrder_157 (fun z157 h_3 rz157 p157 => ?_)
    obtain ⟨s2, q1, q2, q3⟩ := p157
    refine Aj.iret C dX8_carryOutOrder_160 (by rw [hmc]; exact ⟨rfl, Nat.le_of_ble_eq_true rfl⟩) ⟨_, rfl, rfl, ?_⟩
    exact ⟨s2, Or.inr (Or.inr (Or.inr (Or.inr ⟨by omega, by rw [c15]; exact q1⟩))), q2, q3⟩
  · refine Aj.lookup C (110) dX8_carryOutOrder_15 (by decide) (by rw [c15]; decide) (tgt := 125) (by decide) ?_
    refine Aj.aload_n C 1 dX8_carryOutOrder_125 rfl ?_
    refine Aj.getR C lf_RX8_12 rfl L.a L.r0 dX8_carryOutOrder_126 ?_
    refine Aj.iconst C dX8_carryOutOrder_129 (by decide) ?_
    refine Aj.aload_n C 0 dX8_carryOutOrder_130 rfl ?_
    refine Aj.iconst C dX8_carryOutOrder_131 (by decide) ?_
    refine Aj.ialde (w := D.2.2.2 0) C L.rd.a1 (by omega) dX8_carryOutOrder_132 (cr.2.2.2 _ (by decide) (by decide)) ?_
    refine Aj.aload_n C 0 dX8_carryOutOrder_133 rfl ?_
    refine Aj.iconst C dX8_carryOutOrder_134 (by decide) ?_
    refine Aj.ialde (w := D.2.2.2 1) C L.rd.a1 (by omega) dX8_carryOutOrder_135 (cr.2.2.2 _ (by decide) (by decide)) ?_
    refine Aj.aload_n C 0 dX8_carryOutOrder_136 rfl ?_
    refine Aj.iconst C dX8_carryOutOrder_137 (by decide) ?_
    refine Aj.ialde (w := D.2.2.2 2) C L.rd.a1 (by omega) dX8_carryOutOrder_138 (cr.2.2.2 _ (by decide) (by decide)) ?_
    refine Aj.callVi (As := [qi 0, qi (D.2.2.2 0), qi (D.2.2.2 1), qi (D.2.2.2 2)]) (st := []) C lm_RX8_92 m_X4_addTitle mk_X4_addTitle ms_X4_addTitle (c_X4_addTitle _ L.sc c1 g) L.sc.a (t := 4) rfl rfl rfl rfl (by decide) (Nat.le_of_ble_eq_true rfl) (by decide) dX8_carryOutOrder_139 (fun z139 h_4 rz139 p139 => ?_)
    obtain ⟨s2, q1, q2, q3⟩ := p139
    refine Aj.iret C dX8_carryOutOrder_142 (by rw [hmc]; exact ⟨rfl, Nat.le_of_ble_eq_true rfl⟩) ⟨_, rfl, rfl, ?_⟩
    exact ⟨s2, Or.inr (Or.inr (Or.inr (Or.inr ⟨by omega, by rw [c15]; exact q1⟩))), q2, q3⟩
  · refine Aj.lookup C (146) dX8_carryOutOrder_15 (by decide) (by rw [c15]; decide) (tgt := 161) (by decide) ?_
    refine Aj.aload_n C 1 dX8_carryOutOrder_161 rfl ?_
    refine Aj.getR C lf_RX8_12 rfl L.a L.r0 dX8_carryOutOrder_162 ?_
    refine Aj.iconst C dX8_carryOutOrder_165 (by decide) ?_
    refine Aj.aload_n C 0 dX8_carryOutOrder_166 rfl ?_
    refine Aj.iconst C dX8_carryOutOrder_167 (by decide) ?_
    refine Aj.ialde (w := D.2.2.2 0) C L.rd.a1 (by omega) dX8_carryOutOrder_168 (cr.2.2.2 _ (by decide) (by decide)) ?_
    refine Aj.aload_n C 0 dX8_carryOutOrder_169 rfl ?_
    refine Aj.iconst C dX8_carryOutOrder_170 (by decide) ?_
    refine Aj.ialde (w := D.2.2.2 1) C L.rd.a1 (by omega) dX8_carryOutOrder_171 (cr.2.2.2 _ (by decide) (by decide)) ?_
    refine Aj.aload_n C 0 dX8_carryOutOrder_172 rfl ?_
    refine Aj.iconst C dX8_carryOutOrder_173 (by decide) ?_
    refine Aj.ialde (w := D.2.2.2 2) C L.rd.a1 (by omega) dX8_carryOutOrder_174 (cr.2.2.2 _ (by decide) (by decide)) ?_
    refine Aj.callVi (As := [qi 2, qi (D.2.2.2 0), qi (D.2.2.2 1), qi (D.2.2.2 2)]) (st := []) C lm_RX8_92 m_X4_addTitle mk_X4_addTitle ms_X4_addTitle (c_X4_addTitle _ L.sc c1 g) L.sc.a (t := 4) rfl rfl rfl rfl (by decide) (Nat.le_of_ble_eq_true rfl) (by decide) dX8_carryOutOrder_175 (fun z175 h_5 rz175 p175 => ?_)
    obtain ⟨s2, q1, q2, q3⟩ := p175
    refine Aj.iret C dX8_carryOutOrder_178 (by rw [hmc]; exact ⟨rfl, Nat.le_of_ble_eq_true rfl⟩) ⟨_, rfl, rfl, ?_⟩
    exact ⟨s2, Or.inr (Or.inr (Or.inr (Or.inr ⟨by omega, by rw [c15]; exact q1⟩))), q2, q3⟩
  · refine Aj.lookup C (82) dX8_carryOutOrder_15 (by decide) (by rw [c15]; decide) (tgt := 97) (by decide) ?_
    refine Aj.aload_n C 1 dX8_carryOutOrder_97 rfl ?_
    refine Aj.getR C lf_RX8_12 rfl L.a L.r0 dX8_carryOutOrder_98 ?_
    refine Aj.aload_n C 0 dX8_carryOutOrder_101 rfl ?_
    refine Aj.iconst C dX8_carryOutOrder_102 (by decide) ?_
    refine Aj.ialde (w := D.2.2.2 0) C L.rd.a1 (by omega) dX8_carryOutOrder_103 (cr.2.2.2 _ (by decide) (by decide)) ?_
    refine Aj.aload_n C 0 dX8_carryOutOrder_104 rfl ?_
    refine Aj.iconst C dX8_carryOutOrder_105 (by decide) ?_
    refine Aj.ialde (w := D.2.2.2 1) C L.rd.a1 (by omega) dX8_carryOutOrder_106 (cr.2.2.2 _ (by decide) (by decide)) ?_
    refine Aj.callVi (As := [qi (D.2.2.2 0), qi (D.2.2.2 1)]) (st := []) C lm_RX8_79 m_X4_addRepeat mk_X4_addRepeat ms_X4_addRepeat (c_X4_addRepeat _ L.sc c1 g) L.sc.a (t := 4) rfl rfl rfl rfl (by decide) (Nat.le_of_ble_eq_true rfl) (by decide) dX8_carryOutOrder_107 (fun z107 h_6 rz107 p107 => ?_)
    obtain ⟨s2, q1, q2, q3⟩ := p107
    refine Aj.iret C dX8_carryOutOrder_110 (by rw [hmc]; exact ⟨rfl, Nat.le_of_ble_eq_true rfl⟩) ⟨_, rfl, rfl, ?_⟩
    exact ⟨s2, Or.inr (Or.inl ⟨c15, q1⟩), q2, q3⟩
  · refine Aj.lookup C (96) dX8_carryOutOrder_15 (by decide) (by rw [c15]; decide) (tgt := 111) (by decide) ?_
    refine Aj.aload_n C 1 dX8_carryOutOrder_111 rfl ?_
    refine Aj.getR C lf_RX8_12 rfl L.a L.r0 dX8_carryOutOrder_112 ?_
    refine Aj.aload_n C 0 dX8_carryOutOrder_115 rfl ?_
    refine Aj.iconst C dX8_carryOutOrder_116 (by decide) ?_
    refine Aj.ialde (w := D.2.2.2 0) C L.rd.a1 (by omega) dX8_carryOutOrder_117 (cr.2.2.2 _ (by decide) (by decide)) ?_
    refine Aj.aload_n C 0 dX8_carryOutOrder_118 rfl ?_
    refine Aj.iconst C dX8_carryOutOrder_119 (by decide) ?_
    refine Aj.ialde (w := D.2.2.2 1) C L.rd.a1 (by omega) dX8_carryOutOrder_120 (cr.2.2.2 _ (by decide) (by decide)) ?_
    refine Aj.callVi (As := [qi (D.2.2.2 0), qi (D.2.2.2 1)]) (st := []) C lm_RX8_83 m_X4_addCut mk_X4_addCut ms_X4_addCut (c_X4_addCut _ L.sc c1 g) L.sc.a (t := 4) rfl rfl rfl rfl (by decide) (Nat.le_of_ble_eq_true rfl) (by decide) dX8_carryOutOrder_121 (fun z121 h_7 rz121 p121 => ?_)
    obtain ⟨s2, q1, q2, q3⟩ := p121
    refine Aj.iret C dX8_carryOutOrder_124 (by rw [hmc]; exact ⟨rfl, Nat.le_of_ble_eq_true rfl⟩) ⟨_, rfl, rfl, ?_⟩
    exact ⟨s2, Or.inr (Or.inr (Or.inl ⟨c15, q1⟩)), q2, q3⟩
  · exfalso; unfold openP at op; omega
