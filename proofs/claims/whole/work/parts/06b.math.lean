/-! A score as 228 numbers (the places are those of the reference's own row), what is asked of it, and what each change makes of it -/
def sset (s : Int → Int) (i v : Int) : Int → Int := fun j => if j = i then v else s j
theorem sset_ap (s : Int → Int) (i v j : Int) : sset s i v j = if j = i then v else s j := rfl
def CTitles (h : qH) (p : Int) (s : Int → Int) : Prop := h p 4 = s 5 ∧ ∀ k, 0 ≤ k → k < s 5 → h (p + 1) k = s (148 + 4 * k) ∧ h (p + 2) k = s (149 + 4 * k) ∧ h (p + 3) k = s (150 + 4 * k) ∧ h (p + 4) k = s (151 + 4 * k)
def CScore (h : qH) (p : Int) (s : Int → Int) : Prop :=
  h p 0 = s 0 ∧ h p 1 = s 1 ∧ (∀ k, 0 ≤ k → k < 60 → h (p + 1) k = s (6 + k) ∧ h (p + 2) k = s (66 + k)) ∧ CSpans h (p + 3) (s 2) (fun k => s (126 + 2 * k)) (fun k => s (127 + 2 * k)) ∧
  CSpans h (p + 6) (s 3) (fun k => s (134 + 2 * k)) (fun k => s (135 + 2 * k)) ∧ CSpans h (p + 9) (s 4) (fun k => s (142 + 2 * k)) (fun k => s (143 + 2 * k)) ∧ CTitles h (p + 12) s
/-- a score as the document asks it to be -/
def SG (s : Int → Int) : Prop :=
  ((1 ≤ s 0 ∧ s 0 ≤ 60) ∧ (0 ≤ s 1 ∧ s 1 ≤ 50) ∧ (0 ≤ s 2 ∧ s 2 ≤ 4) ∧ (0 ≤ s 3 ∧ s 3 ≤ 4) ∧ (0 ≤ s 4 ∧ s 4 ≤ 3) ∧ (0 ≤ s 5 ∧ s 5 ≤ 20)) ∧
  (∀ k, 0 ≤ k → k < 60 → (1 ≤ s (6 + k) ∧ s (6 + k) ≤ 12) ∧ (20 ≤ s (66 + k) ∧ s (66 + k) ≤ 240)) ∧
  (∀ k, 0 ≤ k → k < s 2 → 0 ≤ s (126 + 2 * k) ∧ s (126 + 2 * k) ≤ s (127 + 2 * k) ∧ s (127 + 2 * k) < s 0) ∧
  (∀ j k, 0 ≤ j → j < k → k < s 2 → s (127 + 2 * j) < s (126 + 2 * k) ∨ s (127 + 2 * k) < s (126 + 2 * j)) ∧
  (∀ k, 0 ≤ k → k < s 3 → 0 ≤ s (134 + 2 * k) ∧ s (134 + 2 * k) ≤ s (135 + 2 * k) ∧ s (135 + 2 * k) < s 0) ∧
  (∀ k, 0 ≤ k → k < s 4 → 0 ≤ s (142 + 2 * k) ∧ s (142 + 2 * k) ≤ s (143 + 2 * k) ∧ s (143 + 2 * k) ≤ 199) ∧
  (∀ k, 0 ≤ k → k < s 5 → (0 ≤ s (148 + 4 * k) ∧ s (148 + 4 * k) ≤ 2) ∧ (0 ≤ s (149 + 4 * k) ∧ s (149 + 4 * k) < s 0) ∧ (1 ≤ s (150 + 4 * k) ∧ s (150 + 4 * k) ≤ 20) ∧ (1 ≤ s (151 + 4 * k) ∧ s (151 + 4 * k) ≤ 80))
theorem SG.n {s : Int → Int} (g : SG s) : (1 ≤ s 0 ∧ s 0 ≤ 60) ∧ (0 ≤ s 1 ∧ s 1 ≤ 50) ∧ (0 ≤ s 2 ∧ s 2 ≤ 4) ∧ (0 ≤ s 3 ∧ s 3 ≤ 4) ∧ (0 ≤ s 4 ∧ s 4 ≤ 3) ∧ (0 ≤ s 5 ∧ s 5 ≤ 20) := g.1
theorem SG.b {s : Int → Int} (g : SG s) : ∀ k, 0 ≤ k → k < 60 → (1 ≤ s (6 + k) ∧ s (6 + k) ≤ 12) ∧ (20 ≤ s (66 + k) ∧ s (66 + k) ≤ 240) := g.2.1
theorem SG.re {s : Int → Int} (g : SG s) : ∀ k, 0 ≤ k → k < s 2 → 0 ≤ s (126 + 2 * k) ∧ s (126 + 2 * k) ≤ s (127 + 2 * k) ∧ s (127 + 2 * k) < s 0 := g.2.2.1
theorem SG.dj {s : Int → Int} (g : SG s) : ∀ j k, 0 ≤ j → j < k → k < s 2 → s (127 + 2 * j) < s (126 + 2 * k) ∨ s (127 + 2 * k) < s (126 + 2 * j) := g.2.2.2.1
theorem SG.cu {s : Int → Int} (g : SG s) : ∀ k, 0 ≤ k → k < s 3 → 0 ≤ s (134 + 2 * k) ∧ s (134 + 2 * k) ≤ s (135 + 2 * k) ∧ s (135 + 2 * k) < s 0 := g.2.2.2.2.1
theorem SG.bl {s : Int → Int} (g : SG s) : ∀ k, 0 ≤ k → k < s 4 → 0 ≤ s (142 + 2 * k) ∧ s (142 + 2 * k) ≤ s (143 + 2 * k) ∧ s (143 + 2 * k) ≤ 199 := g.2.2.2.2.2.1
theorem SG.ti {s : Int → Int} (g : SG s) : ∀ k, 0 ≤ k → k < s 5 → (0 ≤ s (148 + 4 * k) ∧ s (148 + 4 * k) ≤ 2) ∧ (0 ≤ s (149 + 4 * k) ∧ s (149 + 4 * k) < s 0) ∧ (1 ≤ s (150 + 4 * k) ∧ s (150 + 4 * k) ≤ 20) ∧ (1 ≤ s (151 + 4 * k) ∧ s (151 + 4 * k) ≤ 80) := g.2.2.2.2.2.2
def cutP (s : Int → Int) (b : Int) : Prop := ∃ k, 0 ≤ k ∧ k < s 3 ∧ s (134 + 2 * k) ≤ b ∧ b ≤ s (135 + 2 * k)
def beyP (s : Int → Int) (v : Int) : Prop := (∃ k, 0 ≤ k ∧ k < s 2 ∧ v ≤ s (127 + 2 * k)) ∨ (∃ k, 0 ≤ k ∧ k < s 3 ∧ v ≤ s (135 + 2 * k)) ∨ (∃ k, 0 ≤ k ∧ k < s 5 ∧ v ≤ s (149 + 4 * k))
def barP (s : Int → Int) (b : Int) : Prop := 0 ≤ b ∧ b < s 0
def meetR (s : Int → Int) (a b : Int) : Prop := ∃ k, 0 ≤ k ∧ k < s 2 ∧ s (126 + 2 * k) ≤ b ∧ a ≤ s (127 + 2 * k)
def O_bars (s : Int → Int) (v z : Int) (s2 : Int → Int) : Prop := (¬ (1 ≤ v ∧ v ≤ 60) ∧ z = -2 ∧ s2 = s) ∨ ((1 ≤ v ∧ v ≤ 60) ∧ beyP s v ∧ z = -5 ∧ s2 = s) ∨ ((1 ≤ v ∧ v ≤ 60) ∧ ¬ beyP s v ∧ z = s 0 ∧ s2 = sset s 0 v)
def O_short (s : Int → Int) (v z : Int) (s2 : Int → Int) : Prop := (¬ (0 ≤ v ∧ v ≤ 50) ∧ z = -2 ∧ s2 = s) ∨ ((0 ≤ v ∧ v ≤ 50) ∧ z = s 1 ∧ s2 = sset s 1 v)
def O_bar (s : Int → Int) (b e t z : Int) (s2 : Int → Int) : Prop := (¬ barP s b ∧ z = -1 ∧ s2 = s) ∨ (barP s b ∧ ¬ ((1 ≤ e ∧ e ≤ 12) ∧ (20 ≤ t ∧ t ≤ 240)) ∧ z = -2 ∧ s2 = s) ∨ (barP s b ∧ ((1 ≤ e ∧ e ≤ 12) ∧ (20 ≤ t ∧ t ≤ 240)) ∧ z = 600 * e / t ∧ s2 = sset (sset s (6 + b) e) (66 + b) t)
def U_span (s : Int → Int) (pl cn a b : Int) : Int → Int := sset (sset (sset s (pl + 2 * s cn) a) (pl + 2 * s cn + 1) b) cn (s cn + 1)
def O_repeat (s : Int → Int) (a b z : Int) (s2 : Int → Int) : Prop := (¬ (barP s a ∧ barP s b) ∧ z = -1 ∧ s2 = s) ∨ ((barP s a ∧ barP s b) ∧ b < a ∧ z = -2 ∧ s2 = s) ∨ ((barP s a ∧ barP s b) ∧ a ≤ b ∧ s 2 = 4 ∧ z = -4 ∧ s2 = s) ∨
  ((barP s a ∧ barP s b) ∧ a ≤ b ∧ s 2 < 4 ∧ meetR s a b ∧ z = -5 ∧ s2 = s) ∨ ((barP s a ∧ barP s b) ∧ a ≤ b ∧ s 2 < 4 ∧ ¬ meetR s a b ∧ z = s 2 ∧ s2 = U_span s 126 2 a b)
def O_cut (s : Int → Int) (a b z : Int) (s2 : Int → Int) : Prop := (¬ (barP s a ∧ barP s b) ∧ z = -1 ∧ s2 = s) ∨ ((barP s a ∧ barP s b) ∧ b < a ∧ z = -2 ∧ s2 = s) ∨ ((barP s a ∧ barP s b) ∧ a ≤ b ∧ s 3 = 4 ∧ z = -4 ∧ s2 = s) ∨ ((barP s a ∧ barP s b) ∧ a ≤ b ∧ s 3 < 4 ∧ z = s 3 ∧ s2 = U_span s 134 3 a b)
def O_black (s : Int → Int) (a b z : Int) (s2 : Int → Int) : Prop := (¬ (0 ≤ a ∧ a ≤ b ∧ b ≤ 199) ∧ z = -2 ∧ s2 = s) ∨ ((0 ≤ a ∧ a ≤ b ∧ b ≤ 199) ∧ s 4 = 3 ∧ z = -4 ∧ s2 = s) ∨ ((0 ≤ a ∧ a ≤ b ∧ b ≤ 199) ∧ s 4 < 3 ∧ z = s 4 ∧ s2 = U_span s 142 4 a b)
def U_rm (s : Int → Int) (pl cn k : Int) : Int → Int := fun j => if j = cn then s cn - 1 else if pl + 2 * k ≤ j ∧ j < pl + 2 * (s cn - 1) then s (j + 2) else if j = pl + 2 * (s cn - 1) ∨ j = pl + 2 * (s cn - 1) + 1 then 0 else s j
def O_undoSpan (s : Int → Int) (w k z : Int) (s2 : Int → Int) : Prop := (¬ (0 ≤ w ∧ w ≤ 2) ∧ z = -2 ∧ s2 = s) ∨ ((0 ≤ w ∧ w ≤ 2) ∧ ¬ (0 ≤ k ∧ k < s (2 + w)) ∧ z = -1 ∧ s2 = s) ∨ ((0 ≤ w ∧ w ≤ 2) ∧ (0 ≤ k ∧ k < s (2 + w)) ∧ z = s (2 + w) - 1 ∧ s2 = U_rm s (126 + 8 * w) (2 + w) k)
def okT (kd ln lt : Int) : Prop := (0 ≤ kd ∧ kd ≤ 2) ∧ (1 ≤ ln ∧ ln ≤ 20) ∧ (1 ≤ lt ∧ lt ≤ 80)
def U_title (s : Int → Int) (kd b ln lt : Int) : Int → Int := sset (sset (sset (sset (sset s (148 + 4 * s 5) kd) (148 + 4 * s 5 + 1) b) (148 + 4 * s 5 + 2) ln) (148 + 4 * s 5 + 3) lt) 5 (s 5 + 1)
def O_title (s : Int → Int) (kd b ln lt z : Int) (s2 : Int → Int) : Prop := (¬ barP s b ∧ z = -1 ∧ s2 = s) ∨ (barP s b ∧ ¬ okT kd ln lt ∧ z = -2 ∧ s2 = s) ∨ (barP s b ∧ okT kd ln lt ∧ s 5 = 20 ∧ z = -4 ∧ s2 = s) ∨ (barP s b ∧ okT kd ln lt ∧ s 5 < 20 ∧ z = s 5 ∧ s2 = U_title s kd b ln lt)
def U_drop (s : Int → Int) (k : Int) : Int → Int := fun j => if j = 5 then s 5 - 1 else if 148 + 4 * k ≤ j ∧ j < 148 + 4 * (s 5 - 1) then s (j + 4) else if 148 + 4 * (s 5 - 1) ≤ j ∧ j < 148 + 4 * (s 5 - 1) + 4 then 0 else s j
def O_drop (s : Int → Int) (k z : Int) (s2 : Int → Int) : Prop := (¬ (0 ≤ k ∧ k < s 5) ∧ z = -1 ∧ s2 = s) ∨ ((0 ≤ k ∧ k < s 5) ∧ z = s 5 - 1 ∧ s2 = U_drop s k)
theorem O_bars.good {s s2 : Int → Int} {v z : Int} (g : SG s) (o : O_bars s v z s2) : SG s2 := by
  rcases o with ⟨_, _, rfl⟩ | ⟨_, _, _, rfl⟩ | ⟨hv, hb, _, rfl⟩
  · exact g
  · exact g
  · obtain ⟨g1, g2, g3, g4, g5, g6, g7⟩ := g
    have b1 : ∀ k, 0 ≤ k → k < s 2 → s (127 + 2 * k) < v := fun k h1 h2 => Int.not_le.mp fun q => hb (Or.inl ⟨k, h1, h2, q⟩)
    have b2 : ∀ k, 0 ≤ k → k < s 3 → s (135 + 2 * k) < v := fun k h1 h2 => Int.not_le.mp fun q => hb (Or.inr (Or.inl ⟨k, h1, h2, q⟩))
    have b3 : ∀ k, 0 ≤ k → k < s 5 → s (149 + 4 * k) < v := fun k h1 h2 => Int.not_le.mp fun q => hb (Or.inr (Or.inr ⟨k, h1, h2, q⟩))
    simp only [SG, sset_ap, Int.reduceEq, if_true, if_false]
    refine ⟨?_, ?_, ?_, ?_, ?_, ?_, ?_⟩
    · omega
    · intro k h1 h2; have a := g2 k h1 h2; omega
    · intro k h1 h2; have a := g3 k h1 h2; have c := b1 k h1 h2; omega
    · intro j k h0 h1 h2; have a := g4 j k h0 h1 h2; omega
    · intro k h1 h2; have a := g5 k h1 h2; have c := b2 k h1 h2; omega
    · intro k h1 h2; have a := g6 k h1 h2; omega
    · intro k h1 h2; have a := g7 k h1 h2; have c := b3 k h1 h2; omega
theorem O_short.good {s s2 : Int → Int} {v z : Int} (g : SG s) (o : O_short s v z s2) : SG s2 := by
  rcases o with ⟨_, _, rfl⟩ | ⟨hv, _, rfl⟩
  · exact g
  · obtain ⟨g1, g2, g3, g4, g5, g6, g7⟩ := g
    simp only [SG, sset_ap, Int.reduceEq, if_true, if_false]
    refine ⟨?_, ?_, ?_, ?_, ?_, ?_, ?_⟩
    · omega
    · intro k h1 h2; have a := g2 k h1 h2; omega
    · intro k h1 h2; have a := g3 k h1 h2; omega
    · intro j k h0 h1 h2; have a := g4 j k h0 h1 h2; omega
    · intro k h1 h2; have a := g5 k h1 h2; omega
    · intro k h1 h2; have a := g6 k h1 h2; omega
    · intro k h1 h2; have a := g7 k h1 h2; omega
theorem O_bar.good {s s2 : Int → Int} {b e t z : Int} (g : SG s) (o : O_bar s b e t z s2) : SG s2 := by
  rcases o with ⟨_, _, rfl⟩ | ⟨_, _, _, rfl⟩ | ⟨hb, hv, _, rfl⟩
  · exact g
  · exact g
  · obtain ⟨g1, g2, g3, g4, g5, g6, g7⟩ := g
    unfold barP at hb
    have f : ∀ i, i ≠ 6 + b → i ≠ 66 + b → sset (sset s (6 + b) e) (66 + b) t i = s i := fun i h1 h2 => by simp only [sset_ap]; rw [if_neg h2, if_neg h1]
    have f0 : sset (sset s (6 + b) e) (66 + b) t 0 = s 0 := f _ (by omega) (by omega)
    have f2 : sset (sset s (6 + b) e) (66 + b) t 2 = s 2 := f _ (by omega) (by omega)
    have f3 : sset (sset s (6 + b) e) (66 + b) t 3 = s 3 := f _ (by omega) (by omega)
    have f4 : sset (sset s (6 + b) e) (66 + b) t 4 = s 4 := f _ (by omega) (by omega)
    have f5 : sset (sset s (6 + b) e) (66 + b) t 5 = s 5 := f _ (by omega) (by omega)
    unfold SG
    rw [f0, f2, f3, f4, f5, f 1 (by omega) (by omega)]
    refine ⟨g1, ?_, ?_, ?_, ?_, ?_, ?_⟩
    · intro k h1 h2; have a := g2 k h1 h2; simp only [sset_ap]; omega
    · intro k h1 h2; have a := g3 k h1 h2; rw [f _ (by omega) (by omega), f _ (by omega) (by omega)]; exact a
    · intro j k h0 h1 h2; have a := g4 j k h0 h1 h2; rw [f _ (by omega) (by omega), f _ (by omega) (by omega), f _ (by omega) (by omega), f _ (by omega) (by omega)]; exact a
    · intro k h1 h2; have a := g5 k h1 h2; rw [f _ (by omega) (by omega), f _ (by omega) (by omega)]; exact a
    · intro k h1 h2; have a := g6 k h1 h2; rw [f _ (by omega) (by omega), f _ (by omega) (by omega)]; exact a
    · intro k h1 h2; have a := g7 k h1 h2; rw [f _ (by omega) (by omega), f _ (by omega) (by omega), f _ (by omega) (by omega), f _ (by omega) (by omega)]; exact a
theorem O_repeat.good {s s2 : Int → Int} {a b z : Int} (g : SG s) (o : O_repeat s a b z s2) : SG s2 := by
  rcases o with ⟨_, _, rfl⟩ | ⟨_, _, _, rfl⟩ | ⟨_, _, _, _, rfl⟩ | ⟨_, _, _, _, _, rfl⟩ | ⟨hab, h1, h2, h3, _, rfl⟩
  · exact g
  · exact g
  · exact g
  · exact g
  · obtain ⟨g1, g2, g3, g4, g5, g6, g7⟩ := g
    unfold barP at hab
    have d : ∀ k, 0 ≤ k → k < s 2 → b < s (126 + 2 * k) ∨ s (127 + 2 * k) < a := fun k q1 q2 => by
      by_cases q : s (126 + 2 * k) ≤ b ∧ a ≤ s (127 + 2 * k)
      · exact absurd ⟨k, q1, q2, q.1, q.2⟩ h3
      · omega
    simp only [SG, U_span, sset_ap]
    refine ⟨?_, ?_, ?_, ?_, ?_, ?_, ?_⟩
    · omega
    · intro k h1 h2; have a := g2 k h1 h2; omega
    · intro k h1 h2
      by_cases hk : k < s 2
      · have a := g3 k h1 hk; omega
      · omega
    · intro j k h0 h1 h2
      by_cases hk : k < s 2
      · have a := g4 j k h0 h1 hk; omega
      · have a := d j h0 (by omega); omega
    · intro k h1 h2; have a := g5 k h1 (by omega); omega
    · intro k h1 h2; have a := g6 k h1 (by omega); omega
    · intro k h1 h2; have a := g7 k h1 (by omega); omega
theorem O_cut.good {s s2 : Int → Int} {a b z : Int} (g : SG s) (o : O_cut s a b z s2) : SG s2 := by
  rcases o with ⟨_, _, rfl⟩ | ⟨_, _, _, rfl⟩ | ⟨_, _, _, _, rfl⟩ | ⟨hab, h1, h2, _, rfl⟩
  · exact g
  · exact g
  · exact g
  · obtain ⟨g1, g2, g3, g4, g5, g6, g7⟩ := g
    unfold barP at hab
    simp only [SG, U_span, sset_ap]
    refine ⟨?_, ?_, ?_, ?_, ?_, ?_, ?_⟩
    · omega
    · intro k h1 h2; have a := g2 k h1 h2; omega
    · intro k h1 h2; have a := g3 k h1 (by omega); omega
    · intro j k h0 h1 h2; have a := g4 j k h0 h1 (by omega); omega
    · intro k h1 h2
      by_cases hk : k < s 3
      · have a := g5 k h1 hk; omega
      · omega
    · intro k h1 h2; have a := g6 k h1 (by omega); omega
    · intro k h1 h2; have a := g7 k h1 (by omega); omega
theorem O_black.good {s s2 : Int → Int} {a b z : Int} (g : SG s) (o : O_black s a b z s2) : SG s2 := by
  rcases o with ⟨_, _, rfl⟩ | ⟨_, _, _, rfl⟩ | ⟨hab, h1, _, rfl⟩
  · exact g
  · exact g
  · obtain ⟨g1, g2, g3, g4, g5, g6, g7⟩ := g
    simp only [SG, U_span, sset_ap]
    refine ⟨?_, ?_, ?_, ?_, ?_, ?_, ?_⟩
    · omega
    · intro k h1 h2; have a := g2 k h1 h2; omega
    · intro k h1 h2; have a := g3 k h1 (by omega); omega
    · intro j k h0 h1 h2; have a := g4 j k h0 h1 (by omega); omega
    · intro k h1 h2; have a := g5 k h1 (by omega); omega
    · intro k h1 h2
      by_cases hk : k < s 4
      · have a := g6 k h1 hk; omega
      · omega
    · intro k h1 h2; have a := g7 k h1 (by omega); omega
theorem U_rm_at (s : Int → Int) {pl cn k j m : Int} (hm : m = s cn) (hcn : cn < pl) (hk : 0 ≤ k ∧ k < m) (hj : 0 ≤ j ∧ j < m - 1) (e : Int) (he : e = 0 ∨ e = 1) : U_rm s pl cn k (pl + e + 2 * j) = if k ≤ j then s (pl + e + 2 * (j + 1)) else s (pl + e + 2 * j) := by
  subst hm
  unfold U_rm
  rw [if_neg (by omega)]
  by_cases q : k ≤ j
  · rw [if_pos (by omega), if_pos q]; congr 1; omega
  · rw [if_neg (by omega), if_neg (by omega), if_neg q]
theorem U_rm_ne (s : Int → Int) {pl cn k j : Int} (h1 : j ≠ cn) (h2 : j < pl ∨ pl + 2 * s cn ≤ j) (hk : 0 ≤ k ∧ k < s cn) : U_rm s pl cn k j = s j := by
  unfold U_rm
  rw [if_neg h1, if_neg (by omega), if_neg (by omega)]
theorem U_rm_cn (s : Int → Int) {pl cn k : Int} : U_rm s pl cn k cn = s cn - 1 := by unfold U_rm; rw [if_pos rfl]
theorem O_undoSpan.good {s s2 : Int → Int} {w k z : Int} (g : SG s) (o : O_undoSpan s w k z s2) : SG s2 := by
  rcases o with ⟨_, _, rfl⟩ | ⟨_, _, _, rfl⟩ | ⟨hw, hk, _, rfl⟩
  · exact g
  · exact g
  · obtain ⟨g1, g2, g3, g4, g5, g6, g7⟩ := g
    rcases (show w = 0 ∨ w = 1 ∨ w = 2 by omega) with rfl | rfl | rfl
    · simp only [Int.reduceAdd, Int.reduceMul] at hk ⊢
      have f : ∀ j, j ≠ 2 → (j < 126 ∨ 126 + 2 * s 2 ≤ j) → U_rm s 126 2 k j = s j := fun j q1 q2 => U_rm_ne s q1 q2 hk
      have e0 : ∀ j, 0 ≤ j → j < s 2 - 1 → U_rm s 126 2 k (126 + 2 * j) = if k ≤ j then s (126 + 2 * (j + 1)) else s (126 + 2 * j) := fun j q1 q2 => U_rm_at s (pl := 126) rfl (by decide) hk ⟨q1, q2⟩ 0 (Or.inl rfl)
      have e1 : ∀ j, 0 ≤ j → j < s 2 - 1 → U_rm s 126 2 k (127 + 2 * j) = if k ≤ j then s (127 + 2 * (j + 1)) else s (127 + 2 * j) := fun j q1 q2 => U_rm_at s (pl := 126) rfl (by decide) hk ⟨q1, q2⟩ 1 (Or.inr rfl)
      unfold SG
      rw [U_rm_cn, f 0 (by omega) (by omega), f 1 (by omega) (by omega), f 3 (by omega) (by omega), f 4 (by omega) (by omega), f 5 (by omega) (by omega)]
      refine ⟨by omega, ?_, ?_, ?_, ?_, ?_, ?_⟩
      · intro k h1 h2; rw [f _ (by omega) (by omega), f _ (by omega) (by omega)]; exact g2 k h1 h2
      · intro j h1 h2; rw [e0 j h1 h2, e1 j h1 h2]; have a := g3 j h1 (by omega); have b := g3 (j + 1) (by omega) (by omega); split <;> omega
      · intro i j h0 h1 h2; rw [e0 j (by omega) h2, e1 j (by omega) h2, e0 i h0 (by omega), e1 i h0 (by omega)]
        have a := g4 i j h0 h1 (by omega); have b := g4 i (j + 1) h0 (by omega) (by omega); have c := g4 (i + 1) (j + 1) (by omega) (by omega) (by omega)
        split <;> split <;> omega
      · intro k h1 h2; rw [f _ (by omega) (by omega), f _ (by omega) (by omega)]; exact g5 k h1 h2
      · intro k h1 h2; rw [f _ (by omega) (by omega), f _ (by omega) (by omega)]; exact g6 k h1 h2
      · intro k h1 h2; rw [f _ (by omega) (by omega), f _ (by omega) (by omega), f _ (by omega) (by omega), f _ (by omega) (by omega)]; exact g7 k h1 h2
    · simp only [Int.reduceAdd, Int.reduceMul] at hk ⊢
      have f : ∀ j, j ≠ 3 → (j < 134 ∨ 134 + 2 * s 3 ≤ j) → U_rm s 134 3 k j = s j := fun j q1 q2 => U_rm_ne s q1 q2 hk
      have e0 : ∀ j, 0 ≤ j → j < s 3 - 1 → U_rm s 134 3 k (134 + 2 * j) = if k ≤ j then s (134 + 2 * (j + 1)) else s (134 + 2 * j) := fun j q1 q2 => U_rm_at s (pl := 134) rfl (by decide) hk ⟨q1, q2⟩ 0 (Or.inl rfl)
      have e1 : ∀ j, 0 ≤ j → j < s 3 - 1 → U_rm s 134 3 k (135 + 2 * j) = if k ≤ j then s (135 + 2 * (j + 1)) else s (135 + 2 * j) := fun j q1 q2 => U_rm_at s (pl := 134) rfl (by decide) hk ⟨q1, q2⟩ 1 (Or.inr rfl)
      unfold SG
      rw [U_rm_cn, f 0 (by omega) (by omega), f 1 (by omega) (by omega), f 2 (by omega) (by omega), f 4 (by omega) (by omega), f 5 (by omega) (by omega)]
      refine ⟨by omega, ?_, ?_, ?_, ?_, ?_, ?_⟩
      · intro k h1 h2; rw [f _ (by omega) (by omega), f _ (by omega) (by omega)]; exact g2 k h1 h2
      · intro k h1 h2; rw [f _ (by omega) (by omega), f _ (by omega) (by omega)]; exact g3 k h1 h2
      · intro i j h0 h1 h2; rw [f _ (by omega) (by omega), f _ (by omega) (by omega), f _ (by omega) (by omega), f _ (by omega) (by omega)]; exact g4 i j h0 h1 h2
      · intro j h1 h2; rw [e0 j h1 h2, e1 j h1 h2]; have a := g5 j h1 (by omega); have b := g5 (j + 1) (by omega) (by omega); split <;> omega
      · intro k h1 h2; rw [f _ (by omega) (by omega), f _ (by omega) (by omega)]; exact g6 k h1 h2
      · intro k h1 h2; rw [f _ (by omega) (by omega), f _ (by omega) (by omega), f _ (by omega) (by omega), f _ (by omega) (by omega)]; exact g7 k h1 h2
    · simp only [Int.reduceAdd, Int.reduceMul] at hk ⊢
      have f : ∀ j, j ≠ 4 → (j < 142 ∨ 142 + 2 * s 4 ≤ j) → U_rm s 142 4 k j = s j := fun j q1 q2 => U_rm_ne s q1 q2 hk
      have e0 : ∀ j, 0 ≤ j → j < s 4 - 1 → U_rm s 142 4 k (142 + 2 * j) = if k ≤ j then s (142 + 2 * (j + 1)) else s (142 + 2 * j) := fun j q1 q2 => U_rm_at s (pl := 142) rfl (by decide) hk ⟨q1, q2⟩ 0 (Or.inl rfl)
      have e1 : ∀ j, 0 ≤ j → j < s 4 - 1 → U_rm s 142 4 k (143 + 2 * j) = if k ≤ j then s (143 + 2 * (j + 1)) else s (143 + 2 * j) := fun j q1 q2 => U_rm_at s (pl := 142) rfl (by decide) hk ⟨q1, q2⟩ 1 (Or.inr rfl)
      unfold SG
      rw [U_rm_cn, f 0 (by omega) (by omega), f 1 (by omega) (by omega), f 2 (by omega) (by omega), f 3 (by omega) (by omega), f 5 (by omega) (by omega)]
      refine ⟨by omega, ?_, ?_, ?_, ?_, ?_, ?_⟩
      · intro k h1 h2; rw [f _ (by omega) (by omega), f _ (by omega) (by omega)]; exact g2 k h1 h2
      · intro k h1 h2; rw [f _ (by omega) (by omega), f _ (by omega) (by omega)]; exact g3 k h1 h2
      · intro i j h0 h1 h2; rw [f _ (by omega) (by omega), f _ (by omega) (by omega), f _ (by omega) (by omega), f _ (by omega) (by omega)]; exact g4 i j h0 h1 h2
      · intro k h1 h2; rw [f _ (by omega) (by omega), f _ (by omega) (by omega)]; exact g5 k h1 h2
      · intro j h1 h2; rw [e0 j h1 h2, e1 j h1 h2]; have a := g6 j h1 (by omega); have b := g6 (j + 1) (by omega) (by omega); split <;> omega
      · intro k h1 h2; rw [f _ (by omega) (by omega), f _ (by omega) (by omega), f _ (by omega) (by omega), f _ (by omega) (by omega)]; exact g7 k h1 h2
theorem O_title.good {s s2 : Int → Int} {kd b ln lt z : Int} (g : SG s) (o : O_title s kd b ln lt z s2) : SG s2 := by
  rcases o with ⟨_, _, rfl⟩ | ⟨_, _, _, rfl⟩ | ⟨_, _, _, _, rfl⟩ | ⟨hb, h1, h2, _, rfl⟩
  · exact g
  · exact g
  · exact g
  · obtain ⟨g1, g2, g3, g4, g5, g6, g7⟩ := g
    unfold barP at hb
    unfold okT at h1
    have f : ∀ j, j ≠ 5 → (j < 148 ∨ j < 148 + 4 * s 5) → U_title s kd b ln lt j = s j := fun j q1 q2 => by simp only [U_title, sset_ap]; omega
    have f5 : U_title s kd b ln lt 5 = s 5 + 1 := by unfold U_title; rw [sset_ap, if_pos rfl]
    unfold SG
    rw [f5, f 0 (by omega) (by omega), f 1 (by omega) (by omega), f 2 (by omega) (by omega), f 3 (by omega) (by omega), f 4 (by omega) (by omega)]
    refine ⟨by omega, ?_, ?_, ?_, ?_, ?_, ?_⟩
    · intro k h1 h2; rw [f _ (by omega) (by omega), f _ (by omega) (by omega)]; exact g2 k h1 h2
    · intro k h1 h2; rw [f _ (by omega) (by omega), f _ (by omega) (by omega)]; exact g3 k h1 h2
    · intro i j h0 h1 h2; rw [f _ (by omega) (by omega), f _ (by omega) (by omega), f _ (by omega) (by omega), f _ (by omega) (by omega)]; exact g4 i j h0 h1 h2
    · intro k h1 h2; rw [f _ (by omega) (by omega), f _ (by omega) (by omega)]; exact g5 k h1 h2
    · intro k h1 h2; rw [f _ (by omega) (by omega), f _ (by omega) (by omega)]; exact g6 k h1 h2
    · intro k q1 q2
      by_cases hk : k < s 5
      · rw [f _ (by omega) (by omega), f _ (by omega) (by omega), f _ (by omega) (by omega), f _ (by omega) (by omega)]; exact g7 k q1 hk
      · have e : k = s 5 := by omega
        rw [e]
        have t0 : U_title s kd b ln lt (148 + 4 * s 5) = kd := by simp only [U_title, sset_ap]; rw [if_neg (by omega), if_neg (by omega), if_neg (by omega), if_neg (by omega), if_pos trivial]
        have t1 : U_title s kd b ln lt (149 + 4 * s 5) = b := by simp only [U_title, sset_ap]; rw [if_neg (by omega), if_neg (by omega), if_neg (by omega), if_pos (by omega)]
        have t2 : U_title s kd b ln lt (150 + 4 * s 5) = ln := by simp only [U_title, sset_ap]; rw [if_neg (by omega), if_neg (by omega), if_pos (by omega)]
        have t3 : U_title s kd b ln lt (151 + 4 * s 5) = lt := by simp only [U_title, sset_ap]; rw [if_neg (by omega), if_pos (by omega)]
        rw [t0, t1, t2, t3]
        exact ⟨h1.1, hb, h1.2.1, h1.2.2⟩
theorem U_drop_at (s : Int → Int) {k j : Int} (hk : 0 ≤ k ∧ k < s 5) (hj : 0 ≤ j ∧ j < s 5 - 1) (e : Int) (he : 0 ≤ e ∧ e < 4) : U_drop s k (148 + e + 4 * j) = if k ≤ j then s (148 + e + 4 * (j + 1)) else s (148 + e + 4 * j) := by
  unfold U_drop
  rw [if_neg (by omega)]
  by_cases q : k ≤ j
  · rw [if_pos (by omega), if_pos q]; congr 1; omega
  · rw [if_neg (by omega), if_neg (by omega), if_neg q]
theorem O_drop.good {s s2 : Int → Int} {k z : Int} (g : SG s) (o : O_drop s k z s2) : SG s2 := by
  rcases o with ⟨_, _, rfl⟩ | ⟨hk, _, rfl⟩
  · exact g
  · obtain ⟨g1, g2, g3, g4, g5, g6, g7⟩ := g
    have f : ∀ j, j ≠ 5 → j < 148 → U_drop s k j = s j := fun j q1 q2 => by unfold U_drop; rw [if_neg q1, if_neg (by omega), if_neg (by omega)]
    have f5 : U_drop s k 5 = s 5 - 1 := by unfold U_drop; rw [if_pos rfl]
    have e0 : ∀ e, 0 ≤ e → e < 4 → ∀ j, 0 ≤ j → j < s 5 - 1 → U_drop s k (148 + e + 4 * j) = if k ≤ j then s (148 + e + 4 * (j + 1)) else s (148 + e + 4 * j) := fun e a1 a2 j q1 q2 => U_drop_at s hk ⟨q1, q2⟩ e ⟨a1, a2⟩
    have d0 : ∀ j, 0 ≤ j → j < s 5 - 1 → U_drop s k (148 + 4 * j) = if k ≤ j then s (148 + 4 * (j + 1)) else s (148 + 4 * j) := e0 0 (by decide) (by decide)
    have d1 : ∀ j, 0 ≤ j → j < s 5 - 1 → U_drop s k (149 + 4 * j) = if k ≤ j then s (149 + 4 * (j + 1)) else s (149 + 4 * j) := e0 1 (by decide) (by decide)
    have d2 : ∀ j, 0 ≤ j → j < s 5 - 1 → U_drop s k (150 + 4 * j) = if k ≤ j then s (150 + 4 * (j + 1)) else s (150 + 4 * j) := e0 2 (by decide) (by decide)
    have d3 : ∀ j, 0 ≤ j → j < s 5 - 1 → U_drop s k (151 + 4 * j) = if k ≤ j then s (151 + 4 * (j + 1)) else s (151 + 4 * j) := e0 3 (by decide) (by decide)
    unfold SG
    rw [f5, f 0 (by omega) (by omega), f 1 (by omega) (by omega), f 2 (by omega) (by omega), f 3 (by omega) (by omega), f 4 (by omega) (by omega)]
    refine ⟨by omega, ?_, ?_, ?_, ?_, ?_, ?_⟩
    · intro k h1 h2; rw [f _ (by omega) (by omega), f _ (by omega) (by omega)]; exact g2 k h1 h2
    · intro k h1 h2; rw [f _ (by omega) (by omega), f _ (by omega) (by omega)]; exact g3 k h1 h2
    · intro i j h0 h1 h2; rw [f _ (by omega) (by omega), f _ (by omega) (by omega), f _ (by omega) (by omega), f _ (by omega) (by omega)]; exact g4 i j h0 h1 h2
    · intro k h1 h2; rw [f _ (by omega) (by omega), f _ (by omega) (by omega)]; exact g5 k h1 h2
    · intro k h1 h2; rw [f _ (by omega) (by omega), f _ (by omega) (by omega)]; exact g6 k h1 h2
    · intro j h1 h2
      rw [d0 j h1 h2, d1 j h1 h2, d2 j h1 h2, d3 j h1 h2]
      have a := g7 j h1 (by omega); have b := g7 (j + 1) (by omega) (by omega)
      split <;> omega
