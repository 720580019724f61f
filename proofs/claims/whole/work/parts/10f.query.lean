/-! The answers of the calls that only look -/
noncomputable def ci (P : Prop) (x y : Int) : Int := @ite _ P (Classical.propDecidable _) x y
theorem ci_y {P : Prop} {x y : Int} (h : P) : ci P x y = x := if_pos h
theorem ci_n {P : Prop} {x y : Int} (h : ¬ P) : ci P x y = y := if_neg h
def blackP (s : Int → Int) (pl : Int) : Prop := ∃ k, 0 ≤ k ∧ k < s 4 ∧ s (142 + 2 * k) ≤ pl ∧ pl ≤ s (143 + 2 * k)
noncomputable def A_ofBar (s : Int → Int) (b w : Int) : Int := ci (barP s b) (if w = 0 then s (6 + b) else if w = 1 then s (66 + b) else if w = 2 then tenP s b else if w = 3 then cntN (nightT s).2.2.1 b (nightT s).1.toNat else if w = 4 then fstN (nightT s).2.2.1 b (nightT s).1.toNat else if w = 5 then ci (cutP s b) 1 0 else -2) (-1)
noncomputable def A_sung (s : Int → Int) (pl w : Int) : Int := if 0 ≤ pl ∧ pl < (nightT s).1 then (if w = 0 then (nightT s).2.2.1 pl else if w = 1 then (nightT s).2.2.2 pl else if w = 2 then ci (blackP s pl) 1 0 else -2) else -1
noncomputable def A_ofTitle (s : Int → Int) (t w : Int) : Int := if 0 ≤ t ∧ t < s 5 then (if w = 0 then s (148 + 4 * t) else if w = 1 then s (149 + 4 * t) else if w = 2 then s (150 + 4 * t) else if w = 3 then s (151 + 4 * t) else if w = 4 then cntN (showU s).2.1 t (showU s).1.toNat else if w = 5 then shcN (showU s) (showW s) t (showU s).1.toNat else if w = 6 then tenN (showU s) (showW s) t (showU s).1.toNat else -2) else -1
def spd (s : Int → Int) (U : qU) (W : qW) (k : Int) : Int := if W.1 k ≠ 0 then -6 else if W.2.2.1 k - W.2.1 k = 0 then 999 else s (151 + 4 * U.2.1 k) * 10 / (W.2.2.1 k - W.2.1 k)
noncomputable def A_showing (s : Int → Int) (k w : Int) : Int := if 0 ≤ k ∧ k < (showU s).1 then (if w = 0 then (showU s).2.1 k else if w = 1 then (showU s).2.2.1 k else if w = 2 then (showU s).2.2.2.1 k else if w = 3 then (showU s).2.2.2.2 k else if w = 4 then (showW s).1 k else if w = 5 then (showW s).2.1 k else if w = 6 then (showW s).2.2.1 k else if w = 7 then spd s (showU s) (showW s) k else -2) else -1
def O_at (s : Int → Int) (t z : Int) : Prop := (t < 0 ∧ z = -2) ∨ (0 ≤ t ∧ atP (showU s) (showW s) t z)
noncomputable def A_count (st : qS) (w : Int) : Int := if w = 0 then st.1 0 else if w = 1 then st.1 2 else if w = 2 then st.1 3 else if w = 3 then st.1 4 else if w = 4 then st.1 5 else if w = 5 then st.1 1 else if w = 6 then (nightT st.1).1 else if w = 7 then (nightT st.1).2.1 else if w = 8 then (showU st.1).1 else if w = 9 then cntN (showW st.1).1 0 (showU st.1).1.toNat else if w = 10 then cntN (showW st.1).1 1 (showU st.1).1.toNat else if w = 11 then cntN (showW st.1).1 2 (showU st.1).1.toNat else if w = 12 then tenA (showW st.1) (showU st.1).1.toNat else if w = 13 then st.2.1.1 else if w = 14 then st.2.2.1.1 else -2
theorem atP_fn {U : qU} {W : qW} {t z z2 : Int} (a : atP U W t z) (c : atP U W t z2) : z = z2 := by
  rcases a with ⟨k, k1, k2, k3, k4, k5⟩ | ⟨k1, k2⟩
  · rcases c with ⟨j, j1, j2, j3, j4, j5⟩ | ⟨j1, j2⟩
    · rcases Int.lt_trichotomy j k with w | w | w
      · exact absurd j3 (k5 j j1 w)
      · subst w; rw [k4, j4]
      · exact absurd k3 (j5 k k1 w)
    · exact absurd k3 (j1 k k1 k2)
  · rcases c with ⟨j, j1, j2, j3, j4, j5⟩ | ⟨j1, j2⟩
    · exact absurd j3 (k1 j j1 j2)
    · rw [k2, j2]
theorem O_at_fn {s : Int → Int} {t z z2 : Int} (a : O_at s t z) (c : O_at s t z2) : z = z2 := by
  rcases a with ⟨a1, a2⟩ | ⟨a1, a2⟩ <;> rcases c with ⟨c1, c2⟩ | ⟨c1, c2⟩
  · omega
  · omega
  · omega
  · exact atP_fn a2 c2
/-- the lowest tempo at which the night ends in time -/
def slowP (s : Int → Int) (t z : Int) : Prop := (20 ≤ z ∧ z ≤ 240 ∧ endN s (nightT s) z (s 0).toNat ≤ t ∧ ∀ x, 20 ≤ x → x < z → t < endN s (nightT s) x (s 0).toNat) ∨ (z = -6 ∧ ∀ x, 20 ≤ x → x ≤ 240 → t < endN s (nightT s) x (s 0).toNat)
def O_slow (s : Int → Int) (t z : Int) : Prop := (t < 0 ∧ z = -2) ∨ (0 ≤ t ∧ slowP s t z)
theorem slowP_fn {s : Int → Int} {t z z2 : Int} (a : slowP s t z) (c : slowP s t z2) : z = z2 := by
  rcases a with ⟨a1, a2, a3, a4⟩ | ⟨a1, a2⟩ <;> rcases c with ⟨c1, c2, c3, c4⟩ | ⟨c1, c2⟩
  · rcases Int.lt_trichotomy z z2 with w | w | w
    · have := c4 z a1 w; omega
    · exact w
    · have := a4 z2 c1 w; omega
  · have := c2 z a1 a2; omega
  · have := a2 z2 c1 c2; omega
  · omega
theorem O_slow_fn {s : Int → Int} {t z z2 : Int} (a : O_slow s t z) (c : O_slow s t z2) : z = z2 := by
  rcases a with ⟨a1, a2⟩ | ⟨a1, a2⟩ <;> rcases c with ⟨c1, c2⟩ | ⟨c1, c2⟩
  · omega
  · omega
  · omega
  · exact slowP_fn a2 c2
