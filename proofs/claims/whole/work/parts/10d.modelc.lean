/-! What the model's changes make of its row -/
theorem hrec_1 {H : Int × (Int → Int → Int)} {s : Int → Int} (h : 0 ≤ H.1 ∧ H.1 ≤ 6) : (hrec H s).1 = (if H.1 < 6 then H.1 + 1 else 6) := by
  unfold hrec
  split <;> rfl
theorem hrec_in {H : Int × (Int → Int → Int)} {s : Int → Int} (h : 0 ≤ H.1 ∧ H.1 ≤ 6) : 1 ≤ (hrec H s).1 ∧ (hrec H s).1 ≤ 6 := by
  rw [hrec_1 h]; split <;> omega
theorem hrec_top {H : Int × (Int → Int → Int)} {s : Int → Int} (h : 0 ≤ H.1 ∧ H.1 ≤ 6) : (hrec H s).2 ((hrec H s).1 - 1) = s := by
  rw [hrec_1 h]
  unfold hrec
  split
  · rw [show H.1 + 1 - 1 = H.1 by omega]; exact if_pos rfl
  · show (if (6 : Int) - 1 = 5 then s else H.2 (6 - 1 + 1)) = s
    exact if_pos (by decide)
theorem hrec_old {H : Int × (Int → Int → Int)} {s : Int → Int} (h : 0 ≤ H.1 ∧ H.1 ≤ 6) {i : Int} (h1 : i < (hrec H s).1 - 1) : (hrec H s).2 i = if H.1 < 6 then H.2 i else H.2 (i + 1) := by
  rw [hrec_1 h] at h1
  unfold hrec
  by_cases q : H.1 < 6
  · rw [if_pos q] at h1; rw [if_pos q, if_pos q]; exact if_neg (by omega)
  · rw [if_neg q] at h1; rw [if_neg q, if_neg q]; exact if_neg (by omega)
def FRec (M : Int) (h h2 : qH) : Prop := ∀ x y, ¬ (x = M ∧ y = 3) → x ≠ M + 2 → h2 x y = h x y
theorem IMs.frec {h h2 : qH} {M : Int} {s : Int → Int} (c : IMs h M s) (e : FRec M h h2) : IMs h2 M s := fun j a d => (e _ _ (by omega) (by omega)).trans (c j a d)
theorem IMs.set {h h2 : qH} {M i v : Int} {s : Int → Int} (c : IMs h M s) (e : h2 = hset h (M + 1) i v) : IMs h2 M (sset s i v) := fun j a d => by
  rw [e]
  by_cases q : j = i
  · rw [q, hset_same, sset_same]
  · rw [hset_neb _ _ _ q, sset_ne _ _ q]; exact c j a d
theorem FQ.set {h h2 : qH} {M i v : Int} (e : h2 = hset h (M + 1) i v) : FQ M h h2 := fun x y w => by rw [e, hset_nea _ _ _ (by omega)]
theorem IM.chg {h h1 h2 h3 : qH} {M z : Int} {st : qS} {s2 : Int → Int} (c : IM h M st) (hz : 0 ≤ z) (f1 : FS M h h1) (hr : IMh h2 M (hrec st.2.2.1 st.1)) (fr : FRec M h1 h2) (f3 : FQ M h2 h3) (d : IMs h3 M s2) : IM h3 M (chg st z s2) ∧ FR M 16 h h3 := by
  rw [chg_y hz]
  have e : ∀ x y, (x < M ∨ M + 16 ≤ x ∨ (x = M ∧ y = 7) ∨ (M + 3 ≤ x ∧ x ≤ M + 5)) → h3 x y = h x y := fun x y w => ((f3 _ _ (by omega)).trans (fr _ _ (by omega) (by omega))).trans (f1 _ _ (by omega))
  exact ⟨⟨d, ⟨(e _ _ (by omega)).trans c.2.1.1, fun k a w => (e _ _ (by omega)).trans (c.2.1.2 k a w)⟩, ⟨(f3 _ _ (by omega)).trans hr.1, fun i a w j a2 d2 => (f3 _ _ (by omega)).trans (hr.2 i a w j a2 d2)⟩, fun k a w => ⟨(e _ _ (by omega)).trans (c.2.2.2 k a w).1, fun w2 j a2 d2 => (e _ _ (by omega)).trans ((c.2.2.2 k a w).2 w2 j a2 d2)⟩⟩, fun x y w => e x y (by omega)⟩
/-- v tells whether w does, or one of the first i has it -/
def BY (w v i : Int) (Q : Int → Prop) : Prop := v = 1 ↔ (w = 1 ∨ ∃ k, 0 ≤ k ∧ k < i ∧ Q k)
theorem BY.z {w : Int} {Q : Int → Prop} : BY w w 0 Q := ⟨fun e => Or.inl e, fun e => e.elim id (fun ⟨k, a, c, _⟩ => by omega)⟩
theorem BY.s {w v v2 i : Int} {Q : Int → Prop} (h0 : 0 ≤ i) (hw : BY w v i Q) (h2 : v2 = 1 ↔ (v = 1 ∨ Q i)) : BY w v2 (i + 1) Q := by
  unfold BY at hw ⊢
  rw [h2, hw]
  constructor
  · rintro ((q | ⟨k, a, c, d⟩) | q)
    · exact Or.inl q
    · exact Or.inr ⟨k, a, by omega, d⟩
    · exact Or.inr ⟨i, h0, by omega, q⟩
  · rintro (q | ⟨k, a, c, d⟩)
    · exact Or.inl (Or.inl q)
    · by_cases e : k = i
      · subst e; exact Or.inr d
      · exact Or.inl (Or.inr ⟨k, a, by omega, d⟩)
/-- only the score's row may have changed -/
def FX (M : Int) (h h2 : qH) : Prop := ∀ x y, x ≠ M + 1 → h2 x y = h x y
theorem FX.rf {M : Int} {h : qH} : FX M h h := fun _ _ _ => rfl
theorem FX.tr {M : Int} {h h2 h3 : qH} (a : FX M h h2) (c : FX M h2 h3) : FX M h h3 := fun x y q => (c x y q).trans (a x y q)
theorem FX.q {M : Int} {h h2 : qH} (a : FX M h h2) : FQ M h h2 := fun x y q => a x y (by omega)
theorem FX.set {h h2 : qH} {M i v : Int} (e : h2 = hset h (M + 1) i v) : FX M h h2 := fun x y w => by rw [e, hset_nea _ _ _ w]
