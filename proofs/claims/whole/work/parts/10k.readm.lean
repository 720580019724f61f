theorem sigR_mk (lt cu d : Int) (V : Int → Int) : sigR (lt, cu, d, V) = if lt = 98 then (if cu = 0 then 61 else if cu = 1 then 64 else 59) else if lt = 114 ∨ lt = 120 then (if cu = 0 then 45 else 59) else if lt = 45 then 59 else if cu = 0 then 43 else if cu = 1 then 58 else 59 := rfl
def FRo (M : Int) (h h2 : qH) : Prop := ∀ x y, ¬ (x = M ∧ (y = 20 ∨ y = 21 ∨ y = 23)) → x ≠ M + 15 → h2 x y = h x y
theorem FRo.rf {M : Int} {h : qH} : FRo M h h := fun _ _ _ _ => rfl
theorem FRo.tr {M : Int} {h h2 h3 : qH} (a : FRo M h h2) (c : FRo M h2 h3) : FRo M h h3 := fun x y q w => (c x y q w).trans (a x y q w)
theorem FRo.s {M : Int} {h h2 : qH} (a : FRo M h h2) : FS M h h2 := fun x y q => a x y (by omega) (by omega)
theorem FRd.o {M : Int} {h h2 : qH} (a : FRd M h h2) : FRo M h h2 := fun x y q w => a x y (by omega)
/-- the tuple of an order at a place of the row -/
def C4 (h : qH) (M k : Int) (D : qD) : Prop := h (M + 15) (4 * k) = D.1 ∧ h (M + 15) (4 * k + 1) = D.2.2.2 0 ∧ h (M + 15) (4 * k + 2) = D.2.2.2 1 ∧ h (M + 15) (4 * k + 3) = D.2.2.2 2
theorem ordS_nn (P : Int → Int) : ∀ i : Nat, 0 ≤ (ordS P i).1
  | 0 => Int.le_refl _
  | i + 1 => by
    have := ordS_nn P i
    unfold ordS
    split
    · show 0 ≤ (ordS P i).1 + 1; omega
    · exact this
theorem COr.next {h h2 : qH} {M k j : Int} {O : Int × (Int → qD)} {P : Int → Int} (c : COr h M O) (hk : k = O.1) (e : ∀ x, ¬ (4 * k ≤ x ∧ x < 4 * k + 4) → h2 (M + 15) x = h (M + 15) x) (d : C4 h2 M k (runD P j.toNat)) (o : ordS P j.toNat = O) : COr h2 M (allO P j) := by
  intro x x1 x2
  have x2 : x < (ordS P j.toNat).1 + 1 := x2
  show _ = (if x = (ordS P j.toNat).1 then runD P j.toNat else (ordS P j.toNat).2 x).1 ∧ _ = (if x = (ordS P j.toNat).1 then runD P j.toNat else (ordS P j.toNat).2 x).2.2.2 0 ∧ _ = (if x = (ordS P j.toNat).1 then runD P j.toNat else (ordS P j.toNat).2 x).2.2.2 1 ∧ _ = (if x = (ordS P j.toNat).1 then runD P j.toNat else (ordS P j.toNat).2 x).2.2.2 2
  rw [o] at x2 ⊢
  by_cases q : x = O.1
  · rw [if_pos q, q, ← hk]; exact d
  · rw [if_neg q, e _ (by omega), e _ (by omega), e _ (by omega), e _ (by omega)]
    exact c x x1 (by omega)
def stH (i w j b : Int) : Prop := (w = 0 ∨ w = 1) ∧ (i ≤ j ∧ j ≤ b) ∧ (w = 1 → i + 2 ≤ j)
theorem NumP.h0 {P : Int → Int} {m w i e w2 j z : Int} (n : NumP P m w (i + e) w2 j z) (he : e = w) (hw : w = 0 ∨ w = 1) : stH i w2 j (i + 4) ∧ (w2 = 1 → w = 1) := by
  unfold NumP at n
  unfold stH
  omega
theorem NumP.h {P : Int → Int} {m w i k b w2 j z : Int} (n : NumP P m w i w2 j z) (H : stH k w i b) : stH k w2 j (b + 3) := by
  unfold NumP at n
  unfold stH at H ⊢
  omega
theorem WantP.h {P : Int → Int} {m w i k b c w2 j : Int} (n : WantP P m w i c w2 j) (H : stH k w i b) : stH k w2 j (b + 1) := by
  unfold WantP at n
  unfold stH at H ⊢
  omega
theorem stH.r {i w j b m : Int} (H : stH i w j b) (h0 : 0 ≤ i ∧ i ≤ m) (hm : m ≤ 80) (hb : b ≤ i + 40) : 0 ≤ j ∧ j ≤ 200 := by
  have := H.2.1
  omega
theorem COr.mv {h h2 : qH} {M : Int} {O : Int × (Int → qD)} (c : COr h M O) (e : ∀ x, h2 (M + 15) x = h (M + 15) x) : COr h2 M O := fun x x1 x2 => by
  rw [e, e, e, e]; exact c x x1 x2
/-- behind an order read -/
theorem rd_next {P : Int → Int} {m i w j k M : Int} {O : Int × (Int → qD)} {h h2 : qH} (e : (w = 0 ∧ failF P m j) ∨ (w = 1 ∧ i + 2 ≤ j ∧ EO P m j O ∧ h2 M 23 = k + 1 ∧ C4 h2 M k (runD P j.toNat) ∧ ∀ x, ¬ (4 * k ≤ x ∧ x < 4 * k + 4) → h2 (M + 15) x = h (M + 15) x)) (hi : 2 * k ≤ i) (c : COr h M O) (hk : k = O.1) :
    (0 ≤ j ∧ j ≤ m) ∧ ((w = 0 ∧ failF P m j) ∨ (w = 1 ∧ EO P m j (ordS P j.toNat) ∧ h2 M 23 = (allO P j).1 ∧ COr h2 M (allO P j) ∧ 2 * (allO P j).1 ≤ j)) := by
  rcases e with ⟨e1, e2⟩ | ⟨e1, e2, e3, e4, e5, e6⟩
  · exact ⟨e2.1, Or.inl ⟨e1, e2⟩⟩
  · have o := e3.2.2.2.2
    have a1 : (allO P j).1 = k + 1 := by show (ordS P j.toNat).1 + 1 = k + 1; rw [o, hk]
    refine ⟨e3.1, Or.inr ⟨e1, by rw [o]; exact e3, by rw [e4, a1], c.next hk e6 e5 o, by omega⟩⟩
theorem rd_next0 {P : Int → Int} {m w j M : Int} {h h2 : qH} (e : (w = 0 ∧ failF P m j) ∨ (w = 1 ∧ 0 + 2 ≤ j ∧ EO P m j (0, fun _ => D0) ∧ h2 M 23 = 0 + 1 ∧ C4 h2 M 0 (runD P j.toNat) ∧ ∀ x, ¬ (4 * 0 ≤ x ∧ x < 4 * 0 + 4) → h2 (M + 15) x = h (M + 15) x)) (_ : 0 ≤ j) (c : COr h M (0, fun _ => D0)) :
    (0 ≤ j ∧ j ≤ m) ∧ ((w = 0 ∧ failF P m j) ∨ (w = 1 ∧ EO P m j (ordS P j.toNat) ∧ h2 M 23 = (allO P j).1 ∧ COr h2 M (allO P j) ∧ 2 * (allO P j).1 ≤ j)) := rd_next e (by decide) c rfl
theorem IM.pad {h h2 : qH} {M : Int} {st : qS} (c : IM h M st) {m : Int} {P : Int → Int} (e7 : h2 M 7 = m) (e5 : ∀ k, 0 ≤ k → k < m → h2 (M + 5) k = P k) (e : ∀ x y, ((x = M ∧ y = 3) ∨ (M + 1 ≤ x ∧ x ≤ M + 4)) → h2 x y = h x y) : IM h2 M (st.1, (m, P), st.2.2) :=
  ⟨fun j a d => (e _ _ (by omega)).trans (c.1 j a d), ⟨e7, e5⟩, ⟨(e _ _ (by omega)).trans c.2.2.1.1, fun i a d j a2 d2 => (e _ _ (by omega)).trans (c.2.2.1.2 i a d j a2 d2)⟩, fun k a d => ⟨(e _ _ (by omega)).trans (c.2.2.2 k a d).1, fun w j a2 d2 => (e _ _ (by omega)).trans ((c.2.2.2 k a d).2 w j a2 d2)⟩⟩
def badP (c : Int) (n : Nat) : Prop := ∃ k : Nat, k < n ∧ ¬ (33 ≤ byt c k ∧ byt c k ≤ 126)
theorem badP.mk {c : Int} {n : Nat} (k : Nat) (h : k < n) (h2 : ¬ (33 ≤ byt c k ∧ byt c k ≤ 126)) : badP c n := ⟨k, h, h2⟩
