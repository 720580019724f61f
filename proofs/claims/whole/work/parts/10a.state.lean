/-! The layouts of a TitleCaller (at b) and of a TitleCallerModel (at M); the state that both hold -/
def LCall (G : qG) (n : Int) (r : qH) (b : Int) : Prop := q_al G n b 8 0 ∧ (r b 0 = b + 1 ∧ r b 1 = b + 18 ∧ r b 2 = b + 32 ∧ r b 3 = b + 49 ∧ r b 4 = b + 63 ∧ r b 5 = b + 65 ∧ r b 6 = b + 67 ∧ r b 7 = b + 188 ∧ r b 8 = b + 223) ∧ (LScore G n r (b + 1) ∧ LNight G n r (b + 18) ∧ LScore G n r (b + 32) ∧ LNight G n r (b + 49) ∧ LPad G n r (b + 63) ∧ LRead G n r (b + 65) ∧ LHist G n r (b + 67)) ∧ (q_al G n (b + 188) 12 2 ∧ r (b + 188) 0 = b + 189 ∧ r (b + 188) 1 = b + 206) ∧ LScore G n r (b + 189) ∧ LScore G n r (b + 206) ∧ q_al G n (b + 223) 11 2
section
variable {G : qG} {n : Int} {r : qH} {b : Int}
theorem LCall.a (L : LCall G n r b) : q_al G n b 8 0 := L.1
theorem LCall.r0 (L : LCall G n r b) : r b 0 = b + 1 := L.2.1.1
theorem LCall.r1 (L : LCall G n r b) : r b 1 = b + 18 := L.2.1.2.1
theorem LCall.r2 (L : LCall G n r b) : r b 2 = b + 32 := L.2.1.2.2.1
theorem LCall.r3 (L : LCall G n r b) : r b 3 = b + 49 := L.2.1.2.2.2.1
theorem LCall.r4 (L : LCall G n r b) : r b 4 = b + 63 := L.2.1.2.2.2.2.1
theorem LCall.r5 (L : LCall G n r b) : r b 5 = b + 65 := L.2.1.2.2.2.2.2.1
theorem LCall.r6 (L : LCall G n r b) : r b 6 = b + 67 := L.2.1.2.2.2.2.2.2.1
theorem LCall.r7 (L : LCall G n r b) : r b 7 = b + 188 := L.2.1.2.2.2.2.2.2.2.1
theorem LCall.r8 (L : LCall G n r b) : r b 8 = b + 223 := L.2.1.2.2.2.2.2.2.2.2
theorem LCall.sc (L : LCall G n r b) : LScore G n r (b + 1) := L.2.2.1.1
theorem LCall.ni (L : LCall G n r b) : LNight G n r (b + 18) := L.2.2.1.2.1
theorem LCall.ts (L : LCall G n r b) : LScore G n r (b + 32) := L.2.2.1.2.2.1
theorem LCall.tn (L : LCall G n r b) : LNight G n r (b + 49) := L.2.2.1.2.2.2.1
theorem LCall.pa (L : LCall G n r b) : LPad G n r (b + 63) := L.2.2.1.2.2.2.2.1
theorem LCall.rd (L : LCall G n r b) : LRead G n r (b + 65) := L.2.2.1.2.2.2.2.2.1
theorem LCall.hi (L : LCall G n r b) : LHist G n r (b + 67) := L.2.2.1.2.2.2.2.2.2
theorem LCall.sl (L : LCall G n r b) : q_al G n (b + 188) 12 2 := L.2.2.2.1.1
theorem LCall.sr (L : LCall G n r b) {k : Int} (h0 : 0 ≤ k) (h1 : k < 2) : r (b + 188) k = b + 189 + 17 * k := by
  rcases (show k = 0 ∨ k = 1 by omega) with rfl | rfl
  · rw [L.2.2.2.1.2.1]; omega
  · rw [L.2.2.2.1.2.2]; omega
theorem LCall.ss (L : LCall G n r b) {k : Int} (h0 : 0 ≤ k) (h1 : k < 2) : LScore G n r (b + 189 + 17 * k) := by
  rcases (show k = 0 ∨ k = 1 by omega) with rfl | rfl
  · rw [show b + 189 + 17 * 0 = b + 189 by omega]; exact L.2.2.2.2.1
  · rw [show b + 189 + 17 * 1 = b + 206 by omega]; exact L.2.2.2.2.2.1
theorem LCall.sv (L : LCall G n r b) : q_al G n (b + 223) 11 2 := L.2.2.2.2.2.2
end
def LModel (G : qG) (n : Int) (r : qH) (M : Int) : Prop := q_al G n M 9 0 ∧ (q_al G n (M + 1) 10 228 ∧ q_al G n (M + 2) 10 1368 ∧ q_al G n (M + 3) 10 456 ∧ q_al G n (M + 4) 11 2 ∧ q_al G n (M + 5) 10 80 ∧ q_al G n (M + 6) 10 128 ∧ q_al G n (M + 7) 10 128 ∧ q_al G n (M + 8) 10 48 ∧ q_al G n (M + 9) 10 48 ∧ q_al G n (M + 10) 10 48 ∧ q_al G n (M + 11) 10 48 ∧ q_al G n (M + 12) 10 48 ∧ q_al G n (M + 13) 10 48 ∧ q_al G n (M + 14) 10 48 ∧ q_al G n (M + 15) 10 160) ∧ (r M 1 = M + 1 ∧ r M 2 = M + 2 ∧ r M 4 = M + 3 ∧ r M 5 = M + 4 ∧ r M 6 = M + 5 ∧ r M 8 = M + 6 ∧ r M 9 = M + 7 ∧ r M 12 = M + 8 ∧ r M 13 = M + 9 ∧ r M 14 = M + 10 ∧ r M 15 = M + 11 ∧ r M 16 = M + 12 ∧ r M 17 = M + 13 ∧ r M 18 = M + 14 ∧ r M 22 = M + 15)
section
variable {G : qG} {n : Int} {r : qH} {M : Int}
theorem LModel.a (L : LModel G n r M) : q_al G n M 9 0 := L.1
theorem LModel.a1 (L : LModel G n r M) : q_al G n (M + 1) 10 228 := L.2.1.1
theorem LModel.a2 (L : LModel G n r M) : q_al G n (M + 2) 10 1368 := L.2.1.2.1
theorem LModel.a3 (L : LModel G n r M) : q_al G n (M + 3) 10 456 := L.2.1.2.2.1
theorem LModel.a4 (L : LModel G n r M) : q_al G n (M + 4) 11 2 := L.2.1.2.2.2.1
theorem LModel.a5 (L : LModel G n r M) : q_al G n (M + 5) 10 80 := L.2.1.2.2.2.2.1
theorem LModel.a6 (L : LModel G n r M) : q_al G n (M + 6) 10 128 := L.2.1.2.2.2.2.2.1
theorem LModel.a7 (L : LModel G n r M) : q_al G n (M + 7) 10 128 := L.2.1.2.2.2.2.2.2.1
theorem LModel.a8 (L : LModel G n r M) : q_al G n (M + 8) 10 48 := L.2.1.2.2.2.2.2.2.2.1
theorem LModel.a9 (L : LModel G n r M) : q_al G n (M + 9) 10 48 := L.2.1.2.2.2.2.2.2.2.2.1
theorem LModel.a10 (L : LModel G n r M) : q_al G n (M + 10) 10 48 := L.2.1.2.2.2.2.2.2.2.2.2.1
theorem LModel.a11 (L : LModel G n r M) : q_al G n (M + 11) 10 48 := L.2.1.2.2.2.2.2.2.2.2.2.2.1
theorem LModel.a12 (L : LModel G n r M) : q_al G n (M + 12) 10 48 := L.2.1.2.2.2.2.2.2.2.2.2.2.2.1
theorem LModel.a13 (L : LModel G n r M) : q_al G n (M + 13) 10 48 := L.2.1.2.2.2.2.2.2.2.2.2.2.2.2.1
theorem LModel.a14 (L : LModel G n r M) : q_al G n (M + 14) 10 48 := L.2.1.2.2.2.2.2.2.2.2.2.2.2.2.2.1
theorem LModel.a15 (L : LModel G n r M) : q_al G n (M + 15) 10 160 := L.2.1.2.2.2.2.2.2.2.2.2.2.2.2.2.2
theorem LModel.r1 (L : LModel G n r M) : r M 1 = M + 1 := L.2.2.1
theorem LModel.r2 (L : LModel G n r M) : r M 2 = M + 2 := L.2.2.2.1
theorem LModel.r4 (L : LModel G n r M) : r M 4 = M + 3 := L.2.2.2.2.1
theorem LModel.r5 (L : LModel G n r M) : r M 5 = M + 4 := L.2.2.2.2.2.1
theorem LModel.r6 (L : LModel G n r M) : r M 6 = M + 5 := L.2.2.2.2.2.2.1
theorem LModel.r8 (L : LModel G n r M) : r M 8 = M + 6 := L.2.2.2.2.2.2.2.1
theorem LModel.r9 (L : LModel G n r M) : r M 9 = M + 7 := L.2.2.2.2.2.2.2.2.1
theorem LModel.r12 (L : LModel G n r M) : r M 12 = M + 8 := L.2.2.2.2.2.2.2.2.2.1
theorem LModel.r13 (L : LModel G n r M) : r M 13 = M + 9 := L.2.2.2.2.2.2.2.2.2.2.1
theorem LModel.r14 (L : LModel G n r M) : r M 14 = M + 10 := L.2.2.2.2.2.2.2.2.2.2.2.1
theorem LModel.r15 (L : LModel G n r M) : r M 15 = M + 11 := L.2.2.2.2.2.2.2.2.2.2.2.2.1
theorem LModel.r16 (L : LModel G n r M) : r M 16 = M + 12 := L.2.2.2.2.2.2.2.2.2.2.2.2.2.1
theorem LModel.r17 (L : LModel G n r M) : r M 17 = M + 13 := L.2.2.2.2.2.2.2.2.2.2.2.2.2.2.1
theorem LModel.r18 (L : LModel G n r M) : r M 18 = M + 14 := L.2.2.2.2.2.2.2.2.2.2.2.2.2.2.2.1
theorem LModel.r22 (L : LModel G n r M) : r M 22 = M + 15 := L.2.2.2.2.2.2.2.2.2.2.2.2.2.2.2.2
end
/-- the state: the score; the pad; the history (how many, which); the slots (saved or not, what) -/
abbrev qS : Type := (Int → Int) × (Int × (Int → Int)) × (Int × (Int → Int → Int)) × ((Int → Int) × (Int → Int → Int))
/-- a state as it must be -/
def GS (st : qS) : Prop := SG st.1 ∧ PG st.2.1.1 st.2.1.2 ∧ (0 ≤ st.2.2.1.1 ∧ st.2.2.1.1 ≤ 6) ∧ (∀ i, 0 ≤ i → i < st.2.2.1.1 → SG (st.2.2.1.2 i)) ∧ ∀ k, 0 ≤ k → k < 2 → (st.2.2.2.1 k = 0 ∨ st.2.2.2.1 k = 1) ∧ (st.2.2.2.1 k = 1 → SG (st.2.2.2.2 k))
def hrec (H : Int × (Int → Int → Int)) (s : Int → Int) : Int × (Int → Int → Int) := if H.1 < 6 then (H.1 + 1, fun i => if i = H.1 then s else H.2 i) else (6, fun i => if i = 5 then s else H.2 (i + 1))
/-- a change: it records the state before it, unless it answers an error -/
def chg (st : qS) (z : Int) (s2 : Int → Int) : qS := if z < 0 then st else (s2, st.2.1, hrec st.2.2.1 st.1, st.2.2.2)
theorem chg_n {st : qS} {z : Int} {s2 : Int → Int} (h : z < 0) : chg st z s2 = st := if_pos h
theorem chg_y {st : qS} {z : Int} {s2 : Int → Int} (h : 0 ≤ z) : chg st z s2 = (s2, st.2.1, hrec st.2.2.1 st.1, st.2.2.2) := if_neg (by omega)
theorem hrec_good {H : Int × (Int → Int → Int)} {s : Int → Int} (h0 : 0 ≤ H.1 ∧ H.1 ≤ 6) (h1 : ∀ i, 0 ≤ i → i < H.1 → SG (H.2 i)) (g : SG s) : (0 ≤ (hrec H s).1 ∧ (hrec H s).1 ≤ 6) ∧ ∀ i, 0 ≤ i → i < (hrec H s).1 → SG ((hrec H s).2 i) := by
  unfold hrec
  split
  · refine ⟨⟨by show 0 ≤ H.1 + 1; omega, by show H.1 + 1 ≤ 6; omega⟩, fun i a c => ?_⟩
    have c : i < H.1 + 1 := c
    show SG (if i = H.1 then s else H.2 i)
    split
    · exact g
    · exact h1 i a (by omega)
  · refine ⟨⟨by show (0 : Int) ≤ 6; decide, Int.le_refl _⟩, fun i a c => ?_⟩
    have c : i < 6 := c
    show SG (if i = 5 then s else H.2 (i + 1))
    split
    · exact g
    · exact h1 _ (by omega) (by omega)
theorem GS.ch {st : qS} {z : Int} {s2 : Int → Int} (g : GS st) (g2 : SG s2) : GS (chg st z s2) := by
  unfold chg
  split
  · exact g
  · obtain ⟨a1, a2, a3, a4, a5⟩ := g
    obtain ⟨b1, b2⟩ := hrec_good a3 a4 a1
    exact ⟨g2, a2, b1, b2, a5⟩
/-- what the class's object holds -/
def CHist (h : qH) (q : Int) (H : Int × (Int → Int → Int)) : Prop := ∃ o, h q 1 = o ∧ h q 2 = H.1 ∧ (0 ≤ o ∧ o < 7) ∧ ∀ i, 0 ≤ i → i < H.1 → CScore h (q + 2 + 17 * ((o + i) % 7)) (H.2 i)
def CSlot (h : qH) (b : Int) (V : (Int → Int) × (Int → Int → Int)) : Prop := ∀ k, 0 ≤ k → k < 2 → h (b + 223) k = V.1 k ∧ (V.1 k = 1 → CScore h (b + 189 + 17 * k) (V.2 k))
def CNight (h : qH) (q : Int) (s : Int → Int) : Prop := CN h q (nightT s) ∧ CSh1 h (q + 6) (showU s) ∧ CSh2 h (q + 6) (showW s) (showU s).1
theorem CNight.fr {h h2 : qH} {q : Int} {s : Int → Int} (c : CNight h q s) (hr : ∀ x y, q ≤ x → x < q + 14 → h2 x y = h x y) : CNight h2 q s :=
  ⟨c.1.fr (fun x y a e => hr x y (by omega) (by omega)), c.2.1.fr (fun x y a e => hr x y (by omega) (by omega)), c.2.2.fr (fun x y a e => hr x y (by omega) (by omega))⟩
theorem CHist.fr {h h2 : qH} {q : Int} {H : Int × (Int → Int → Int)} (c : CHist h q H) (hr : ∀ x y, q ≤ x → x < q + 121 → h2 x y = h x y) : CHist h2 q H := by
  obtain ⟨o, c1, c2, c3, c4⟩ := c
  exact ⟨o, (hr _ _ (by omega) (by omega)).trans c1, (hr _ _ (by omega) (by omega)).trans c2, c3, fun i a e => (c4 i a e).fr (fun x y z1 z2 => hr x y (by omega) (by omega))⟩
theorem CSlot.fr {h h2 : qH} {b : Int} {V : (Int → Int) × (Int → Int → Int)} (c : CSlot h b V) (hr : ∀ x y, b + 189 ≤ x → x < b + 224 → h2 x y = h x y) : CSlot h2 b V := fun k a e =>
  ⟨(hr _ _ (by omega) (by omega)).trans (c k a e).1, fun w => ((c k a e).2 w).fr (fun x y z1 z2 => hr x y (by omega) (by omega))⟩
def I8 (h : qH) (b : Int) (st : qS) : Prop := CScore h (b + 1) st.1 ∧ CNight h (b + 18) st.1 ∧ CPad h (b + 63) st.2.1.1 st.2.1.2 ∧ CHist h (b + 67) st.2.2.1 ∧ CSlot h b st.2.2.2
theorem I8.fr {h h2 : qH} {b : Int} {st : qS} (c : I8 h b st) (hr : ∀ x y, b + 1 ≤ x → x < b + 224 → (x < b + 32 ∨ b + 63 ≤ x) → (x < b + 65 ∨ b + 67 ≤ x) → h2 x y = h x y) : I8 h2 b st :=
  ⟨c.1.fr (fun x y a e => hr x y (by omega) (by omega) (by omega) (by omega)), c.2.1.fr (fun x y a e => hr x y (by omega) (by omega) (by omega) (by omega)), c.2.2.1.fr (fun x y a e => hr x y (by omega) (by omega) (by omega) (by omega)), c.2.2.2.1.fr (fun x y a e => hr x y (by omega) (by omega) (by omega) (by omega)), c.2.2.2.2.fr (fun x y a e => hr x y (by omega) (by omega) (by omega) (by omega))⟩
/-- what the model's object holds -/
def IMs (h : qH) (M : Int) (s : Int → Int) : Prop := ∀ j, 0 ≤ j → j < 228 → h (M + 1) j = s j
def IMh (h : qH) (M : Int) (H : Int × (Int → Int → Int)) : Prop := h M 3 = H.1 ∧ ∀ i, 0 ≤ i → i < H.1 → ∀ j, 0 ≤ j → j < 228 → h (M + 2) (228 * i + j) = H.2 i j
def IMv (h : qH) (M : Int) (V : (Int → Int) × (Int → Int → Int)) : Prop := ∀ k, 0 ≤ k → k < 2 → h (M + 4) k = V.1 k ∧ (V.1 k = 1 → ∀ j, 0 ≤ j → j < 228 → h (M + 3) (228 * k + j) = V.2 k j)
def IMp (h : qH) (M : Int) (p : Int × (Int → Int)) : Prop := h M 7 = p.1 ∧ ∀ k, 0 ≤ k → k < p.1 → h (M + 5) k = p.2 k
def IM (h : qH) (M : Int) (st : qS) : Prop := IMs h M st.1 ∧ IMp h M st.2.1 ∧ IMh h M st.2.2.1 ∧ IMv h M st.2.2.2
/-- all but the model's scratch is as it was -/
def FS (M : Int) (h h2 : qH) : Prop := ∀ x y, (x < M ∨ M + 16 ≤ x ∨ (x = M ∧ (y = 3 ∨ y = 7)) ∨ (M + 1 ≤ x ∧ x ≤ M + 5)) → h2 x y = h x y
theorem FS.rf {M : Int} {h : qH} : FS M h h := fun _ _ _ => rfl
theorem FS.tr {M : Int} {h h2 h3 : qH} (a : FS M h h2) (c : FS M h2 h3) : FS M h h3 := fun x y q => (c x y q).trans (a x y q)
theorem FS.fr {M : Int} {h h2 : qH} (a : FS M h h2) : FR M 16 h h2 := fun x y q => a x y (by omega)
theorem IMs.fs {h h2 : qH} {M : Int} {s : Int → Int} (c : IMs h M s) (e : FS M h h2) : IMs h2 M s := fun j a d => (e _ _ (by omega)).trans (c j a d)
theorem IMh.fs {h h2 : qH} {M : Int} {H : Int × (Int → Int → Int)} (c : IMh h M H) (e : FS M h h2) : IMh h2 M H := ⟨(e _ _ (by omega)).trans c.1, fun i a d j a2 d2 => (e _ _ (by omega)).trans (c.2 i a d j a2 d2)⟩
theorem IMv.fs {h h2 : qH} {M : Int} {V : (Int → Int) × (Int → Int → Int)} (c : IMv h M V) (e : FS M h h2) : IMv h2 M V := fun k a d => ⟨(e _ _ (by omega)).trans (c k a d).1, fun w j a2 d2 => (e _ _ (by omega)).trans ((c k a d).2 w j a2 d2)⟩
theorem IMp.fs {h h2 : qH} {M : Int} {p : Int × (Int → Int)} (c : IMp h M p) (e : FS M h h2) : IMp h2 M p := ⟨(e _ _ (by omega)).trans c.1, fun k a d => (e _ _ (by omega)).trans (c.2 k a d)⟩
theorem IM.fs {h h2 : qH} {M : Int} {st : qS} (c : IM h M st) (e : FS M h h2) : IM h2 M st := ⟨c.1.fs e, c.2.1.fs e, c.2.2.1.fs e, c.2.2.2.fs e⟩
/-- only the score's row and the scratch may have changed -/
def FQ (M : Int) (h h2 : qH) : Prop := ∀ x y, (x < M ∨ M + 16 ≤ x ∨ (x = M ∧ (y = 3 ∨ y = 7)) ∨ (M + 2 ≤ x ∧ x ≤ M + 5)) → h2 x y = h x y
theorem FQ.rf {M : Int} {h : qH} : FQ M h h := fun _ _ _ => rfl
theorem FQ.tr {M : Int} {h h2 h3 : qH} (a : FQ M h h2) (c : FQ M h2 h3) : FQ M h h3 := fun x y q => (c x y q).trans (a x y q)
theorem FQ.of {M : Int} {h h2 : qH} (a : FS M h h2) : FQ M h h2 := fun x y q => a x y (by omega)
theorem FQ.im {h h2 : qH} {M : Int} {st : qS} (c : IM h M st) (e : FQ M h h2) {s2 : Int → Int} (d : IMs h2 M s2) : IM h2 M (s2, st.2) :=
  ⟨d, ⟨(e _ _ (by omega)).trans c.2.1.1, fun k a w => (e _ _ (by omega)).trans (c.2.1.2 k a w)⟩, ⟨(e _ _ (by omega)).trans c.2.2.1.1, fun i a w j a2 d2 => (e _ _ (by omega)).trans (c.2.2.1.2 i a w j a2 d2)⟩, fun k a w => ⟨(e _ _ (by omega)).trans (c.2.2.2 k a w).1, fun w2 j a2 d2 => (e _ _ (by omega)).trans ((c.2.2.2 k a w).2 w2 j a2 d2)⟩⟩

