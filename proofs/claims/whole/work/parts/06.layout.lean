/-! Where the parts of an object lie: addresses behind each other, in the order in which they are made -/
def LSpans (G : qG) (n : Int) (r : qH) (p cap : Int) : Prop := q_al G n p 6 0 ∧ q_al G n (p + 1) 10 cap ∧ q_al G n (p + 2) 10 cap ∧ r p 0 = p + 1 ∧ r p 1 = p + 2
theorem LSpans.a {G : qG} {n : Int} {r : qH} {p cap : Int} (L : LSpans G n r p cap) : q_al G n p 6 0 := L.1
theorem LSpans.a1 {G : qG} {n : Int} {r : qH} {p cap : Int} (L : LSpans G n r p cap) : q_al G n (p + 1) 10 cap := L.2.1
theorem LSpans.a2 {G : qG} {n : Int} {r : qH} {p cap : Int} (L : LSpans G n r p cap) : q_al G n (p + 2) 10 cap := L.2.2.1
theorem LSpans.r0 {G : qG} {n : Int} {r : qH} {p cap : Int} (L : LSpans G n r p cap) : r p 0 = p + 1 := L.2.2.2.1
theorem LSpans.r1 {G : qG} {n : Int} {r : qH} {p cap : Int} (L : LSpans G n r p cap) : r p 1 = p + 2 := L.2.2.2.2
def LTitles (G : qG) (n : Int) (r : qH) (p : Int) : Prop := q_al G n p 7 0 ∧ (q_al G n (p + 1) 10 20 ∧ q_al G n (p + 2) 10 20 ∧ q_al G n (p + 3) 10 20 ∧ q_al G n (p + 4) 10 20) ∧ r p 0 = p + 1 ∧ r p 1 = p + 2 ∧ r p 2 = p + 3 ∧ r p 3 = p + 4
section
variable {G : qG} {n : Int} {r : qH} {p : Int}
theorem LTitles.a (L : LTitles G n r p) : q_al G n p 7 0 := L.1
theorem LTitles.a1 (L : LTitles G n r p) : q_al G n (p + 1) 10 20 := L.2.1.1
theorem LTitles.a2 (L : LTitles G n r p) : q_al G n (p + 2) 10 20 := L.2.1.2.1
theorem LTitles.a3 (L : LTitles G n r p) : q_al G n (p + 3) 10 20 := L.2.1.2.2.1
theorem LTitles.a4 (L : LTitles G n r p) : q_al G n (p + 4) 10 20 := L.2.1.2.2.2
theorem LTitles.r0 (L : LTitles G n r p) : r p 0 = p + 1 := L.2.2.1
theorem LTitles.r1 (L : LTitles G n r p) : r p 1 = p + 2 := L.2.2.2.1
theorem LTitles.r2 (L : LTitles G n r p) : r p 2 = p + 3 := L.2.2.2.2.1
theorem LTitles.r3 (L : LTitles G n r p) : r p 3 = p + 4 := L.2.2.2.2.2
end
def LScore (G : qG) (n : Int) (r : qH) (p : Int) : Prop := (q_al G n p 4 0 ∧ q_al G n (p + 1) 10 60 ∧ q_al G n (p + 2) 10 60) ∧ (r p 2 = p + 1 ∧ r p 3 = p + 2 ∧ r p 4 = p + 3 ∧ r p 5 = p + 6 ∧ r p 6 = p + 9 ∧ r p 7 = p + 12) ∧ LSpans G n r (p + 3) 4 ∧ LSpans G n r (p + 6) 4 ∧ LSpans G n r (p + 9) 3 ∧ LTitles G n r (p + 12)
section
variable {G : qG} {n : Int} {r : qH} {p : Int}
theorem LScore.a (L : LScore G n r p) : q_al G n p 4 0 := L.1.1
theorem LScore.a1 (L : LScore G n r p) : q_al G n (p + 1) 10 60 := L.1.2.1
theorem LScore.a2 (L : LScore G n r p) : q_al G n (p + 2) 10 60 := L.1.2.2
theorem LScore.r2 (L : LScore G n r p) : r p 2 = p + 1 := L.2.1.1
theorem LScore.r3 (L : LScore G n r p) : r p 3 = p + 2 := L.2.1.2.1
theorem LScore.r4 (L : LScore G n r p) : r p 4 = p + 3 := L.2.1.2.2.1
theorem LScore.r5 (L : LScore G n r p) : r p 5 = p + 6 := L.2.1.2.2.2.1
theorem LScore.r6 (L : LScore G n r p) : r p 6 = p + 9 := L.2.1.2.2.2.2.1
theorem LScore.r7 (L : LScore G n r p) : r p 7 = p + 12 := L.2.1.2.2.2.2.2
theorem LScore.re (L : LScore G n r p) : LSpans G n r (p + 3) 4 := L.2.2.1
theorem LScore.cu (L : LScore G n r p) : LSpans G n r (p + 6) 4 := L.2.2.2.1
theorem LScore.bl (L : LScore G n r p) : LSpans G n r (p + 9) 3 := L.2.2.2.2.1
theorem LScore.ti (L : LScore G n r p) : LTitles G n r (p + 12) := L.2.2.2.2.2
end
/-- what spans hold: m of them, from F k to L k -/
def CSpans (h : qH) (p m : Int) (F L : Int → Int) : Prop := h p 2 = m ∧ ∀ k, 0 ≤ k → k < m → h (p + 1) k = F k ∧ h (p + 2) k = L k
theorem hx {h : qH} {a b c d : Int} (e1 : a = c) (e2 : b = d) : h a b = h c d := by rw [e1, e2]
