/-- the history at q: its row of seven scores behind it -/
def LHist (G : qG) (n : Int) (r : qH) (q : Int) : Prop := q_al G n q 0 0 ∧ q_al G n (q + 1) 12 7 ∧ r q 0 = q + 1 ∧ ∀ i, 0 ≤ i → i < 7 → r (q + 1) i = q + 2 + 17 * i ∧ LScore G n r (q + 2 + 17 * i)
section
variable {G : qG} {n : Int} {r : qH} {q : Int}
theorem LHist.a (L : LHist G n r q) : q_al G n q 0 0 := L.1
theorem LHist.a1 (L : LHist G n r q) : q_al G n (q + 1) 12 7 := L.2.1
theorem LHist.r0 (L : LHist G n r q) : r q 0 = q + 1 := L.2.2.1
theorem LHist.rr (L : LHist G n r q) {i : Int} (h0 : 0 ≤ i) (h1 : i < 7) : r (q + 1) i = q + 2 + 17 * i := (L.2.2.2 i h0 h1).1
theorem LHist.s (L : LHist G n r q) {i : Int} (h0 : 0 ≤ i) (h1 : i < 7) : LScore G n r (q + 2 + 17 * i) := (L.2.2.2 i h0 h1).2
def LPad (G : qG) (n : Int) (r : qH) (q : Int) : Prop := q_al G n q 2 0 ∧ q_al G n (q + 1) 10 80 ∧ r q 0 = q + 1
theorem LPad.a (L : LPad G n r q) : q_al G n q 2 0 := L.1
theorem LPad.a1 (L : LPad G n r q) : q_al G n (q + 1) 10 80 := L.2.1
theorem LPad.r0 (L : LPad G n r q) : r q 0 = q + 1 := L.2.2
def LRead (G : qG) (n : Int) (r : qH) (q : Int) : Prop := q_al G n q 3 0 ∧ q_al G n (q + 1) 10 3 ∧ r q 0 = q + 1
theorem LRead.a (L : LRead G n r q) : q_al G n q 3 0 := L.1
theorem LRead.a1 (L : LRead G n r q) : q_al G n (q + 1) 10 3 := L.2.1
theorem LRead.r0 (L : LRead G n r q) : r q 0 = q + 1 := L.2.2
def LShow (G : qG) (n : Int) (r : qH) (q : Int) : Prop := q_al G n q 5 0 ∧ (q_al G n (q + 1) 10 40 ∧ q_al G n (q + 2) 10 40 ∧ q_al G n (q + 3) 10 40 ∧ q_al G n (q + 4) 10 40 ∧ q_al G n (q + 5) 10 40 ∧ q_al G n (q + 6) 10 40 ∧ q_al G n (q + 7) 10 40) ∧ r q 0 = q + 1 ∧ r q 1 = q + 2 ∧ r q 2 = q + 3 ∧ r q 3 = q + 4 ∧ r q 4 = q + 5 ∧ r q 5 = q + 6 ∧ r q 6 = q + 7
theorem LShow.a (L : LShow G n r q) : q_al G n q 5 0 := L.1
theorem LShow.a1 (L : LShow G n r q) : q_al G n (q + 1) 10 40 := L.2.1.1
theorem LShow.a2 (L : LShow G n r q) : q_al G n (q + 2) 10 40 := L.2.1.2.1
theorem LShow.a3 (L : LShow G n r q) : q_al G n (q + 3) 10 40 := L.2.1.2.2.1
theorem LShow.a4 (L : LShow G n r q) : q_al G n (q + 4) 10 40 := L.2.1.2.2.2.1
theorem LShow.a5 (L : LShow G n r q) : q_al G n (q + 5) 10 40 := L.2.1.2.2.2.2.1
theorem LShow.a6 (L : LShow G n r q) : q_al G n (q + 6) 10 40 := L.2.1.2.2.2.2.2.1
theorem LShow.a7 (L : LShow G n r q) : q_al G n (q + 7) 10 40 := L.2.1.2.2.2.2.2.2
theorem LShow.r0 (L : LShow G n r q) : r q 0 = q + 1 := L.2.2.1
theorem LShow.r1 (L : LShow G n r q) : r q 1 = q + 2 := L.2.2.2.1
theorem LShow.r2 (L : LShow G n r q) : r q 2 = q + 3 := L.2.2.2.2.1
theorem LShow.r3 (L : LShow G n r q) : r q 3 = q + 4 := L.2.2.2.2.2.1
theorem LShow.r4 (L : LShow G n r q) : r q 4 = q + 5 := L.2.2.2.2.2.2.1
theorem LShow.r5 (L : LShow G n r q) : r q 5 = q + 6 := L.2.2.2.2.2.2.2.1
theorem LShow.r6 (L : LShow G n r q) : r q 6 = q + 7 := L.2.2.2.2.2.2.2.2
/-- a night at q: five rows, then its showings -/
def LNight (G : qG) (n : Int) (r : qH) (q : Int) : Prop := q_al G n q 1 0 ∧ (q_al G n (q + 1) 10 120 ∧ q_al G n (q + 2) 10 120 ∧ q_al G n (q + 3) 10 60 ∧ q_al G n (q + 4) 10 60 ∧ q_al G n (q + 5) 10 60) ∧ (r q 0 = q + 1 ∧ r q 1 = q + 2 ∧ r q 2 = q + 3 ∧ r q 3 = q + 4 ∧ r q 4 = q + 5 ∧ r q 5 = q + 6) ∧ LShow G n r (q + 6)
theorem LNight.a (L : LNight G n r q) : q_al G n q 1 0 := L.1
theorem LNight.a1 (L : LNight G n r q) : q_al G n (q + 1) 10 120 := L.2.1.1
theorem LNight.a2 (L : LNight G n r q) : q_al G n (q + 2) 10 120 := L.2.1.2.1
theorem LNight.a3 (L : LNight G n r q) : q_al G n (q + 3) 10 60 := L.2.1.2.2.1
theorem LNight.a4 (L : LNight G n r q) : q_al G n (q + 4) 10 60 := L.2.1.2.2.2.1
theorem LNight.a5 (L : LNight G n r q) : q_al G n (q + 5) 10 60 := L.2.1.2.2.2.2
theorem LNight.r0 (L : LNight G n r q) : r q 0 = q + 1 := L.2.2.1.1
theorem LNight.r1 (L : LNight G n r q) : r q 1 = q + 2 := L.2.2.1.2.1
theorem LNight.r2 (L : LNight G n r q) : r q 2 = q + 3 := L.2.2.1.2.2.1
theorem LNight.r3 (L : LNight G n r q) : r q 3 = q + 4 := L.2.2.1.2.2.2.1
theorem LNight.r4 (L : LNight G n r q) : r q 4 = q + 5 := L.2.2.1.2.2.2.2.1
theorem LNight.r5 (L : LNight G n r q) : r q 5 = q + 6 := L.2.2.1.2.2.2.2.2
theorem LNight.sh (L : LNight G n r q) : LShow G n r (q + 6) := L.2.2.2
end
