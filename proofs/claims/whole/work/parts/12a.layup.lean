/-! Layouts stay while more is made -/
theorem LSpans.mv {G : qG} {n m : Int} {r r2 : qH} {p cap : Int} (L : LSpans G n r p cap) (w : n ≤ m) (e : ∀ a k, p ≤ a → a < p + 3 → r2 a k = r a k) : LSpans G m r2 p cap :=
  ⟨al_up L.1 w, al_up L.2.1 w, al_up L.2.2.1 w, (e _ _ (by omega) (by omega)).trans L.2.2.2.1, (e _ _ (by omega) (by omega)).trans L.2.2.2.2⟩
theorem LTitles.mv {G : qG} {n m : Int} {r r2 : qH} {p : Int} (L : LTitles G n r p) (w : n ≤ m) (e : ∀ a k, p ≤ a → a < p + 5 → r2 a k = r a k) : LTitles G m r2 p :=
  ⟨al_up L.1 w, ⟨al_up L.a1 w, al_up L.a2 w, al_up L.a3 w, al_up L.a4 w⟩, (e _ _ (by omega) (by omega)).trans L.r0, (e _ _ (by omega) (by omega)).trans L.r1, (e _ _ (by omega) (by omega)).trans L.r2, (e _ _ (by omega) (by omega)).trans L.r3⟩
theorem LScore.mv {G : qG} {n m : Int} {r r2 : qH} {p : Int} (L : LScore G n r p) (w : n ≤ m) (e : ∀ a k, p ≤ a → a < p + 17 → r2 a k = r a k) : LScore G m r2 p :=
  ⟨⟨al_up L.a w, al_up L.a1 w, al_up L.a2 w⟩, ⟨(e _ _ (by omega) (by omega)).trans L.r2, (e _ _ (by omega) (by omega)).trans L.r3, (e _ _ (by omega) (by omega)).trans L.r4, (e _ _ (by omega) (by omega)).trans L.r5, (e _ _ (by omega) (by omega)).trans L.r6, (e _ _ (by omega) (by omega)).trans L.r7⟩, L.re.mv w (fun a k h1 h2 => e a k (by omega) (by omega)), L.cu.mv w (fun a k h1 h2 => e a k (by omega) (by omega)), L.bl.mv w (fun a k h1 h2 => e a k (by omega) (by omega)), L.ti.mv w (fun a k h1 h2 => e a k (by omega) (by omega))⟩
theorem LShow.mv {G : qG} {n m : Int} {r r2 : qH} {q : Int} (L : LShow G n r q) (w : n ≤ m) (e : ∀ a k, q ≤ a → a < q + 8 → r2 a k = r a k) : LShow G m r2 q :=
  ⟨al_up L.a w, ⟨al_up L.a1 w, al_up L.a2 w, al_up L.a3 w, al_up L.a4 w, al_up L.a5 w, al_up L.a6 w, al_up L.a7 w⟩, (e _ _ (by omega) (by omega)).trans L.r0, (e _ _ (by omega) (by omega)).trans L.r1, (e _ _ (by omega) (by omega)).trans L.r2, (e _ _ (by omega) (by omega)).trans L.r3, (e _ _ (by omega) (by omega)).trans L.r4, (e _ _ (by omega) (by omega)).trans L.r5, (e _ _ (by omega) (by omega)).trans L.r6⟩
theorem LNight.mv {G : qG} {n m : Int} {r r2 : qH} {q : Int} (L : LNight G n r q) (w : n ≤ m) (e : ∀ a k, q ≤ a → a < q + 14 → r2 a k = r a k) : LNight G m r2 q :=
  ⟨al_up L.a w, ⟨al_up L.a1 w, al_up L.a2 w, al_up L.a3 w, al_up L.a4 w, al_up L.a5 w⟩, ⟨(e _ _ (by omega) (by omega)).trans L.r0, (e _ _ (by omega) (by omega)).trans L.r1, (e _ _ (by omega) (by omega)).trans L.r2, (e _ _ (by omega) (by omega)).trans L.r3, (e _ _ (by omega) (by omega)).trans L.r4, (e _ _ (by omega) (by omega)).trans L.r5⟩, L.sh.mv w (fun a k h1 h2 => e a k (by omega) (by omega))⟩
theorem LPad.mv {G : qG} {n m : Int} {r r2 : qH} {q : Int} (L : LPad G n r q) (w : n ≤ m) (e : ∀ a k, q ≤ a → a < q + 2 → r2 a k = r a k) : LPad G m r2 q := ⟨al_up L.1 w, al_up L.2.1 w, (e _ _ (by omega) (by omega)).trans L.2.2⟩
theorem LRead.mv {G : qG} {n m : Int} {r r2 : qH} {q : Int} (L : LRead G n r q) (w : n ≤ m) (e : ∀ a k, q ≤ a → a < q + 2 → r2 a k = r a k) : LRead G m r2 q := ⟨al_up L.1 w, al_up L.2.1 w, (e _ _ (by omega) (by omega)).trans L.2.2⟩
theorem LHist.mv {G : qG} {n m : Int} {r r2 : qH} {q : Int} (L : LHist G n r q) (w : n ≤ m) (e : ∀ a k, q ≤ a → a < q + 121 → r2 a k = r a k) : LHist G m r2 q :=
  ⟨al_up L.a w, al_up L.a1 w, (e _ _ (by omega) (by omega)).trans L.r0, fun i h1 h2 => ⟨(e _ _ (by omega) (by omega)).trans (L.rr h1 h2), (L.s h1 h2).mv w (fun a k h3 h4 => e a k (by omega) (by omega))⟩⟩
theorem LCall.mv {G : qG} {n m : Int} {r r2 : qH} {b : Int} (L : LCall G n r b) (w : n ≤ m) (e : ∀ a k, b ≤ a → a < b + 224 → r2 a k = r a k) : LCall G m r2 b :=
  ⟨al_up L.a w, ⟨(e _ _ (by omega) (by omega)).trans L.r0, (e _ _ (by omega) (by omega)).trans L.r1, (e _ _ (by omega) (by omega)).trans L.r2, (e _ _ (by omega) (by omega)).trans L.r3, (e _ _ (by omega) (by omega)).trans L.r4, (e _ _ (by omega) (by omega)).trans L.r5, (e _ _ (by omega) (by omega)).trans L.r6, (e _ _ (by omega) (by omega)).trans L.r7, (e _ _ (by omega) (by omega)).trans L.r8⟩,
    ⟨L.sc.mv w (fun a k h1 h2 => e a k (by omega) (by omega)), L.ni.mv w (fun a k h1 h2 => e a k (by omega) (by omega)), L.ts.mv w (fun a k h1 h2 => e a k (by omega) (by omega)), L.tn.mv w (fun a k h1 h2 => e a k (by omega) (by omega)), L.pa.mv w (fun a k h1 h2 => e a k (by omega) (by omega)), L.rd.mv w (fun a k h1 h2 => e a k (by omega) (by omega)), L.hi.mv w (fun a k h1 h2 => e a k (by omega) (by omega))⟩,
    ⟨al_up L.sl w, (e _ _ (by omega) (by omega)).trans L.2.2.2.1.2.1, (e _ _ (by omega) (by omega)).trans L.2.2.2.1.2.2⟩, L.2.2.2.2.1.mv w (fun a k h1 h2 => e a k (by omega) (by omega)), L.2.2.2.2.2.1.mv w (fun a k h1 h2 => e a k (by omega) (by omega)), al_up L.sv w⟩
def SModel (G : qG) (p : Int) : Prop := G.2.2.2 p = (9, 0) ∧ G.2.2.2 (p + 1) = (10, 228) ∧ G.2.2.2 (p + 2) = (10, 1368) ∧ G.2.2.2 (p + 3) = (10, 456) ∧ G.2.2.2 (p + 4) = (11, 2) ∧ G.2.2.2 (p + 5) = (10, 80) ∧ G.2.2.2 (p + 6) = (10, 128) ∧ G.2.2.2 (p + 7) = (10, 128) ∧ G.2.2.2 (p + 8) = (10, 48) ∧ G.2.2.2 (p + 9) = (10, 48) ∧ G.2.2.2 (p + 10) = (10, 48) ∧ G.2.2.2 (p + 11) = (10, 48) ∧ G.2.2.2 (p + 12) = (10, 48) ∧ G.2.2.2 (p + 13) = (10, 48) ∧ G.2.2.2 (p + 14) = (10, 48) ∧ G.2.2.2 (p + 15) = (10, 160)
def SNight (G : qG) (p : Int) : Prop := G.2.2.2 p = (1, 0) ∧ G.2.2.2 (p + 1) = (10, 120) ∧ G.2.2.2 (p + 2) = (10, 120) ∧ G.2.2.2 (p + 3) = (10, 60) ∧ G.2.2.2 (p + 4) = (10, 60) ∧ G.2.2.2 (p + 5) = (10, 60) ∧ SShow G (p + 6)
def SHist (G : qG) (q : Int) : Prop := G.2.2.2 q = (0, 0) ∧ G.2.2.2 (q + 1) = (12, 7) ∧ ∀ i, 0 ≤ i → i < 7 → SScore G (q + 2 + 17 * i)
def SCall (G : qG) (b : Int) : Prop := G.2.2.2 b = (8, 0) ∧ SScore G (b + 1) ∧ SNight G (b + 18) ∧ SScore G (b + 32) ∧ SNight G (b + 49) ∧ (G.2.2.2 (b + 63) = (2, 0) ∧ G.2.2.2 (b + 63 + 1) = (10, 80)) ∧ (G.2.2.2 (b + 65) = (3, 0) ∧ G.2.2.2 (b + 65 + 1) = (10, 3)) ∧ SHist G (b + 67) ∧ G.2.2.2 (b + 188) = (12, 2) ∧ SScore G (b + 189) ∧ SScore G (b + 206) ∧ G.2.2.2 (b + 223) = (11, 2)
theorem SG_st0 : SG st0.1 := by
  have e : ∀ j, st0.1 j = if j = 0 then 32 else if j = 1 then 10 else if 6 ≤ j ∧ j < 66 then 4 else if 66 ≤ j ∧ j < 126 then 60 else 0 := fun _ => rfl
  have z : ∀ k, 2 ≤ k → k < 6 → st0.1 k = 0 := fun k a c => by rw [e, if_neg (by omega), if_neg (by omega), if_neg (by omega), if_neg (by omega)]
  have e0 : st0.1 0 = 32 := rfl
  have e1 : st0.1 1 = 10 := rfl
  have z2 := z 2 (by decide) (by decide)
  have z3 := z 3 (by decide) (by decide)
  have z4 := z 4 (by decide) (by decide)
  have z5 := z 5 (by decide) (by decide)
  refine ⟨by omega, fun k a c => ?_, fun k a c => by omega, fun j k a c d => by omega, fun k a c => by omega, fun k a c => by omega, fun k a c => by omega⟩
  rw [e, e, if_neg (by omega), if_neg (by omega), if_pos (by omega), if_neg (by omega), if_neg (by omega), if_neg (by omega), if_pos (by omega)]
  decide
theorem Aj.nc {G : qG} {X : qX} {P : qP} {cc : ByteArray} {nL : Nat} {cs cs2 : Nat × Nat} {n m : Int} {r h : qH} {pc : Nat} {al : List (Nat × qV)} {st : List qV} (e : n = m) (e2 : cs = cs2) (k : Aj G X P cc nL cs2 m r h pc al st) : Aj G X P cc nL cs n r h pc al st := by
  subst e; subst e2; exact k
