/-! The class's object over the other calls -/
def TR (b : Int) (h h2 : qH) : Prop := ∀ x y, (x < b + 32 ∨ b + 63 ≤ x) → h2 x y = h x y
theorem I8.tr {h h2 : qH} {b : Int} {st : qS} (I : I8 h b st) (f : TR b h h2) : I8 h2 b st := I.fr (fun x y _ _ e _ => f x y e)
theorem TR.fr {b : Int} {h h2 : qH} (f : TR b h h2) : FR b 224 h h2 := fun x y e => f x y (by omega)
theorem TR.rf {b : Int} {h : qH} : TR b h h := fun _ _ _ => rfl
theorem TR.t {b : Int} {h h2 h3 : qH} (f : TR b h h2) (g : TR b h2 h3) : TR b h h3 := fun x y e => (g x y e).trans (f x y e)
theorem I8.pad {h h2 : qH} {b m : Int} {P : Int → Int} {st : qS} (I : I8 h b st) (c : CPad h2 (b + 63) m P) (f : FR (b + 63) 2 h h2) : I8 h2 b (st.1, (m, P), st.2.2) ∧ FR b 224 h h2 :=
  ⟨⟨I.1.fr (fun x y a e => f x y (by omega)), I.2.1.fr (fun x y a e => f x y (by omega)), c, I.2.2.2.1.fr (fun x y a e => f x y (by omega)), I.2.2.2.2.fr (fun x y a e => f x y (by omega))⟩, f.wd (by omega) (by omega)⟩
theorem I8.rdr {h h2 : qH} {b : Int} {st : qS} (I : I8 h b st) (f : FR (b + 65) 2 h h2) : I8 h2 b st ∧ FR b 224 h h2 :=
  ⟨I.fr (fun x y a1 a2 a3 a4 => f x y (by omega)), f.wd (by omega) (by omega)⟩
/-- the state that undo takes -/
theorem I8.undo {h h1 h2 h3 : qH} {b o : Int} {st : qS} (I : I8 h b st) (o1 : h (b + 67) 1 = o) (o3 : 0 ≤ o ∧ o < 7) (o4 : ∀ i, 0 ≤ i → i < st.2.2.1.1 → CScore h (b + 67 + 2 + 17 * ((o + i) % 7)) (st.2.2.1.2 i)) (hz : 0 < st.2.2.1.1) (e1 : h1 = hset h (b + 67) 2 (st.2.2.1.1 - 1)) (c2 : CScore h2 (b + 1) (st.2.2.1.2 (st.2.2.1.1 - 1))) (f2 : FR (b + 1) 17 h1 h2) (n3 : CNight h3 (b + 18) (st.2.2.1.2 (st.2.2.1.1 - 1))) (f3 : FR (b + 18) 14 h2 h3) :
    I8 h3 b (st.2.2.1.2 (st.2.2.1.1 - 1), st.2.1, (st.2.2.1.1 - 1, st.2.2.1.2), st.2.2.2) ∧ FR b 224 h h3 := by
  have d : ∀ x y, (x < b + 1 ∨ b + 32 ≤ x) → ¬ (x = b + 67 ∧ y = 2) → h3 x y = h x y := fun x y q1 q2 => by
    rw [f3 _ _ (by omega), f2 _ _ (by omega), e1, hset_ne _ _ (by omega)]
  refine ⟨⟨c2.fr (fun x y a e => f3 x y (by omega)), n3, I.2.2.1.fr (fun x y a e => d x y (by omega) (by omega)), ⟨o, (d _ _ (by omega) (by omega)).trans o1, ?_, o3, fun i i1 i2 => ?_⟩, I.2.2.2.2.fr (fun x y a e => d x y (by omega) (by omega))⟩, fun x y q => d x y (by omega) (by omega)⟩
  · rw [f3 _ _ (by omega), f2 _ _ (by omega), e1, hset_same]
  · have i2 : i < st.2.2.1.1 - 1 := i2
    exact (o4 i i1 (by omega)).fr (fun x y a e => d x y (by omega) (by omega))
theorem I8.save {h h1 h2 : qH} {b k : Int} {st : qS} (I : I8 h b st) (hk : 0 ≤ k ∧ k ≤ 1) (c1 : CScore h1 (b + 189 + 17 * k) st.1) (f1 : FR (b + 189 + 17 * k) 17 h h1) (e : h2 = hset h1 (b + 223) k 1) : I8 h2 b (st.1, st.2.1, st.2.2.1, (sset st.2.2.2.1 k 1, fun i => if i = k then st.1 else st.2.2.2.2 i)) ∧ FR b 224 h h2 := by
  have d : ∀ x y, (x < b + 189 ∨ b + 224 ≤ x) → h2 x y = h x y := fun x y q1 => by rw [e, hset_nea _ _ _ (by omega), f1 _ _ (by omega)]
  refine ⟨⟨I.1.fr (fun x y a e => d x y (by omega)), I.2.1.fr (fun x y a e => d x y (by omega)), I.2.2.1.fr (fun x y a e => d x y (by omega)), I.2.2.2.1.fr (fun x y a e => d x y (by omega)), fun i i1 i2 => ?_⟩, fun x y q => d x y (by omega)⟩
  show h2 (b + 223) i = sset st.2.2.2.1 k 1 i ∧ (sset st.2.2.2.1 k 1 i = 1 → CScore h2 (b + 189 + 17 * i) (if i = k then st.1 else st.2.2.2.2 i))
  by_cases q : i = k
  · rw [q, e, hset_same, sset_same, if_pos rfl]
    exact ⟨rfl, fun _ => c1.fr (fun x y a e => by rw [hset_nea _ _ _ (by omega)])⟩
  · have c := I.2.2.2.2 i i1 i2
    rw [e, hset_neb _ _ _ q, sset_ne _ _ q, if_neg q, f1 _ _ (by omega)]
    exact ⟨c.1, fun w => (c.2 w).fr (fun x y a e => by rw [hset_nea _ _ _ (by omega), f1 _ _ (by omega)])⟩
theorem runD_take {P : Int → Int} {i : Int} (h0 : 0 ≤ i) : runD P (i + 1).toNat = takD (runD P i.toNat) (P i) := by
  rw [show (i + 1).toNat = i.toNat + 1 by omega]
  show takD (runD P i.toNat) (P ((i.toNat : Nat) : Int)) = _
  rw [show ((i.toNat : Nat) : Int) = i by omega]
theorem allO_old {P : Int → Int} {m : Int} : ∀ (d i : Nat), i + d = m.toNat → ∀ x, x < (ordS P i).1 → (ordS P m.toNat).2 x = (ordS P i).2 x ∧ (ordS P i).1 ≤ (ordS P m.toNat).1
  | 0, i, e, x, h => by rw [← e]; exact ⟨rfl, Int.le_refl _⟩
  | d + 1, i, e, x, h => by
    have ih := allO_old (P := P) (m := m) d (i + 1) (by omega)
    by_cases q : P (i : Int) = 59
    · have e2 : ordS P (i + 1) = ((ordS P i).1 + 1, fun x => if x = (ordS P i).1 then runD P i else (ordS P i).2 x) := if_pos q
      rw [e2] at ih
      have a := ih x (show x < (ordS P i).1 + 1 by omega)
      have a2 : (ordS P i).1 + 1 ≤ (ordS P m.toNat).1 := a.2
      refine ⟨a.1.trans ?_, by omega⟩
      exact if_neg (by omega)
    · have e2 : ordS P (i + 1) = ordS P i := if_neg q
      rw [e2] at ih
      exact ih x h
theorem ord_le {P : Int → Int} {m : Int} {i : Nat} (h : i ≤ m.toNat) : (ordS P i).1 ≤ (ordS P m.toNat).1 := by
  have := (allO_old (P := P) (m := m) (m.toNat - i) i (by omega) ((ordS P i).1 - 1) (by omega)).2
  exact this
/-- the order that ends at a place of the text -/
theorem allO_at {P : Int → Int} {m i : Int} (h0 : 0 ≤ i) (hm : i < m) (h : P i = 59) : (ordS P i.toNat).1 + 1 ≤ (allO P m).1 - 1 ∧ (allO P m).2 (ordS P i.toNat).1 = runD P i.toNat ∧ (ordS P (i + 1).toNat).1 = (ordS P i.toNat).1 + 1 := by
  have e := ord_yes h0 h
  have e1 : (ordS P (i + 1).toNat).1 = (ordS P i.toNat).1 + 1 := by rw [e]; rfl
  have a := allO_old (P := P) (m := m) (m.toNat - (i + 1).toNat) (i + 1).toNat (by omega) (ordS P i.toNat).1 (by rw [e1]; omega)
  rw [e1] at a
  refine ⟨by show _ ≤ (ordS P m.toNat).1 + 1 - 1; omega, ?_, e1⟩
  show (if (ordS P i.toNat).1 = (ordS P m.toNat).1 then runD P m.toNat else (ordS P m.toNat).2 (ordS P i.toNat).1) = _
  rw [if_neg (by omega), a.1, e]
  exact if_pos rfl
theorem allO_end (P : Int → Int) (m : Int) : (allO P m).2 (ordS P m.toNat).1 = runD P m.toNat ∧ (allO P m).1 = (ordS P m.toNat).1 + 1 := ⟨if_pos rfl, rfl⟩
def FCO (b : Int) (h h2 : qH) : Prop := ∀ x y, (x < b + 1 ∨ (b + 18 ≤ x ∧ x < b + 65) ∨ b + 67 ≤ x) → h2 x y = h x y
theorem FCO.rf {b : Int} {h : qH} : FCO b h h := fun _ _ _ => rfl
theorem FCO.tr {b : Int} {h h2 h3 : qH} (a : FCO b h h2) (c : FCO b h2 h3) : FCO b h h3 := fun x y q => (c x y q).trans (a x y q)
theorem J8.co {h h1 h2 : qH} {b o : Int} {s s2 : Int → Int} {mp : Int × (Int → Int)} {st : qS} (J : J8 h b s mp st o) (hz : 0 ≤ st.2.2.1.1 ∧ st.2.2.1.1 ≤ 6) (f : FCO b h h1) (c : CScore h1 (b + 1) s2) (e : h2 = hset h1 (b + 63) 1 0) : J8 h2 b s2 (0, mp.2) st o ∧ FR b 224 h h2 := by
  obtain ⟨_, j2, j3, ⟨j4, j5, j6, j7⟩, j8⟩ := J
  have d : ∀ x y, (x < b + 1 ∨ (b + 18 ≤ x ∧ x < b + 63) ∨ b + 67 ≤ x) → h2 x y = h x y := fun x y q => by rw [e, hset_nea _ _ _ (by omega), f _ _ (by omega)]
  exact ⟨⟨c.fr (fun x y a q => by rw [e, hset_nea _ _ _ (by omega)]), ⟨by rw [e, hset_same], fun k k1 k2 => by have k2 : k < 0 := k2; omega⟩, j3.fr (fun x y a q => d x y (by omega)), ⟨(d _ _ (by omega)).trans j4, (d _ _ (by omega)).trans j5, j6, fun i i1 i2 => (j7 i i1 i2).fr (fun x y a q => d x y (by omega))⟩, j8.fr (fun x y a q => d x y (by omega))⟩, fun x y q => d x y (by omega)⟩
