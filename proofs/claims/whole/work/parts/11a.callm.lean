/-! The class's object over a change -/
/-- history and slots, and the row that is prepared -/
def J8 (h : qH) (b : Int) (s2 : Int → Int) (mp : Int × (Int → Int)) (st : qS) (o : Int) : Prop := CScore h (b + 1) s2 ∧ CPad h (b + 63) mp.1 mp.2 ∧ CSlot h b st.2.2.2 ∧ (h (b + 67) 1 = o ∧ h (b + 67) 2 = st.2.2.1.1 ∧ (0 ≤ o ∧ o < 7) ∧ ∀ i, 0 ≤ i → i < st.2.2.1.1 → CScore h (b + 67 + 2 + 17 * ((o + i) % 7)) (st.2.2.1.2 i)) ∧ CScore h (b + 67 + 2 + 17 * ((o + st.2.2.1.1) % 7)) st.1
theorem I8.prep {h h1 : qH} {b o : Int} {st : qS} (I : I8 h b st) (c1 : h (b + 67) 1 = o) (c2 : h (b + 67) 2 = st.2.2.1.1) (c3 : 0 ≤ o ∧ o < 7) (c4 : ∀ i, 0 ≤ i → i < st.2.2.1.1 → CScore h (b + 67 + 2 + 17 * ((o + i) % 7)) (st.2.2.1.2 i)) (hz : 0 ≤ st.2.2.1.1 ∧ st.2.2.1.1 ≤ 6)
    (p1 : CScore h1 (b + 67 + 2 + 17 * ((o + st.2.2.1.1) % 7)) st.1) (p2 : FR (b + 67 + 2 + 17 * ((o + st.2.2.1.1) % 7)) 17 h h1) : J8 h1 b st.1 st.2.1 st o ∧ CNight h1 (b + 18) st.1 ∧ FR b 224 h h1 := by
  refine ⟨⟨I.1.fr (fun x y a e => p2 x y (by omega)), I.2.2.1.fr (fun x y a e => p2 x y (by omega)), I.2.2.2.2.fr (fun x y a e => p2 x y (by omega)), ⟨(p2 _ _ (by omega)).trans c1, (p2 _ _ (by omega)).trans c2, c3, fun i i1 i2 => (c4 i i1 i2).fr (fun x y a e => p2 x y ?_)⟩, p1⟩, I.2.1.fr (fun x y a e => p2 x y (by omega)), fun x y q => p2 x y (by omega)⟩
  omega
theorem J8.chg {h h1 : qH} {b o : Int} {s s2 : Int → Int} {mp : Int × (Int → Int)} {st : qS} (J : J8 h b s mp st o) (hz : 0 ≤ st.2.2.1.1 ∧ st.2.2.1.1 ≤ 6) (f : FR (b + 1) 17 h h1) (c : CScore h1 (b + 1) s2) : J8 h1 b s2 mp st o := by
  obtain ⟨_, j2, j3, ⟨j4, j5, j6, j7⟩, j8⟩ := J
  exact ⟨c, j2.fr (fun x y a e => f x y (by omega)), j3.fr (fun x y a e => f x y (by omega)), ⟨(f _ _ (by omega)).trans j4, (f _ _ (by omega)).trans j5, j6, fun i i1 i2 => (j7 i i1 i2).fr (fun x y a e => f x y (by omega))⟩, j8.fr (fun x y a e => f x y (by omega))⟩
theorem J8.rec {h h1 h2 : qH} {b o : Int} {s2 : Int → Int} {mp : Int × (Int → Int)} {st : qS} (J : J8 h b s2 mp st o) (hz : 0 ≤ st.2.2.1.1 ∧ st.2.2.1.1 ≤ 6) (e : (st.2.2.1.1 < 6 ∧ h1 = hset h (b + 67) 2 (st.2.2.1.1 + 1)) ∨ (st.2.2.1.1 = 6 ∧ h1 = hset h (b + 67) 1 ((o + 1) % 7)))
    (n : CNight h2 (b + 18) s2) (f : FR (b + 18) 14 h1 h2) : I8 h2 b (s2, mp, hrec st.2.2.1 st.1, st.2.2.2) ∧ FR b 224 h h2 := by
  obtain ⟨j1, j2, j3, ⟨j4, j5, j6, j7⟩, j8⟩ := J
  have d : ∀ x y, x ≠ b + 67 → (x < b + 18 ∨ b + 32 ≤ x) → h2 x y = h x y := fun x y q1 q2 => by
    rw [f _ _ (by omega)]
    rcases e with ⟨_, e⟩ | ⟨_, e⟩ <;> rw [e, hset_nea _ _ _ q1]
  refine ⟨⟨j1.fr (fun x y a e => d x y (by omega) (by omega)), n, j2.fr (fun x y a e => d x y (by omega) (by omega)), ?_, j3.fr (fun x y a e => d x y (by omega) (by omega))⟩, fun x y q => d x y (by omega) (by omega)⟩
  show CHist h2 (b + 67) (hrec st.2.2.1 st.1)
  have rr : ∀ k s, (0 ≤ k ∧ k < 7) → CScore h (b + 67 + 2 + 17 * k) s → CScore h2 (b + 67 + 2 + 17 * k) s := fun k s q c => c.fr (fun x y a e => d x y (by omega) (by omega))
  rcases e with ⟨e1, e2⟩ | ⟨e1, e2⟩
  · refine ⟨o, by rw [f _ _ (by omega), e2, hset_neb _ _ _ (by decide)]; exact j4, by rw [f _ _ (by omega), e2, hset_same, hrec_1 hz, if_pos e1], j6, fun i i1 i2 => rr _ _ (by omega) ?_⟩
    rw [hrec_1 hz, if_pos e1] at i2
    by_cases q : i = st.2.2.1.1
    · have e3 : (hrec st.2.2.1 st.1).2 i = st.1 := by
        rw [q]
        have := hrec_top (s := st.1) hz
        rw [hrec_1 hz, if_pos e1, show st.2.2.1.1 + 1 - 1 = st.2.2.1.1 by omega] at this
        exact this
      rw [e3, q]; exact j8
    · rw [hrec_old hz (by rw [hrec_1 hz, if_pos e1]; omega), if_pos e1]
      exact j7 i i1 (by omega)
  · refine ⟨(o + 1) % 7, by rw [f _ _ (by omega), e2, hset_same], by rw [f _ _ (by omega), e2, hset_neb _ _ _ (by decide), j5, hrec_1 hz, if_neg (by omega), e1], by omega, fun i i1 i2 => rr _ _ (by omega) ?_⟩
    rw [hrec_1 hz, if_neg (by omega)] at i2
    by_cases q : i = 5
    · have e3 : (hrec st.2.2.1 st.1).2 i = st.1 := by
        rw [q]
        have := hrec_top (s := st.1) hz
        rw [hrec_1 hz, if_neg (by omega)] at this
        exact this
      rw [e3, q, show ((o + 1) % 7 + 5) % 7 = (o + st.2.2.1.1) % 7 by omega]; exact j8
    · rw [hrec_old hz (by rw [hrec_1 hz, if_neg (by omega)]; omega), if_neg (by omega), show ((o + 1) % 7 + i) % 7 = (o + (i + 1)) % 7 by omega]
      exact j7 (i + 1) (by omega) (by omega)
theorem J8.undone {h : qH} {b o : Int} {s2 : Int → Int} {mp : Int × (Int → Int)} {st : qS} (J : J8 h b s2 mp st o) (n : CNight h (b + 18) s2) : I8 h b (s2, mp, st.2.2) :=
  ⟨J.1, n, J.2.1, ⟨o, J.2.2.2.1.1, J.2.2.2.1.2.1, J.2.2.2.1.2.2.1, J.2.2.2.1.2.2.2⟩, J.2.2.1⟩
/-- a change through: prepared, changed, settled -/
theorem I8.fin {h h1 h2 h3 : qH} {b o z : Int} {s2 : Int → Int} {st : qS} (hz : 0 ≤ st.2.2.1.1 ∧ st.2.2.1.1 ≤ 6) (P : J8 h1 b st.1 st.2.1 st o ∧ CNight h1 (b + 18) st.1 ∧ FR b 224 h h1) (f : FR (b + 1) 17 h1 h2) (c : CScore h2 (b + 1) s2) (ng : z < 0 → s2 = st.1) (S : (z < 0 → h2 = h3) ∧ (0 ≤ z → I8 h3 b (s2, st.2.1, hrec st.2.2.1 st.1, st.2.2.2)) ∧ FR b 224 h2 h3) : I8 h3 b (chg st z s2) ∧ FR b 224 h h3 := by
  have ff : FR b 224 h h3 := P.2.2.tr ((f.wd (by omega) (by omega)).tr S.2.2)
  refine ⟨?_, ff⟩
  by_cases q : z < 0
  · rw [chg_n q, ← S.1 q]
    have J := P.1.chg hz f c
    rw [ng q] at J
    exact J.undone (P.2.1.fr (fun x y a e => f x y (by omega)))
  · rw [chg_y (by omega)]; exact S.2.1 (by omega)
theorem O_bars.neg {s s2 : Int → Int} {v z : Int} (g : SG s) (o : O_bars s v z s2) (h : z < 0) : s2 = s := by
  have gn := g.n
  rcases o with ⟨_, _, e⟩ | ⟨_, _, _, e⟩ | ⟨_, _, _, e⟩ <;> first | exact e | (exfalso; omega)
theorem O_short.neg {s s2 : Int → Int} {v z : Int} (g : SG s) (o : O_short s v z s2) (h : z < 0) : s2 = s := by
  have gn := g.n
  rcases o with ⟨_, _, e⟩ | ⟨_, _, e⟩ <;> first | exact e | (exfalso; omega)
theorem O_bar.neg {s s2 : Int → Int} {b e t z : Int} (g : SG s) (o : O_bar s b e t z s2) (h : z < 0) : s2 = s := by
  rcases o with ⟨_, _, w⟩ | ⟨_, _, _, w⟩ | ⟨_, q, q2, w⟩
  · exact w
  · exact w
  · have := Int.ediv_nonneg (a := 600 * e) (b := t) (by omega) (by omega)
    exfalso; omega
theorem O_repeat.neg {s s2 : Int → Int} {b e z : Int} (g : SG s) (o : O_repeat s b e z s2) (h : z < 0) : s2 = s := by
  have gn := g.n
  rcases o with ⟨_, _, e⟩ | ⟨_, _, _, e⟩ | ⟨_, _, _, _, e⟩ | ⟨_, _, _, _, _, e⟩ | ⟨_, _, _, _, _, e⟩ <;> first | exact e | (exfalso; omega)
theorem O_cut.neg {s s2 : Int → Int} {b e z : Int} (g : SG s) (o : O_cut s b e z s2) (h : z < 0) : s2 = s := by
  have gn := g.n
  rcases o with ⟨_, _, e⟩ | ⟨_, _, _, e⟩ | ⟨_, _, _, _, e⟩ | ⟨_, _, _, _, e⟩ <;> first | exact e | (exfalso; omega)
theorem O_black.neg {s s2 : Int → Int} {b e z : Int} (g : SG s) (o : O_black s b e z s2) (h : z < 0) : s2 = s := by
  have gn := g.n
  rcases o with ⟨_, _, e⟩ | ⟨_, _, _, e⟩ | ⟨_, _, _, e⟩ <;> first | exact e | (exfalso; omega)
theorem O_undoSpan.neg {s s2 : Int → Int} {b e z : Int} (g : SG s) (o : O_undoSpan s b e z s2) (h : z < 0) : s2 = s := by
  have gn := g.n
  rcases o with ⟨_, _, e⟩ | ⟨_, _, _, e⟩ | ⟨_, _, _, e⟩ <;> first | exact e | (exfalso; omega)
theorem O_title.neg {s s2 : Int → Int} {k b e t z : Int} (g : SG s) (o : O_title s k b e t z s2) (h : z < 0) : s2 = s := by
  have gn := g.n
  rcases o with ⟨_, _, e⟩ | ⟨_, _, _, e⟩ | ⟨_, _, _, _, e⟩ | ⟨_, _, _, _, e⟩ <;> first | exact e | (exfalso; omega)
theorem O_drop.neg {s s2 : Int → Int} {k z : Int} (g : SG s) (o : O_drop s k z s2) (h : z < 0) : s2 = s := by
  have gn := g.n
  rcases o with ⟨_, _, e⟩ | ⟨_, _, e⟩ <;> first | exact e | (exfalso; omega)
theorem ordA_neg {s s2 : Int → Int} {lt b d e z : Int} (g : SG s) (a : ordA s lt b d e z s2) (h : z < 0) : s2 = s := by
  rcases a with ⟨a1, a2⟩ | ⟨a1, a2⟩ | ⟨a1, a2⟩ | ⟨a1, a2⟩ | ⟨a1, a2⟩
  · exact O_bar.neg g a2 h
  · exact O_repeat.neg g a2 h
  · exact O_cut.neg g a2 h
  · exact O_drop.neg g a2 h
  · exact O_title.neg g a2 h
