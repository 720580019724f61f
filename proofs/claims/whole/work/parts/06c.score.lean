/-! What the class's Score holds, carried over its changes -/
def FR (p k : Int) (h h2 : qH) : Prop := ∀ x y, (x < p ∨ p + k ≤ x) → h2 x y = h x y
theorem FR.rf {p k : Int} {h : qH} : FR p k h h := fun _ _ _ => rfl
theorem FR.tr {p k : Int} {h h2 h3 : qH} (a : FR p k h h2) (b : FR p k h2 h3) : FR p k h h3 := fun x y q => (b x y q).trans (a x y q)
theorem FR.wd {p k p2 k2 : Int} {h h2 : qH} (a : FR p k h h2) (h1 : p2 ≤ p) (h3 : p + k ≤ p2 + k2) : FR p2 k2 h h2 := fun x y q => a x y (by omega)
theorem CSpans.to {h h2 : qH} {p m m2 : Int} {F L F2 L2 : Int → Int} (c : CSpans h p m F L) (hr : ∀ x y, p ≤ x → x ≤ p + 2 → h2 x y = h x y) (hm : m2 = m) (hf : ∀ k, 0 ≤ k → k < m → F2 k = F k ∧ L2 k = L k) : CSpans h2 p m2 F2 L2 := by
  subst hm
  refine ⟨by rw [hr _ _ (by omega) (by omega)]; exact c.1, fun k h1 h2 => ?_⟩
  rw [hr _ _ (by omega) (by omega), hr _ _ (by omega) (by omega), (hf k h1 h2).1, (hf k h1 h2).2]
  exact c.2 k h1 h2
theorem CTitles.to {h h2 : qH} {p : Int} {s s2 : Int → Int} (c : CTitles h p s) (hr : ∀ x y, p ≤ x → x ≤ p + 4 → h2 x y = h x y) (h5 : s2 5 = s 5) (hs : ∀ j, 148 ≤ j → j < 148 + 4 * s 5 → s2 j = s j) : CTitles h2 p s2 := by
  refine ⟨by rw [hr _ _ (by omega) (by omega), h5]; exact c.1, fun k h1 h2 => ?_⟩
  rw [h5] at h2
  rw [hr _ _ (by omega) (by omega), hr _ _ (by omega) (by omega), hr _ _ (by omega) (by omega), hr _ _ (by omega) (by omega), hs _ (by omega) (by omega), hs _ (by omega) (by omega), hs _ (by omega) (by omega), hs _ (by omega) (by omega)]
  exact c.2 k h1 h2
theorem CScore.fr {h h2 : qH} {p : Int} {s : Int → Int} (c : CScore h p s) (hr : ∀ x y, p ≤ x → x < p + 17 → h2 x y = h x y) : CScore h2 p s := by
  obtain ⟨c0, c1, c2, c3, c4, c5, c6⟩ := c
  refine ⟨by rw [hr _ _ (by omega) (by omega)]; exact c0, by rw [hr _ _ (by omega) (by omega)]; exact c1, fun k h1 h2 => ?_, c3.to (fun x y h1 h2 => hr x y (by omega) (by omega)) rfl (fun k _ _ => ⟨rfl, rfl⟩), c4.to (fun x y h1 h2 => hr x y (by omega) (by omega)) rfl (fun k _ _ => ⟨rfl, rfl⟩), c5.to (fun x y h1 h2 => hr x y (by omega) (by omega)) rfl (fun k _ _ => ⟨rfl, rfl⟩), c6.to (fun x y h1 h2 => hr x y (by omega) (by omega)) rfl (fun j _ _ => rfl)⟩
  rw [hr _ _ (by omega) (by omega), hr _ _ (by omega) (by omega)]
  exact c2 k h1 h2
/-- the score's numbers may be others where nothing is meant -/
theorem CScore.eqv {h : qH} {p : Int} {s s2 : Int → Int} (c : CScore h p s) (g : SG s) (h0 : ∀ j, 0 ≤ j → j < 126 → s2 j = s j) (h1 : ∀ j, 126 ≤ j → j < 126 + 2 * s 2 → s2 j = s j) (h3 : ∀ j, 134 ≤ j → j < 134 + 2 * s 3 → s2 j = s j) (h4 : ∀ j, 142 ≤ j → j < 142 + 2 * s 4 → s2 j = s j) (h5 : ∀ j, 148 ≤ j → j < 148 + 4 * s 5 → s2 j = s j) : CScore h p s2 := by
  obtain ⟨c0, c1, c2, c3, c4, c5, c6⟩ := c
  refine ⟨by rw [h0 _ (by omega) (by omega)]; exact c0, by rw [h0 _ (by omega) (by omega)]; exact c1, fun k q1 q2 => ?_, c3.to (fun _ _ _ _ => rfl) (h0 _ (by omega) (by omega)) (fun k q1 q2 => ⟨h1 _ (by omega) (by omega), h1 _ (by omega) (by omega)⟩), c4.to (fun _ _ _ _ => rfl) (h0 _ (by omega) (by omega)) (fun k q1 q2 => ⟨h3 _ (by omega) (by omega), h3 _ (by omega) (by omega)⟩), c5.to (fun _ _ _ _ => rfl) (h0 _ (by omega) (by omega)) (fun k q1 q2 => ⟨h4 _ (by omega) (by omega), h4 _ (by omega) (by omega)⟩), c6.to (fun _ _ _ _ => rfl) (h0 _ (by omega) (by omega)) h5⟩
  rw [h0 _ (by omega) (by omega), h0 _ (by omega) (by omega)]
  exact c2 k q1 q2
/-- one number of the score and of its object changes -/
theorem CScore.set0 {h : qH} {p v : Int} {s : Int → Int} (c : CScore h p s) (g : SG s) : CScore (hset h p 0 v) p (sset s 0 v) := by
  have gn := g.n
  obtain ⟨c0, c1, c2, c3, c4, c5, c6⟩ := c
  have f : ∀ j, j ≠ 0 → sset s 0 v j = s j := fun j q => by rw [sset_ap, if_neg q]
  have e : ∀ x y, x ≠ p → hset h p 0 v x y = h x y := fun x y q => hset_nea _ _ _ q
  refine ⟨by rw [hset_same, sset_ap, if_pos rfl], by rw [hset_neb _ _ _ (by decide), f _ (by decide)]; exact c1, fun k q1 q2 => ?_, c3.to (fun x y _ _ => e x y (by omega)) (f _ (by decide)) (fun k _ _ => ⟨f _ (by omega), f _ (by omega)⟩), c4.to (fun x y _ _ => e x y (by omega)) (f _ (by decide)) (fun k _ _ => ⟨f _ (by omega), f _ (by omega)⟩), c5.to (fun x y _ _ => e x y (by omega)) (f _ (by decide)) (fun k _ _ => ⟨f _ (by omega), f _ (by omega)⟩), c6.to (fun x y _ _ => e x y (by omega)) (f _ (by decide)) (fun j _ _ => f _ (by omega))⟩
  rw [e _ _ (by omega), e _ _ (by omega), f _ (by omega), f _ (by omega)]
  exact c2 k q1 q2
theorem CScore.set1 {h : qH} {p v : Int} {s : Int → Int} (c : CScore h p s) (g : SG s) : CScore (hset h p 1 v) p (sset s 1 v) := by
  have gn := g.n
  obtain ⟨c0, c1, c2, c3, c4, c5, c6⟩ := c
  have f : ∀ j, j ≠ 1 → sset s 1 v j = s j := fun j q => by rw [sset_ap, if_neg q]
  have e : ∀ x y, x ≠ p → hset h p 1 v x y = h x y := fun x y q => hset_nea _ _ _ q
  refine ⟨by rw [hset_neb _ _ _ (by decide), f _ (by decide)]; exact c0, by rw [hset_same, sset_ap, if_pos rfl], fun k q1 q2 => ?_, c3.to (fun x y _ _ => e x y (by omega)) (f _ (by decide)) (fun k _ _ => ⟨f _ (by omega), f _ (by omega)⟩), c4.to (fun x y _ _ => e x y (by omega)) (f _ (by decide)) (fun k _ _ => ⟨f _ (by omega), f _ (by omega)⟩), c5.to (fun x y _ _ => e x y (by omega)) (f _ (by decide)) (fun k _ _ => ⟨f _ (by omega), f _ (by omega)⟩), c6.to (fun x y _ _ => e x y (by omega)) (f _ (by decide)) (fun j _ _ => f _ (by omega))⟩
  rw [e _ _ (by omega), e _ _ (by omega), f _ (by omega), f _ (by omega)]
  exact c2 k q1 q2
theorem CScore.setB {h : qH} {p b e t : Int} {s : Int → Int} (c : CScore h p s) (g : SG s) (hb : 0 ≤ b ∧ b < 60) : CScore (hset (hset h (p + 1) b e) (p + 2) b t) p (sset (sset s (6 + b) e) (66 + b) t) := by
  have gn := g.n
  obtain ⟨c0, c1, c2, c3, c4, c5, c6⟩ := c
  have f : ∀ j, j ≠ 6 + b → j ≠ 66 + b → sset (sset s (6 + b) e) (66 + b) t j = s j := fun j q1 q2 => by rw [sset_ap, if_neg q2, sset_ap, if_neg q1]
  have d : ∀ x y, x ≠ p + 1 → x ≠ p + 2 → hset (hset h (p + 1) b e) (p + 2) b t x y = h x y := fun x y q1 q2 => by rw [hset_nea _ _ _ q2, hset_nea _ _ _ q1]
  refine ⟨by rw [d _ _ (by omega) (by omega), f _ (by omega) (by omega)]; exact c0, by rw [d _ _ (by omega) (by omega), f _ (by omega) (by omega)]; exact c1, fun k q1 q2 => ?_, c3.to (fun x y _ _ => d x y (by omega) (by omega)) (f _ (by omega) (by omega)) (fun k _ _ => ⟨f _ (by omega) (by omega), f _ (by omega) (by omega)⟩), c4.to (fun x y _ _ => d x y (by omega) (by omega)) (f _ (by omega) (by omega)) (fun k _ _ => ⟨f _ (by omega) (by omega), f _ (by omega) (by omega)⟩), c5.to (fun x y _ _ => d x y (by omega) (by omega)) (f _ (by omega) (by omega)) (fun k _ _ => ⟨f _ (by omega) (by omega), f _ (by omega) (by omega)⟩), c6.to (fun x y _ _ => d x y (by omega) (by omega)) (f _ (by omega) (by omega)) (fun j _ _ => f _ (by omega) (by omega))⟩
  have a := c2 k q1 q2
  by_cases hk : k = b
  · subst hk
    constructor
    · rw [hset_nea _ _ _ (by omega), hset_same, sset_ap, if_neg (by omega), sset_ap, if_pos rfl]
    · rw [hset_same, sset_ap, if_pos rfl]
  · rw [f _ (by omega) (by omega), f _ (by omega) (by omega)]
    simp only [hset_ap]
    rw [if_neg (by omega), if_neg (by omega), if_neg (by omega), if_neg (by omega)]
    exact a
theorem U_span_ne {s : Int → Int} {pl cn a b j : Int} (h1 : j ≠ cn) (h2 : j ≠ pl + 2 * s cn) (h3 : j ≠ pl + 2 * s cn + 1) : U_span s pl cn a b j = s j := by
  unfold U_span
  rw [sset_ap, if_neg h1, sset_ap, if_neg h3, sset_ap, if_neg h2]
theorem U_span_cn {s : Int → Int} {pl cn a b : Int} : U_span s pl cn a b cn = s cn + 1 := by
  unfold U_span
  rw [sset_ap, if_pos rfl]
theorem U_span_a {s : Int → Int} {pl cn a b : Int} (h : pl + 2 * s cn ≠ cn) : U_span s pl cn a b (pl + 2 * s cn) = a := by
  unfold U_span
  rw [sset_ap, if_neg h, sset_ap, if_neg (by omega), sset_ap, if_pos rfl]
theorem U_span_b {s : Int → Int} {pl cn a b : Int} (h : pl + 2 * s cn + 1 ≠ cn) : U_span s pl cn a b (pl + 1 + 2 * s cn) = b := by
  unfold U_span
  rw [sset_ap, if_neg (by omega), sset_ap, if_pos (by omega)]
/-- the spans' own part of a span that comes -/
theorem CSpans.add {h : qH} {p pl cn a b : Int} {s : Int → Int} {F L : Int → Int} (c : CSpans h p (s cn) F L) (hF : ∀ k, F k = s (pl + 2 * k)) (hL : ∀ k, L k = s (pl + 1 + 2 * k)) (h0 : 0 ≤ s cn) (hcn : cn < pl) {F2 L2 : Int → Int} (hF2 : ∀ k, F2 k = U_span s pl cn a b (pl + 2 * k)) (hL2 : ∀ k, L2 k = U_span s pl cn a b (pl + 1 + 2 * k)) : CSpans (hset (hset (hset h (p + 1) (s cn) a) (p + 2) (s cn) b) p 2 (s cn + 1)) p (U_span s pl cn a b cn) F2 L2 := by
  rw [U_span_cn]
  refine ⟨hset_same _ _ _ _, fun k h1 h2 => ?_⟩
  have e1 : hset (hset (hset h (p + 1) (s cn) a) (p + 2) (s cn) b) p 2 (s cn + 1) (p + 1) k = hset h (p + 1) (s cn) a (p + 1) k := by rw [hset_nea _ _ _ (by omega), hset_nea _ _ _ (by omega)]
  have e2 : hset (hset (hset h (p + 1) (s cn) a) (p + 2) (s cn) b) p 2 (s cn + 1) (p + 2) k = hset (hset h (p + 1) (s cn) a) (p + 2) (s cn) b (p + 2) k := by rw [hset_nea _ _ _ (by omega)]
  rw [hF2, hL2, e1, e2]
  by_cases hk : k = s cn
  · subst hk
    rw [hset_same, hset_same, U_span_a (by omega), U_span_b (by omega)]
    exact ⟨rfl, rfl⟩
  · rw [hset_neb _ _ _ hk, hset_neb _ _ _ hk, hset_nea _ _ _ (by omega), U_span_ne (by omega) (by omega) (by omega), U_span_ne (by omega) (by omega) (by omega), ← hF, ← hL]
    exact c.2 k h1 (by omega)
theorem CScore.addR {h h2 : qH} {p a b : Int} {s : Int → Int} (c : CScore h p s) (g : SG s) (h4 : s 2 < 4) (e : h2 = hset (hset (hset h (p + 3 + 1) (s 2) a) (p + 3 + 2) (s 2) b) (p + 3) 2 (s 2 + 1)) : CScore h2 p (U_span s 126 2 a b) ∧ FR p 17 h h2 := by
  have gn := g.n
  obtain ⟨c0, c1, c2, c3, c4, c5, c6⟩ := c
  have f : ∀ j, j ≠ 2 → (j < 126 ∨ 134 ≤ j) → U_span s 126 2 a b j = s j := fun j q1 q2 => U_span_ne q1 (by omega) (by omega)
  have d : ∀ x y, (x < p + 3 ∨ p + 6 ≤ x) → h2 x y = h x y := fun x y q => by rw [e, hset_nea _ _ _ (by omega), hset_nea _ _ _ (by omega), hset_nea _ _ _ (by omega)]
  refine ⟨⟨by rw [d _ _ (by omega), f _ (by omega) (by omega)]; exact c0, by rw [d _ _ (by omega), f _ (by omega) (by omega)]; exact c1, fun k q1 q2 => ?_, by rw [e]; exact c3.add (pl := 126) (fun _ => rfl) (fun _ => rfl) gn.2.2.1.1 (by decide) (fun _ => rfl) (fun _ => rfl), c4.to (fun x y _ _ => d x y (by omega)) (f _ (by omega) (by omega)) (fun k _ _ => ⟨f _ (by omega) (by omega), f _ (by omega) (by omega)⟩), c5.to (fun x y _ _ => d x y (by omega)) (f _ (by omega) (by omega)) (fun k _ _ => ⟨f _ (by omega) (by omega), f _ (by omega) (by omega)⟩), c6.to (fun x y _ _ => d x y (by omega)) (f _ (by omega) (by omega)) (fun j _ _ => f _ (by omega) (by omega))⟩, fun x y q => d x y (by omega)⟩
  rw [d _ _ (by omega), d _ _ (by omega), f _ (by omega) (by omega), f _ (by omega) (by omega)]
  exact c2 k q1 q2
theorem CScore.addC {h h2 : qH} {p a b : Int} {s : Int → Int} (c : CScore h p s) (g : SG s) (h4 : s 3 < 4) (e : h2 = hset (hset (hset h (p + 6 + 1) (s 3) a) (p + 6 + 2) (s 3) b) (p + 6) 2 (s 3 + 1)) : CScore h2 p (U_span s 134 3 a b) ∧ FR p 17 h h2 := by
  have gn := g.n
  obtain ⟨c0, c1, c2, c3, c4, c5, c6⟩ := c
  have f : ∀ j, j ≠ 3 → (j < 134 ∨ 142 ≤ j) → U_span s 134 3 a b j = s j := fun j q1 q2 => U_span_ne q1 (by omega) (by omega)
  have d : ∀ x y, (x < p + 6 ∨ p + 9 ≤ x) → h2 x y = h x y := fun x y q => by rw [e, hset_nea _ _ _ (by omega), hset_nea _ _ _ (by omega), hset_nea _ _ _ (by omega)]
  refine ⟨⟨by rw [d _ _ (by omega), f _ (by omega) (by omega)]; exact c0, by rw [d _ _ (by omega), f _ (by omega) (by omega)]; exact c1, fun k q1 q2 => ?_, c3.to (fun x y _ _ => d x y (by omega)) (f _ (by omega) (by omega)) (fun k _ _ => ⟨f _ (by omega) (by omega), f _ (by omega) (by omega)⟩), by rw [e]; exact c4.add (pl := 134) (fun _ => rfl) (fun _ => rfl) gn.2.2.2.1.1 (by decide) (fun _ => rfl) (fun _ => rfl), c5.to (fun x y _ _ => d x y (by omega)) (f _ (by omega) (by omega)) (fun k _ _ => ⟨f _ (by omega) (by omega), f _ (by omega) (by omega)⟩), c6.to (fun x y _ _ => d x y (by omega)) (f _ (by omega) (by omega)) (fun j _ _ => f _ (by omega) (by omega))⟩, fun x y q => d x y (by omega)⟩
  rw [d _ _ (by omega), d _ _ (by omega), f _ (by omega) (by omega), f _ (by omega) (by omega)]
  exact c2 k q1 q2
theorem CScore.addB {h h2 : qH} {p a b : Int} {s : Int → Int} (c : CScore h p s) (g : SG s) (h4 : s 4 < 3) (e : h2 = hset (hset (hset h (p + 9 + 1) (s 4) a) (p + 9 + 2) (s 4) b) (p + 9) 2 (s 4 + 1)) : CScore h2 p (U_span s 142 4 a b) ∧ FR p 17 h h2 := by
  have gn := g.n
  obtain ⟨c0, c1, c2, c3, c4, c5, c6⟩ := c
  have f : ∀ j, j ≠ 4 → (j < 142 ∨ 148 ≤ j) → U_span s 142 4 a b j = s j := fun j q1 q2 => U_span_ne q1 (by omega) (by omega)
  have d : ∀ x y, (x < p + 9 ∨ p + 12 ≤ x) → h2 x y = h x y := fun x y q => by rw [e, hset_nea _ _ _ (by omega), hset_nea _ _ _ (by omega), hset_nea _ _ _ (by omega)]
  refine ⟨⟨by rw [d _ _ (by omega), f _ (by omega) (by omega)]; exact c0, by rw [d _ _ (by omega), f _ (by omega) (by omega)]; exact c1, fun k q1 q2 => ?_, c3.to (fun x y _ _ => d x y (by omega)) (f _ (by omega) (by omega)) (fun k _ _ => ⟨f _ (by omega) (by omega), f _ (by omega) (by omega)⟩), c4.to (fun x y _ _ => d x y (by omega)) (f _ (by omega) (by omega)) (fun k _ _ => ⟨f _ (by omega) (by omega), f _ (by omega) (by omega)⟩), by rw [e]; exact c5.add (pl := 142) (fun _ => rfl) (fun _ => rfl) gn.2.2.2.2.1.1 (by decide) (fun _ => rfl) (fun _ => rfl), c6.to (fun x y _ _ => d x y (by omega)) (f _ (by omega) (by omega)) (fun j _ _ => f _ (by omega) (by omega))⟩, fun x y q => d x y (by omega)⟩
  rw [d _ _ (by omega), d _ _ (by omega), f _ (by omega) (by omega), f _ (by omega) (by omega)]
  exact c2 k q1 q2
/-- the spans' own part of a span that goes -/
theorem CSpans.rm {h h2 : qH} {p pl cn a m : Int} {s : Int → Int} {F L : Int → Int} (c : CSpans h p m F L) (hm : m = s cn) (hF : ∀ k, F k = s (pl + 2 * k)) (hL : ∀ k, L k = s (pl + 1 + 2 * k)) (hcn : cn < pl) (ha : 0 ≤ a ∧ a < m) (e : ∀ x y, h2 x y = if x = p ∧ y = 2 then m - 1 else if (x = p + 1 ∨ x = p + 2) ∧ a ≤ y ∧ y < m - 1 then h x (y + 1) else h x y) {F2 L2 : Int → Int} (hF2 : ∀ k, F2 k = U_rm s pl cn a (pl + 2 * k)) (hL2 : ∀ k, L2 k = U_rm s pl cn a (pl + 1 + 2 * k)) : CSpans h2 p (U_rm s pl cn a cn) F2 L2 := by
  rw [U_rm_cn, ← hm]
  refine ⟨by rw [e, if_pos ⟨rfl, rfl⟩], fun k h1 q2 => ?_⟩
  have u0 := U_rm_at s hm hcn ha ⟨h1, q2⟩ 0 (Or.inl rfl)
  have u1 := U_rm_at s hm hcn ha ⟨h1, q2⟩ 1 (Or.inr rfl)
  rw [show pl + 0 + 2 * k = pl + 2 * k by omega, show pl + 0 + 2 * (k + 1) = pl + 2 * (k + 1) by omega] at u0
  have r : ∀ x, (x = p + 1 ∨ x = p + 2) → h2 x k = if a ≤ k then h x (k + 1) else h x k := fun x hx => by
    rw [e, if_neg (by omega)]
    by_cases hk : a ≤ k
    · rw [if_pos ⟨hx, hk, q2⟩, if_pos hk]
    · rw [if_neg (fun z => hk z.2.1), if_neg hk]
  rw [hF2, hL2, u0, u1, r _ (Or.inl rfl), r _ (Or.inr rfl)]
  have c1 := c.2 k h1 (by omega)
  have c2 := c.2 (k + 1) (by omega) (by omega)
  rw [hF, hL] at c1 c2
  by_cases hk : a ≤ k
  · simp only [if_pos hk]
    exact c2
  · simp only [if_neg hk]
    exact c1
theorem CScore.rm {h h2 : qH} {p a w q : Int} {s : Int → Int} (c : CScore h p s) (g : SG s) (hw : (w = 0 ∧ q = p + 3) ∨ (w = 1 ∧ q = p + 6) ∨ (w = 2 ∧ q = p + 9)) (ha : 0 ≤ a ∧ a < s (2 + w)) (e : ∀ x y, h2 x y = if x = q ∧ y = 2 then s (2 + w) - 1 else if (x = q + 1 ∨ x = q + 2) ∧ a ≤ y ∧ y < s (2 + w) - 1 then h x (y + 1) else h x y) : CScore h2 p (U_rm s (126 + 8 * w) (2 + w) a) ∧ FR p 17 h h2 := by
  have gn := g.n
  obtain ⟨c0, c1, c2, c3, c4, c5, c6⟩ := c
  have d : ∀ x y, (x < q ∨ q + 3 ≤ x) → h2 x y = h x y := fun x y z => by rw [e, if_neg (by omega), if_neg (by omega)]
  have hs : (126 + 8 * w) + 2 * s (2 + w) ≤ 126 + 8 * w + 8 ∧ (w = 2 → s (2 + w) ≤ 3) := by
    rcases hw with ⟨rfl, _⟩ | ⟨rfl, _⟩ | ⟨rfl, _⟩ <;> simp only [Int.reduceAdd, Int.reduceMul] <;> omega
  have f : ∀ j, j ≠ 2 + w → (j < 126 + 8 * w ∨ 126 + 8 * w + 2 * s (2 + w) ≤ j) → U_rm s (126 + 8 * w) (2 + w) a j = s j := fun j z1 z2 => U_rm_ne s z1 z2 ha
  have hq : p + 3 ≤ q ∧ q ≤ p + 9 := by omega
  refine ⟨⟨by rw [d _ _ (by omega), f _ (by omega) (by omega)]; exact c0, by rw [d _ _ (by omega), f _ (by omega) (by omega)]; exact c1, fun k q1 q2 => ?_, ?_, ?_, ?_, c6.to (fun x y _ _ => d x y (by omega)) (f _ (by omega) (by omega)) (fun j _ _ => f _ (by omega) (by omega))⟩, fun x y z => d x y (by omega)⟩
  · rw [d _ _ (by omega), d _ _ (by omega), f _ (by omega) (by omega), f _ (by omega) (by omega)]
    exact c2 k q1 q2
  · rcases hw with ⟨rfl, rfl⟩ | hw
    · exact c3.rm (pl := 126) (cn := 2) rfl (fun _ => rfl) (fun _ => rfl) (by decide) ha e (fun _ => rfl) (fun _ => rfl)
    · exact c3.to (fun x y _ _ => d x y (by omega)) (f _ (by omega) (by omega)) (fun k _ _ => ⟨f _ (by omega) (by omega), f _ (by omega) (by omega)⟩)
  · rcases (show w = 1 ∨ w ≠ 1 by omega) with rfl | hw1
    · obtain rfl : q = p + 6 := by omega
      exact c4.rm (pl := 134) (cn := 3) rfl (fun _ => rfl) (fun _ => rfl) (by decide) ha e (fun _ => rfl) (fun _ => rfl)
    · exact c4.to (fun x y _ _ => d x y (by omega)) (f _ (by omega) (by omega)) (fun k _ _ => ⟨f _ (by omega) (by omega), f _ (by omega) (by omega)⟩)
  · rcases (show w = 2 ∨ w ≠ 2 by omega) with rfl | hw1
    · obtain rfl : q = p + 9 := by omega
      exact c5.rm (pl := 142) (cn := 4) rfl (fun _ => rfl) (fun _ => rfl) (by decide) ha e (fun _ => rfl) (fun _ => rfl)
    · exact c5.to (fun x y _ _ => d x y (by omega)) (f _ (by omega) (by omega)) (fun k _ _ => ⟨f _ (by omega) (by omega), f _ (by omega) (by omega)⟩)
theorem CScore.addT {h h2 : qH} {p kd b ln lt : Int} {s : Int → Int} (c : CScore h p s) (g : SG s) (h4 : s 5 < 20) (e : h2 = hset (hset (hset (hset (hset h (p + 12 + 1) (s 5) kd) (p + 12 + 2) (s 5) b) (p + 12 + 3) (s 5) ln) (p + 12 + 4) (s 5) lt) (p + 12) 4 (s 5 + 1)) : CScore h2 p (U_title s kd b ln lt) ∧ FR p 17 h h2 := by
  have gn := g.n
  obtain ⟨c0, c1, c2, c3, c4, c5, c6⟩ := c
  have f : ∀ j, j ≠ 5 → j < 148 + 4 * s 5 → U_title s kd b ln lt j = s j := fun j q1 q2 => by
    unfold U_title
    rw [sset_ap, if_neg q1, sset_ap, if_neg (by omega), sset_ap, if_neg (by omega), sset_ap, if_neg (by omega), sset_ap, if_neg (by omega)]
  have d : ∀ x y, (x < p + 12) → h2 x y = h x y := fun x y q => by rw [e, hset_nea _ _ _ (by omega), hset_nea _ _ _ (by omega), hset_nea _ _ _ (by omega), hset_nea _ _ _ (by omega), hset_nea _ _ _ (by omega)]
  have d2 : ∀ x y, (p + 17 ≤ x) → h2 x y = h x y := fun x y q => by rw [e, hset_nea _ _ _ (by omega), hset_nea _ _ _ (by omega), hset_nea _ _ _ (by omega), hset_nea _ _ _ (by omega), hset_nea _ _ _ (by omega)]
  have f5 : U_title s kd b ln lt 5 = s 5 + 1 := by unfold U_title; rw [sset_ap, if_pos rfl]
  refine ⟨⟨by rw [d _ _ (by omega), f _ (by omega) (by omega)]; exact c0, by rw [d _ _ (by omega), f _ (by omega) (by omega)]; exact c1, fun k q1 q2 => ?_, c3.to (fun x y _ _ => d x y (by omega)) (f _ (by omega) (by omega)) (fun k _ _ => ⟨f _ (by omega) (by omega), f _ (by omega) (by omega)⟩), c4.to (fun x y _ _ => d x y (by omega)) (f _ (by omega) (by omega)) (fun k _ _ => ⟨f _ (by omega) (by omega), f _ (by omega) (by omega)⟩), c5.to (fun x y _ _ => d x y (by omega)) (f _ (by omega) (by omega)) (fun k _ _ => ⟨f _ (by omega) (by omega), f _ (by omega) (by omega)⟩), ?_⟩, fun x y q => q.elim (fun q => d x y (by omega)) (d2 x y)⟩
  · rw [d _ _ (by omega), d _ _ (by omega), f _ (by omega) (by omega), f _ (by omega) (by omega)]
    exact c2 k q1 q2
  · unfold CTitles
    rw [f5]
    refine ⟨by rw [e, hset_same], fun k q1 q2 => ?_⟩
    by_cases hk : k = s 5
    · subst hk
      have t0 : U_title s kd b ln lt (148 + 4 * s 5) = kd := by unfold U_title; rw [sset_ap, if_neg (by omega), sset_ap, if_neg (by omega), sset_ap, if_neg (by omega), sset_ap, if_neg (by omega), sset_ap, if_pos rfl]
      have t1 : U_title s kd b ln lt (149 + 4 * s 5) = b := by unfold U_title; rw [sset_ap, if_neg (by omega), sset_ap, if_neg (by omega), sset_ap, if_neg (by omega), sset_ap, if_pos (by omega)]
      have t2 : U_title s kd b ln lt (150 + 4 * s 5) = ln := by unfold U_title; rw [sset_ap, if_neg (by omega), sset_ap, if_neg (by omega), sset_ap, if_pos (by omega)]
      have t3 : U_title s kd b ln lt (151 + 4 * s 5) = lt := by unfold U_title; rw [sset_ap, if_neg (by omega), sset_ap, if_pos (by omega)]
      have r4 : h2 (p + 12 + 4) (s 5) = lt := by rw [e, hset_nea _ _ _ (by omega), hset_same]
      have r3 : h2 (p + 12 + 3) (s 5) = ln := by rw [e, hset_nea _ _ _ (by omega), hset_nea _ _ _ (by omega), hset_same]
      have r2 : h2 (p + 12 + 2) (s 5) = b := by rw [e, hset_nea _ _ _ (by omega), hset_nea _ _ _ (by omega), hset_nea _ _ _ (by omega), hset_same]
      have r1 : h2 (p + 12 + 1) (s 5) = kd := by rw [e, hset_nea _ _ _ (by omega), hset_nea _ _ _ (by omega), hset_nea _ _ _ (by omega), hset_nea _ _ _ (by omega), hset_same]
      rw [t0, t1, t2, t3, r1, r2, r3, r4]
      exact ⟨rfl, rfl, rfl, rfl⟩
    · have rn : ∀ x, x ≠ p + 12 → h2 x k = h x k := fun x hx => by rw [e, hset_nea _ _ _ hx, hset_neb _ _ _ hk, hset_neb _ _ _ hk, hset_neb _ _ _ hk, hset_neb _ _ _ hk]
      rw [rn _ (by omega), rn _ (by omega), rn _ (by omega), rn _ (by omega), f _ (by omega) (by omega), f _ (by omega) (by omega), f _ (by omega) (by omega), f _ (by omega) (by omega)]
      exact c6.2 k q1 (by omega)
theorem CScore.rmT {h h2 : qH} {p a : Int} {s : Int → Int} (c : CScore h p s) (g : SG s) (ha : 0 ≤ a ∧ a < s 5) (e : ∀ x y, h2 x y = if x = p + 12 ∧ y = 4 then s 5 - 1 else if (p + 12 + 1 ≤ x ∧ x ≤ p + 12 + 4) ∧ a ≤ y ∧ y < s 5 - 1 then h x (y + 1) else h x y) : CScore h2 p (U_drop s a) ∧ FR p 17 h h2 := by
  have gn := g.n
  obtain ⟨c0, c1, c2, c3, c4, c5, c6⟩ := c
  have d : ∀ x y, (x < p + 12 ∨ p + 17 ≤ x) → h2 x y = h x y := fun x y z => by rw [e, if_neg (by omega), if_neg (by omega)]
  have f : ∀ j, j ≠ 5 → j < 148 → U_drop s a j = s j := fun j q1 q2 => by unfold U_drop; rw [if_neg q1, if_neg (by omega), if_neg (by omega)]
  have f5 : U_drop s a 5 = s 5 - 1 := by unfold U_drop; rw [if_pos rfl]
  refine ⟨⟨by rw [d _ _ (by omega), f _ (by omega) (by omega)]; exact c0, by rw [d _ _ (by omega), f _ (by omega) (by omega)]; exact c1, fun k q1 q2 => ?_, c3.to (fun x y _ _ => d x y (by omega)) (f _ (by omega) (by omega)) (fun k _ _ => ⟨f _ (by omega) (by omega), f _ (by omega) (by omega)⟩), c4.to (fun x y _ _ => d x y (by omega)) (f _ (by omega) (by omega)) (fun k _ _ => ⟨f _ (by omega) (by omega), f _ (by omega) (by omega)⟩), c5.to (fun x y _ _ => d x y (by omega)) (f _ (by omega) (by omega)) (fun k _ _ => ⟨f _ (by omega) (by omega), f _ (by omega) (by omega)⟩), ?_⟩, fun x y z => d x y (by omega)⟩
  · rw [d _ _ (by omega), d _ _ (by omega), f _ (by omega) (by omega), f _ (by omega) (by omega)]
    exact c2 k q1 q2
  · unfold CTitles
    rw [f5]
    refine ⟨by rw [e, if_pos ⟨rfl, rfl⟩], fun k q1 q2 => ?_⟩
    have u0 := U_drop_at s ha ⟨q1, q2⟩ 0 (by decide)
    have u1 := U_drop_at s ha ⟨q1, q2⟩ 1 (by decide)
    have u2 := U_drop_at s ha ⟨q1, q2⟩ 2 (by decide)
    have u3 := U_drop_at s ha ⟨q1, q2⟩ 3 (by decide)
    simp only [Int.reduceAdd] at u0 u1 u2 u3
    have a1 := c6.2 k q1 (by omega)
    have a2 := c6.2 (k + 1) (by omega) (by omega)
    have r : ∀ x, (p + 12 + 1 ≤ x ∧ x ≤ p + 12 + 4) → h2 x k = if a ≤ k then h x (k + 1) else h x k := fun x hx => by
      rw [e, if_neg (by omega)]
      by_cases hk : a ≤ k
      · rw [if_pos ⟨hx, hk, q2⟩, if_pos hk]
      · rw [if_neg (fun z => hk z.2.1), if_neg hk]
    rw [u0, u1, u2, u3, r _ (by omega), r _ (by omega), r _ (by omega), r _ (by omega)]
    by_cases hk : a ≤ k
    · simp only [if_pos hk]
      exact a2
    · simp only [if_neg hk]
      exact a1
/-- how far ahead a title of a kind is due -/
def leadP (k : Int) : Int := if k = 0 then 5 else if k = 2 then 20 else 0
theorem CSpans.cp {h h2 : qH} {p q cap m : Int} {F L : Int → Int} (c : CSpans h q m F L) (hm : m ≤ cap) (e : ∀ x y, h2 x y = if x = p ∧ y = 2 then m else if (x = p + 1 ∨ x = p + 2) ∧ 0 ≤ y ∧ y < cap then h (x - p + q) y else h x y) : CSpans h2 p m F L ∧ FR p 3 h h2 := by
  refine ⟨⟨by rw [e, if_pos ⟨rfl, rfl⟩], fun k h1 h2 => ?_⟩, fun x y z => by rw [e, if_neg (by omega), if_neg (by omega)]⟩
  have e1 : ∀ j, (j = 1 ∨ j = 2) → ∀ h3, h3 = h (q + j) k → (if p + j = p ∧ k = 2 then m else if (p + j = p + 1 ∨ p + j = p + 2) ∧ 0 ≤ k ∧ k < cap then h (p + j - p + q) k else h (p + j) k) = h3 := fun j hj h3 e3 => by
    rw [e3, if_neg (by omega), if_pos (by omega)]; exact hx (by omega) rfl
  rw [e, e, e1 1 (Or.inl rfl) _ rfl, e1 2 (Or.inr rfl) _ rfl]
  exact c.2 k h1 h2
theorem CTitles.cp {h h2 : qH} {p q m : Int} {s : Int → Int} (c : CTitles h q s) (h5 : s 5 = m) (hm : m ≤ 20) (e : ∀ x y, h2 x y = if x = p ∧ y = 4 then m else if (p + 1 ≤ x ∧ x ≤ p + 4) ∧ 0 ≤ y ∧ y < 20 then h (x - p + q) y else h x y) : CTitles h2 p s ∧ FR p 5 h h2 := by
  refine ⟨⟨by rw [e, if_pos ⟨rfl, rfl⟩, h5], fun k h1 h2 => ?_⟩, fun x y z => by rw [e, if_neg (by omega), if_neg (by omega)]⟩
  have e1 : ∀ j, (1 ≤ j ∧ j ≤ 4) → (if p + j = p ∧ k = 4 then m else if (p + 1 ≤ p + j ∧ p + j ≤ p + 4) ∧ 0 ≤ k ∧ k < 20 then h (p + j - p + q) k else h (p + j) k) = h (q + j) k := fun j hj => by
    rw [if_neg (by omega), if_pos (by omega)]; exact hx (by omega) rfl
  rw [e, e, e, e, e1 1 (by decide), e1 2 (by decide), e1 3 (by decide), e1 4 (by decide)]
  exact c.2 k h1 h2
