/-! Orders carried out; undo, save, restore -/
def kdP (c : Int) : Int := if c = 108 then 0 else if c = 101 then 1 else 2
def ordA (s : Int → Int) (lt a b d z : Int) (s2 : Int → Int) : Prop := (lt = 98 ∧ O_bar s a b d z s2) ∨ (lt = 114 ∧ O_repeat s a b z s2) ∨ (lt = 120 ∧ O_cut s a b z s2) ∨ (lt = 45 ∧ O_drop s a z s2) ∨ ((lt = 108 ∨ lt = 101 ∨ lt = 110) ∧ O_title s (kdP lt) a b d z s2)
def okO (s : Int → Int) (lt a b d : Int) : Prop := (lt = 98 ∧ barP s a ∧ ((1 ≤ b ∧ b ≤ 12) ∧ (20 ≤ d ∧ d ≤ 240))) ∨ (lt = 114 ∧ (barP s a ∧ barP s b) ∧ a ≤ b ∧ s 2 < 4 ∧ ¬ meetR s a b) ∨ (lt = 120 ∧ (barP s a ∧ barP s b) ∧ a ≤ b ∧ s 3 < 4) ∨ (lt = 45 ∧ 0 ≤ a ∧ a < s 5) ∨ ((lt = 108 ∨ lt = 101 ∨ lt = 110) ∧ barP s a ∧ okT (kdP lt) b d ∧ s 5 < 20)
def O_ord (s : Int → Int) (D : qD) (z : Int) (s2 : Int → Int) : Prop := ordA s D.1 (D.2.2.2 0) (D.2.2.2 1) (D.2.2.2 2) z s2
theorem O_bars_fn {s s2 s3 : Int → Int} {v z y : Int} (a : O_bars s v z s2) (c : O_bars s v y s3) : z = y ∧ s2 = s3 := by
  rcases a with ⟨a1, a2, a3⟩ | ⟨a1, a2, a3, a4⟩ | ⟨a1, a2, a3, a4⟩ <;> rcases c with ⟨c1, c2, c3⟩ | ⟨c1, c2, c3, c4⟩ | ⟨c1, c2, c3, c4⟩ <;> first | contradiction | exact ⟨by omega, by simp only [*]⟩
theorem O_short_fn {s s2 s3 : Int → Int} {v z y : Int} (a : O_short s v z s2) (c : O_short s v y s3) : z = y ∧ s2 = s3 := by
  rcases a with ⟨a1, a2, a3⟩ | ⟨a1, a2, a3⟩ <;> rcases c with ⟨c1, c2, c3⟩ | ⟨c1, c2, c3⟩ <;> first | contradiction | exact ⟨by omega, by simp only [*]⟩
theorem O_bar_fn {s s2 s3 : Int → Int} {b e t z y : Int} (a : O_bar s b e t z s2) (c : O_bar s b e t y s3) : z = y ∧ s2 = s3 := by
  rcases a with ⟨a1, a2, a3⟩ | ⟨a1, a2, a3, a4⟩ | ⟨a1, a2, a3, a4⟩ <;> rcases c with ⟨c1, c2, c3⟩ | ⟨c1, c2, c3, c4⟩ | ⟨c1, c2, c3, c4⟩ <;> first | contradiction | exact ⟨by omega, by simp only [*]⟩
theorem O_repeat_fn {s s2 s3 : Int → Int} {b e z y : Int} (a : O_repeat s b e z s2) (c : O_repeat s b e y s3) : z = y ∧ s2 = s3 := by
  rcases a with ⟨a1, a2, a3⟩ | ⟨a1, a2, a3, a4⟩ | ⟨a1, a2, a3, a4, a5⟩ | ⟨a1, a2, a3, a4, a5, a6⟩ | ⟨a1, a2, a3, a4, a5, a6⟩ <;> rcases c with ⟨c1, c2, c3⟩ | ⟨c1, c2, c3, c4⟩ | ⟨c1, c2, c3, c4, c5⟩ | ⟨c1, c2, c3, c4, c5, c6⟩ | ⟨c1, c2, c3, c4, c5, c6⟩ <;> first | contradiction | (exfalso; omega) | exact ⟨by omega, by simp only [*]⟩
theorem O_cut_fn {s s2 s3 : Int → Int} {b e z y : Int} (a : O_cut s b e z s2) (c : O_cut s b e y s3) : z = y ∧ s2 = s3 := by
  rcases a with ⟨a1, a2, a3⟩ | ⟨a1, a2, a3, a4⟩ | ⟨a1, a2, a3, a4, a5⟩ | ⟨a1, a2, a3, a4, a5⟩ <;> rcases c with ⟨c1, c2, c3⟩ | ⟨c1, c2, c3, c4⟩ | ⟨c1, c2, c3, c4, c5⟩ | ⟨c1, c2, c3, c4, c5⟩ <;> first | contradiction | (exfalso; omega) | exact ⟨by omega, by simp only [*]⟩
theorem O_black_fn {s s2 s3 : Int → Int} {b e z y : Int} (a : O_black s b e z s2) (c : O_black s b e y s3) : z = y ∧ s2 = s3 := by
  rcases a with ⟨a1, a2, a3⟩ | ⟨a1, a2, a3, a4⟩ | ⟨a1, a2, a3, a4⟩ <;> rcases c with ⟨c1, c2, c3⟩ | ⟨c1, c2, c3, c4⟩ | ⟨c1, c2, c3, c4⟩ <;> first | contradiction | (exfalso; omega) | exact ⟨by omega, by simp only [*]⟩
theorem O_undoSpan_fn {s s2 s3 : Int → Int} {b e z y : Int} (a : O_undoSpan s b e z s2) (c : O_undoSpan s b e y s3) : z = y ∧ s2 = s3 := by
  rcases a with ⟨a1, a2, a3⟩ | ⟨a1, a2, a3, a4⟩ | ⟨a1, a2, a3, a4⟩ <;> rcases c with ⟨c1, c2, c3⟩ | ⟨c1, c2, c3, c4⟩ | ⟨c1, c2, c3, c4⟩ <;> first | contradiction | (exfalso; omega) | exact ⟨by omega, by simp only [*]⟩
theorem O_title_fn {s s2 s3 : Int → Int} {k b e t z y : Int} (a : O_title s k b e t z s2) (c : O_title s k b e t y s3) : z = y ∧ s2 = s3 := by
  rcases a with ⟨a1, a2, a3⟩ | ⟨a1, a2, a3, a4⟩ | ⟨a1, a2, a3, a4, a5⟩ | ⟨a1, a2, a3, a4, a5⟩ <;> rcases c with ⟨c1, c2, c3⟩ | ⟨c1, c2, c3, c4⟩ | ⟨c1, c2, c3, c4, c5⟩ | ⟨c1, c2, c3, c4, c5⟩ <;> first | contradiction | (exfalso; omega) | exact ⟨by omega, by simp only [*]⟩
theorem O_drop_fn {s s2 s3 : Int → Int} {v z y : Int} (a : O_drop s v z s2) (c : O_drop s v y s3) : z = y ∧ s2 = s3 := by
  rcases a with ⟨a1, a2, a3⟩ | ⟨a1, a2, a3⟩ <;> rcases c with ⟨c1, c2, c3⟩ | ⟨c1, c2, c3⟩ <;> first | contradiction | exact ⟨by omega, by simp only [*]⟩
theorem ordA_fn {s s2 s3 : Int → Int} {lt b d e z y : Int} (a : ordA s lt b d e z s2) (c : ordA s lt b d e y s3) : z = y ∧ s2 = s3 := by
  rcases a with ⟨a1, a2⟩ | ⟨a1, a2⟩ | ⟨a1, a2⟩ | ⟨a1, a2⟩ | ⟨a1, a2⟩ <;> rcases c with ⟨c1, c2⟩ | ⟨c1, c2⟩ | ⟨c1, c2⟩ | ⟨c1, c2⟩ | ⟨c1, c2⟩ <;> first | (exfalso; omega) | exact O_bar_fn a2 c2 | exact O_repeat_fn a2 c2 | exact O_cut_fn a2 c2 | exact O_drop_fn a2 c2 | exact O_title_fn a2 c2
theorem ordA_good {s s2 : Int → Int} {lt b d e z : Int} (g : SG s) (a : ordA s lt b d e z s2) : SG s2 := by
  rcases a with ⟨a1, a2⟩ | ⟨a1, a2⟩ | ⟨a1, a2⟩ | ⟨a1, a2⟩ | ⟨a1, a2⟩
  · exact O_bar.good g a2
  · exact O_repeat.good g a2
  · exact O_cut.good g a2
  · exact O_drop.good g a2
  · exact O_title.good g a2
/-- the cells of cuts that are not there stay 0 -/
theorem SZ.to {s s2 : Int → Int} (z : SZ s) (h3 : s2 3 = s 3) (e : ∀ j, 134 + 2 * s 3 ≤ j → j < 142 → s2 j = s j) : SZ s2 := fun j a c => by
  rw [h3] at a
  rw [e j a c]; exact z j a c
theorem O_bars.sz {s s2 : Int → Int} {v y : Int} (g : SG s) (z : SZ s) (o : O_bars s v y s2) : SZ s2 := by
  have gn := g.n
  rcases o with ⟨_, _, rfl⟩ | ⟨_, _, _, rfl⟩ | ⟨_, _, _, rfl⟩
  · exact z
  · exact z
  · exact z.to (sset_ne _ _ (by decide)) (fun j a c => sset_ne _ _ (by omega))
theorem O_short.sz {s s2 : Int → Int} {v y : Int} (g : SG s) (z : SZ s) (o : O_short s v y s2) : SZ s2 := by
  have gn := g.n
  rcases o with ⟨_, _, rfl⟩ | ⟨_, _, rfl⟩
  · exact z
  · exact z.to (sset_ne _ _ (by decide)) (fun j a c => sset_ne _ _ (by omega))
theorem O_bar.sz {s s2 : Int → Int} {b e t y : Int} (g : SG s) (z : SZ s) (o : O_bar s b e t y s2) : SZ s2 := by
  have gn := g.n
  rcases o with ⟨_, _, rfl⟩ | ⟨_, _, _, rfl⟩ | ⟨hb, _, _, rfl⟩
  · exact z
  · exact z
  · unfold barP at hb
    exact z.to (by rw [sset_ne _ _ (by omega), sset_ne _ _ (by omega)]) (fun j a c => by rw [sset_ne _ _ (by omega), sset_ne _ _ (by omega)])
theorem O_repeat.sz {s s2 : Int → Int} {b e y : Int} (g : SG s) (z : SZ s) (o : O_repeat s b e y s2) : SZ s2 := by
  have gn := g.n
  rcases o with ⟨_, _, rfl⟩ | ⟨_, _, _, rfl⟩ | ⟨_, _, _, _, rfl⟩ | ⟨_, _, _, _, _, rfl⟩ | ⟨_, _, h, _, _, rfl⟩
  · exact z
  · exact z
  · exact z
  · exact z
  · exact z.to (U_span_ne (by decide) (by omega) (by omega)) (fun j a c => U_span_ne (by omega) (by omega) (by omega))
theorem O_cut.sz {s s2 : Int → Int} {b e y : Int} (g : SG s) (z : SZ s) (o : O_cut s b e y s2) : SZ s2 := by
  have gn := g.n
  rcases o with ⟨_, _, rfl⟩ | ⟨_, _, _, rfl⟩ | ⟨_, _, _, _, rfl⟩ | ⟨_, _, h, _, rfl⟩
  · exact z
  · exact z
  · exact z
  · intro j a c
    rw [U_span_cn] at a
    rw [U_span_ne (by omega) (by omega) (by omega)]
    exact z j (by omega) c
theorem O_black.sz {s s2 : Int → Int} {b e y : Int} (g : SG s) (z : SZ s) (o : O_black s b e y s2) : SZ s2 := by
  have gn := g.n
  rcases o with ⟨_, _, rfl⟩ | ⟨_, _, _, rfl⟩ | ⟨_, h, _, rfl⟩
  · exact z
  · exact z
  · exact z.to (U_span_ne (by decide) (by omega) (by omega)) (fun j a c => U_span_ne (by omega) (by omega) (by omega))
theorem O_undoSpan.sz {s s2 : Int → Int} {w k y : Int} (g : SG s) (z : SZ s) (o : O_undoSpan s w k y s2) : SZ s2 := by
  have gn := g.n
  rcases o with ⟨_, _, rfl⟩ | ⟨_, _, _, rfl⟩ | ⟨hw, hk, _, rfl⟩
  · exact z
  · exact z
  · rcases (show w = 0 ∨ w = 1 ∨ w = 2 by omega) with rfl | rfl | rfl
    · simp only [Int.reduceAdd, Int.reduceMul] at hk ⊢
      exact z.to (U_rm_ne s (by decide) (by omega) hk) (fun j a c => U_rm_ne s (by omega) (by omega) hk)
    · simp only [Int.reduceAdd, Int.reduceMul] at hk ⊢
      intro j a c
      rw [U_rm_cn] at a
      unfold U_rm
      rw [if_neg (by omega), if_neg (by omega)]
      by_cases q : j = 134 + 2 * (s 3 - 1) ∨ j = 134 + 2 * (s 3 - 1) + 1
      · rw [if_pos q]
      · rw [if_neg q]; exact z j (by omega) c
    · simp only [Int.reduceAdd, Int.reduceMul] at hk ⊢
      exact z.to (U_rm_ne s (by decide) (by omega) hk) (fun j a c => U_rm_ne s (by omega) (by omega) hk)
theorem O_title.sz {s s2 : Int → Int} {kd b ln lt y : Int} (g : SG s) (z : SZ s) (o : O_title s kd b ln lt y s2) : SZ s2 := by
  have gn := g.n
  rcases o with ⟨_, _, rfl⟩ | ⟨_, _, _, rfl⟩ | ⟨_, _, _, _, rfl⟩ | ⟨_, _, _, _, rfl⟩
  · exact z
  · exact z
  · exact z
  · have f : ∀ j, j ≠ 5 → j < 148 → U_title s kd b ln lt j = s j := fun j q1 q2 => by
      unfold U_title
      rw [sset_ne _ _ q1, sset_ne _ _ (by omega), sset_ne _ _ (by omega), sset_ne _ _ (by omega), sset_ne _ _ (by omega)]
    exact z.to (f 3 (by decide) (by decide)) (fun j a c => f j (by omega) (by omega))
theorem O_drop.sz {s s2 : Int → Int} {k y : Int} (g : SG s) (z : SZ s) (o : O_drop s k y s2) : SZ s2 := by
  have gn := g.n
  rcases o with ⟨_, _, rfl⟩ | ⟨hk, _, rfl⟩
  · exact z
  · have f : ∀ j, j ≠ 5 → j < 148 → U_drop s k j = s j := fun j q1 q2 => by unfold U_drop; rw [if_neg q1, if_neg (by omega), if_neg (by omega)]
    exact z.to (f 3 (by decide) (by decide)) (fun j a c => f j (by omega) (by omega))
theorem ordA_sz {s s2 : Int → Int} {lt b d e z : Int} (g : SG s) (c : SZ s) (a : ordA s lt b d e z s2) : SZ s2 := by
  rcases a with ⟨a1, a2⟩ | ⟨a1, a2⟩ | ⟨a1, a2⟩ | ⟨a1, a2⟩ | ⟨a1, a2⟩
  · exact O_bar.sz g c a2
  · exact O_repeat.sz g c a2
  · exact O_cut.sz g c a2
  · exact O_drop.sz g c a2
  · exact O_title.sz g c a2
/-- k orders carried out -/
def runO (Q : Int → qD) (s : Int → Int) : Nat → (Int → Int) → Prop
  | 0, s2 => s2 = s
  | k + 1, s2 => ∃ s1 z, runO Q s k s1 ∧ O_ord s1 (Q (k : Int)) z s2 ∧ 0 ≤ z
theorem runO_fn {Q : Int → qD} {s : Int → Int} : ∀ (k : Nat) {s2 s3 : Int → Int}, runO Q s k s2 → runO Q s k s3 → s2 = s3
  | 0, _, _, a, c => by rw [show _ = s from a, show _ = s from c]
  | k + 1, _, _, ⟨s1, z, a1, a2, _⟩, ⟨s4, z4, c1, c2, _⟩ => by
    have e := runO_fn k a1 c1
    subst e
    exact (ordA_fn a2 c2).2
theorem runO_le {Q : Int → qD} {s : Int → Int} {k : Nat} : ∀ (d : Nat) {s2 : Int → Int}, runO Q s (k + d) s2 → ∃ s1, runO Q s k s1
  | 0, s2, a => ⟨s2, a⟩
  | d + 1, _, ⟨s1, _, a1, _, _⟩ => runO_le d a1
theorem runO_good {Q : Int → qD} {s : Int → Int} (g : SG s) (c : SZ s) : ∀ (k : Nat) {s2 : Int → Int}, runO Q s k s2 → SG s2 ∧ SZ s2
  | 0, _, a => by rw [show _ = s from a]; exact ⟨g, c⟩
  | k + 1, _, ⟨s1, z, a1, a2, _⟩ => ⟨ordA_good (runO_good g c k a1).1 a2, ordA_sz (runO_good g c k a1).1 (runO_good g c k a1).2 a2⟩
def runE (Q : Int → qD) (N : Int) (s : Int → Int) (z : Int) (s2 : Int → Int) : Prop := (0 ≤ z ∧ z ≤ N) ∧ runO Q s z.toNat s2 ∧ (z = N ∨ ∃ y s3, O_ord s2 (Q z) y s3 ∧ y < 0)
theorem runE_no {Q : Int → qD} {N : Int} {s s2 s3 : Int → Int} {z y : Int} (a : runE Q N s z s2) (c : runE Q N s y s3) (h : z < y) : False := by
  obtain ⟨a1, a2, a3⟩ := a
  obtain ⟨c1, c2, _⟩ := c
  have e : y.toNat = z.toNat + 1 + (y.toNat - (z.toNat + 1)) := by omega
  rw [e] at c2
  obtain ⟨s4, s5, x, b1, b2, b3⟩ := runO_le _ c2
  rw [show ((z.toNat : Nat) : Int) = z by omega] at b2
  have e2 := runO_fn _ a2 b1
  subst e2
  rcases a3 with a3 | ⟨w, s6, d1, d2⟩
  · omega
  · have := (ordA_fn d1 b2).1
    omega
theorem runE_fn {Q : Int → qD} {N : Int} {s s2 s3 : Int → Int} {z y : Int} (a : runE Q N s z s2) (c : runE Q N s y s3) : z = y ∧ s2 = s3 := by
  rcases Int.lt_trichotomy z y with w | w | w
  · exact (runE_no a c w).elim
  · subst w; exact ⟨rfl, runO_fn _ a.2.1 c.2.1⟩
  · exact (runE_no c a w).elim
def noF (m : Int) (P : Int → Int) : Prop := runC P m.toNat ∧ endP (runD P m.toNat)
def O_carry (st : qS) (z : Int) (st2 : qS) : Prop := (¬ noF st.2.1.1 st.2.1.2 ∧ z = -3 ∧ st2 = st) ∨ (noF st.2.1.1 st.2.1.2 ∧ ∃ s2, runE (allO st.2.1.2 st.2.1.1).2 (allO st.2.1.2 st.2.1.1).1 st.1 z s2 ∧ st2 = (s2, (0, st.2.1.2), hrec st.2.2.1 st.1, st.2.2.2))
theorem O_carry_fn {st st2 st3 : qS} {z y : Int} (a : O_carry st z st2) (c : O_carry st y st3) : z = y ∧ st2 = st3 := by
  rcases a with ⟨a1, a2, a3⟩ | ⟨a1, s2, a2, a3⟩ <;> rcases c with ⟨c1, c2, c3⟩ | ⟨c1, s3, c2, c3⟩
  · exact ⟨by omega, by rw [a3, c3]⟩
  · exact absurd c1 a1
  · exact absurd a1 c1
  · have e := runE_fn a2 c2
    exact ⟨e.1, by rw [a3, c3, e.2]⟩
theorem O_fault_no {m : Int} {P : Int → Int} {z : Int} (hm : 0 ≤ m) (o : O_fault m P z) : (z = -6 ↔ noF m P) ∧ (z = -6 ∨ 0 ≤ z) := by
  rcases o with ⟨a1, a2, a3⟩ | ⟨a1, a2, a3⟩ | ⟨a1, a2, a3, a4⟩
  · exact ⟨⟨fun _ => ⟨a2, a3⟩, fun _ => a1⟩, by omega⟩
  · exact ⟨⟨fun w => by omega, fun w => absurd w.2 a3⟩, by omega⟩
  · exact ⟨⟨fun w => by omega, fun w => (O_fault_lt (m := m) a1 a2 a4 w.1).elim⟩, by omega⟩
def O_undo (st : qS) (z : Int) (st2 : qS) : Prop := (st.2.2.1.1 = 0 ∧ z = -5 ∧ st2 = st) ∨ (0 < st.2.2.1.1 ∧ z = st.2.2.1.1 - 1 ∧ st2 = (st.2.2.1.2 (st.2.2.1.1 - 1), st.2.1, (st.2.2.1.1 - 1, st.2.2.1.2), st.2.2.2))
def O_save (st : qS) (k z : Int) (st2 : qS) : Prop := (¬ (0 ≤ k ∧ k ≤ 1) ∧ z = -2 ∧ st2 = st) ∨ ((0 ≤ k ∧ k ≤ 1) ∧ z = st.1 5 ∧ st2 = (st.1, st.2.1, st.2.2.1, (sset st.2.2.2.1 k 1, fun i => if i = k then st.1 else st.2.2.2.2 i)))
def O_restore (st : qS) (k z : Int) (st2 : qS) : Prop := (¬ (0 ≤ k ∧ k ≤ 1) ∧ z = -2 ∧ st2 = st) ∨ ((0 ≤ k ∧ k ≤ 1) ∧ st.2.2.2.1 k ≠ 1 ∧ z = -5 ∧ st2 = st) ∨ ((0 ≤ k ∧ k ≤ 1) ∧ st.2.2.2.1 k = 1 ∧ z = st.2.2.2.2 k 5 ∧ st2 = chg st z (st.2.2.2.2 k))
theorem O_undo_fn {st st2 st3 : qS} {z y : Int} (a : O_undo st z st2) (c : O_undo st y st3) : z = y ∧ st2 = st3 := by
  rcases a with ⟨a1, a2, a3⟩ | ⟨a1, a2, a3⟩ <;> rcases c with ⟨c1, c2, c3⟩ | ⟨c1, c2, c3⟩ <;> first | (exfalso; omega) | exact ⟨by omega, a3.trans c3.symm⟩
theorem O_save_fn {st st2 st3 : qS} {k z y : Int} (a : O_save st k z st2) (c : O_save st k y st3) : z = y ∧ st2 = st3 := by
  rcases a with ⟨a1, a2, a3⟩ | ⟨a1, a2, a3⟩ <;> rcases c with ⟨c1, c2, c3⟩ | ⟨c1, c2, c3⟩ <;> first | (exfalso; omega) | exact ⟨by omega, a3.trans c3.symm⟩
theorem O_restore_fn {st st2 st3 : qS} {k z y : Int} (a : O_restore st k z st2) (c : O_restore st k y st3) : z = y ∧ st2 = st3 := by
  rcases a with ⟨a1, a2, a3⟩ | ⟨a1, a2, a3, a4⟩ | ⟨a1, a2, a3, a4⟩ <;> rcases c with ⟨c1, c2, c3⟩ | ⟨c1, c2, c3, c4⟩ | ⟨c1, c2, c3, c4⟩ <;> first | (exfalso; omega) | exact ⟨by omega, a3.trans c3.symm⟩ | exact ⟨by omega, a4.trans c4.symm⟩ | exact ⟨a3.trans c3.symm, by rw [a4, c4, a3, c3]⟩
theorem runO_s {Q : Int → qD} {s sx s2 : Int → Int} {i y : Int} (h0 : 0 ≤ i) (a : runO Q s i.toNat sx) (o : O_ord sx (Q i) y s2) (hy : 0 ≤ y) : runO Q s (i + 1).toNat s2 := by
  rw [show (i + 1).toNat = i.toNat + 1 by omega]
  exact ⟨sx, y, a, by rw [show ((i.toNat : Nat) : Int) = i by omega]; exact o, hy⟩
theorem ordS_open {P : Int → Int} : ∀ i : Nat, runC P i → ∀ x, 0 ≤ x → x < (ordS P i).1 → openP ((ordS P i).2 x).1
  | 0, _, x, h0, h1 => by have h1 : x < 0 := h1; omega
  | i + 1, c, x, h0, h1 => by
    have ih := ordS_open i (fun k hk => c k (by omega))
    by_cases q : P (i : Int) = 59
    · have e : ordS P (i + 1) = ((ordS P i).1 + 1, fun x => if x = (ordS P i).1 then runD P i else (ordS P i).2 x) := if_pos q
      rw [e] at h1 ⊢
      have h1 : x < (ordS P i).1 + 1 := h1
      show openP (if x = (ordS P i).1 then runD P i else (ordS P i).2 x).1
      by_cases w : x = (ordS P i).1
      · rw [if_pos w]
        have t := c i (Nat.lt_succ_self i)
        rw [q] at t
        have rg := runD_RG (P := P) i (fun k hk => c k (by omega))
        have n0 : (runD P i).1 ≠ 0 := by
          rcases t with ⟨_, t⟩ | ⟨t, _⟩ | ⟨t, _⟩
          · unfold openP at t; omega
          · exact t
          · exact t
        exact rg.1.resolve_left n0
      · rw [if_neg w]; exact ih x h0 (by omega)
    · have e : ordS P (i + 1) = ordS P i := if_neg q
      rw [e] at h1 ⊢
      exact ih x h0 h1
theorem allO_open {P : Int → Int} {m : Int} (nf : noF m P) {x : Int} (h0 : 0 ≤ x) (h1 : x < (allO P m).1) : openP ((allO P m).2 x).1 := by
  have h1 : x < (ordS P m.toNat).1 + 1 := h1
  show openP (if x = (ordS P m.toNat).1 then runD P m.toNat else (ordS P m.toNat).2 x).1
  by_cases w : x = (ordS P m.toNat).1
  · rw [if_pos w]; exact (runD_RG _ nf.1).1.resolve_left nf.2.1
  · rw [if_neg w]; exact ordS_open _ nf.1 x h0 (by omega)
theorem IM.carry {h h0 hr h2 h3 : qH} {M : Int} {st : qS} {s2 : Int → Int} (c : IM h M st) (f1 : FS M h h0) (hr1 : IMh hr M (hrec st.2.2.1 st.1)) (fr : FRec M h0 hr) (e : h2 = hset hr M 7 0) (fx : FX M h2 h3) (d : IMs h3 M s2) : IM h3 M (s2, (0, st.2.1.2), hrec st.2.2.1 st.1, st.2.2.2) ∧ FR M 16 h h3 := by
  have e7 : ∀ x y, x ≠ M + 1 → ¬ (x = M ∧ y = 7) → h3 x y = hr x y := fun x y w w2 => by rw [fx _ _ w, e, hset_ne _ _ (by omega)]
  have e8 : ∀ x y, (x < M ∨ M + 16 ≤ x ∨ (M + 3 ≤ x ∧ x ≤ M + 5)) → h3 x y = h x y := fun x y w => by
    rw [e7 _ _ (by omega) (by omega), fr _ _ (by omega) (by omega), f1 _ _ (by omega)]
  exact ⟨⟨d, ⟨by rw [fx _ _ (by omega), e, hset_same], fun k k1 k2 => by have k2 : k < 0 := k2; omega⟩, ⟨(e7 _ _ (by omega) (by omega)).trans hr1.1, fun i a w j a2 d2 => (e7 _ _ (by omega) (by omega)).trans (hr1.2 i a w j a2 d2)⟩, fun k a w => ⟨(e8 _ _ (by omega)).trans (c.2.2.2 k a w).1, fun w2 j a2 d2 => (e8 _ _ (by omega)).trans ((c.2.2.2 k a w).2 w2 j a2 d2)⟩⟩, fun x y w => e8 x y (by omega)⟩
/-- the state of a new object -/
def st0 : qS := (fun j => if j = 0 then 32 else if j = 1 then 10 else if 6 ≤ j ∧ j < 66 then 4 else if 66 ≤ j ∧ j < 126 then 60 else 0, (0, fun _ => 0), (0, fun _ _ => 0), (fun _ => 0, fun _ _ => 0))
