/-! What the class's Night holds -/
def CN (h : qH) (q : Int) (T : qT) : Prop := h q 6 = T.1 ∧ h q 7 = T.2.1 ∧ (∀ k, 0 ≤ k → k < T.1 → h (q + 1) k = T.2.2.1 k ∧ h (q + 2) k = T.2.2.2 k) ∧
  ∀ b, 0 ≤ b → b < 60 → h (q + 3) b = cntN T.2.2.1 b T.1.toNat ∧ h (q + 4) b = fstN T.2.2.1 b T.1.toNat ∧ h (q + 5) b = lstN T.2.2.1 b T.1.toNat
def bOE (T : qT) (a : Int) : Int := if a < T.1 then T.2.2.2 a else T.2.1
theorem hset_in {A B : qH} {p k v a b : Int} (e : A a b = B a b) : hset A p k v a b = hset B p k v a b := by rw [hset_ap, hset_ap, e]
theorem CN.fr {h h2 : qH} {q : Int} {T : qT} (c : CN h q T) (hr : ∀ x y, q ≤ x → x < q + 6 → h2 x y = h x y) : CN h2 q T := by
  obtain ⟨c1, c2, c3, c4⟩ := c
  refine ⟨by rw [hr _ _ (by omega) (by omega)]; exact c1, by rw [hr _ _ (by omega) (by omega)]; exact c2, fun k h1 h2 => ?_, fun b h1 h2 => ?_⟩
  · rw [hr _ _ (by omega) (by omega), hr _ _ (by omega) (by omega)]; exact c3 k h1 h2
  · rw [hr _ _ (by omega) (by omega), hr _ _ (by omega) (by omega), hr _ _ (by omega) (by omega)]; exact c4 b h1 h2
theorem CN.sing {h h1 h2 : qH} {q a z : Int} {T : qT} {s : Int → Int} (c : CN h q T) (ha : 0 ≤ a ∧ a < 60) (t : TG T) (e1 : (h (q + 3) a = 0 ∧ h1 = hset h (q + 4) a T.1) ∨ (h (q + 3) a ≠ 0 ∧ h1 = h))
    (e2 : h2 = hset (hset (hset (hset (hset (hset h1 (q + 3) a (h (q + 3) a + 1)) (q + 5) a T.1) (q + 1) T.1 a) (q + 2) T.1 T.2.1) q 6 (T.1 + 1)) q 7 (T.2.1 + z)) (hz : z = tenP s a) (hn : ¬ cutP s a) : CN h2 q (sing1 s a T) ∧ FR q 6 h h2 := by
  rw [sing1_n hn, ← hz]
  obtain ⟨c1, c2, c3, c4⟩ := c
  have t0 : 0 ≤ T.1 := t.1
  have d1 : ∀ x y, (x ≠ q + 4 ∨ y ≠ a) → h1 x y = h x y := fun x y w => by
    rcases e1 with ⟨_, e⟩ | ⟨_, e⟩
    · rw [e]; exact hset_ne _ _ w
    · rw [e]
  have hsu : (T.1 + 1).toNat = T.1.toNat + 1 := by omega
  have hto : ((T.1.toNat : Nat) : Int) = T.1 := by omega
  refine ⟨⟨by rw [e2, hset_neb _ _ _ (by decide), hset_same], by rw [e2, hset_same], fun k k1 k2 => ?_, fun b b1 b2 => ?_⟩, fun x y w => ?_⟩
  · have k2 : k < T.1 + 1 := k2
    have r1 : h2 (q + 1) k = hset h1 (q + 1) T.1 a (q + 1) k := by
      rw [e2, hset_nea _ _ _ (by omega), hset_nea _ _ _ (by omega), hset_nea _ _ _ (by omega)]; exact hset_in (by rw [hset_nea _ _ _ (by omega), hset_nea _ _ _ (by omega)])
    have r2 : h2 (q + 2) k = hset h1 (q + 2) T.1 T.2.1 (q + 2) k := by
      rw [e2, hset_nea _ _ _ (by omega), hset_nea _ _ _ (by omega)]; exact hset_in (by rw [hset_nea _ _ _ (by omega), hset_nea _ _ _ (by omega), hset_nea _ _ _ (by omega)])
    show h2 (q + 1) k = sset T.2.2.1 T.1 a k ∧ h2 (q + 2) k = sset T.2.2.2 T.1 T.2.1 k
    rw [r1, r2]
    by_cases e : k = T.1
    · rw [e, hset_same, hset_same, sset_ap, sset_ap, if_pos rfl, if_pos rfl]; exact ⟨rfl, rfl⟩
    · rw [hset_neb _ _ _ e, hset_neb _ _ _ e, d1 _ _ (by omega), d1 _ _ (by omega), sset_ap, sset_ap, if_neg e, if_neg e]
      exact c3 k k1 (by omega)
  · have r3 : h2 (q + 3) b = hset h1 (q + 3) a (h (q + 3) a + 1) (q + 3) b := by
      rw [e2, hset_nea _ _ _ (by omega), hset_nea _ _ _ (by omega), hset_nea _ _ _ (by omega), hset_nea _ _ _ (by omega), hset_nea _ _ _ (by omega)]
    have r4 : h2 (q + 4) b = h1 (q + 4) b := by
      rw [e2, hset_nea _ _ _ (by omega), hset_nea _ _ _ (by omega), hset_nea _ _ _ (by omega), hset_nea _ _ _ (by omega), hset_nea _ _ _ (by omega), hset_nea _ _ _ (by omega)]
    have r5 : h2 (q + 5) b = hset h1 (q + 5) a T.1 (q + 5) b := by
      rw [e2, hset_nea _ _ _ (by omega), hset_nea _ _ _ (by omega), hset_nea _ _ _ (by omega), hset_nea _ _ _ (by omega)]; exact hset_in (by rw [hset_nea _ _ _ (by omega)])
    obtain ⟨b3, b4, b5⟩ := c4 b b1 b2
    obtain ⟨x1, x2, x3⟩ := cntN_ext (P := sset T.2.2.1 T.1 a) (Q := T.2.2.1) (b := b) T.1.toNat (fun j j1 j2 => by rw [sset_ap, if_neg (by omega)])
    show h2 (q + 3) b = cntN (sset T.2.2.1 T.1 a) b (T.1 + 1).toNat ∧ h2 (q + 4) b = fstN (sset T.2.2.1 T.1 a) b (T.1 + 1).toNat ∧ h2 (q + 5) b = lstN (sset T.2.2.1 T.1 a) b (T.1 + 1).toNat
    rw [hsu, r3, r4, r5]
    unfold cntN fstN lstN
    rw [x1, x2, x3, hto, sset_ap, if_pos rfl]
    have z0 := fstN_zero (P := T.2.2.1) (b := b) T.1.toNat
    by_cases e : b = a
    · subst e
      rw [hset_same, hset_same, if_pos rfl, if_pos rfl, if_pos rfl, b3]
      refine ⟨rfl, ?_, rfl⟩
      rcases e1 with ⟨e0, e⟩ | ⟨e0, e⟩
      · rw [b3] at e0
        rw [e, hset_same, if_pos (z0.1.mp e0)]
      · rw [b3] at e0
        rw [e, b4, if_neg (fun q => e0 (z0.1.mpr q))]
    · rw [hset_neb _ _ _ e, hset_neb _ _ _ e, d1 _ _ (by omega), d1 _ _ (by omega), d1 _ _ (by omega), b3, b4, b5]
      have e' : ¬ a = b := fun w => e w.symm
      simp only [if_neg e']
      refine ⟨by omega, ?_, trivial⟩
      by_cases w : fstN T.2.2.1 b T.1.toNat = -6
      · rw [if_pos w, w]
      · rw [if_neg w]
  · rw [e2, hset_nea _ _ _ (by omega), hset_nea _ _ _ (by omega), hset_nea _ _ _ (by omega), hset_nea _ _ _ (by omega), hset_nea _ _ _ (by omega), hset_nea _ _ _ (by omega), d1 _ _ (by omega)]
theorem singTo_succ (s : Int → Int) {j : Int} (h : 0 ≤ j) : singTo s (j + 1).toNat = singR s (bk s j) (j + 1 - bk s j).toNat (sing1 s j (singTo s j.toNat)) := by
  have e : (j + 1).toNat = j.toNat + 1 := by omega
  rw [e]
  show singB s ((j.toNat : Nat) : Int) (singTo s j.toNat) = _
  have e2 : ((j.toNat : Nat) : Int) = j := by omega
  rw [e2]
  rfl
theorem singR_succ (s : Int → Int) (a : Int) (T : qT) {v : Int} (h : a ≤ v) : singR s a (v + 1 - a).toNat T = sing1 s v (singR s a (v - a).toNat T) := by
  have e : (v + 1 - a).toNat = (v - a).toNat + 1 := by omega
  rw [e]
  show sing1 s (a + (((v - a).toNat : Nat) : Int)) _ = _
  have e2 : a + (((v - a).toNat : Nat) : Int) = v := by omega
  rw [e2]
theorem CN.zero {h : qH} {q : Int} {s : Int → Int} (h6 : h q 6 = 0) (h7 : h q 7 = 0) (hb : ∀ b, 0 ≤ b → b < 60 → h (q + 3) b = 0 ∧ h (q + 4) b = -6 ∧ h (q + 5) b = -6) : CN h q (singTo s 0) :=
  ⟨h6, h7, fun k h1 h2 => by have h2 : k < 0 := h2; omega, hb⟩
/-- whether a time is within a blackout -/
def darkP (s : Int → Int) (T : qT) (t : Int) : Prop := ∃ k, 0 ≤ k ∧ k < s 4 ∧ s (142 + 2 * k) < T.1 ∧ T.2.2.2 (s (142 + 2 * k)) ≤ t ∧ t < bOE T (s (143 + 2 * k) + 1)
theorem bOE_in {T : qT} (t : TG T) {a : Int} (h : 0 ≤ a) : 0 ≤ bOE T a ∧ bOE T a ≤ T.2.1 := by
  unfold bOE
  split
  · exact t.2.2.2.1 a h (by omega)
  · exact ⟨t.2.1, Int.le_refl _⟩
