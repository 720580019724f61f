/-! one more step -/
theorem gathP_succ (s : Int → Int) (T : qT) (pl : Int) (U : qU) {j : Int} (h : 0 ≤ j) : gathP s T pl (j + 1).toNat U = gath1 s T pl j (gathP s T pl j.toNat U) := by
  rw [show (j + 1).toNat = j.toNat + 1 by omega]
  show gath1 s T pl ((j.toNat : Nat) : Int) _ = _
  rw [show ((j.toNat : Nat) : Int) = j by omega]
theorem gathA_succ (s : Int → Int) (T : qT) {i : Int} (h : 0 ≤ i) : gathA s T (i + 1).toNat = gathP s T i (s 5).toNat (gathA s T i.toNat) := by
  rw [show (i + 1).toNat = i.toNat + 1 by omega]
  show gathP s T ((i.toNat : Nat) : Int) _ _ = _
  rw [show ((i.toNat : Nat) : Int) = i by omega]
theorem lookN_succ (s : Int → Int) (T : qT) (U : qU) {k : Int} (h : 0 ≤ k) : lookN s T U (k + 1).toNat = look1 s T U k (lookN s T U k.toNat) := by
  rw [show (k + 1).toNat = k.toNat + 1 by omega]
  show look1 s T U ((k.toNat : Nat) : Int) _ = _
  rw [show ((k.toNat : Nat) : Int) = k by omega]
theorem gath_room2 {s : Int → Int} (g : SG s) {T : qT} (e : T = nightT s) {i j : Int} (hi : 0 ≤ i ∧ i < T.1) (hj : 0 ≤ j ∧ j < s 5) (c : comesP s T j i) : (gathP s T i j.toNat (gathA s T i.toNat)).1 + 1 ≤ 40 := by
  subst e
  have ei : ((i.toNat : Nat) : Int) = i := by omega
  have ej : ((j.toNat : Nat) : Int) = j := by omega
  have h := gath_room g (pl := i.toNat) (t := j.toNat) (by omega) (by omega) (by rw [ei, ej]; exact c)
  rw [ei] at h
  exact h
theorem lookV_ahead {w sh k : Int} {U : qU} {W : qW} : (lookV w sh U k W).2.2.2 = if (lookV w sh U k W).1 k = 0 then k else W.2.2.2 := by
  unfold lookV
  split
  · show W.2.2.2 = if sset W.1 k 2 k = 0 then k else W.2.2.2
    rw [sset_same, if_neg (by decide)]
  · show k = if sset W.1 k 0 k = 0 then k else W.2.2.2
    rw [sset_same, if_pos rfl]
theorem look1_ahead {s : Int → Int} {T : qT} {U : qU} {k : Int} {W : qW} : (look1 s T U k W).2.2.2 = if (look1 s T U k W).1 k = 0 then k else W.2.2.2 := by
  by_cases h : darkP s T (U.2.2.2.1 k)
  · rw [look1_y h]
    show W.2.2.2 = if sset W.1 k 1 k = 0 then k else W.2.2.2
    rw [sset_same, if_neg (by decide)]
  · rw [look1_n h]
    exact lookV_ahead
/-- the night's length if every bar were at the tempo x -/
def endN (s : Int → Int) (T : qT) (x : Int) : Nat → Int
  | 0 => 0
  | b + 1 => endN s T x b + cntN T.2.2.1 (b : Int) T.1.toNat * (600 * s (6 + (b : Int)) / x)
theorem endN_succ (s : Int → Int) (T : qT) (x : Int) {i : Int} (h : 0 ≤ i) : endN s T x (i + 1).toNat = endN s T x i.toNat + cntN T.2.2.1 i T.1.toNat * (600 * s (6 + i) / x) := by
  rw [show (i + 1).toNat = i.toNat + 1 by omega]
  show endN s T x i.toNat + cntN T.2.2.1 ((i.toNat : Nat) : Int) T.1.toNat * (600 * s (6 + ((i.toNat : Nat) : Int)) / x) = _
  rw [show ((i.toNat : Nat) : Int) = i by omega]
theorem endN_term {s : Int → Int} (g : SG s) {T : qT} (h0 : 0 ≤ T.1) (hT : T.1 ≤ 120) {x b : Int} (hx : 1 ≤ x) (hb : 0 ≤ b ∧ b < 60) : 0 ≤ cntN T.2.2.1 b T.1.toNat * (600 * s (6 + b) / x) ∧ cntN T.2.2.1 b T.1.toNat * (600 * s (6 + b) / x) ≤ 864000 := by
  have h1 := fstN_zero (P := T.2.2.1) (b := b) T.1.toNat
  have h2 := g.b b hb.1 hb.2
  have h3 : 0 ≤ 600 * s (6 + b) / x := Int.ediv_nonneg (by omega) (by omega)
  have h4 : 600 * s (6 + b) / x ≤ 600 * s (6 + b) := Int.ediv_le_self _ (by omega)
  refine ⟨Int.mul_nonneg h1.2.1 h3, ?_⟩
  have h5 := Int.mul_le_mul (show cntN T.2.2.1 b T.1.toNat ≤ 120 by omega) (show 600 * s (6 + b) / x ≤ 7200 by omega) h3 (by decide)
  omega
theorem endN_in {s : Int → Int} (g : SG s) {T : qT} (h0 : 0 ≤ T.1) (hT : T.1 ≤ 120) {x : Int} (hx : 1 ≤ x) : ∀ b : Nat, (b : Int) ≤ 60 → 0 ≤ endN s T x b ∧ endN s T x b ≤ 864000 * (b : Int)
  | 0, _ => ⟨Int.le_refl _, Int.le_refl _⟩
  | b + 1, h => by
    have h1 := endN_in g h0 hT hx b (by omega)
    have h2 := endN_term g h0 hT hx (b := (b : Int)) (by omega)
    unfold endN
    omega
