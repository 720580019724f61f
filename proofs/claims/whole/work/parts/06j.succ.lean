/-! one more step -/
theorem gathP_succ (s : Int → Int) (T : qT) (pl : Int) (U : qU) {j : Int} (h : 0 ≤ j) : gathP s T pl (j + 1).toNat U = gath1 s T pl j (gathP s T pl j.toNat U) := by
  rw [show (j + 1).toNat = j.toNat + 1 by omega]
  show gath1 s T pl ((j.toNat : Nat) : Int) _ = _
  rw [show ((j.toNat : Nat) : Int) = j by omega]
theorem gathA_succ (s : Int → Int) (T : qT) {i : Int} (h : 0 ≤ i) : gathA s T (i + 1).toNat = gathP s T i (s 5).toNat (gathA s T i.toNat) := by
  rw [show (i + 1).toNat = i.toNat + 1 by omega]
  show gathP s T ((i.toNat : Nat) : Int) _ _ = _
  rw [show ((i.toNat : Nat) : Int) = i by omega]
theorem lookN_succ (s : Int → Int) (T : qT) (U : qU) {k : Int} (h : 0 ≤ k) : lookN s T U (k + 1).toNat = look1 s T U k (lookN s T U k.toNat) := by
  rw [show (k + 1).toNat = k.toNat + 1 by omega]
  show look1 s T U ((k.toNat : Nat) : Int) _ = _
  rw [show ((k.toNat : Nat) : Int) = k by omega]
theorem gath_room2 {s : Int → Int} (g : SG s) {T : qT} (e : T = nightT s) {i j : Int} (hi : 0 ≤ i ∧ i < T.1) (hj : 0 ≤ j ∧ j < s 5) (c : comesP s T j i) : (gathP s T i j.toNat (gathA s T i.toNat)).1 + 1 ≤ 40 := by
  subst e
  have ei : ((i.toNat : Nat) : Int) = i := by omega
  have ej : ((j.toNat : Nat) : Int) = j := by omega
  have h := gath_room g (pl := i.toNat) (t := j.toNat) (by omega) (by omega) (by rw [ei, ej]; exact c)
  rw [ei] at h
  exact h
