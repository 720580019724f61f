/-! Bits of a set; what a cut would do; the night's length by places -/
def bitP (z : Int) (i : Nat) : Prop := (Int32.ofInt z).toBitVec.getLsbD i = true
theorem bitP_0 (i : Nat) : ¬ bitP 0 i := by
  intro h
  have : (Int32.ofInt 0).toBitVec.getLsbD i = false := by
    show (0#32).getLsbD i = false
    exact BitVec.getLsbD_zero
  unfold bitP at h
  rw [this] at h
  exact absurd h (by decide)
theorem bitP_or (x y : Int) (i : Nat) : bitP (b_or x y) i ↔ bitP x i ∨ bitP y i := by
  unfold bitP b_or
  rw [q_toI, Int32.toBitVec_or, BitVec.getLsbD_or, Bool.or_eq_true]
theorem bitP_and (x y : Int) (i : Nat) : bitP (b_and x y) i ↔ bitP x i ∧ bitP y i := by
  unfold bitP b_and
  rw [q_toI, Int32.toBitVec_and, BitVec.getLsbD_and, Bool.and_eq_true]
theorem bitP_not (x : Int) {i : Nat} (h : i < 32) : bitP (b_xor x (-1)) i ↔ ¬ bitP x i := by
  unfold bitP b_xor
  have e : (Int32.ofInt (-1)).toBitVec.getLsbD i = true := by
    have : ∀ j : Fin 32, (Int32.ofInt (-1)).toBitVec.getLsbD j.val = true := by decide +kernel
    exact this ⟨i, h⟩
  rw [q_toI, Int32.toBitVec_xor, BitVec.getLsbD_xor, e]
  cases (Int32.ofInt x).toBitVec.getLsbD i <;> simp
theorem bitP_shl {t : Int} (ht : 0 ≤ t ∧ t < 32) {i : Nat} (h : i < 32) : bitP (b_shl 1 t) i ↔ (i : Int) = t := by
  unfold bitP b_shl
  rw [q_toI]
  have h1 : ∀ a j : Fin 32, (Int32.ofInt 1 <<< (Int32.ofInt ((a.val : Nat) : Int) &&& 31)).toBitVec.getLsbD j.val = decide (j = a) := by decide +kernel
  have h2 := h1 ⟨t.toNat, by omega⟩ ⟨i, h⟩
  have e : ((t.toNat : Nat) : Int) = t := by omega
  simp only [e] at h2
  rw [h2, decide_eq_true_iff, Fin.mk.injEq]
  omega
theorem bit_ext {x y : Int} (hx : q_r32 x) (hy : q_r32 y) (h : ∀ i : Nat, i < 32 → (bitP x i ↔ bitP y i)) : x = y := by
  refine (q_eq32 hx hy).mp (Int32.toBitVec_inj.mp (BitVec.eq_of_getLsbD_eq fun i hi => ?_))
  have := h i hi
  unfold bitP at this
  cases a : (Int32.ofInt x).toBitVec.getLsbD i <;> cases c : (Int32.ofInt y).toBitVec.getLsbD i <;> simp_all
/-- a title shows -/
def shwP (s : Int → Int) (t : Int) : Prop := 0 < shcN (showU s) (showW s) t (showU s).1.toNat
def lostP (s s2 : Int → Int) (z : Int) : Prop := q_r32 z ∧ ∀ i : Nat, i < 32 → (bitP z i ↔ (i : Int) < s 5 ∧ shwP s (i : Int) ∧ ¬ shwP s2 (i : Int))
def O_cutIf (s : Int → Int) (a b w z : Int) : Prop := (¬ (barP s a ∧ barP s b) ∧ z = -1) ∨ ((barP s a ∧ barP s b) ∧ (b < a ∨ ¬ (0 ≤ w ∧ w ≤ 1)) ∧ z = -2) ∨ ((barP s a ∧ barP s b) ∧ (a ≤ b ∧ 0 ≤ w ∧ w ≤ 1) ∧ s 3 = 4 ∧ z = -4) ∨
  ((barP s a ∧ barP s b) ∧ (a ≤ b ∧ 0 ≤ w ∧ w ≤ 1) ∧ s 3 ≠ 4 ∧ ((w = 0 ∧ z = (nightT s).2.1 - (nightT (U_span s 134 3 a b)).2.1) ∨ (w = 1 ∧ lostP s (U_span s 134 3 a b) z)))
theorem lostP_fn {s s2 : Int → Int} {z z2 : Int} (a : lostP s s2 z) (c : lostP s s2 z2) : z = z2 := bit_ext a.1 c.1 fun i hi => (a.2 i hi).trans (c.2 i hi).symm
theorem O_cutIf_fn {s : Int → Int} {a b w z z2 : Int} (x : O_cutIf s a b w z) (y : O_cutIf s a b w z2) : z = z2 := by
  rcases x with ⟨x1, x2⟩ | ⟨x1, x2, x3⟩ | ⟨x1, x2, x3, x4⟩ | ⟨x1, x2, x3, x4⟩
  · rcases y with ⟨y1, y2⟩ | ⟨y1, y2, y3⟩ | ⟨y1, y2, y3, y4⟩ | ⟨y1, y2, y3, y4⟩
    · omega
    · exact absurd y1 x1
    · exact absurd y1 x1
    · exact absurd y1 x1
  · rcases y with ⟨y1, y2⟩ | ⟨y1, y2, y3⟩ | ⟨y1, y2, y3, y4⟩ | ⟨y1, y2, y3, y4⟩
    · exact absurd x1 y1
    · omega
    · omega
    · omega
  · rcases y with ⟨y1, y2⟩ | ⟨y1, y2, y3⟩ | ⟨y1, y2, y3, y4⟩ | ⟨y1, y2, y3, y4⟩
    · exact absurd x1 y1
    · omega
    · omega
    · omega
  · rcases y with ⟨y1, y2⟩ | ⟨y1, y2, y3⟩ | ⟨y1, y2, y3, y4⟩ | ⟨y1, y2, y3, y4⟩
    · exact absurd x1 y1
    · omega
    · omega
    · rcases x4 with ⟨x4, x5⟩ | ⟨x4, x5⟩ <;> rcases y4 with ⟨y4, y5⟩ | ⟨y4, y5⟩
      · omega
      · omega
      · omega
      · exact lostP_fn x5 y5
/-- a title that shows is one of the score's -/
theorem shcN_pos {U : qU} {W : qW} {t : Int} : ∀ k : Nat, 0 < shcN U W t k → ∃ j : Int, 0 ≤ j ∧ j < (k : Int) ∧ U.2.1 j = t
  | 0, h => absurd h (by show ¬ (0 : Int) < 0; omega)
  | k + 1, h => by
    by_cases q : U.2.1 (k : Int) = t ∧ W.1 (k : Int) = 0
    · exact ⟨(k : Int), by omega, by omega, q.1⟩
    · have e : shcN U W t (k + 1) = shcN U W t k + (if U.2.1 (k : Int) = t ∧ W.1 (k : Int) = 0 then 1 else 0) := rfl
      rw [e, if_neg q] at h
      obtain ⟨j, j1, j2, j3⟩ := shcN_pos (U := U) (W := W) (t := t) k (by omega)
      exact ⟨j, j1, by omega, j3⟩
theorem shwP_lt {s : Int → Int} (g : SG s) {t : Int} (h : shwP s t) : 0 ≤ t ∧ t < s 5 := by
  obtain ⟨j, j1, j2, j3⟩ := shcN_pos _ h
  have := ((show_UG g).2 j j1 (by have := (show_le g).1; omega)).1
  omega
/-- the cells of cuts that are not there are 0 -/
def SZ (s : Int → Int) : Prop := ∀ j, 134 + 2 * s 3 ≤ j → j < 142 → s j = 0
/-- all bars of a night are the score's -/
def TB (s : Int → Int) (T : qT) : Prop := 0 ≤ T.1 ∧ ∀ k, 0 ≤ k → k < T.1 → 0 ≤ T.2.2.1 k ∧ T.2.2.1 k < s 0
theorem sing1_TB {s : Int → Int} {b : Int} (hb : 0 ≤ b ∧ b < s 0) {T : qT} (t : TB s T) : TB s (sing1 s b T) := by
  by_cases h : cutP s b
  · rw [sing1_y h]; exact t
  · rw [sing1_n h]
    refine ⟨by have := t.1; show 0 ≤ T.1 + 1; omega, fun k h1 h2 => ?_⟩
    have h2 : k < T.1 + 1 := h2
    show 0 ≤ sset T.2.2.1 T.1 b k ∧ sset T.2.2.1 T.1 b k < s 0
    rw [sset_ap]
    by_cases e : k = T.1
    · rw [if_pos e]; exact hb
    · rw [if_neg e]; exact t.2 k h1 (by omega)
theorem singR_TB {s : Int → Int} {a : Int} {T : qT} (t : TB s T) : ∀ k : Nat, 0 ≤ a → a + (k : Int) ≤ s 0 → TB s (singR s a k T)
  | 0, _, _ => t
  | k + 1, h0, h => sing1_TB ⟨by omega, by omega⟩ (singR_TB t k h0 (by omega))
theorem singTo_TB {s : Int → Int} (g : SG s) : ∀ j : Nat, (j : Int) ≤ s 0 → TB s (singTo s j)
  | 0, _ => ⟨Int.le_refl _, fun k h1 h2 => by have h2 : k < 0 := h2; omega⟩
  | j + 1, h => by
    have h1 := singTo_TB g j (by omega)
    have h4 : 0 ≤ bk s (j : Int) ∧ bk s (j : Int) ≤ (j : Int) + 1 := by rcases bk_cases g (j : Int) with ⟨q1, -⟩ | ⟨k, q1, q2, q3, q4, q5, q6⟩ <;> omega
    exact singR_TB (sing1_TB ⟨by omega, by omega⟩ h1) _ h4.1 (by omega)
theorem night_TB {s : Int → Int} (g : SG s) : TB s (nightT s) := singTo_TB g _ (by have := g.n; omega)
/-- the sum over the first places -/
def plN (s : Int → Int) (P : Int → Int) (x : Int) : Nat → Int
  | 0 => 0
  | k + 1 => plN s P x k + 600 * s (6 + P (k : Int)) / x
theorem plN_s (s P : Int → Int) (x : Int) {i : Int} (h : 0 ≤ i) : plN s P x (i + 1).toNat = plN s P x i.toNat + 600 * s (6 + P i) / x := by
  rw [show (i + 1).toNat = i.toNat + 1 by omega]
  show plN s P x i.toNat + 600 * s (6 + P ((i.toNat : Nat) : Int)) / x = _
  rw [show ((i.toNat : Nat) : Int) = i by omega]
def ecN (s : Int → Int) (P : Int → Int) (x : Int) (n : Nat) : Nat → Int
  | 0 => 0
  | b + 1 => ecN s P x n b + cntN P (b : Int) n * (600 * s (6 + (b : Int)) / x)
theorem ecN_0 (s P : Int → Int) (x : Int) : ∀ m : Nat, ecN s P x 0 m = 0
  | 0 => rfl
  | m + 1 => by
    show ecN s P x 0 m + 0 * _ = 0
    rw [ecN_0 s P x m]; omega
theorem ecN_succ (s P : Int → Int) (x : Int) (n : Nat) : ∀ m : Nat, ecN s P x (n + 1) m = ecN s P x n m + (if 0 ≤ P (n : Int) ∧ P (n : Int) < (m : Int) then 600 * s (6 + P (n : Int)) / x else 0)
  | 0 => by rw [if_neg (by omega)]; rfl
  | m + 1 => by
    have h := ecN_succ s P x n m
    show ecN s P x (n + 1) m + (cntN P (m : Int) n + (if P (n : Int) = (m : Int) then 1 else 0)) * _ = ecN s P x n m + cntN P (m : Int) n * _ + _
    rw [h, Int.add_mul]
    by_cases q : P (n : Int) = (m : Int)
    · rw [if_pos q, if_neg (by omega), if_pos (by omega), q, Int.one_mul]; omega
    · rw [if_neg q]
      by_cases q2 : 0 ≤ P (n : Int) ∧ P (n : Int) < (m : Int)
      · rw [if_pos q2, if_pos (by omega)]; omega
      · rw [if_neg q2, if_neg (by omega)]; omega
theorem plN_ec {s P : Int → Int} {x : Int} {m : Nat} : ∀ n : Nat, (∀ k : Int, 0 ≤ k → k < (n : Int) → 0 ≤ P k ∧ P k < (m : Int)) → plN s P x n = ecN s P x n m
  | 0, _ => (ecN_0 s P x m).symm
  | n + 1, h => by
    have h1 := plN_ec (s := s) (x := x) n (fun k a c => h k a (by omega))
    rw [ecN_succ, if_pos (h (n : Int) (by omega) (by omega)), ← h1]
    rfl
theorem endN_ec (s : Int → Int) (T : qT) (x : Int) : ∀ m : Nat, endN s T x m = ecN s T.2.2.1 x T.1.toNat m
  | 0 => rfl
  | m + 1 => by
    have h := endN_ec s T x m
    show endN s T x m + _ = ecN s T.2.2.1 x T.1.toNat m + _
    rw [h]
theorem plN_end {s : Int → Int} (g : SG s) (x : Int) : plN s (nightT s).2.2.1 x (nightT s).1.toNat = endN s (nightT s) x (s 0).toNat := by
  have gn := g.n
  have t := night_TB g
  rw [endN_ec]
  exact plN_ec _ (fun k a c => by have := t.2 k a (by omega); omega)
theorem plN_in {s P : Int → Int} (g : SG s) {x : Int} (hx : 1 ≤ x) : ∀ n : Nat, (∀ k : Int, 0 ≤ k → k < (n : Int) → 0 ≤ P k ∧ P k < 60) → 0 ≤ plN s P x n ∧ plN s P x n ≤ 7200 * (n : Int)
  | 0, _ => by show (0 : Int) ≤ 0 ∧ (0 : Int) ≤ 7200 * 0; omega
  | n + 1, h => by
    have h1 := plN_in g hx n (fun k a c => h k a (by omega))
    have h2 := h (n : Int) (by omega) (by omega)
    have h3 := g.b (P (n : Int)) h2.1 h2.2
    have h4 : 0 ≤ 600 * s (6 + P (n : Int)) / x := Int.ediv_nonneg (by omega) (by omega)
    have h5 : 600 * s (6 + P (n : Int)) / x ≤ 600 * s (6 + P (n : Int)) := Int.ediv_le_self _ (by omega)
    show 0 ≤ plN s P x n + _ ∧ plN s P x n + _ ≤ 7200 * ((n : Int) + 1)
    omega
/-- a higher tempo never makes the night longer -/
theorem endN_mono {s : Int → Int} (g : SG s) {T : qT} {x y : Int} (hx : 1 ≤ x) (hy : x ≤ y) : ∀ m : Nat, (m : Int) ≤ 60 → endN s T y m ≤ endN s T x m
  | 0, _ => Int.le_refl _
  | m + 1, h => by
    have h1 := endN_mono g (T := T) hx hy m (by omega)
    have h2 := g.b (m : Int) (by omega) (by omega)
    have h3 := (fstN_zero (P := T.2.2.1) (b := (m : Int)) T.1.toNat).2.1
    have h4 : 600 * s (6 + (m : Int)) / y ≤ 600 * s (6 + (m : Int)) / x := by
      apply Int.le_ediv_of_mul_le (by omega)
      have h6 : 0 ≤ 600 * s (6 + (m : Int)) / y := Int.ediv_nonneg (by omega) (by omega)
      have h7 := Int.mul_le_mul_of_nonneg_left hy h6
      have h8 := Int.ediv_mul_le (600 * s (6 + (m : Int))) (b := y) (by omega)
      omega
    have h5 := Int.mul_le_mul_of_nonneg_left h4 h3
    show endN s T y m + _ ≤ endN s T x m + _
    omega
