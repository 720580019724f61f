/-! the characters in a number -/
def uN (c : Int) : Nat := (Int64.ofInt c).toUInt64.toNat
def byt (c : Int) (k : Nat) : Int := ((uN c / 256 ^ k % 256 : Nat) : Int)
def rst (c : Int) (k : Nat) : Int := (UInt64.ofNat (uN c / 256 ^ k)).toInt64.toInt
theorem uN_lt (c : Int) : uN c < 18446744073709551616 := UInt64.toNat_lt _
theorem byt_in (c : Int) (k : Nat) : 0 ≤ byt c k ∧ byt c k ≤ 255 := by unfold byt; omega
theorem shr_q (a : UInt64) (y : Int) (hy : 0 ≤ y ∧ y < 64) : (a >>> ((Int32.ofInt y).toInt64.toUInt64 &&& Int64.toUInt64 63)).toNat = a.toNat / 2 ^ y.toNat := by
  have e : ((Int32.ofInt y).toInt64.toUInt64 &&& Int64.toUInt64 63).toNat = y.toNat := by
    have h : ∀ k : Fin 64, ((Int32.ofInt (k.val : Int)).toInt64.toUInt64 &&& Int64.toUInt64 63).toNat = k.val := by decide +kernel
    have h2 := h ⟨y.toNat, by omega⟩
    have h3 : ((y.toNat : Nat) : Int) = y := by omega
    simp only [h3] at h2
    exact h2
  rw [UInt64.toNat_shiftRight, e, Nat.mod_eq_of_lt (by omega), Nat.shiftRight_eq_div_pow]
theorem rst_lt (c : Int) (k : Nat) : uN c / 256 ^ k < 18446744073709551616 := Nat.lt_of_le_of_lt (Nat.div_le_self _ _) (uN_lt c)
theorem rst_u (c : Int) (k : Nat) : (Int64.ofInt (rst c k)).toUInt64 = UInt64.ofNat (uN c / 256 ^ k) := by
  unfold rst
  rw [Int64.ofInt_toInt]
  rfl
theorem rst_0 {c : Int} (h : q_r64 c) : rst c 0 = c := by
  unfold rst uN
  rw [Nat.pow_zero, Nat.div_one, UInt64.ofNat_toNat]
  show (Int64.ofInt c).toInt = c
  exact Int64.toInt_ofInt_of_le (by unfold q_r64 at h; omega) (by unfold q_r64 at h; omega)
theorem ushr_rst (c : Int) {k : Nat} {y : Int} (hk : k < 8) (hy : y = 8 * (k : Int)) : l_ushr c y = rst c k := by
  unfold l_ushr rst
  congr 2
  apply UInt64.toNat.inj
  rw [shr_q _ _ (by omega), UInt64.toNat_ofNat_of_lt' (rst_lt c k)]
  show uN c / 2 ^ y.toNat = uN c / 256 ^ k
  rw [show y.toNat = 8 * k by omega, Nat.pow_mul]
theorem ushr_8 (c : Int) (k : Nat) : l_ushr (rst c k) 8 = rst c (k + 1) := by
  unfold l_ushr
  rw [rst_u]
  show _ = (UInt64.ofNat (uN c / 256 ^ (k + 1))).toInt64.toInt
  congr 2
  apply UInt64.toNat.inj
  rw [shr_q _ _ (by decide), UInt64.toNat_ofNat_of_lt' (rst_lt c k), UInt64.toNat_ofNat_of_lt' (rst_lt c (k + 1)), Nat.pow_succ, Nat.div_div_eq_div_mul]
  rfl
theorem rst_z (c : Int) (k : Nat) : rst c k = 0 ↔ uN c / 256 ^ k = 0 := by
  constructor
  · intro h
    have h1 := rst_u c k
    rw [h] at h1
    have h2 := congrArg UInt64.toNat h1
    rw [UInt64.toNat_ofNat_of_lt' (rst_lt c k)] at h2
    exact h2.symm
  · intro h
    unfold rst
    rw [h]
    rfl
theorem rst_8 (c : Int) : rst c 8 = 0 := by
  rw [rst_z]
  exact Nat.div_eq_of_lt (uN_lt c)
theorem land_byt (c : Int) (k : Nat) : l_and (rst c k) 255 = byt c k := by
  unfold l_and byt
  have h : ((Int64.ofInt (rst c k) &&& Int64.ofInt 255).toUInt64).toNat = uN c / 256 ^ k % 256 := by
    show ((Int64.ofInt (rst c k)).toUInt64 &&& (Int64.ofInt 255).toUInt64).toNat = _
    rw [rst_u, UInt64.toNat_and, UInt64.toNat_ofNat_of_lt' (rst_lt c k)]
    exact Nat.and_two_pow_sub_one_eq_mod _ 8
  have h2 : (Int64.ofInt (rst c k) &&& Int64.ofInt 255) = Int64.ofInt ((uN c / 256 ^ k % 256 : Nat) : Int) := by
    refine (show ∀ a b : Int64, a.toUInt64 = b.toUInt64 → a = b from fun ⟨a⟩ ⟨b⟩ h => by cases h; rfl) _ _ ?_
    apply UInt64.toNat.inj
    have h3 : ∀ z : Fin 256, (Int64.ofInt (z.val : Int)).toUInt64.toNat = z.val := by decide +kernel
    have h4 := h3 ⟨uN c / 256 ^ k % 256, by omega⟩
    exact h.trans h4.symm
  rw [h2]
  exact Int64.toInt_ofInt_of_le (by omega) (by omega)
theorem l2i_byt (c : Int) (k : Nat) : l_2i (byt c k) = byt c k := by
  have h := byt_in c k
  have h2 : ∀ z : Fin 256, l_2i (z.val : Int) = (z.val : Int) := by decide +kernel
  have h3 := h2 ⟨(byt c k).toNat, by omega⟩
  have h4 : (((byt c k).toNat : Nat) : Int) = byt c k := by omega
  simp only [h4] at h3
  exact h3
theorem rst_byt {c : Int} {k : Nat} (h : rst c k = 0) : byt c k = 0 := by
  rw [rst_z] at h
  unfold byt
  rw [h]
  rfl
theorem rst_mono {c : Int} {k : Nat} (h : rst c k = 0) : ∀ d : Nat, rst c (k + d) = 0
  | 0 => h
  | d + 1 => by
    have h1 := rst_mono h d
    rw [rst_z] at h1 ⊢
    rw [← Nat.add_assoc, Nat.pow_succ, ← Nat.div_div_eq_div_mul, h1, Nat.zero_div]
def wellP (c : Int) (n : Nat) : Prop := n ≤ 8 ∧ (∀ k : Nat, k < n → 33 ≤ byt c k ∧ byt c k ≤ 126) ∧ rst c n = 0
theorem wellP_le {c : Int} {n m : Nat} (a : wellP c n) (b : wellP c m) : n ≤ m := by
  rcases Nat.lt_or_ge m n with q | q
  · have h1 := a.2.1 m q
    have h2 := rst_byt b.2.2
    omega
  · exact q
theorem wellP_eq {c : Int} {n m : Nat} (a : wellP c n) (b : wellP c m) : n = m := Nat.le_antisymm (wellP_le a b) (wellP_le b a)
theorem wellP_no {c : Int} {i : Nat} (h : (byt c i = 0 ∧ rst c i ≠ 0) ∨ (byt c i ≠ 0 ∧ ¬ (33 ≤ byt c i ∧ byt c i ≤ 126))) (n : Nat) : ¬ wellP c n := by
  intro a
  rcases Nat.lt_or_ge i n with q | q
  · have h1 := a.2.1 i q
    omega
  · have h1 := rst_mono a.2.2 (i - n)
    rw [show n + (i - n) = i by omega] at h1
    have h2 := rst_byt h1
    rcases h with ⟨_, h3⟩ | ⟨h3, _⟩
    · exact h3 h1
    · exact h3 h2
/-- what a pad holds: m codes -/
def CPad (h : qH) (x m : Int) (P : Int → Int) : Prop := h x 1 = m ∧ ∀ k, 0 ≤ k → k < m → h (x + 1) k = P k
theorem CPad.fr {h h2 : qH} {x m : Int} {P : Int → Int} (c : CPad h x m P) (e : ∀ a b, x ≤ a → a < x + 2 → h2 a b = h a b) : CPad h2 x m P :=
  ⟨(e _ _ (by omega) (by omega)).trans c.1, fun k k1 k2 => (e _ _ (by omega) (by omega)).trans (c.2 k k1 k2)⟩
def apnd (P : Int → Int) (m c : Int) (n : Nat) : Int → Int := fun k => if m ≤ k ∧ k < m + n then byt c (n - 1 - (k - m).toNat) else P k
def O_put (c m : Int) (P : Int → Int) (z m2 : Int) (P2 : Int → Int) : Prop := ((∀ n : Nat, 1 ≤ n → ¬ wellP c n) ∧ z = -2 ∧ m2 = m ∧ P2 = P) ∨
  ∃ n : Nat, 1 ≤ n ∧ wellP c n ∧ ((m + n > 80 ∧ z = -4 ∧ m2 = m ∧ P2 = P) ∨ (m + n ≤ 80 ∧ z = m + n ∧ m2 = m + n ∧ P2 = apnd P m c n))
theorem O_put_fn {c m z z2 m2 m3 : Int} {P P2 P3 : Int → Int} (a : O_put c m P z m2 P2) (b : O_put c m P z2 m3 P3) : z = z2 ∧ m2 = m3 ∧ P2 = P3 := by
  rcases a with ⟨a1, a2, a3, a4⟩ | ⟨n, a1, a2, a3⟩
  · rcases b with ⟨b1, b2, b3, b4⟩ | ⟨n2, b1, b2, b3⟩
    · exact ⟨by omega, by omega, a4.trans b4.symm⟩
    · exact absurd b2 (a1 n2 b1)
  · rcases b with ⟨b1, b2, b3, b4⟩ | ⟨n2, b1, b2, b3⟩
    · exact absurd a2 (b1 n a1)
    · have e := wellP_eq a2 b2
      subst e
      rcases a3 with ⟨a3, a4, a5, a6⟩ | ⟨a3, a4, a5, a6⟩
      · rcases b3 with ⟨b3, b4, b5, b6⟩ | ⟨b3, b4, b5, b6⟩
        · exact ⟨by omega, by omega, a6.trans b6.symm⟩
        · exact absurd a3 (by omega)
      · rcases b3 with ⟨b3, b4, b5, b6⟩ | ⟨b3, b4, b5, b6⟩
        · exact absurd b3 (by omega)
        · exact ⟨by omega, by omega, a6.trans b6.symm⟩
/-- codes of a pad as they must be -/
def PG (m : Int) (P : Int → Int) : Prop := 0 ≤ m ∧ m ≤ 80 ∧ ∀ k, 0 ≤ k → k < m → 33 ≤ P k ∧ P k ≤ 126
theorem O_put_good {c m z m2 : Int} {P P2 : Int → Int} (g : PG m P) (a : O_put c m P z m2 P2) : PG m2 P2 := by
  rcases a with ⟨a1, a2, a3, a4⟩ | ⟨n, a1, a2, ⟨a3, a4, a5, a6⟩ | ⟨a3, a4, a5, a6⟩⟩
  · rw [a3, a4]; exact g
  · rw [a5, a6]; exact g
  · obtain ⟨g1, g2, g3⟩ := g
    refine ⟨by omega, by omega, fun k k1 k2 => ?_⟩
    rw [a6]
    unfold apnd
    split
    · exact a2.2.1 _ (by omega)
    · exact g3 k k1 (by omega)
theorem l_cmp0 (x : Int) : l_cmp x 0 = 0 ↔ x = 0 := by
  unfold l_cmp
  constructor
  · intro h
    split at h
    · exact absurd h (by decide)
    · split at h
      · assumption
      · exact absurd h (by decide)
  · intro h
    rw [if_neg (by omega), if_pos h]
