/-! counts and sums over the showings -/
theorem cntN_s {P : Int → Int} {b i : Int} (h : 0 ≤ i) : cntN P b (i + 1).toNat = cntN P b i.toNat + (if P i = b then 1 else 0) := by
  have e : (i + 1).toNat = i.toNat + 1 := by omega
  have e2 : ((i.toNat : Nat) : Int) = i := by omega
  rw [e]
  show cntN P b i.toNat + (if P ((i.toNat : Nat) : Int) = b then 1 else 0) = _
  rw [e2]
theorem cntN_in (P : Int → Int) (b : Int) {i : Int} (h : 0 ≤ i) : 0 ≤ cntN P b i.toNat ∧ cntN P b i.toNat ≤ i := by
  have := fstN_zero (P := P) (b := b) i.toNat
  omega
/-- of the showings of a title (or of all, t < 0): how many show, and for how long -/
def shcN (U : qU) (W : qW) (t : Int) : Nat → Int
  | 0 => 0
  | k + 1 => shcN U W t k + (if U.2.1 (k : Int) = t ∧ W.1 (k : Int) = 0 then 1 else 0)
def tenN (U : qU) (W : qW) (t : Int) : Nat → Int
  | 0 => 0
  | k + 1 => tenN U W t k + (if U.2.1 (k : Int) = t ∧ W.1 (k : Int) = 0 then W.2.2.1 (k : Int) - W.2.1 (k : Int) else 0)
def tenA (W : qW) : Nat → Int
  | 0 => 0
  | k + 1 => tenA W k + (if W.1 (k : Int) = 0 then W.2.2.1 (k : Int) - W.2.1 (k : Int) else 0)
theorem shcN_s {U : qU} {W : qW} {t i : Int} (h : 0 ≤ i) : shcN U W t (i + 1).toNat = shcN U W t i.toNat + (if U.2.1 i = t ∧ W.1 i = 0 then 1 else 0) := by
  have e : (i + 1).toNat = i.toNat + 1 := by omega
  have e2 : ((i.toNat : Nat) : Int) = i := by omega
  rw [e]
  show shcN U W t i.toNat + (if U.2.1 ((i.toNat : Nat) : Int) = t ∧ W.1 ((i.toNat : Nat) : Int) = 0 then 1 else 0) = _
  rw [e2]
theorem tenN_s {U : qU} {W : qW} {t i : Int} (h : 0 ≤ i) : tenN U W t (i + 1).toNat = tenN U W t i.toNat + (if U.2.1 i = t ∧ W.1 i = 0 then W.2.2.1 i - W.2.1 i else 0) := by
  have e : (i + 1).toNat = i.toNat + 1 := by omega
  have e2 : ((i.toNat : Nat) : Int) = i := by omega
  rw [e]
  show tenN U W t i.toNat + (if U.2.1 ((i.toNat : Nat) : Int) = t ∧ W.1 ((i.toNat : Nat) : Int) = 0 then W.2.2.1 ((i.toNat : Nat) : Int) - W.2.1 ((i.toNat : Nat) : Int) else 0) = _
  rw [e2]
theorem tenA_s {W : qW} {i : Int} (h : 0 ≤ i) : tenA W (i + 1).toNat = tenA W i.toNat + (if W.1 i = 0 then W.2.2.1 i - W.2.1 i else 0) := by
  have e : (i + 1).toNat = i.toNat + 1 := by omega
  have e2 : ((i.toNat : Nat) : Int) = i := by omega
  rw [e]
  show tenA W i.toNat + (if W.1 ((i.toNat : Nat) : Int) = 0 then W.2.2.1 ((i.toNat : Nat) : Int) - W.2.1 ((i.toNat : Nat) : Int) else 0) = _
  rw [e2]
theorem shcN_in (U : qU) (W : qW) (t : Int) : ∀ k : Nat, 0 ≤ shcN U W t k ∧ shcN U W t k ≤ (k : Int)
  | 0 => by show (0 : Int) ≤ 0 ∧ (0 : Int) ≤ 0; omega
  | k + 1 => by
    have := shcN_in U W t k
    unfold shcN
    split <;> omega
theorem tenN_in {U : qU} {W : qW} {t n : Int} (g : WG n W) : ∀ k : Nat, (k : Int) ≤ n → 0 ≤ tenN U W t k ∧ tenN U W t k ≤ 48000 * (k : Int)
  | 0, _ => by show (0 : Int) ≤ 0 ∧ (0 : Int) ≤ 48000 * 0; omega
  | k + 1, h => by
    have := tenN_in (U := U) (t := t) g k (by omega)
    have a := g.2 (k : Int) (by omega) (by omega)
    unfold tenN
    split <;> omega
theorem tenA_in {W : qW} {n : Int} (g : WG n W) : ∀ k : Nat, (k : Int) ≤ n → 0 ≤ tenA W k ∧ tenA W k ≤ 48000 * (k : Int)
  | 0, _ => by show (0 : Int) ≤ 0 ∧ (0 : Int) ≤ 48000 * 0; omega
  | k + 1, h => by
    have := tenA_in g k (by omega)
    have a := g.2 (k : Int) (by omega) (by omega)
    unfold tenA
    split <;> omega
def hitP (W : qW) (t k : Int) : Prop := W.1 k = 0 ∧ W.2.1 k ≤ t ∧ t < W.2.2.1 k
/-- the title that shows at a time -/
def atP (U : qU) (W : qW) (t z : Int) : Prop := (∃ k, 0 ≤ k ∧ k < U.1 ∧ hitP W t k ∧ z = U.2.1 k ∧ ∀ j, 0 ≤ j → j < k → ¬ hitP W t j) ∨ ((∀ k, 0 ≤ k → k < U.1 → ¬ hitP W t k) ∧ z = -6)
