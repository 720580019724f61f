/-! reading orders: the opening sign, which number, how many digits of it, the numbers -/
abbrev qD : Type := Int × Int × Int × (Int → Int)
def D0 : qD := (0, 0, 0, fun _ => 0)
def openP (c : Int) : Prop := c = 45 ∨ c = 98 ∨ c = 101 ∨ c = 108 ∨ c = 110 ∨ c = 114 ∨ c = 120
def sigR (D : qD) : Int := if D.1 = 98 then (if D.2.1 = 0 then 61 else if D.2.1 = 1 then 64 else 59) else if D.1 = 114 ∨ D.1 = 120 then (if D.2.1 = 0 then 45 else 59) else if D.1 = 45 then 59 else if D.2.1 = 0 then 43 else if D.2.1 = 1 then 58 else 59
def takC (D : qD) (c : Int) : Prop := (D.1 = 0 ∧ openP c) ∨ (D.1 ≠ 0 ∧ (48 ≤ c ∧ c ≤ 57) ∧ ¬ (0 < D.2.2.1 ∧ D.2.2.2 D.2.1 = 0) ∧ D.2.2.2 D.2.1 ≤ 99) ∨ (D.1 ≠ 0 ∧ ¬ (48 ≤ c ∧ c ≤ 57) ∧ D.2.2.1 ≠ 0 ∧ c = sigR D)
def takD (D : qD) (c : Int) : qD := if D.1 = 0 then (c, D.2) else if 48 ≤ c ∧ c ≤ 57 then (D.1, D.2.1, D.2.2.1 + 1, sset D.2.2.2 D.2.1 (10 * D.2.2.2 D.2.1 + (c - 48))) else if c = 59 then D0 else (D.1, D.2.1 + 1, 0, D.2.2.2)
def endP (D : qD) : Prop := D.1 ≠ 0 ∧ 0 < D.2.2.1 ∧ sigR D = 59
def RG (D : qD) : Prop := (D.1 = 0 ∨ openP D.1) ∧ (0 ≤ D.2.1 ∧ D.2.1 ≤ 2) ∧ (0 ≤ D.2.2.1 ∧ D.2.2.1 ≤ 3) ∧ (∀ k, 0 ≤ k → k < 3 → 0 ≤ D.2.2.2 k ∧ D.2.2.2 k ≤ 999) ∧ (∀ k, D.2.1 < k → k < 3 → D.2.2.2 k = 0) ∧ (D.2.2.1 = 0 → D.2.2.2 D.2.1 = 0) ∧ (2 ≤ D.2.2.1 → 10 ≤ D.2.2.2 D.2.1) ∧ (3 ≤ D.2.2.1 → 100 ≤ D.2.2.2 D.2.1) ∧ (D.1 = 0 → D.2.1 = 0 ∧ D.2.2.1 = 0)
theorem RG_0 : RG D0 := ⟨Or.inl rfl, ⟨by decide, by decide⟩, ⟨by decide, by decide⟩, fun k _ _ => ⟨Int.le_refl _, (by decide : (0 : Int) ≤ 999)⟩, fun _ _ _ => rfl, fun _ => rfl, fun w => absurd w (by decide), fun w => absurd w (by decide), fun _ => ⟨rfl, rfl⟩⟩
theorem sigR_2 {D : qD} (h : 2 ≤ D.2.1) : sigR D = 59 := by
  unfold sigR
  repeat' split
  all_goals omega
theorem takD_RG {D : qD} (g : RG D) {c : Int} (h : takC D c) : RG (takD D c) := by
  obtain ⟨g1, g2, g3, g4, g5, g6, g7, g8, g9⟩ := g
  have g10 := g4 D.2.1 (by omega) (by omega)
  rcases h with ⟨h1, h2⟩ | ⟨h1, h2, h3, h4⟩ | ⟨h1, h2, h3, h4⟩
  · have e : takD D c = (c, D.2) := if_pos h1
    rw [e]
    exact ⟨Or.inr h2, g2, g3, g4, g5, g6, g7, g8, fun _ => g9 h1⟩
  · have e : takD D c = (D.1, D.2.1, D.2.2.1 + 1, sset D.2.2.2 D.2.1 (10 * D.2.2.2 D.2.1 + (c - 48))) := (if_neg h1).trans (if_pos h2)
    rw [e]
    have e2 : sset D.2.2.2 D.2.1 (10 * D.2.2.2 D.2.1 + (c - 48)) D.2.1 = 10 * D.2.2.2 D.2.1 + (c - 48) := sset_same _ _ _
    refine ⟨g1, g2, ⟨?_, ?_⟩, fun k k1 k2 => ?_, fun k k1 k2 => ?_, fun w => ?_, fun w => ?_, fun w => ?_, fun w => absurd w h1⟩
    · show 0 ≤ D.2.2.1 + 1
      omega
    · show D.2.2.1 + 1 ≤ 3
      omega
    · show 0 ≤ sset D.2.2.2 D.2.1 _ k ∧ sset D.2.2.2 D.2.1 _ k ≤ 999
      rw [sset_ap]
      split
      · omega
      · exact g4 k k1 k2
    · have k1 : D.2.1 < k := k1
      show sset D.2.2.2 D.2.1 _ k = 0
      rw [sset_ne _ _ (by omega)]
      exact g5 k k1 k2
    · have w : D.2.2.1 + 1 = 0 := w
      omega
    · have w : 2 ≤ D.2.2.1 + 1 := w
      show 10 ≤ sset D.2.2.2 D.2.1 _ D.2.1
      rw [e2]
      omega
    · have w : 3 ≤ D.2.2.1 + 1 := w
      show 100 ≤ sset D.2.2.2 D.2.1 _ D.2.1
      rw [e2]
      omega
  · by_cases h5 : c = 59
    · have e : takD D c = D0 := (if_neg h1).trans ((if_neg h2).trans (if_pos h5))
      rw [e]
      exact RG_0
    · have e : takD D c = (D.1, D.2.1 + 1, 0, D.2.2.2) := (if_neg h1).trans ((if_neg h2).trans (if_neg h5))
      rw [e]
      have e2 : D.2.1 < 2 := by
        rcases Int.lt_or_le D.2.1 2 with q | q
        · exact q
        · have := sigR_2 q; omega
      have e3 := g5 (D.2.1 + 1) (by omega) (by omega)
      exact ⟨g1, ⟨by show 0 ≤ D.2.1 + 1; omega, by show D.2.1 + 1 ≤ 2; omega⟩, ⟨show (0 : Int) ≤ 0 by decide, show (0 : Int) ≤ 3 by decide⟩, g4, fun k k1 k2 => by have k1 : D.2.1 + 1 < k := k1; exact g5 k (by omega) k2, fun _ => e3, fun w => absurd w (show ¬ (2 : Int) ≤ 0 by decide), fun w => absurd w (show ¬ (3 : Int) ≤ 0 by decide), fun w => absurd w h1⟩
def CRead (h : qH) (x : Int) (D : qD) : Prop := h x 1 = D.1 ∧ h x 2 = D.2.1 ∧ h x 3 = D.2.2.1 ∧ ∀ k, 0 ≤ k → k < 3 → h (x + 1) k = D.2.2.2 k
theorem CRead.fr {h h2 : qH} {x : Int} {D : qD} (c : CRead h x D) (e : ∀ a b, x ≤ a → a < x + 2 → h2 a b = h a b) : CRead h2 x D :=
  ⟨(e _ _ (by omega) (by omega)).trans c.1, (e _ _ (by omega) (by omega)).trans c.2.1, (e _ _ (by omega) (by omega)).trans c.2.2.1, fun k k1 k2 => (e _ _ (by omega) (by omega)).trans (c.2.2.2 k k1 k2)⟩
/-- what has been read after so many signs -/
def runD (P : Int → Int) : Nat → qD
  | 0 => D0
  | i + 1 => takD (runD P i) (P (i : Int))
def runC (P : Int → Int) (i : Nat) : Prop := ∀ k : Nat, k < i → takC (runD P k) (P (k : Int))
theorem runD_RG {P : Int → Int} : ∀ i : Nat, runC P i → RG (runD P i)
  | 0, _ => RG_0
  | i + 1, h => takD_RG (runD_RG i (fun k hk => h k (by omega))) (h i (Nat.lt_succ_self i))
theorem CRead.st {h h2 : qH} {x : Int} (c : h2 x 1 = 0 ∧ h2 x 2 = 0 ∧ h2 x 3 = 0) (d : ∀ k, 0 ≤ k → k < 3 → h2 (x + 1) k = 0) : CRead h2 x D0 := ⟨c.1, c.2.1, c.2.2, d⟩
