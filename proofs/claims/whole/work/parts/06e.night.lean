/-! The night of a score: which bars are sung, and when. T = (how many, the time, the bar at each place, when it begins) -/
abbrev qT : Type := Int × Int × (Int → Int) × (Int → Int)
def tenP (s : Int → Int) (b : Int) : Int := 600 * s (6 + b) / s (66 + b)
noncomputable def sing1 (s : Int → Int) (b : Int) (T : qT) : qT := @ite _ (cutP s b) (Classical.propDecidable _) T (T.1 + 1, T.2.1 + tenP s b, sset T.2.2.1 T.1 b, sset T.2.2.2 T.1 T.2.1)
theorem sing1_y {s : Int → Int} {b : Int} {T : qT} (h : cutP s b) : sing1 s b T = T := if_pos h
theorem sing1_n {s : Int → Int} {b : Int} {T : qT} (h : ¬ cutP s b) : sing1 s b T = (T.1 + 1, T.2.1 + tenP s b, sset T.2.2.1 T.1 b, sset T.2.2.2 T.1 T.2.1) := if_neg h
/-- k bars from a on -/
noncomputable def singR (s : Int → Int) (a : Int) : Nat → qT → qT
  | 0, T => T
  | k + 1, T => sing1 s (a + (k : Int)) (singR s a k T)
/-- the first bar of the repeat that ends with b, of the first j ones; b + 1: there is none -/
def bkN (s : Int → Int) (b : Int) : Nat → Int
  | 0 => b + 1
  | j + 1 => if bkN s b j = b + 1 then (if s (127 + 2 * (j : Int)) = b then s (126 + 2 * (j : Int)) else b + 1) else bkN s b j
def bk (s : Int → Int) (b : Int) : Int := bkN s b (s 2).toNat
noncomputable def singB (s : Int → Int) (b : Int) (T : qT) : qT := singR s (bk s b) (b + 1 - bk s b).toNat (sing1 s b T)
noncomputable def singTo (s : Int → Int) : Nat → qT
  | 0 => (0, 0, fun _ => 0, fun _ => 0)
  | j + 1 => singB s (j : Int) (singTo s j)
noncomputable def nightT (s : Int → Int) : qT := singTo s (s 0).toNat
theorem bkN_none {s : Int → Int} {b : Int} : ∀ j : Nat, (∀ k : Int, 0 ≤ k → k < j → s (127 + 2 * k) ≠ b) → bkN s b j = b + 1
  | 0, _ => rfl
  | j + 1, h => by
    have h1 := bkN_none j (fun k a c => h k a (by omega))
    unfold bkN
    rw [if_pos h1, if_neg (h j (by omega) (by omega))]
theorem bkN_some {s : Int → Int} {b : Int} {k : Int} (h0 : 0 ≤ k) (hk : s (127 + 2 * k) = b) (hf : ∀ j, 0 ≤ j → j < k → s (127 + 2 * j) ≠ b) (hne : s (126 + 2 * k) ≠ b + 1) : ∀ j : Nat, k < j → bkN s b j = s (126 + 2 * k)
  | 0, h => by omega
  | j + 1, h => by
    by_cases e : k < j
    · have h1 := bkN_some h0 hk hf hne j e
      unfold bkN
      rw [if_neg (by rw [h1]; exact hne), h1]
    · have e2 : k = (j : Int) := by omega
      have h1 : bkN s b j = b + 1 := bkN_none j (fun i a c => hf i a (by omega))
      unfold bkN
      rw [if_pos h1, ← e2, if_pos hk]
theorem bk_cases {s : Int → Int} (g : SG s) (b : Int) : (bk s b = b + 1 ∧ ∀ k, 0 ≤ k → k < s 2 → s (127 + 2 * k) ≠ b) ∨ (∃ k, 0 ≤ k ∧ k < s 2 ∧ s (127 + 2 * k) = b ∧ bk s b = s (126 + 2 * k) ∧ 0 ≤ bk s b ∧ bk s b ≤ b) := by
  have gn := g.n
  by_cases h : ∃ k, 0 ≤ k ∧ k < s 2 ∧ s (127 + 2 * k) = b
  · right
    obtain ⟨k, h1, h2, h3⟩ := h
    have hr := g.re k h1 h2
    have hf : ∀ j, 0 ≤ j → j < k → s (127 + 2 * j) ≠ b := fun j a c e => by
      have h4 := g.dj j k a c h2
      have h5 := g.re j a (by omega)
      omega
    have e : bk s b = s (126 + 2 * k) := bkN_some h1 h3 hf (by omega) _ (by omega)
    exact ⟨k, h1, h2, h3, e, by omega, by omega⟩
  · left
    have hf : ∀ k, 0 ≤ k → k < s 2 → s (127 + 2 * k) ≠ b := fun k a c e => h ⟨k, a, c, e⟩
    exact ⟨bkN_none _ (fun k a c => hf k a (by omega)), hf⟩
/-- how many bars come once more, of the first j -/
def usedN (s : Int → Int) : Nat → Int
  | 0 => 0
  | j + 1 => usedN s j + ((j : Int) + 1 - bk s (j : Int))
theorem usedN_flat {s : Int → Int} {a : Nat} : ∀ d : Nat, (∀ i : Nat, a ≤ i → i < a + d → bk s (i : Int) = (i : Int) + 1) → usedN s (a + d) = usedN s a
  | 0, _ => rfl
  | d + 1, h => by
    have h1 := usedN_flat d (fun i x y => h i x (by omega))
    show usedN s (a + d) + (((a + d : Nat) : Int) + 1 - bk s ((a + d : Nat) : Int)) = _
    rw [h1, h (a + d) (by omega) (by omega)]
    omega
theorem usedN_le {s : Int → Int} (g : SG s) : ∀ j : Nat, usedN s j ≤ (j : Int) := by
  intro j
  induction j using Nat.strongRecOn with
  | _ j ih =>
    match j, ih with
    | 0, _ => exact Int.le_refl _
    | j + 1, ih =>
      show usedN s j + ((j : Int) + 1 - bk s (j : Int)) ≤ _
      rcases bk_cases g (j : Int) with ⟨h1, -⟩ | ⟨k, h1, h2, h3, h4, h5, h6⟩
      · have := ih j (by omega); omega
      · have hd : j = (bk s (j : Int)).toNat + (j - (bk s (j : Int)).toNat) := by omega
        have hfl := usedN_flat (s := s) (a := (bk s (j : Int)).toNat) (j - (bk s (j : Int)).toNat) (fun i x y => by
          rcases bk_cases g (i : Int) with ⟨q1, -⟩ | ⟨k2, q1, q2, q3, q4, q5, q6⟩
          · exact q1
          · exfalso
            have r1 := g.re k h1 h2
            have r2 := g.re k2 q1 q2
            rcases Int.lt_trichotomy k k2 with z | z | z
            · have := g.dj k k2 h1 z q2; omega
            · subst z; omega
            · have := g.dj k2 k q1 z h2; omega)
        rw [← hd] at hfl
        have := ih (bk s (j : Int)).toNat (by omega)
        omega
theorem sing1_le (s : Int → Int) (b : Int) (T : qT) : T.1 ≤ (sing1 s b T).1 ∧ (sing1 s b T).1 ≤ T.1 + 1 := by
  by_cases h : cutP s b
  · rw [sing1_y h]; omega
  · rw [sing1_n h]; exact ⟨by show T.1 ≤ T.1 + 1; omega, Int.le_refl _⟩
theorem singR_le (s : Int → Int) (a : Int) (T : qT) : ∀ k : Nat, T.1 ≤ (singR s a k T).1 ∧ (singR s a k T).1 ≤ T.1 + (k : Int)
  | 0 => by show T.1 ≤ T.1 ∧ T.1 ≤ T.1 + 0; omega
  | k + 1 => by
    have h1 := singR_le s a T k
    have h2 := sing1_le s (a + (k : Int)) (singR s a k T)
    show T.1 ≤ (sing1 s (a + (k : Int)) (singR s a k T)).1 ∧ (sing1 s (a + (k : Int)) (singR s a k T)).1 ≤ T.1 + ((k + 1 : Nat) : Int)
    omega
theorem singTo_le {s : Int → Int} (g : SG s) : ∀ j : Nat, 0 ≤ (singTo s j).1 ∧ (singTo s j).1 ≤ (j : Int) + usedN s j
  | 0 => by show (0 : Int) ≤ 0 ∧ (0 : Int) ≤ 0 + 0; omega
  | j + 1 => by
    have h1 := singTo_le g j
    have h2 := sing1_le s (j : Int) (singTo s j)
    have h3 := singR_le s (bk s (j : Int)) (sing1 s (j : Int) (singTo s j)) ((j : Int) + 1 - bk s (j : Int)).toNat
    have h4 : bk s (j : Int) ≤ (j : Int) + 1 := by rcases bk_cases g (j : Int) with ⟨q1, -⟩ | ⟨k, q1, q2, q3, q4, q5, q6⟩ <;> omega
    show 0 ≤ (singR s (bk s (j : Int)) ((j : Int) + 1 - bk s (j : Int)).toNat (sing1 s (j : Int) (singTo s j))).1 ∧ _ ≤ ((j + 1 : Nat) : Int) + (usedN s j + ((j : Int) + 1 - bk s (j : Int)))
    constructor
    · omega
    · show (singR s (bk s (j : Int)) ((j : Int) + 1 - bk s (j : Int)).toNat (sing1 s (j : Int) (singTo s j))).1 ≤ _
      omega
/-- there is room for the next one -/
theorem sing_room {s : Int → Int} (g : SG s) (j : Nat) (hj : (j : Int) < s 0) : (singTo s j).1 + 2 ≤ 120 ∧ ∀ i : Nat, (i : Int) < (j : Int) + 1 - bk s (j : Int) → (singR s (bk s (j : Int)) i (sing1 s (j : Int) (singTo s j))).1 + 1 ≤ 120 := by
  have gn := g.n
  have h1 := singTo_le g j
  have h2 := usedN_le g j
  have h3 := usedN_le g (j + 1)
  have h4 : usedN s (j + 1) = usedN s j + ((j : Int) + 1 - bk s (j : Int)) := rfl
  refine ⟨by omega, fun i hi => ?_⟩
  have h5 := sing1_le s (j : Int) (singTo s j)
  have h6 := singR_le s (bk s (j : Int)) (sing1 s (j : Int) (singTo s j)) i
  omega
/-- times of the night are small and do not fall -/
def TG (T : qT) : Prop := 0 ≤ T.1 ∧ 0 ≤ T.2.1 ∧ T.2.1 ≤ 400 * T.1 ∧ (∀ k, 0 ≤ k → k < T.1 → 0 ≤ T.2.2.2 k ∧ T.2.2.2 k ≤ T.2.1) ∧ (∀ j k, 0 ≤ j → j ≤ k → k < T.1 → T.2.2.2 j ≤ T.2.2.2 k) ∧ (∀ k, 0 ≤ k → k < T.1 → 0 ≤ T.2.2.1 k ∧ T.2.2.1 k < 60)
theorem tenP_in {s : Int → Int} (g : SG s) {b : Int} (hb : 0 ≤ b ∧ b < 60) : 0 ≤ tenP s b ∧ tenP s b ≤ 360 := by
  have h := g.b b hb.1 hb.2
  unfold tenP
  have h1 : 0 ≤ 600 * s (6 + b) / s (66 + b) := Int.ediv_nonneg (by omega) (by omega)
  have h2 : 600 * s (6 + b) / s (66 + b) < 361 := by
    apply Int.ediv_lt_of_lt_mul (by omega)
    have : 361 * 20 ≤ 361 * s (66 + b) := by omega
    omega
  omega
theorem sing1_TG {s : Int → Int} (g : SG s) {b : Int} (hb : 0 ≤ b ∧ b < 60) {T : qT} (t : TG T) : TG (sing1 s b T) := by
  by_cases h : cutP s b
  · rw [sing1_y h]; exact t
  · rw [sing1_n h]
    obtain ⟨t1, t2, t3, t4, t5, t6⟩ := t
    have ht := tenP_in g hb
    refine ⟨by show 0 ≤ T.1 + 1; omega, by show 0 ≤ T.2.1 + tenP s b; omega, by show T.2.1 + tenP s b ≤ 400 * (T.1 + 1); omega, fun k h1 h2 => ?_, fun j k h0 h1 h2 => ?_, fun k h1 h2 => ?_⟩
    · have h2 : k < T.1 + 1 := h2
      show 0 ≤ sset T.2.2.2 T.1 T.2.1 k ∧ sset T.2.2.2 T.1 T.2.1 k ≤ T.2.1 + tenP s b
      rw [sset_ap]
      by_cases e : k = T.1
      · rw [if_pos e]; omega
      · rw [if_neg e]; have := t4 k h1 (by omega); omega
    · have h2 : k < T.1 + 1 := h2
      show sset T.2.2.2 T.1 T.2.1 j ≤ sset T.2.2.2 T.1 T.2.1 k
      rw [sset_ap, sset_ap]
      by_cases e : k = T.1
      · rw [if_pos e]
        by_cases e2 : j = T.1
        · rw [if_pos e2]; omega
        · rw [if_neg e2]; exact (t4 j h0 (by omega)).2
      · rw [if_neg e, if_neg (by omega)]; exact t5 j k h0 h1 (by omega)
    · have h2 : k < T.1 + 1 := h2
      show 0 ≤ sset T.2.2.1 T.1 b k ∧ sset T.2.2.1 T.1 b k < 60
      rw [sset_ap]
      by_cases e : k = T.1
      · rw [if_pos e]; omega
      · rw [if_neg e]; exact t6 k h1 (by omega)
theorem singR_TG {s : Int → Int} (g : SG s) {a : Int} {T : qT} (t : TG T) : ∀ k : Nat, 0 ≤ a → a + (k : Int) ≤ 60 → TG (singR s a k T)
  | 0, _, _ => t
  | k + 1, h0, h => sing1_TG g ⟨by omega, by omega⟩ (singR_TG g t k h0 (by omega))
theorem singTo_TG {s : Int → Int} (g : SG s) : ∀ j : Nat, (j : Int) ≤ s 0 → TG (singTo s j)
  | 0, _ => ⟨Int.le_refl _, Int.le_refl _, Int.le_refl _, fun k h1 h2 => by have h2 : k < 0 := h2; omega, fun j k h0 h1 h2 => by have h2 : k < 0 := h2; omega, fun k h1 h2 => by have h2 : k < 0 := h2; omega⟩
  | j + 1, h => by
    have gn := g.n
    have h1 := singTo_TG g j (by omega)
    have h4 : 0 ≤ bk s (j : Int) ∧ bk s (j : Int) ≤ (j : Int) + 1 := by rcases bk_cases g (j : Int) with ⟨q1, -⟩ | ⟨k, q1, q2, q3, q4, q5, q6⟩ <;> omega
    exact singR_TG g (sing1_TG g ⟨by omega, by omega⟩ h1) _ h4.1 (by omega)
/-- of the first k places: how often a bar is sung, at which one first, at which one last -/
def cntN (P : Int → Int) (b : Int) : Nat → Int
  | 0 => 0
  | k + 1 => cntN P b k + (if P (k : Int) = b then 1 else 0)
def fstN (P : Int → Int) (b : Int) : Nat → Int
  | 0 => -6
  | k + 1 => if fstN P b k = -6 then (if P (k : Int) = b then (k : Int) else -6) else fstN P b k
def lstN (P : Int → Int) (b : Int) : Nat → Int
  | 0 => -6
  | k + 1 => if P (k : Int) = b then (k : Int) else lstN P b k
theorem cntN_ext {P Q : Int → Int} {b : Int} : ∀ k : Nat, (∀ j : Int, 0 ≤ j → j < k → P j = Q j) → cntN P b k = cntN Q b k ∧ fstN P b k = fstN Q b k ∧ lstN P b k = lstN Q b k
  | 0, _ => ⟨rfl, rfl, rfl⟩
  | k + 1, h => by
    obtain ⟨h1, h2, h3⟩ := cntN_ext (b := b) k (fun j a c => h j a (by omega))
    unfold cntN fstN lstN
    rw [h1, h2, h3, h k (by omega) (by omega)]
    exact ⟨rfl, rfl, rfl⟩
theorem fstN_zero {P : Int → Int} {b : Int} : ∀ k : Nat, (cntN P b k = 0 ↔ fstN P b k = -6) ∧ 0 ≤ cntN P b k ∧ cntN P b k ≤ (k : Int) ∧ -6 ≤ fstN P b k ∧ fstN P b k < (k : Int) ∧ (fstN P b k < 0 → fstN P b k = -6)
  | 0 => by unfold cntN fstN; omega
  | k + 1 => by
    have h := fstN_zero (P := P) (b := b) k
    unfold cntN fstN
    omega
