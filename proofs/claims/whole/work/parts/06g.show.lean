/-! The showings of a night: gathered (how many, title, place, due from, due until), then looked at (reason, begin, end, the one ahead that shows) -/
abbrev qU : Type := Int × (Int → Int) × (Int → Int) × (Int → Int) × (Int → Int)
def comesP (s : Int → Int) (T : qT) (t pl : Int) : Prop := T.2.2.1 pl = s (149 + 4 * t) ∧ (s (148 + 4 * t) = 1 ∨ (s (148 + 4 * t) = 0 ∧ fstN T.2.2.1 (s (149 + 4 * t)) T.1.toNat = pl) ∨ (s (148 + 4 * t) = 2 ∧ lstN T.2.2.1 (s (149 + 4 * t)) T.1.toNat = pl))
noncomputable def gath1 (s : Int → Int) (T : qT) (pl t : Int) (U : qU) : qU := @ite _ (comesP s T t pl) (Classical.propDecidable _) (U.1 + 1, sset U.2.1 U.1 t, sset U.2.2.1 U.1 pl, sset U.2.2.2.1 U.1 (max 0 (T.2.2.2 pl - leadP (s (148 + 4 * t)))), sset U.2.2.2.2 U.1 (bOE T (pl + s (150 + 4 * t)))) U
theorem gath1_y {s : Int → Int} {T : qT} {pl t : Int} {U : qU} (h : comesP s T t pl) : gath1 s T pl t U = (U.1 + 1, sset U.2.1 U.1 t, sset U.2.2.1 U.1 pl, sset U.2.2.2.1 U.1 (max 0 (T.2.2.2 pl - leadP (s (148 + 4 * t)))), sset U.2.2.2.2 U.1 (bOE T (pl + s (150 + 4 * t)))) := if_pos h
theorem gath1_n {s : Int → Int} {T : qT} {pl t : Int} {U : qU} (h : ¬ comesP s T t pl) : gath1 s T pl t U = U := if_neg h
noncomputable def gathP (s : Int → Int) (T : qT) (pl : Int) : Nat → qU → qU
  | 0, U => U
  | t + 1, U => gath1 s T pl (t : Int) (gathP s T pl t U)
noncomputable def gathA (s : Int → Int) (T : qT) : Nat → qU
  | 0 => (0, fun _ => 0, fun _ => 0, fun _ => 0, fun _ => 0)
  | pl + 1 => gathP s T (pl : Int) (s 5).toNat (gathA s T pl)
noncomputable def showU (s : Int → Int) : qU := gathA s (nightT s) (nightT s).1.toNat
/-! no bar is sung more than twice -/
def repN (s : Int → Int) (b : Int) : Nat → Int
  | 0 => 0
  | j + 1 => repN s b j + (if bk s (j : Int) ≤ b ∧ b ≤ (j : Int) then 1 else 0)
theorem repN_le {s : Int → Int} (g : SG s) (b : Int) : ∀ j : Nat, 0 ≤ repN s b j ∧ repN s b j ≤ 1 ∧ (repN s b j = 1 → ∃ i : Int, 0 ≤ i ∧ i < j ∧ bk s i ≤ b ∧ b ≤ i)
  | 0 => ⟨Int.le_refl _, by show (0 : Int) ≤ 1; decide, fun h => absurd h (show ¬ (0 : Int) = 1 by decide)⟩
  | j + 1 => by
    obtain ⟨h1, h2, h3⟩ := repN_le g b j
    unfold repN
    by_cases hc : bk s (j : Int) ≤ b ∧ b ≤ (j : Int)
    · rw [if_pos hc]
      have h0 : repN s b j = 0 := by
        rcases (show repN s b j = 0 ∨ repN s b j = 1 by omega) with e | e
        · exact e
        · exfalso
          obtain ⟨i, i1, i2, i3, i4⟩ := h3 e
          rcases bk_cases g i with ⟨q1, -⟩ | ⟨k, q1, q2, q3, q4, q5, q6⟩
          · omega
          · rcases bk_cases g (j : Int) with ⟨p1, -⟩ | ⟨k2, p1, p2, p3, p4, p5, p6⟩
            · omega
            · rcases Int.lt_trichotomy k k2 with z | z | z
              · have := g.dj k k2 q1 z p2; omega
              · subst z; omega
              · have := g.dj k2 k p1 z q2; omega
      exact ⟨by omega, by omega, fun _ => ⟨(j : Int), by omega, by omega, hc.1, hc.2⟩⟩
    · rw [if_neg hc]
      refine ⟨by omega, by omega, fun h => ?_⟩
      obtain ⟨i, i1, i2, i3, i4⟩ := h3 (by omega)
      exact ⟨i, i1, by omega, i3, i4⟩
theorem sing1_cnt {s : Int → Int} {x b : Int} {T : qT} (h0 : 0 ≤ T.1) : cntN (sing1 s x T).2.2.1 b (sing1 s x T).1.toNat ≤ cntN T.2.2.1 b T.1.toNat + (if x = b then 1 else 0) := by
  by_cases h : cutP s x
  · rw [sing1_y h]; split <;> omega
  · rw [sing1_n h]
    have e : (T.1 + 1).toNat = T.1.toNat + 1 := by omega
    have e2 : ((T.1.toNat : Nat) : Int) = T.1 := by omega
    show cntN (sset T.2.2.1 T.1 x) b (T.1 + 1).toNat ≤ _
    have u : cntN (sset T.2.2.1 T.1 x) b (T.1.toNat + 1) = cntN (sset T.2.2.1 T.1 x) b T.1.toNat + (if sset T.2.2.1 T.1 x ((T.1.toNat : Nat) : Int) = b then 1 else 0) := rfl
    rw [e, u, (cntN_ext (P := sset T.2.2.1 T.1 x) (Q := T.2.2.1) (b := b) T.1.toNat (fun j j1 j2 => by rw [sset_ap, if_neg (by omega)])).1, e2, sset_ap, if_pos rfl]
    exact Int.le_refl _
theorem singR_cnt {s : Int → Int} {a b : Int} {T : qT} (h0 : 0 ≤ T.1) : ∀ k : Nat, cntN (singR s a k T).2.2.1 b (singR s a k T).1.toNat ≤ cntN T.2.2.1 b T.1.toNat + (if a ≤ b ∧ b < a + (k : Int) then 1 else 0)
  | 0 => by
    rw [if_neg (by omega)]
    show cntN T.2.2.1 b T.1.toNat ≤ _
    omega
  | k + 1 => by
    have h1 := singR_cnt (s := s) (a := a) (b := b) h0 k
    have h2 := (singR_le s a T k).1
    have h3 := sing1_cnt (s := s) (x := a + (k : Int)) (b := b) (T := singR s a k T) (by omega)
    show cntN (sing1 s (a + (k : Int)) (singR s a k T)).2.2.1 b (sing1 s (a + (k : Int)) (singR s a k T)).1.toNat ≤ _
    refine Int.le_trans h3 ?_
    by_cases e : a + (k : Int) = b
    · rw [if_pos e, if_pos (by omega)]; rw [if_neg (by omega)] at h1; omega
    · rw [if_neg e]
      by_cases e2 : a ≤ b ∧ b < a + (k : Int)
      · rw [if_pos e2] at h1; rw [if_pos (by omega)]; omega
      · rw [if_neg e2] at h1; rw [if_neg (by omega)]; omega
theorem singTo_cnt {s : Int → Int} (g : SG s) (b : Int) : ∀ j : Nat, cntN (singTo s j).2.2.1 b (singTo s j).1.toNat ≤ (if b < (j : Int) then 1 else 0) + repN s b j
  | 0 => by
    show (0 : Int) ≤ (if b < ((0 : Nat) : Int) then 1 else 0) + 0
    split <;> omega
  | j + 1 => by
    have h1 := singTo_cnt g b j
    have h0 := (singTo_le g j).1
    have h2 := sing1_cnt (s := s) (x := (j : Int)) (b := b) h0
    have h3 := singR_cnt (s := s) (a := bk s (j : Int)) (b := b) (T := sing1 s (j : Int) (singTo s j)) (by have := (sing1_le s (j : Int) (singTo s j)).1; omega) ((j : Int) + 1 - bk s (j : Int)).toNat
    have h4 : bk s (j : Int) ≤ (j : Int) + 1 := by rcases bk_cases g (j : Int) with ⟨q1, -⟩ | ⟨k, q1, q2, q3, q4, q5, q6⟩ <;> omega
    show cntN (singR s (bk s (j : Int)) ((j : Int) + 1 - bk s (j : Int)).toNat (sing1 s (j : Int) (singTo s j))).2.2.1 b _ ≤ _ + (repN s b j + _)
    refine Int.le_trans h3 ?_
    have e : (bk s (j : Int) ≤ b ∧ b < bk s (j : Int) + ((((j : Int) + 1 - bk s (j : Int)).toNat : Nat) : Int)) ↔ (bk s (j : Int) ≤ b ∧ b ≤ (j : Int)) := by omega
    simp only [e]
    have e2 : (if (j : Int) = b then (1 : Int) else 0) + (if b < (j : Int) then 1 else 0) = if b < ((j + 1 : Nat) : Int) then 1 else 0 := by
      by_cases a1 : (j : Int) = b
      · rw [if_pos a1, if_neg (by omega), if_pos (by omega)]; rfl
      · rw [if_neg a1]
        by_cases a2 : b < (j : Int)
        · rw [if_pos a2, if_pos (by omega)]; rfl
        · rw [if_neg a2, if_neg (by omega)]; rfl
    omega
theorem night_cnt {s : Int → Int} (g : SG s) (b : Int) : cntN (nightT s).2.2.1 b (nightT s).1.toNat ≤ 2 := by
  have h1 := singTo_cnt g b (s 0).toNat
  have h2 := (repN_le g b (s 0).toNat).2.1
  have h3 : (if b < (((s 0).toNat : Nat) : Int) then (1 : Int) else 0) ≤ 1 := by split <;> omega
  unfold nightT
  omega
theorem night_TG {s : Int → Int} (g : SG s) : TG (nightT s) := singTo_TG g _ (by have := g.n; omega)
theorem night_le {s : Int → Int} (g : SG s) : (nightT s).1 ≤ 120 := by
  have h1 := (singTo_le g (s 0).toNat).2
  have h2 := usedN_le g (s 0).toNat
  have := g.n
  unfold nightT
  omega
/-! how many showings there are -/
noncomputable def comN (s : Int → Int) (T : qT) (t : Int) : Nat → Int
  | 0 => 0
  | n + 1 => comN s T t n + @ite _ (comesP s T t (n : Int)) (Classical.propDecidable _) 1 0
noncomputable def sumN (f : Int → Int) : Nat → Int
  | 0 => 0
  | t + 1 => sumN f t + f (t : Int)
theorem comN_le {s : Int → Int} {T : qT} {t : Int} : ∀ n : Nat, comN s T t n ≤ cntN T.2.2.1 (s (149 + 4 * t)) n
  | 0 => Int.le_refl _
  | n + 1 => by
    have h := comN_le (s := s) (T := T) (t := t) n
    unfold comN cntN
    by_cases c : comesP s T t (n : Int)
    · rw [if_pos c, if_pos c.1]; omega
    · rw [if_neg c]
      split <;> omega
theorem cntN_mono {P : Int → Int} {b : Int} (n : Nat) : ∀ d : Nat, cntN P b n ≤ cntN P b (n + d)
  | 0 => Int.le_refl _
  | d + 1 => by
    have h := cntN_mono (P := P) (b := b) n d
    show cntN P b n ≤ cntN P b (n + d) + (if P ((n + d : Nat) : Int) = b then 1 else 0)
    split <;> omega
theorem gathP_K {s : Int → Int} {T : qT} {pl : Int} {U : qU} : ∀ t : Nat, (gathP s T pl t U).1 = U.1 + sumN (fun x => @ite _ (comesP s T x pl) (Classical.propDecidable _) 1 0) t
  | 0 => (Int.add_zero _).symm
  | t + 1 => by
    have h := gathP_K (s := s) (T := T) (pl := pl) (U := U) t
    show (gath1 s T pl (t : Int) (gathP s T pl t U)).1 = U.1 + (sumN _ t + @ite _ (comesP s T (t : Int) pl) (Classical.propDecidable _) 1 0)
    by_cases c : comesP s T (t : Int) pl
    · rw [gath1_y c, if_pos c]
      show (gathP s T pl t U).1 + 1 = _
      omega
    · rw [gath1_n c, if_neg c]
      omega
theorem sumN_add {f f2 f3 : Int → Int} (h : ∀ x, f3 x = f x + f2 x) : ∀ t : Nat, sumN f3 t = sumN f t + sumN f2 t
  | 0 => rfl
  | t + 1 => by
    have := sumN_add h t
    unfold sumN
    rw [h]
    omega
theorem gathA_K {s : Int → Int} {T : qT} : ∀ n : Nat, (gathA s T n).1 = sumN (fun x => comN s T x n) (s 5).toNat
  | 0 => by
    have : ∀ t : Nat, sumN (fun x => comN s T x 0) t = 0 := fun t => by
      induction t with
      | zero => rfl
      | succ t ih => show sumN _ t + 0 = 0; omega
    rw [this]; rfl
  | n + 1 => by
    show (gathP s T (n : Int) (s 5).toNat (gathA s T n)).1 = _
    rw [gathP_K, gathA_K n, sumN_add (f := fun x => comN s T x n) (f2 := fun x => @ite _ (comesP s T x (n : Int)) (Classical.propDecidable _) 1 0) (f3 := fun x => comN s T x (n + 1)) (fun x => rfl)]
theorem sumN_le {f : Int → Int} {c : Int} (h : ∀ x, f x ≤ c) : ∀ t : Nat, sumN f t ≤ c * (t : Int)
  | 0 => by show (0 : Int) ≤ c * 0; omega
  | t + 1 => by
    have h1 := sumN_le h t
    have h2 := h (t : Int)
    show sumN f t + f (t : Int) ≤ c * ((t : Int) + 1)
    rw [Int.mul_add]
    omega
theorem gathA_le {s : Int → Int} (g : SG s) {n : Nat} (hn : (n : Int) ≤ (nightT s).1) : (gathA s (nightT s) n).1 ≤ 2 * s 5 := by
  have gn := g.n
  rw [gathA_K]
  have h : ∀ x, comN s (nightT s) x n ≤ 2 := fun x => by
    have h1 := comN_le (s := s) (T := nightT s) (t := x) n
    have h2 := cntN_mono (P := (nightT s).2.2.1) (b := s (149 + 4 * x)) n ((nightT s).1.toNat - n)
    have h3 := night_cnt g (s (149 + 4 * x))
    rw [show n + ((nightT s).1.toNat - n) = (nightT s).1.toNat by omega] at h2
    omega
  have := sumN_le h (s 5).toNat
  omega
theorem gathP_mono {s : Int → Int} {T : qT} {pl : Int} {U : qU} (t : Nat) : ∀ d : Nat, (gathP s T pl t U).1 ≤ (gathP s T pl (t + d) U).1
  | 0 => Int.le_refl _
  | d + 1 => by
    have h := gathP_mono (s := s) (T := T) (pl := pl) (U := U) t d
    show _ ≤ (gath1 s T pl ((t + d : Nat) : Int) (gathP s T pl (t + d) U)).1
    by_cases c : comesP s T ((t + d : Nat) : Int) pl
    · rw [gath1_y c]; show _ ≤ (gathP s T pl (t + d) U).1 + 1; omega
    · rw [gath1_n c]; exact h
theorem gathA_nn {s : Int → Int} {T : qT} : ∀ n : Nat, 0 ≤ (gathA s T n).1
  | 0 => Int.le_refl _
  | n + 1 => by
    have h1 := gathA_nn (s := s) (T := T) n
    have h2 := gathP_mono (s := s) (T := T) (pl := (n : Int)) (U := gathA s T n) 0 (s 5).toNat
    rw [Nat.zero_add] at h2
    exact Int.le_trans h1 h2
/-- there is room for one more showing -/
theorem gath_room {s : Int → Int} (g : SG s) {pl t : Nat} (hp : (pl : Int) < (nightT s).1) (ht : (t : Int) < s 5) (c : comesP s (nightT s) (t : Int) (pl : Int)) : (gathP s (nightT s) (pl : Int) t (gathA s (nightT s) pl)).1 + 1 ≤ 40 := by
  have gn := g.n
  have h1 := gathA_le g (n := pl + 1) (by omega)
  have h2 := gathP_mono (s := s) (T := nightT s) (pl := (pl : Int)) (U := gathA s (nightT s) pl) (t + 1) ((s 5).toNat - (t + 1))
  rw [show t + 1 + ((s 5).toNat - (t + 1)) = (s 5).toNat by omega] at h2
  have h3 : (gathP s (nightT s) (pl : Int) (t + 1) (gathA s (nightT s) pl)).1 = (gathP s (nightT s) (pl : Int) t (gathA s (nightT s) pl)).1 + 1 := by
    show (gath1 s (nightT s) (pl : Int) (t : Int) _).1 = _
    rw [gath1_y c]
  have h4 : gathA s (nightT s) (pl + 1) = gathP s (nightT s) (pl : Int) (s 5).toNat (gathA s (nightT s) pl) := rfl
  rw [h4] at h1
  omega
/-- what is gathered is in its ranges -/
def UG (s : Int → Int) (T : qT) (U : qU) : Prop := 0 ≤ U.1 ∧ ∀ k, 0 ≤ k → k < U.1 → (0 ≤ U.2.1 k ∧ U.2.1 k < s 5) ∧ (0 ≤ U.2.2.1 k ∧ U.2.2.1 k < T.1) ∧ (0 ≤ U.2.2.2.1 k ∧ U.2.2.2.1 k ≤ 48000) ∧ (0 ≤ U.2.2.2.2 k ∧ U.2.2.2.2 k ≤ 48000)
theorem gath1_UG {s : Int → Int} (g : SG s) {T : qT} (tg : TG T) (hT : T.1 ≤ 120) {pl t : Int} (hp : 0 ≤ pl ∧ pl < T.1) (ht : 0 ≤ t ∧ t < s 5) {U : qU} (u : UG s T U) : UG s T (gath1 s T pl t U) := by
  by_cases c : comesP s T t pl
  · rw [gath1_y c]
    obtain ⟨u0, u1⟩ := u
    refine ⟨by show 0 ≤ U.1 + 1; omega, fun k k1 k2 => ?_⟩
    have k2 : k < U.1 + 1 := k2
    show (0 ≤ sset U.2.1 U.1 t k ∧ sset U.2.1 U.1 t k < s 5) ∧ (0 ≤ sset U.2.2.1 U.1 pl k ∧ sset U.2.2.1 U.1 pl k < T.1) ∧ (0 ≤ sset U.2.2.2.1 U.1 (max 0 (T.2.2.2 pl - leadP (s (148 + 4 * t)))) k ∧ sset U.2.2.2.1 U.1 (max 0 (T.2.2.2 pl - leadP (s (148 + 4 * t)))) k ≤ 48000) ∧ (0 ≤ sset U.2.2.2.2 U.1 (bOE T (pl + s (150 + 4 * t))) k ∧ sset U.2.2.2.2 U.1 (bOE T (pl + s (150 + 4 * t))) k ≤ 48000)
    rw [sset_ap, sset_ap, sset_ap, sset_ap]
    by_cases e : k = U.1
    · simp only [if_pos e]
      have h1 := tg.2.2.2.1 pl hp.1 hp.2
      have h2 := tg.2.2.1
      have h3 := (g.ti t ht.1 ht.2).2.2.1
      have h4 := bOE_in tg (a := pl + s (150 + 4 * t)) (by omega)
      have h5 : 0 ≤ leadP (s (148 + 4 * t)) := by unfold leadP; omega
      omega
    · simp only [if_neg e]
      exact u1 k k1 (by omega)
  · rw [gath1_n c]; exact u
theorem gathP_UG {s : Int → Int} (g : SG s) {T : qT} (tg : TG T) (hT : T.1 ≤ 120) {pl : Int} (hp : 0 ≤ pl ∧ pl < T.1) {U : qU} (u : UG s T U) : ∀ t : Nat, (t : Int) ≤ s 5 → UG s T (gathP s T pl t U)
  | 0, _ => u
  | t + 1, h => gath1_UG g tg hT hp ⟨by omega, by omega⟩ (gathP_UG g tg hT hp u t (by omega))
theorem gathA_UG {s : Int → Int} (g : SG s) {T : qT} (tg : TG T) (hT : T.1 ≤ 120) : ∀ n : Nat, (n : Int) ≤ T.1 → UG s T (gathA s T n)
  | 0, _ => ⟨Int.le_refl _, fun k k1 k2 => by have k2 : k < 0 := k2; omega⟩
  | n + 1, h => gathP_UG g tg hT ⟨by omega, by omega⟩ (gathA_UG g tg hT n (by omega)) _ (by have := g.n; omega)
