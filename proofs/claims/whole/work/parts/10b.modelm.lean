/-! What the model's scratch holds of a night and its showings -/
theorem bstep {Q : Int → Prop} {i w w2 : Int} (h0 : 0 ≤ i) (hw : w = 1 ↔ ∃ k, 0 ≤ k ∧ k < i ∧ Q k) (h2 : w2 = 1 ↔ (w = 1 ∨ Q i)) : w2 = 1 ↔ ∃ k, 0 ≤ k ∧ k < i + 1 ∧ Q k := by
  rw [h2, hw]
  constructor
  · rintro (⟨k, a, c, d⟩ | q)
    · exact ⟨k, a, by omega, d⟩
    · exact ⟨i, h0, by omega, q⟩
  · rintro ⟨k, a, c, d⟩
    by_cases e : k = i
    · subst e; exact Or.inr d
    · exact Or.inl ⟨k, a, by omega, d⟩
theorem bzero {Q : Int → Prop} : (0 : Int) = 1 ↔ ∃ k, 0 ≤ k ∧ k < (0 : Int) ∧ Q k := ⟨fun w => absurd w (by decide), fun ⟨k, a, c, _⟩ => by omega⟩
/-- w tells whether one of the first i has it -/
def BX (w i : Int) (Q : Int → Prop) : Prop := w = 1 ↔ ∃ k, 0 ≤ k ∧ k < i ∧ Q k
theorem BX.s {Q : Int → Prop} {i w w2 : Int} (h0 : 0 ≤ i) (hw : BX w i Q) (h2 : w2 = 1 ↔ (w = 1 ∨ Q i)) : BX w2 (i + 1) Q := bstep h0 hw h2
theorem BX.z {Q : Int → Prop} : BX 0 0 Q := bzero
def CP (h : qH) (M : Int) (T : qT) : Prop := h M 10 = T.1 ∧ h M 11 = T.2.1 ∧ ∀ k, 0 ≤ k → k < T.1 → h (M + 6) k = T.2.2.1 k ∧ h (M + 7) k = T.2.2.2 k
def CU (h : qH) (M : Int) (U : qU) : Prop := h M 19 = U.1 ∧ ∀ k, 0 ≤ k → k < U.1 → h (M + 8) k = U.2.1 k ∧ h (M + 9) k = U.2.2.1 k ∧ h (M + 10) k = U.2.2.2.1 k ∧ h (M + 11) k = U.2.2.2.2 k
def CW (h : qH) (M : Int) (W : qW) (n : Int) : Prop := ∀ k, 0 ≤ k → k < n → h (M + 12) k = W.1 k ∧ h (M + 13) k = W.2.1 k ∧ h (M + 14) k = W.2.2.1 k
/-- only the night's scratch; only the gathered; only the looked at may have changed -/
def FN (M : Int) (h h2 : qH) : Prop := ∀ x y, (x < M ∨ M + 8 ≤ x ∨ (x = M ∧ y ≠ 10 ∧ y ≠ 11) ∨ (M + 1 ≤ x ∧ x ≤ M + 5)) → h2 x y = h x y
theorem FN.rf {M : Int} {h : qH} : FN M h h := fun _ _ _ => rfl
theorem FN.tr {M : Int} {h h2 h3 : qH} (a : FN M h h2) (c : FN M h2 h3) : FN M h h3 := fun x y q => (c x y q).trans (a x y q)
theorem FN.s {M : Int} {h h2 : qH} (a : FN M h h2) : FS M h h2 := fun x y q => a x y (by omega)
def FU (M : Int) (h h2 : qH) : Prop := ∀ x y, (x < M ∨ M + 12 ≤ x ∨ (x = M ∧ y ≠ 19) ∨ (M + 1 ≤ x ∧ x ≤ M + 7)) → h2 x y = h x y
theorem FU.rf {M : Int} {h : qH} : FU M h h := fun _ _ _ => rfl
theorem FU.tr {M : Int} {h h2 h3 : qH} (a : FU M h h2) (c : FU M h2 h3) : FU M h h3 := fun x y q => (c x y q).trans (a x y q)
theorem FU.s {M : Int} {h h2 : qH} (a : FU M h h2) : FS M h h2 := fun x y q => a x y (by omega)
def FW (M : Int) (h h2 : qH) : Prop := ∀ x y, (x < M + 12 ∨ M + 15 ≤ x) → h2 x y = h x y
theorem FW.rf {M : Int} {h : qH} : FW M h h := fun _ _ _ => rfl
theorem FW.tr {M : Int} {h h2 h3 : qH} (a : FW M h h2) (c : FW M h2 h3) : FW M h h3 := fun x y q => (c x y q).trans (a x y q)
theorem FW.s {M : Int} {h h2 : qH} (a : FW M h h2) : FS M h h2 := fun x y q => a x y (by omega)
theorem CP.fr {h h2 : qH} {M : Int} {T : qT} (c : CP h M T) (e : ∀ x y, ((x = M ∧ (y = 10 ∨ y = 11)) ∨ x = M + 6 ∨ x = M + 7) → h2 x y = h x y) : CP h2 M T :=
  ⟨(e _ _ (by omega)).trans c.1, (e _ _ (by omega)).trans c.2.1, fun k a d => ⟨(e _ _ (by omega)).trans (c.2.2 k a d).1, (e _ _ (by omega)).trans (c.2.2 k a d).2⟩⟩
theorem CU.fr {h h2 : qH} {M : Int} {U : qU} (c : CU h M U) (e : ∀ x y, ((x = M ∧ y = 19) ∨ (M + 8 ≤ x ∧ x ≤ M + 11)) → h2 x y = h x y) : CU h2 M U :=
  ⟨(e _ _ (by omega)).trans c.1, fun k a d => ⟨(e _ _ (by omega)).trans (c.2 k a d).1, (e _ _ (by omega)).trans (c.2 k a d).2.1, (e _ _ (by omega)).trans (c.2 k a d).2.2.1, (e _ _ (by omega)).trans (c.2 k a d).2.2.2⟩⟩
theorem CP.sing {h h2 : qH} {M a : Int} {T : qT} {s : Int → Int} (c : CP h M T) (hn : ¬ cutP s a) {z : Int} (hz : z = tenP s a) (e : h2 = hset (hset (hset (hset h (M + 6) T.1 a) (M + 7) T.1 T.2.1) M 11 (T.2.1 + z)) M 10 (T.1 + 1)) : CP h2 M (sing1 s a T) ∧ FN M h h2 := by
  subst hz
  rw [sing1_n hn]
  refine ⟨⟨by rw [e, hset_same], by rw [e, hset_neb _ _ _ (by decide), hset_same], fun k k1 k2 => ?_⟩, fun x y w => by rw [e, hset_ne _ _ (by omega), hset_ne _ _ (by omega), hset_nea _ _ _ (by omega), hset_nea _ _ _ (by omega)]⟩
  have k2 : k < T.1 + 1 := k2
  show h2 (M + 6) k = sset T.2.2.1 T.1 a k ∧ h2 (M + 7) k = sset T.2.2.2 T.1 T.2.1 k
  have r1 : h2 (M + 6) k = hset h (M + 6) T.1 a (M + 6) k := by rw [e, hset_nea _ _ _ (by omega), hset_nea _ _ _ (by omega), hset_nea _ _ _ (by omega)]
  have r2 : h2 (M + 7) k = hset h (M + 7) T.1 T.2.1 (M + 7) k := by
    rw [e, hset_nea _ _ _ (by omega), hset_nea _ _ _ (by omega)]; exact hset_in (by rw [hset_nea _ _ _ (by omega)])
  rw [r1, r2]
  by_cases q : k = T.1
  · rw [q, hset_same, hset_same, sset_same, sset_same]; exact ⟨rfl, rfl⟩
  · rw [hset_neb _ _ _ q, hset_neb _ _ _ q, sset_ne _ _ q, sset_ne _ _ q]; exact c.2.2 k k1 (by omega)
theorem bkN_hit {s : Int → Int} (g : SG s) {j k : Int} (h0 : 0 ≤ k) (hk : k < s 2) (e : s (127 + 2 * k) = j) : bkN s j k.toNat = j + 1 ∧ bkN s j (k + 1).toNat = s (126 + 2 * k) := by
  have h1 : bkN s j k.toNat = j + 1 := bkN_none _ (fun i a c w => by
    have d := g.dj i k a (by omega) hk
    have d1 := g.re i a (by omega)
    have d2 := g.re k h0 hk
    omega)
  refine ⟨h1, ?_⟩
  rw [show (k + 1).toNat = k.toNat + 1 by omega]
  unfold bkN
  rw [if_pos h1, show ((k.toNat : Nat) : Int) = k by omega, if_pos e]
theorem bkN_miss {s : Int → Int} {j k : Int} (h0 : 0 ≤ k) (e : s (127 + 2 * k) ≠ j) : bkN s j (k + 1).toNat = bkN s j k.toNat := by
  rw [show (k + 1).toNat = k.toNat + 1 by omega]
  show (if bkN s j k.toNat = j + 1 then (if s (127 + 2 * ((k.toNat : Nat) : Int)) = j then s (126 + 2 * ((k.toNat : Nat) : Int)) else j + 1) else bkN s j k.toNat) = _
  rw [show ((k.toNat : Nat) : Int) = k by omega]
  by_cases q : bkN s j k.toNat = j + 1
  · rw [if_pos q, if_neg e, q]
  · rw [if_neg q]
theorem fstN_stay {P : Int → Int} {b : Int} {k : Nat} (h : fstN P b (k + 1) = (k : Int)) : ∀ d : Nat, fstN P b (k + 1 + d) = (k : Int)
  | 0 => h
  | d + 1 => by
    have h1 := fstN_stay h d
    show (if fstN P b (k + 1 + d) = -6 then _ else fstN P b (k + 1 + d)) = _
    rw [if_neg (by omega), h1]
theorem fstN_hit {P : Int → Int} {b i n : Int} (h0 : 0 ≤ i) (hn : i < n) (h : fstN P b i.toNat = -6) (e : P i = b) : fstN P b n.toNat = i := by
  have e1 : ((i.toNat : Nat) : Int) = i := by omega
  have h1 : fstN P b (i.toNat + 1) = ((i.toNat : Nat) : Int) := by
    show (if fstN P b i.toNat = -6 then (if P ((i.toNat : Nat) : Int) = b then ((i.toNat : Nat) : Int) else -6) else fstN P b i.toNat) = _
    rw [if_pos h, e1, if_pos e]
  have h2 := fstN_stay h1 (n.toNat - (i.toNat + 1))
  rw [show i.toNat + 1 + (n.toNat - (i.toNat + 1)) = n.toNat by omega, e1] at h2
  exact h2
theorem fstN_miss {P : Int → Int} {b i : Int} (h0 : 0 ≤ i) (h : fstN P b i.toNat = -6) (e : P i ≠ b) : fstN P b (i + 1).toNat = -6 := by
  rw [show (i + 1).toNat = i.toNat + 1 by omega]
  show (if fstN P b i.toNat = -6 then (if P ((i.toNat : Nat) : Int) = b then ((i.toNat : Nat) : Int) else -6) else fstN P b i.toNat) = _
  rw [if_pos h, show ((i.toNat : Nat) : Int) = i by omega, if_neg e]
theorem lstN_s {P : Int → Int} {b i : Int} (h0 : 0 ≤ i) : lstN P b (i + 1).toNat = if P i = b then i else lstN P b i.toNat := by
  rw [show (i + 1).toNat = i.toNat + 1 by omega]
  show (if P ((i.toNat : Nat) : Int) = b then ((i.toNat : Nat) : Int) else lstN P b i.toNat) = _
  rw [show ((i.toNat : Nat) : Int) = i by omega]
theorem lstN_in (P : Int → Int) (b : Int) : ∀ n : Nat, -6 ≤ lstN P b n ∧ lstN P b n < (n : Int)
  | 0 => by show (-6 : Int) ≤ -6 ∧ (-6 : Int) < 0; decide
  | n + 1 => by
    have := lstN_in P b n
    unfold lstN
    split <;> omega
theorem CU.gath {h h2 : qH} {M t pl f u : Int} {U : qU} {s : Int → Int} {T : qT} (c : CU h M U) (hc : comesP s T t pl) (hf : f = max 0 (T.2.2.2 pl - leadP (s (148 + 4 * t)))) (hu : u = bOE T (pl + s (150 + 4 * t)))
    (e : h2 = hset (hset (hset (hset (hset h (M + 8) U.1 t) (M + 9) U.1 pl) (M + 10) U.1 f) (M + 11) U.1 u) M 19 (U.1 + 1)) : CU h2 M (gath1 s T pl t U) ∧ FU M h h2 := by
  subst hf; subst hu
  rw [gath1_y hc]
  refine ⟨⟨by rw [e, hset_same], fun k k1 k2 => ?_⟩, fun x y w => by rw [e, hset_ne _ _ (by omega), hset_nea _ _ _ (by omega), hset_nea _ _ _ (by omega), hset_nea _ _ _ (by omega), hset_nea _ _ _ (by omega)]⟩
  have k2 : k < U.1 + 1 := k2
  have r1 : h2 (M + 8) k = hset h (M + 8) U.1 t (M + 8) k := by rw [e, hset_nea _ _ _ (by omega), hset_nea _ _ _ (by omega), hset_nea _ _ _ (by omega), hset_nea _ _ _ (by omega)]
  have r2 : h2 (M + 9) k = hset h (M + 9) U.1 pl (M + 9) k := by
    rw [e, hset_nea _ _ _ (by omega), hset_nea _ _ _ (by omega), hset_nea _ _ _ (by omega)]; exact hset_in (by rw [hset_nea _ _ _ (by omega)])
  have r3 : h2 (M + 10) k = hset h (M + 10) U.1 (max 0 (T.2.2.2 pl - leadP (s (148 + 4 * t)))) (M + 10) k := by
    rw [e, hset_nea _ _ _ (by omega), hset_nea _ _ _ (by omega)]; exact hset_in (by rw [hset_nea _ _ _ (by omega), hset_nea _ _ _ (by omega)])
  have r4 : h2 (M + 11) k = hset h (M + 11) U.1 (bOE T (pl + s (150 + 4 * t))) (M + 11) k := by
    rw [e, hset_nea _ _ _ (by omega)]; exact hset_in (by rw [hset_nea _ _ _ (by omega), hset_nea _ _ _ (by omega), hset_nea _ _ _ (by omega)])
  show h2 (M + 8) k = sset U.2.1 U.1 t k ∧ h2 (M + 9) k = sset U.2.2.1 U.1 pl k ∧ h2 (M + 10) k = sset U.2.2.2.1 U.1 (max 0 (T.2.2.2 pl - leadP (s (148 + 4 * t)))) k ∧ h2 (M + 11) k = sset U.2.2.2.2 U.1 (bOE T (pl + s (150 + 4 * t))) k
  rw [r1, r2, r3, r4]
  by_cases q : k = U.1
  · rw [q, hset_same, hset_same, hset_same, hset_same, sset_same, sset_same, sset_same, sset_same]; exact ⟨rfl, rfl, rfl, rfl⟩
  · rw [hset_neb _ _ _ q, hset_neb _ _ _ q, hset_neb _ _ _ q, hset_neb _ _ _ q, sset_ne _ _ q, sset_ne _ _ q, sset_ne _ _ q, sset_ne _ _ q]; exact c.2 k k1 (by omega)
/-- a showing looked at, as the model does it -/
theorem CW.non {h h2 : qH} {M k v : Int} {W : qW} (c : CW h M W k) (e : h2 = hset (hset (hset h (M + 12) k v) (M + 13) k (-6)) (M + 14) k (-6)) : CW h2 M (sset W.1 k v, sset W.2.1 k (-6), sset W.2.2.1 k (-6), W.2.2.2) (k + 1) ∧ FW M h h2 := by
  refine ⟨fun j j1 j2 => ?_, fun x y w => by rw [e, hset_nea _ _ _ (by omega), hset_nea _ _ _ (by omega), hset_nea _ _ _ (by omega)]⟩
  have r1 : h2 (M + 12) j = hset h (M + 12) k v (M + 12) j := by rw [e, hset_nea _ _ _ (by omega), hset_nea _ _ _ (by omega)]
  have r2 : h2 (M + 13) j = hset h (M + 13) k (-6) (M + 13) j := by rw [e, hset_nea _ _ _ (by omega)]; exact hset_in (by rw [hset_nea _ _ _ (by omega)])
  have r3 : h2 (M + 14) j = hset h (M + 14) k (-6) (M + 14) j := by rw [e]; exact hset_in (by rw [hset_nea _ _ _ (by omega), hset_nea _ _ _ (by omega)])
  show h2 (M + 12) j = sset W.1 k v j ∧ h2 (M + 13) j = sset W.2.1 k (-6) j ∧ h2 (M + 14) j = sset W.2.2.1 k (-6) j
  rw [r1, r2, r3]
  by_cases q : j = k
  · rw [q, hset_same, hset_same, hset_same, sset_same, sset_same, sset_same]; exact ⟨rfl, rfl, rfl⟩
  · rw [hset_neb _ _ _ q, hset_neb _ _ _ q, hset_neb _ _ _ q, sset_ne _ _ q, sset_ne _ _ q, sset_ne _ _ q]; exact c j j1 (by omega)
theorem CW.yes {h h1 h2 : qH} {M k B E : Int} {W : qW} {W2 : Int → Int} (c : CW h M W k) (hk : 0 ≤ k) (e1 : ∀ x y, x ≠ M + 14 → h1 x y = hset h (M + 12) k 0 x y) (e3 : ∀ j, 0 ≤ j → j < k → h1 (M + 14) j = W2 j) (e : h2 = hset (hset h1 (M + 13) k B) (M + 14) k E) : CW h2 M (sset W.1 k 0, sset W.2.1 k B, sset W2 k E, k) (k + 1) ∧ FW M h h2 := by
  refine ⟨fun j j1 j2 => ?_, fun x y w => by rw [e, hset_nea _ _ _ (by omega), hset_nea _ _ _ (by omega), e1 _ _ (by omega), hset_nea _ _ _ (by omega)]⟩
  have r1 : h2 (M + 12) j = hset h (M + 12) k 0 (M + 12) j := by rw [e, hset_nea _ _ _ (by omega), hset_nea _ _ _ (by omega), e1 _ _ (by omega)]
  have r2 : h2 (M + 13) j = hset h (M + 13) k B (M + 13) j := by rw [e, hset_nea _ _ _ (by omega)]; exact hset_in (by rw [e1 _ _ (by omega), hset_nea _ _ _ (by omega)])
  have r3 : h2 (M + 14) j = hset h1 (M + 14) k E (M + 14) j := by rw [e]; exact hset_in (by rw [hset_nea _ _ _ (by omega)])
  show h2 (M + 12) j = sset W.1 k 0 j ∧ h2 (M + 13) j = sset W.2.1 k B j ∧ h2 (M + 14) j = sset W2 k E j
  rw [r1, r2, r3]
  by_cases q : j = k
  · rw [q, hset_same, hset_same, hset_same, sset_same, sset_same, sset_same]; exact ⟨rfl, rfl, rfl⟩
  · rw [hset_neb _ _ _ q, hset_neb _ _ _ q, hset_neb _ _ _ q, sset_ne _ _ q, sset_ne _ _ q, sset_ne _ _ q, e3 j j1 (by omega)]
    exact ⟨(c j j1 (by omega)).1, (c j j1 (by omega)).2.1, rfl⟩
