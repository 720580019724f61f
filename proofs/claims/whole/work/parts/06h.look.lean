/-! The showings looked at: (reason, begin, end, the one ahead that shows; -6: none) -/
abbrev qW : Type := (Int → Int) × (Int → Int) × (Int → Int) × Int
theorem sset_same (s : Int → Int) (i v : Int) : sset s i v i = v := if_pos rfl
theorem sset_ne (s : Int → Int) {i j : Int} (v : Int) (h : j ≠ i) : sset s i v j = s j := if_neg h
/-- when a showing would begin (w: it waits) -/
def lookB (w : Int) (U : qU) (k : Int) (W : qW) : Int := if W.2.2.2 = -6 then U.2.2.2.1 k else max (U.2.2.2.1 k) (if w ≠ 0 then W.2.2.1 W.2.2.2 else W.2.1 W.2.2.2)
def lookV (w sh : Int) (U : qU) (k : Int) (W : qW) : qW :=
  if max (lookB w U k W) (U.2.2.2.2 k) - lookB w U k W < sh then (sset W.1 k 2, sset W.2.1 k (-6), sset W.2.2.1 k (-6), W.2.2.2)
  else (sset W.1 k 0, sset W.2.1 k (lookB w U k W), sset (if W.2.2.2 = -6 then W.2.2.1 else sset W.2.2.1 W.2.2.2 (min (W.2.2.1 W.2.2.2) (lookB w U k W))) k (max (lookB w U k W) (U.2.2.2.2 k)), k)
def waitI (s : Int → Int) (U : qU) (k : Int) : Int := if s (148 + 4 * U.2.1 k) = 1 then 0 else 1
noncomputable def look1 (s : Int → Int) (T : qT) (U : qU) (k : Int) (W : qW) : qW := @ite _ (darkP s T (U.2.2.2.1 k)) (Classical.propDecidable _) (sset W.1 k 1, sset W.2.1 k (-6), sset W.2.2.1 k (-6), W.2.2.2) (lookV (waitI s U k) (s 1) U k W)
theorem look1_y {s : Int → Int} {T : qT} {U : qU} {k : Int} {W : qW} (h : darkP s T (U.2.2.2.1 k)) : look1 s T U k W = (sset W.1 k 1, sset W.2.1 k (-6), sset W.2.2.1 k (-6), W.2.2.2) := if_pos h
theorem look1_n {s : Int → Int} {T : qT} {U : qU} {k : Int} {W : qW} (h : ¬ darkP s T (U.2.2.2.1 k)) : look1 s T U k W = lookV (waitI s U k) (s 1) U k W := if_neg h
noncomputable def lookN (s : Int → Int) (T : qT) (U : qU) : Nat → qW
  | 0 => (fun _ => 0, fun _ => 0, fun _ => 0, -6)
  | k + 1 => look1 s T U (k : Int) (lookN s T U k)
noncomputable def showW (s : Int → Int) : qW := lookN s (nightT s) (showU s) (showU s).1.toNat
def WG (n : Int) (W : qW) : Prop := (W.2.2.2 = -6 ∨ (0 ≤ W.2.2.2 ∧ W.2.2.2 < n ∧ W.1 W.2.2.2 = 0)) ∧ ∀ j, 0 ≤ j → j < n → (W.1 j = 0 ∨ W.1 j = 1 ∨ W.1 j = 2) ∧ (W.1 j = 0 → 0 ≤ W.2.1 j ∧ W.2.1 j ≤ W.2.2.1 j ∧ W.2.2.1 j ≤ 48000) ∧ (W.1 j ≠ 0 → W.2.1 j = -6 ∧ W.2.2.1 j = -6)
theorem lookB_in {w n k : Int} {U : qU} {W : qW} (g : WG n W) (h : 0 ≤ U.2.2.2.1 k ∧ U.2.2.2.1 k ≤ 48000) : U.2.2.2.1 k ≤ lookB w U k W ∧ lookB w U k W ≤ 48000 ∧ (W.2.2.2 ≠ -6 → W.2.1 W.2.2.2 ≤ lookB w U k W) := by
  unfold lookB
  rcases g.1 with e | ⟨e1, e2, e3⟩
  · rw [if_pos e]; exact ⟨by omega, by omega, fun q => absurd e q⟩
  · have h1 := (g.2 _ e1 e2).2.1 e3
    rw [if_neg (by omega)]
    split <;> omega
theorem WG.non {n v : Int} {W : qW} (g : WG n W) (h0 : 0 ≤ n) (hv : v = 1 ∨ v = 2) : WG (n + 1) (sset W.1 n v, sset W.2.1 n (-6), sset W.2.2.1 n (-6), W.2.2.2) := by
  refine ⟨?_, fun j j1 j2 => ?_⟩
  · rcases g.1 with e | ⟨e1, e2, e3⟩
    · exact Or.inl e
    · exact Or.inr ⟨e1, by show W.2.2.2 < n + 1; omega, by show sset W.1 n v W.2.2.2 = 0; rw [sset_ap, if_neg (by omega)]; exact e3⟩
  · show (sset W.1 n v j = 0 ∨ sset W.1 n v j = 1 ∨ sset W.1 n v j = 2) ∧ (sset W.1 n v j = 0 → 0 ≤ sset W.2.1 n (-6) j ∧ sset W.2.1 n (-6) j ≤ sset W.2.2.1 n (-6) j ∧ sset W.2.2.1 n (-6) j ≤ 48000) ∧ (sset W.1 n v j ≠ 0 → sset W.2.1 n (-6) j = -6 ∧ sset W.2.2.1 n (-6) j = -6)
    by_cases e : j = n
    · rw [e, sset_same, sset_same, sset_same]; exact ⟨by omega, fun q => by omega, fun _ => ⟨rfl, rfl⟩⟩
    · rw [sset_ne _ _ e, sset_ne _ _ e, sset_ne _ _ e]; exact g.2 j j1 (by omega)
theorem lookV_WG {w sh n : Int} {U : qU} {W : qW} (g : WG n W) (h0 : 0 ≤ n) (h1 : 0 ≤ U.2.2.2.1 n ∧ U.2.2.2.1 n ≤ 48000) (h2 : 0 ≤ U.2.2.2.2 n ∧ U.2.2.2.2 n ≤ 48000) : WG (n + 1) (lookV w sh U n W) := by
  have hb := lookB_in (w := w) (k := n) g h1
  unfold lookV
  split
  · exact g.non h0 (Or.inr rfl)
  · refine ⟨Or.inr ⟨h0, by show n < n + 1; omega, by show sset W.1 n 0 n = 0; rw [sset_ap, if_pos rfl]⟩, fun j j1 j2 => ?_⟩
    show (sset W.1 n 0 j = 0 ∨ sset W.1 n 0 j = 1 ∨ sset W.1 n 0 j = 2) ∧ (sset W.1 n 0 j = 0 → 0 ≤ sset W.2.1 n (lookB w U n W) j ∧ sset W.2.1 n (lookB w U n W) j ≤ sset (if W.2.2.2 = -6 then W.2.2.1 else sset W.2.2.1 W.2.2.2 (min (W.2.2.1 W.2.2.2) (lookB w U n W))) n (max (lookB w U n W) (U.2.2.2.2 n)) j ∧ sset (if W.2.2.2 = -6 then W.2.2.1 else sset W.2.2.1 W.2.2.2 (min (W.2.2.1 W.2.2.2) (lookB w U n W))) n (max (lookB w U n W) (U.2.2.2.2 n)) j ≤ 48000) ∧ (sset W.1 n 0 j ≠ 0 → sset W.2.1 n (lookB w U n W) j = -6 ∧ sset (if W.2.2.2 = -6 then W.2.2.1 else sset W.2.2.1 W.2.2.2 (min (W.2.2.1 W.2.2.2) (lookB w U n W))) n (max (lookB w U n W) (U.2.2.2.2 n)) j = -6)
    by_cases e : j = n
    · rw [e, sset_same, sset_same, sset_same]; exact ⟨Or.inl rfl, fun _ => by omega, fun q => absurd rfl q⟩
    · rw [sset_ne _ _ e, sset_ne _ _ e, sset_ne _ _ e]
      have gj := g.2 j j1 (by omega)
      rcases g.1 with a | ⟨a1, a2, a3⟩
      · simp only [if_pos a]; exact gj
      · rw [if_neg (by omega), sset_ap]
        by_cases e2 : j = W.2.2.2
        · rw [if_pos e2, ← e2]
          rw [← e2] at a3 hb
          omega
        · rw [if_neg e2]; exact gj
theorem look1_WG {s : Int → Int} {T : qT} {n : Int} {U : qU} {W : qW} (g : WG n W) (h0 : 0 ≤ n) (h1 : 0 ≤ U.2.2.2.1 n ∧ U.2.2.2.1 n ≤ 48000) (h2 : 0 ≤ U.2.2.2.2 n ∧ U.2.2.2.2 n ≤ 48000) : WG (n + 1) (look1 s T U n W) := by
  by_cases c : darkP s T (U.2.2.2.1 n)
  · rw [look1_y c]; exact g.non h0 (Or.inl rfl)
  · rw [look1_n c]; exact lookV_WG g h0 h1 h2
theorem lookN_WG {s : Int → Int} {T : qT} {U : qU} (u : UG s T U) : ∀ n : Nat, (n : Int) ≤ U.1 → WG (n : Int) (lookN s T U n)
  | 0, _ => ⟨Or.inl rfl, fun j j1 j2 => by omega⟩
  | n + 1, h => by
    have a := u.2 (n : Int) (by omega) (by omega)
    exact look1_WG (lookN_WG u n (by omega)) (by omega) a.2.2.1 a.2.2.2
theorem show_UG {s : Int → Int} (g : SG s) : UG s (nightT s) (showU s) := gathA_UG g (night_TG g) (night_le g) _ (by have := (night_TG g).1; omega)
theorem show_le {s : Int → Int} (g : SG s) : 0 ≤ (showU s).1 ∧ (showU s).1 ≤ 40 := by
  have h := gathA_le g (n := (nightT s).1.toNat) (by have := (night_TG g).1; omega)
  have := g.n
  exact ⟨(show_UG g).1, by show (gathA s (nightT s) (nightT s).1.toNat).1 ≤ 40; omega⟩
theorem show_WG {s : Int → Int} (g : SG s) : WG (showU s).1 (showW s) := by
  have h := lookN_WG (show_UG g) (showU s).1.toNat (by have := (show_le g).1; omega)
  have e : (((showU s).1.toNat : Nat) : Int) = (showU s).1 := by have := (show_le g).1; omega
  rw [e] at h
  exact h
/-! what the class's Showings holds -/
def CSh1 (h : qH) (u : Int) (U : qU) : Prop := h u 7 = U.1 ∧ ∀ k, 0 ≤ k → k < U.1 → h (u + 1) k = U.2.1 k ∧ h (u + 2) k = U.2.2.1 k ∧ h (u + 3) k = U.2.2.2.1 k ∧ h (u + 4) k = U.2.2.2.2 k
def CSh2 (h : qH) (u : Int) (W : qW) (n : Int) : Prop := ∀ k, 0 ≤ k → k < n → h (u + 5) k = W.1 k ∧ (W.1 k = 0 → h (u + 6) k = W.2.1 k ∧ h (u + 7) k = W.2.2.1 k)
theorem CSh1.fr {h h2 : qH} {u : Int} {U : qU} (c : CSh1 h u U) (hr : ∀ x y, u ≤ x → x < u + 5 → h2 x y = h x y) : CSh1 h2 u U := by
  refine ⟨by rw [hr _ _ (by omega) (by omega)]; exact c.1, fun k k1 k2 => ?_⟩
  rw [hr _ _ (by omega) (by omega), hr _ _ (by omega) (by omega), hr _ _ (by omega) (by omega), hr _ _ (by omega) (by omega)]
  exact c.2 k k1 k2
theorem CSh2.fr {h h2 : qH} {u n : Int} {W : qW} (c : CSh2 h u W n) (hr : ∀ x y, u + 5 ≤ x → x < u + 8 → h2 x y = h x y) : CSh2 h2 u W n := by
  intro k k1 k2
  rw [hr _ _ (by omega) (by omega), hr _ _ (by omega) (by omega), hr _ _ (by omega) (by omega)]
  exact c k k1 k2
theorem CSh2.non {h h2 : qH} {u n v : Int} {W : qW} (c : CSh2 h u W n) (e : h2 = hset h (u + 5) n v) (hv : v ≠ 0) : CSh2 h2 u (sset W.1 n v, sset W.2.1 n (-6), sset W.2.2.1 n (-6), W.2.2.2) (n + 1) := by
  intro k k1 k2
  show h2 (u + 5) k = sset W.1 n v k ∧ (sset W.1 n v k = 0 → h2 (u + 6) k = sset W.2.1 n (-6) k ∧ h2 (u + 7) k = sset W.2.2.1 n (-6) k)
  have r6 : h2 (u + 6) k = h (u + 6) k := by rw [e, hset_nea _ _ _ (by omega)]
  have r7 : h2 (u + 7) k = h (u + 7) k := by rw [e, hset_nea _ _ _ (by omega)]
  rw [r6, r7, e]
  by_cases q : k = n
  · rw [q, hset_same, sset_same]; exact ⟨rfl, fun z => absurd z hv⟩
  · rw [hset_neb _ _ _ q, sset_ne _ _ q, sset_ne _ _ q, sset_ne _ _ q]; exact c k k1 (by omega)
theorem CSh2.lookV {h h2 h1 : qH} {u n w sh : Int} {U : qU} {W : qW} (c : CSh2 h u W n) (g : WG n W)
    (e : (max (lookB w U n W) (U.2.2.2.2 n) - lookB w U n W < sh ∧ h2 = hset h (u + 5) n 2) ∨ (sh ≤ max (lookB w U n W) (U.2.2.2.2 n) - lookB w U n W ∧ ((W.2.2.2 = -6 ∧ h1 = h) ∨ (W.2.2.2 ≠ -6 ∧ h1 = hset h (u + 7) W.2.2.2 (min (W.2.2.1 W.2.2.2) (lookB w U n W)))) ∧ h2 = hset (hset (hset h1 (u + 5) n 0) (u + 6) n (lookB w U n W)) (u + 7) n (max (lookB w U n W) (U.2.2.2.2 n)))) : CSh2 h2 u (lookV w sh U n W) (n + 1) ∧ FR (u + 5) 3 h h2 := by
  show CSh2 h2 u (if max (lookB w U n W) (U.2.2.2.2 n) - lookB w U n W < sh then _ else _) (n + 1) ∧ _
  rcases e with ⟨e1, e2⟩ | ⟨e1, e3, e2⟩
  · rw [if_pos e1]
    exact ⟨c.non e2 (by decide), fun x y z => by rw [e2, hset_nea _ _ _ (by omega)]⟩
  · rw [if_neg (by omega)]
    have d1 : ∀ x y, x ≠ u + 7 → h1 x y = h x y := fun x y z => by
      rcases e3 with ⟨_, q⟩ | ⟨_, q⟩
      · rw [q]
      · rw [q, hset_nea _ _ _ z]
    refine ⟨fun k k1 k2 => ?_, fun x y z => by rw [e2, hset_nea _ _ _ (by omega), hset_nea _ _ _ (by omega), hset_nea _ _ _ (by omega), d1 _ _ (by omega)]⟩
    have r5 : h2 (u + 5) k = hset h1 (u + 5) n 0 (u + 5) k := by rw [e2, hset_nea _ _ _ (by omega), hset_nea _ _ _ (by omega)]
    have r6 : h2 (u + 6) k = hset h1 (u + 6) n (lookB w U n W) (u + 6) k := by rw [e2, hset_nea _ _ _ (by omega)]; exact hset_in (by rw [hset_nea _ _ _ (by omega)])
    have r7 : h2 (u + 7) k = hset h1 (u + 7) n (max (lookB w U n W) (U.2.2.2.2 n)) (u + 7) k := by rw [e2]; exact hset_in (by rw [hset_nea _ _ _ (by omega), hset_nea _ _ _ (by omega)])
    rw [r5, r6, r7]
    show hset h1 (u + 5) n 0 (u + 5) k = sset W.1 n 0 k ∧ (sset W.1 n 0 k = 0 → hset h1 (u + 6) n (lookB w U n W) (u + 6) k = sset W.2.1 n (lookB w U n W) k ∧ hset h1 (u + 7) n (max (lookB w U n W) (U.2.2.2.2 n)) (u + 7) k = sset (if W.2.2.2 = -6 then W.2.2.1 else sset W.2.2.1 W.2.2.2 (min (W.2.2.1 W.2.2.2) (lookB w U n W))) n (max (lookB w U n W) (U.2.2.2.2 n)) k)
    by_cases q : k = n
    · rw [q, hset_same, hset_same, hset_same, sset_same, sset_same, sset_same]; exact ⟨rfl, fun _ => ⟨rfl, rfl⟩⟩
    · rw [hset_neb _ _ _ q, hset_neb _ _ _ q, hset_neb _ _ _ q, d1 _ _ (by omega), d1 _ _ (by omega), sset_ne _ _ q, sset_ne _ _ q, sset_ne _ _ q]
      have ck := c k k1 (by omega)
      refine ⟨ck.1, fun z => ⟨(ck.2 z).1, ?_⟩⟩
      rcases e3 with ⟨a, b⟩ | ⟨a, b⟩
      · rw [if_pos a, b]; exact (ck.2 z).2
      · rw [if_neg a, b, sset_ap]
        by_cases e4 : k = W.2.2.2
        · rw [if_pos e4, e4, hset_same]
        · rw [if_neg e4, hset_neb _ _ _ e4]; exact (ck.2 z).2
