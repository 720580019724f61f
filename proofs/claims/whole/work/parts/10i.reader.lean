/-! Reading orders by descent (the model) and by signs (the class) come to the same -/
def sgn (P : Int → Int) (m i : Int) : Int := if i < m then P i else 0
theorem sgn_in {P : Int → Int} {m : Int} (g : PG m P) (i : Int) (h0 : 0 ≤ i) : (sgn P m i = 0 ∧ m ≤ i) ∨ (i < m ∧ sgn P m i = P i ∧ 33 ≤ sgn P m i ∧ sgn P m i ≤ 126) := by
  unfold sgn
  by_cases q : i < m
  · rw [if_pos q]; have := g.2.2 i h0 q; omega
  · rw [if_neg q]; omega
theorem IMp.r {h h2 : qH} {M : Int} {p : Int × (Int → Int)} (c : IMp h M p) (e : ∀ x y, ((x = M ∧ y = 7) ∨ x = M + 5) → h2 x y = h x y) : IMp h2 M p := ⟨(e _ _ (by omega)).trans c.1, fun k a d => (e _ _ (by omega)).trans (c.2 k a d)⟩
/-- only where it reads and whether all is well may have changed -/
def FRd (M : Int) (h h2 : qH) : Prop := ∀ x y, ¬ (x = M ∧ (y = 20 ∨ y = 21)) → h2 x y = h x y
theorem FRd.rf {M : Int} {h : qH} : FRd M h h := fun _ _ _ => rfl
theorem FRd.tr {M : Int} {h h2 h3 : qH} (a : FRd M h h2) (c : FRd M h2 h3) : FRd M h h3 := fun x y q => (c x y q).trans (a x y q)
theorem FRd.s {M : Int} {h h2 : qH} (a : FRd M h h2) : FS M h h2 := fun x y q => a x y (by omega)
def NumP (P : Int → Int) (m w i w2 j z : Int) : Prop := (-48 ≤ z ∧ z ≤ 999) ∧ ((¬ (w = 1 ∧ 48 ≤ sgn P m i ∧ sgn P m i ≤ 57) ∧ w2 = 0 ∧ j = i) ∨ (w = 1 ∧ (48 ≤ sgn P m i ∧ sgn P m i ≤ 57) ∧ w2 = 1 ∧
  ((j = i + 1 ∧ z = sgn P m i - 48 ∧ (z = 0 ∨ ¬ (48 ≤ sgn P m (i + 1) ∧ sgn P m (i + 1) ≤ 57))) ∨ (j = i + 1 + 1 ∧ 48 < sgn P m i ∧ (48 ≤ sgn P m (i + 1) ∧ sgn P m (i + 1) ≤ 57) ∧ z = 10 * (sgn P m i - 48) + (sgn P m (i + 1) - 48) ∧ ¬ (48 ≤ sgn P m (i + 1 + 1) ∧ sgn P m (i + 1 + 1) ≤ 57)) ∨
   (j = i + 1 + 1 + 1 ∧ 48 < sgn P m i ∧ (48 ≤ sgn P m (i + 1) ∧ sgn P m (i + 1) ≤ 57) ∧ (48 ≤ sgn P m (i + 1 + 1) ∧ sgn P m (i + 1 + 1) ≤ 57) ∧ z = 10 * (10 * (sgn P m i - 48) + (sgn P m (i + 1) - 48)) + (sgn P m (i + 1 + 1) - 48)))))
def WantP (P : Int → Int) (m w i c w2 j : Int) : Prop := (w = 1 ∧ sgn P m i = c ∧ w2 = 1 ∧ j = i + 1) ∨ (¬ (w = 1 ∧ sgn P m i = c) ∧ w2 = 0 ∧ j = i)
/-- the orders that have ended by then -/
def ordS (P : Int → Int) : Nat → Int × (Int → qD)
  | 0 => (0, fun _ => D0)
  | i + 1 => if P (i : Int) = 59 then ((ordS P i).1 + 1, fun x => if x = (ordS P i).1 then runD P i else (ordS P i).2 x) else ordS P i
/-- those, and the one that stands there -/
def allO (P : Int → Int) (m : Int) : Int × (Int → qD) := ((ordS P m.toNat).1 + 1, fun x => if x = (ordS P m.toNat).1 then runD P m.toNat else (ordS P m.toNat).2 x)
def failF (P : Int → Int) (m i : Int) : Prop := (0 ≤ i ∧ i ≤ m) ∧ runC P i.toNat ∧ ((i < m ∧ ¬ takC (runD P i.toNat) (P i)) ∨ (i = m ∧ ¬ endP (runD P i.toNat)))
def stopP (P : Int → Int) (m j : Int) : Prop := j < m → 48 ≤ P j ∧ P j ≤ 57 → ¬ takC (runD P j.toNat) (P j)
def STG (P : Int → Int) (m w i : Int) (D : qD) (O : Int × (Int → qD)) : Prop := (w = 1 ∧ (0 ≤ i ∧ i ≤ m) ∧ runC P i.toNat ∧ runD P i.toNat = D ∧ ordS P i.toNat = O) ∨ (w = 0 ∧ failF P m i)
def STN (P : Int → Int) (m w j lt cu : Int) (V : Int → Int) (O : Int × (Int → qD)) : Prop := (w = 1 ∧ (0 ≤ j ∧ j ≤ m) ∧ runC P j.toNat ∧ (∃ d, 0 < d ∧ runD P j.toNat = (lt, cu, d, V)) ∧ stopP P m j ∧ ordS P j.toNat = O) ∨ (w = 0 ∧ failF P m j)
theorem run_step {P : Int → Int} {i : Int} (h0 : 0 ≤ i) (c : runC P i.toNat) (t : takC (runD P i.toNat) (P i)) : runC P (i + 1).toNat ∧ runD P (i + 1).toNat = takD (runD P i.toNat) (P i) := by
  rw [show (i + 1).toNat = i.toNat + 1 by omega]
  have e : ((i.toNat : Nat) : Int) = i := by omega
  refine ⟨fun k hk => ?_, ?_⟩
  · by_cases q : k = i.toNat
    · rw [q, e]; exact t
    · exact c k (by omega)
  · show takD (runD P i.toNat) (P ((i.toNat : Nat) : Int)) = _
    rw [e]
theorem ord_no {P : Int → Int} {i : Int} (h0 : 0 ≤ i) (h : P i ≠ 59) : ordS P (i + 1).toNat = ordS P i.toNat := by
  rw [show (i + 1).toNat = i.toNat + 1 by omega]
  show (if P ((i.toNat : Nat) : Int) = 59 then _ else ordS P i.toNat) = _
  rw [show ((i.toNat : Nat) : Int) = i by omega, if_neg h]
theorem ord_yes {P : Int → Int} {i : Int} (h0 : 0 ≤ i) (h : P i = 59) : ordS P (i + 1).toNat = allO P i := by
  rw [show (i + 1).toNat = i.toNat + 1 by omega]
  show (if P ((i.toNat : Nat) : Int) = 59 then ((ordS P i.toNat).1 + 1, fun x => if x = (ordS P i.toNat).1 then runD P i.toNat else (ordS P i.toNat).2 x) else ordS P i.toNat) = _
  rw [show ((i.toNat : Nat) : Int) = i by omega, if_pos h]
  rfl
theorem sgn_lt {P : Int → Int} {m i c : Int} (h : sgn P m i = c) (hc : c ≠ 0) : i < m ∧ P i = c := by
  unfold sgn at h
  by_cases q : i < m
  · rw [if_pos q] at h; exact ⟨q, h⟩
  · rw [if_neg q] at h; exact absurd h.symm hc
theorem stg_open {P : Int → Int} {m i wl : Int} {O : Int × (Int → qD)} (h0 : 0 ≤ i ∧ i ≤ m) (c : runC P i.toNat) (d : runD P i.toNat = D0) (o : ordS P i.toNat = O) (hw : (wl = 0 ∨ wl = 1) ∧ (wl = 1 ↔ openP (sgn P m i))) : STG P m wl (i + wl) (sgn P m i, 0, 0, fun _ => 0) O := by
  by_cases q : openP (sgn P m i)
  · have w1 := hw.2.mpr q
    have hl := sgn_lt (P := P) (m := m) (i := i) rfl (by intro z; unfold openP at q; omega)
    have t : takC (runD P i.toNat) (P i) := by rw [d]; exact Or.inl ⟨rfl, by rw [hl.2]; exact q⟩
    have r := run_step h0.1 c t
    rw [w1]
    refine Or.inl ⟨rfl, by omega, r.1, ?_, ?_⟩
    · rw [r.2, d, hl.2]; rfl
    · rw [ord_no h0.1 (by rw [hl.2]; unfold openP at q; omega)]; exact o
  · have w0 : wl = 0 := by
      rcases hw.1 with w | w
      · exact w
      · exact absurd (hw.2.mp w) q
    rw [w0, Int.add_zero]
    refine Or.inr ⟨rfl, h0, c, ?_⟩
    by_cases e : i < m
    · refine Or.inl ⟨e, fun t => ?_⟩
      rw [d] at t
      have hs : sgn P m i = P i := if_pos e
      rcases t with ⟨_, t⟩ | ⟨t, _⟩ | ⟨t, _⟩
      · exact q (by rw [hs]; exact t)
      · exact t rfl
      · exact t rfl
    · exact Or.inr ⟨by omega, by rw [d]; exact fun t => t.1 rfl⟩
theorem tak_digit {P : Int → Int} {i : Int} {D : qD} (h0 : 0 ≤ i) (c : runC P i.toNat) (d : runD P i.toNat = D) (h1 : D.1 ≠ 0) (hd : 48 ≤ P i ∧ P i ≤ 57) (h2 : ¬ (0 < D.2.2.1 ∧ D.2.2.2 D.2.1 = 0)) (h3 : D.2.2.2 D.2.1 ≤ 99) : runC P (i + 1).toNat ∧ runD P (i + 1).toNat = (D.1, D.2.1, D.2.2.1 + 1, sset D.2.2.2 D.2.1 (10 * D.2.2.2 D.2.1 + (P i - 48))) ∧ ordS P (i + 1).toNat = ordS P i.toNat := by
  have r := run_step h0 c (by rw [d]; exact Or.inr (Or.inl ⟨h1, hd, h2, h3⟩))
  refine ⟨r.1, ?_, ord_no h0 (by omega)⟩
  rw [r.2, d]
  exact (if_neg h1).trans (if_pos hd)
theorem sset_sset (s : Int → Int) (i v w : Int) : sset (sset s i v) i w = sset s i w := by
  funext j
  simp only [sset_ap]
  split <;> rfl
theorem stg_num {P : Int → Int} {m w i w2 j z lt cu : Int} {V : Int → Int} {O : Int × (Int → qD)} (a : STG P m w i (lt, cu, 0, V) O) (h1 : w = 1 → lt ≠ 0) (h3 : V cu = 0) (b : NumP P m w i w2 j z) : STN P m w2 j lt cu (sset V cu z) O ∧ (w2 = 1 → i < j) := by
  obtain ⟨b0, b⟩ := b
  rcases a with ⟨a1, a2, a3, a4, a5⟩ | ⟨a1, a2⟩
  · have h1 := h1 a1
    rcases b with ⟨b1, b2, b3⟩ | ⟨b1, b2, b3, b4⟩
    · refine ⟨Or.inr ⟨b2, ?_⟩, fun q => by omega⟩
      rw [b3]
      refine ⟨a2, a3, ?_⟩
      by_cases e : i < m
      · refine Or.inl ⟨e, fun t => ?_⟩
        have hs : sgn P m i = P i := if_pos e
        rw [a4] at t
        rcases t with ⟨t, _⟩ | ⟨_, t, _⟩ | ⟨_, _, t, _⟩
        · exact h1 t
        · exact b1 ⟨a1, by omega⟩
        · exact t rfl
      · exact Or.inr ⟨by omega, by rw [a4]; exact fun t => absurd t.2.1 (by show ¬ (0 : Int) < 0; omega)⟩
    · have l1 := sgn_lt (P := P) (m := m) (i := i) rfl (by omega)
      have r1 := tak_digit a2.1 a3 a4 h1 (by omega) (by show ¬ ((0 : Int) < 0 ∧ _); omega) (by show V cu ≤ 99; omega)
      have r1d : runD P (i + 1).toNat = (lt, cu, 1, sset V cu (sgn P m i - 48)) := by
        rw [r1.2.1]
        show (lt, cu, (0 : Int) + 1, sset V cu (10 * V cu + (P i - 48))) = _
        rw [h3, l1.2]
        rw [show 10 * 0 + (sgn P m i - 48) = sgn P m i - 48 by omega]
        rfl
      rcases b4 with ⟨c1, c2, c3⟩ | ⟨c1, c2, c3, c4, c5⟩ | ⟨c1, c2, c3, c4, c5⟩
      · refine ⟨Or.inl ⟨b3, by omega, by rw [c1]; exact r1.1, ⟨1, by decide, by rw [c1, r1d, c2]⟩, fun q1 q2 t => ?_, by rw [c1, r1.2.2]; exact a5⟩, fun _ => by omega⟩
        rw [c1] at q1 q2 t
        have hs : sgn P m (i + 1) = P (i + 1) := if_pos q1
        rw [r1d] at t
        rcases t with ⟨t, _⟩ | ⟨_, _, t, _⟩ | ⟨_, t, _⟩
        · exact h1 t
        · refine t ⟨by show (0 : Int) < 1; decide, ?_⟩
          show sset V cu (sgn P m i - 48) cu = 0
          rw [sset_same]; omega
        · exact t q2
      · have l2 := sgn_lt (P := P) (m := m) (i := i + 1) rfl (by omega)
        have r2 := tak_digit (i := i + 1) (by omega) r1.1 r1d h1 (by omega) (by show ¬ ((0 : Int) < 1 ∧ sset V cu (sgn P m i - 48) cu = 0); rw [sset_same]; omega) (by show sset V cu (sgn P m i - 48) cu ≤ 99; rw [sset_same]; omega)
        have r2d : runD P (i + 1 + 1).toNat = (lt, cu, 2, sset V cu z) := by
          rw [r2.2.1]
          show (lt, cu, (1 : Int) + 1, sset (sset V cu (sgn P m i - 48)) cu (10 * sset V cu (sgn P m i - 48) cu + (P (i + 1) - 48))) = _
          rw [sset_same, sset_sset, l2.2, ← c4]
          rfl
        refine ⟨Or.inl ⟨b3, by omega, by rw [c1]; exact r2.1, ⟨2, by decide, by rw [c1, r2d]⟩, fun q1 q2 t => ?_, by rw [c1, r2.2.2, r1.2.2]; exact a5⟩, fun _ => by omega⟩
        rw [c1] at q1 q2
        have hs : sgn P m (i + 1 + 1) = P (i + 1 + 1) := if_pos q1
        exact absurd q2 (by omega)
      · have l2 := sgn_lt (P := P) (m := m) (i := i + 1) rfl (by omega)
        have l3 := sgn_lt (P := P) (m := m) (i := i + 1 + 1) rfl (by omega)
        have r2 := tak_digit (i := i + 1) (by omega) r1.1 r1d h1 (by omega) (by show ¬ ((0 : Int) < 1 ∧ sset V cu (sgn P m i - 48) cu = 0); rw [sset_same]; omega) (by show sset V cu (sgn P m i - 48) cu ≤ 99; rw [sset_same]; omega)
        have r2d : runD P (i + 1 + 1).toNat = (lt, cu, 2, sset V cu (10 * (sgn P m i - 48) + (sgn P m (i + 1) - 48))) := by
          rw [r2.2.1]
          show (lt, cu, (1 : Int) + 1, sset (sset V cu (sgn P m i - 48)) cu (10 * sset V cu (sgn P m i - 48) cu + (P (i + 1) - 48))) = _
          rw [sset_same, sset_sset, l2.2]
          rfl
        have r3 := tak_digit (i := i + 1 + 1) (by omega) r2.1 r2d h1 (by omega) (by show ¬ ((0 : Int) < 2 ∧ sset V cu _ cu = 0); rw [sset_same]; omega) (by show sset V cu _ cu ≤ 99; rw [sset_same]; omega)
        have r3d : runD P (i + 1 + 1 + 1).toNat = (lt, cu, 3, sset V cu z) := by
          rw [r3.2.1]
          show (lt, cu, (2 : Int) + 1, sset (sset V cu (10 * (sgn P m i - 48) + (sgn P m (i + 1) - 48))) cu (10 * sset V cu (10 * (sgn P m i - 48) + (sgn P m (i + 1) - 48)) cu + (P (i + 1 + 1) - 48))) = _
          rw [sset_same, sset_sset, l3.2, ← c5]
          rfl
        refine ⟨Or.inl ⟨b3, by omega, by rw [c1]; exact r3.1, ⟨3, by decide, by rw [c1, r3d]⟩, fun q1 q2 t => ?_, by rw [c1, r3.2.2, r2.2.2, r1.2.2]; exact a5⟩, fun _ => by omega⟩
        rw [c1] at q1 q2 t
        rw [r3d] at t
        rcases t with ⟨t, _⟩ | ⟨_, _, _, t⟩ | ⟨_, t, _⟩
        · exact h1 t
        · have t : sset V cu z cu ≤ 99 := t
          rw [sset_same] at t; omega
        · exact t q2
  · rcases b with ⟨b1, b2, b3⟩ | ⟨b1, b2, b3, b4⟩
    · exact ⟨Or.inr ⟨b2, by rw [b3]; exact a2⟩, fun q => by omega⟩
    · omega
theorem stg_want {P : Int → Int} {m w j c w2 j2 lt cu : Int} {V : Int → Int} {O : Int × (Int → qD)} (a : STN P m w j lt cu V O) (h1 : w = 1 → lt ≠ 0) (hc : w = 1 → sigR (lt, cu, 1, V) = c) (h59 : c ≠ 59 ∧ c ≠ 0 ∧ ¬ (48 ≤ c ∧ c ≤ 57)) (b : WantP P m w j c w2 j2) : STG P m w2 j2 (lt, cu + 1, 0, V) O ∧ (w2 = 1 → j < j2) := by
  rcases a with ⟨a1, a2, a3, ⟨d, d1, d2⟩, a5, a6⟩ | ⟨a1, a2⟩
  · have h1 := h1 a1
    have hc := hc a1
    have hc2 : sigR (lt, cu, d, V) = c := hc
    rcases b with ⟨b1, b2, b3, b4⟩ | ⟨b1, b2, b3⟩
    · have l := sgn_lt b2 h59.2.1
      have t : takC (runD P j.toNat) (P j) := by rw [d2, l.2]; exact Or.inr (Or.inr ⟨h1, h59.2.2, by show d ≠ 0; omega, hc2.symm⟩)
      have r := run_step a2.1 a3 t
      refine ⟨Or.inl ⟨b3, by omega, by rw [b4]; exact r.1, ?_, ?_⟩, fun _ => by omega⟩
      · rw [b4, r.2, d2, l.2]
        exact (if_neg h1).trans ((if_neg h59.2.2).trans (if_neg h59.1))
      · rw [b4, ord_no a2.1 (by rw [l.2]; exact h59.1)]; exact a6
    · refine ⟨Or.inr ⟨b2, by rw [b3]; exact a2, by rw [b3]; exact a3, ?_⟩, fun q => by omega⟩
      rw [b3]
      by_cases e : j < m
      · refine Or.inl ⟨e, fun t => ?_⟩
        have hs : sgn P m j = P j := if_pos e
        have t2 := t
        rw [d2] at t
        rcases t with ⟨t, _⟩ | ⟨_, t, _⟩ | ⟨_, _, _, t⟩
        · exact h1 t
        · exact a5 e t t2
        · rw [hc2] at t; exact b1 ⟨a1, by omega⟩
      · refine Or.inr ⟨by omega, fun t => ?_⟩
        rw [d2] at t
        exact h59.1 (hc2.symm.trans t.2.2)
  · rcases b with ⟨b1, b2, b3, b4⟩ | ⟨b1, b2, b3⟩
    · omega
    · exact ⟨Or.inr ⟨b2, by rw [b3]; exact a2⟩, fun q => by omega⟩
/-- an order stands there, and may end there -/
def EO (P : Int → Int) (m j : Int) (O : Int × (Int → qD)) : Prop := (0 ≤ j ∧ j ≤ m) ∧ runC P j.toNat ∧ endP (runD P j.toNat) ∧ stopP P m j ∧ ordS P j.toNat = O
theorem stn_end {P : Int → Int} {m w j lt cu : Int} {V : Int → Int} {O : Int × (Int → qD)} (a : STN P m w j lt cu V O) (hw : w = 1) (h1 : lt ≠ 0) (hs : sigR (lt, cu, 1, V) = 59) : EO P m j O ∧ (runD P j.toNat).1 = lt ∧ (runD P j.toNat).2.2.2 = V := by
  rcases a with ⟨a1, a2, a3, ⟨d, d1, d2⟩, a5, a6⟩ | ⟨a1, a2⟩
  · rw [d2]
    exact ⟨⟨a2, a3, by rw [d2]; exact ⟨h1, d1, hs⟩, a5, a6⟩, rfl, rfl⟩
  · omega
theorem eo_want {P : Int → Int} {m w2 j j2 : Int} {O : Int × (Int → qD)} (a : EO P m j O) (hj : j < m) (b : WantP P m 1 j 59 w2 j2) : (w2 = 1 ∧ j2 = j + 1 ∧ runC P j2.toNat ∧ runD P j2.toNat = D0 ∧ ordS P j2.toNat = allO P j) ∨ (w2 = 0 ∧ j2 = j ∧ failF P m j2) := by
  obtain ⟨a1, a2, ⟨e1, e2, e3⟩, a4, a5⟩ := a
  rcases b with ⟨_, b2, b3, b4⟩ | ⟨b1, b2, b3⟩
  · have l := sgn_lt b2 (by decide)
    have t : takC (runD P j.toNat) (P j) := by rw [l.2]; exact Or.inr (Or.inr ⟨e1, by decide, by omega, e3.symm⟩)
    have r := run_step a1.1 a2 t
    refine Or.inl ⟨b3, b4, by rw [b4]; exact r.1, ?_, by rw [b4]; exact ord_yes a1.1 l.2⟩
    rw [b4, r.2, l.2]
    exact (if_neg e1).trans ((if_neg (by decide)).trans (if_pos rfl))
  · refine Or.inr ⟨b2, b3, by rw [b3]; exact a1, by rw [b3]; exact a2, ?_⟩
    rw [b3]
    refine Or.inl ⟨hj, fun t => ?_⟩
    have hs : sgn P m j = P j := if_pos hj
    have t2 := t
    rcases t with ⟨t, _⟩ | ⟨_, t, _⟩ | ⟨_, _, _, t⟩
    · exact e1 t
    · exact a4 hj t t2
    · rw [e3] at t; exact b1 ⟨rfl, by omega⟩
/-- what fault() answers -/
def O_fault (m : Int) (P : Int → Int) (z : Int) : Prop := (z = -6 ∧ runC P m.toNat ∧ endP (runD P m.toNat)) ∨ (z = m ∧ runC P m.toNat ∧ ¬ endP (runD P m.toNat)) ∨ (0 ≤ z ∧ z < m ∧ runC P z.toNat ∧ ¬ takC (runD P z.toNat) (P z))
theorem O_fault_lt {m : Int} {P : Int → Int} {z x : Int} (h0 : 0 ≤ z) (h : z < x) (a : ¬ takC (runD P z.toNat) (P z)) (b : runC P x.toNat) : False := by
  have := b z.toNat (by omega)
  rw [show ((z.toNat : Nat) : Int) = z by omega] at this
  exact a this
theorem O_fault_fn {m : Int} {P : Int → Int} {z z2 : Int} (hm : 0 ≤ m) (a : O_fault m P z) (c : O_fault m P z2) : z = z2 := by
  rcases a with ⟨a1, a2, a3⟩ | ⟨a1, a2, a3⟩ | ⟨a1, a2, a3, a4⟩
  · rcases c with ⟨c1, c2, c3⟩ | ⟨c1, c2, c3⟩ | ⟨c1, c2, c3, c4⟩
    · omega
    · exact absurd a3 c3
    · exact (O_fault_lt (m := m) c1 c2 c4 a2).elim
  · rcases c with ⟨c1, c2, c3⟩ | ⟨c1, c2, c3⟩ | ⟨c1, c2, c3, c4⟩
    · exact absurd c3 a3
    · omega
    · exact (O_fault_lt (m := m) c1 c2 c4 a2).elim
  · rcases c with ⟨c1, c2, c3⟩ | ⟨c1, c2, c3⟩ | ⟨c1, c2, c3, c4⟩
    · exact (O_fault_lt (m := m) a1 a2 a4 c2).elim
    · exact (O_fault_lt (m := m) a1 a2 a4 c2).elim
    · rcases Int.lt_trichotomy z z2 with w | w | w
      · exact (O_fault_lt (m := m) a1 w a4 c3).elim
      · exact w
      · exact (O_fault_lt (m := m) c1 w c4 a3).elim
theorem failF.o {P : Int → Int} {m i : Int} (f : failF P m i) : O_fault m P i := by
  obtain ⟨f1, f2, ⟨f3, f4⟩ | ⟨f3, f4⟩⟩ := f
  · exact Or.inr (Or.inr ⟨f1.1, f3, f2, f4⟩)
  · rw [f3] at f2 f4; exact Or.inr (Or.inl ⟨f3, f2, f4⟩)
/-- the model's row of orders holds these -/
def COr (h : qH) (M : Int) (O : Int × (Int → qD)) : Prop := ∀ x, 0 ≤ x → x < O.1 → h (M + 15) (4 * x) = (O.2 x).1 ∧ h (M + 15) (4 * x + 1) = (O.2 x).2.2.2 0 ∧ h (M + 15) (4 * x + 2) = (O.2 x).2.2.2 1 ∧ h (M + 15) (4 * x + 3) = (O.2 x).2.2.2 2
