/-! The law: both sides hold one state -/
def GZ (st : qS) : Prop := SZ st.1 ∧ (∀ i, 0 ≤ i → i < st.2.2.1.1 → SZ (st.2.2.1.2 i)) ∧ ∀ k, 0 ≤ k → k < 2 → st.2.2.2.1 k = 1 → SZ (st.2.2.2.2 k)
theorem hrec_sz {H : Int × (Int → Int → Int)} {s : Int → Int} (h0 : 0 ≤ H.1 ∧ H.1 ≤ 6) (h1 : ∀ i, 0 ≤ i → i < H.1 → SZ (H.2 i)) (g : SZ s) : ∀ i, 0 ≤ i → i < (hrec H s).1 → SZ ((hrec H s).2 i) := by
  unfold hrec
  split
  · intro i a c
    have c : i < H.1 + 1 := c
    show SZ (if i = H.1 then s else H.2 i)
    split
    · exact g
    · exact h1 i a (by omega)
  · intro i a c
    have c : i < 6 := c
    show SZ (if i = 5 then s else H.2 (i + 1))
    split
    · exact g
    · exact h1 _ (by omega) (by omega)
theorem GZ.ch {st : qS} {z : Int} {s2 : Int → Int} (gs : GS st) (g : GZ st) (g2 : SZ s2) : GZ (chg st z s2) := by
  unfold chg
  split
  · exact g
  · exact ⟨g2, hrec_sz gs.2.2.1 g.2.1 g.1, g.2.2⟩
theorem GS.pad {st : qS} {m : Int} {P : Int → Int} (g : GS st) (p : PG m P) : GS (st.1, (m, P), st.2.2) := ⟨g.1, p, g.2.2⟩
theorem GZ.pad {st : qS} {m : Int} {P : Int → Int} (g : GZ st) : GZ (st.1, (m, P), st.2.2) := g
theorem PG_0 (P : Int → Int) : PG 0 P := ⟨Int.le_refl _, by decide, fun k a c => by omega⟩
theorem carry_g {st st2 : qS} {z : Int} (gs : GS st) (gz : GZ st) (o : O_carry st z st2) : GS st2 ∧ GZ st2 := by
  rcases o with ⟨_, _, e⟩ | ⟨_, s2, ⟨_, r, _⟩, e⟩
  · rw [e]; exact ⟨gs, gz⟩
  · rw [e]
    have h := runO_good gs.1 gz.1 _ r
    obtain ⟨b1, b2⟩ := hrec_good gs.2.2.1 gs.2.2.2.1 gs.1
    exact ⟨⟨h.1, PG_0 _, b1, b2, gs.2.2.2.2⟩, ⟨h.2, hrec_sz gs.2.2.1 gz.2.1 gz.1, gz.2.2⟩⟩
theorem undo_g {st st2 : qS} {z : Int} (gs : GS st) (gz : GZ st) (o : O_undo st z st2) : GS st2 ∧ GZ st2 := by
  have gh := gs.2.2.1
  rcases o with ⟨_, _, e⟩ | ⟨h, _, e⟩
  · rw [e]; exact ⟨gs, gz⟩
  · rw [e]
    exact ⟨⟨gs.2.2.2.1 _ (by omega) (by omega), gs.2.1, ⟨by show 0 ≤ st.2.2.1.1 - 1; omega, by show st.2.2.1.1 - 1 ≤ 6; omega⟩, fun i a c => by have c : i < st.2.2.1.1 - 1 := c; exact gs.2.2.2.1 i a (by omega), gs.2.2.2.2⟩,
      ⟨gz.2.1 _ (by omega) (by omega), fun i a c => by have c : i < st.2.2.1.1 - 1 := c; exact gz.2.1 i a (by omega), gz.2.2⟩⟩
theorem save_g {st st2 : qS} {k z : Int} (gs : GS st) (gz : GZ st) (o : O_save st k z st2) : GS st2 ∧ GZ st2 := by
  rcases o with ⟨_, _, e⟩ | ⟨h, _, e⟩
  · rw [e]; exact ⟨gs, gz⟩
  · rw [e]
    refine ⟨⟨gs.1, gs.2.1, gs.2.2.1, gs.2.2.2.1, fun i a c => ?_⟩, ⟨gz.1, gz.2.1, fun i a c w => ?_⟩⟩
    · show (sset st.2.2.2.1 k 1 i = 0 ∨ sset st.2.2.2.1 k 1 i = 1) ∧ (sset st.2.2.2.1 k 1 i = 1 → SG (if i = k then st.1 else st.2.2.2.2 i))
      by_cases q : i = k
      · rw [q, sset_same, if_pos rfl]; exact ⟨Or.inr rfl, fun _ => gs.1⟩
      · rw [sset_ne _ _ q, if_neg q]; exact gs.2.2.2.2 i a c
    · have w : sset st.2.2.2.1 k 1 i = 1 := w
      show SZ (if i = k then st.1 else st.2.2.2.2 i)
      by_cases q : i = k
      · rw [if_pos q]; exact gz.1
      · rw [sset_ne _ _ q] at w; rw [if_neg q]; exact gz.2.2 i a c w
theorem restore_g {st st2 : qS} {k z : Int} (gs : GS st) (gz : GZ st) (o : O_restore st k z st2) : GS st2 ∧ GZ st2 := by
  rcases o with ⟨_, _, e⟩ | ⟨_, _, _, e⟩ | ⟨h, h1, _, e⟩
  · rw [e]; exact ⟨gs, gz⟩
  · rw [e]; exact ⟨gs, gz⟩
  · rw [e]; exact ⟨gs.ch ((gs.2.2.2.2 k h.1 (by omega)).2 h1), gz.ch gs (gz.2.2 k h.1 (by omega) h1)⟩
theorem IM.far {h h2 : qH} {b : Int} {st : qS} (c : IM h (b + 224) st) (f : FR b 224 h h2) : IM h2 (b + 224) st :=
  ⟨fun j a d => (f _ _ (by omega)).trans (c.1 j a d), ⟨(f _ _ (by omega)).trans c.2.1.1, fun k a d => (f _ _ (by omega)).trans (c.2.1.2 k a d)⟩, ⟨(f _ _ (by omega)).trans c.2.2.1.1, fun i a d j a2 d2 => (f _ _ (by omega)).trans (c.2.2.1.2 i a d j a2 d2)⟩, fun k a d => ⟨(f _ _ (by omega)).trans (c.2.2.2 k a d).1, fun w j a2 d2 => (f _ _ (by omega)).trans ((c.2.2.2 k a d).2 w j a2 d2)⟩⟩
theorem I8.far {h h2 : qH} {b : Int} {st : qS} (I : I8 h b st) (f : FR (b + 224) 16 h h2) : I8 h2 b st := I.fr (fun x y _ _ _ _ => f x y (by omega))
theorem GS_st0 : GS st0 := ⟨SG_st0, PG_0 _, by decide, fun i a c => by have c : i < 0 := c; omega, fun k a c => ⟨Or.inl rfl, fun w => absurd (show (0 : Int) = 1 from w) (by decide)⟩⟩
theorem GZ_st0 : GZ st0 := by
  refine ⟨fun j a c => ?_, fun i a c => by have c : i < 0 := c; omega, fun k a c w => absurd (show (0 : Int) = 1 from w) (by decide)⟩
  have a : 134 + 2 * 0 ≤ j := a
  show (if j = 0 then (32 : Int) else if j = 1 then 10 else if 6 ≤ j ∧ j < 66 then 4 else if 66 ≤ j ∧ j < 126 then 60 else 0) = 0
  rw [if_neg (by omega), if_neg (by omega), if_neg (by omega), if_neg (by omega)]
/-- the script: L numbers at the cell that z stands for -/
def q_scr (G : qG) (X : qX) (z L : Int) (xv : Int → Int) : Prop := ∃ (b n : Nat) (f : Nat → Int32), q_opt z = some b ∧ va_X b n f (xs X) (xs X).heap ∧ b < (xs X).heap.size ∧ ¬ qA G b ∧ L = (n : Int) ∧ n ≤ 2560 ∧ ∀ k, xv k = (f k.toNat).toInt
section
variable {G : qG} {X : qX} {P : qP} {cc : ByteArray} {nL : Nat} {own : String} {ret : Option FieldType} {rm : Room} {cs : Nat × Nat} {n : Int} {r h : qH} {pc : Nat} {al : List (Nat × qV)} {st : List qV}
theorem Aj.slen (C : q_C G X cc nL own ret rm) {z L : Int} {xv : Int → Int} (SX : q_scr G X z L xv) (d : decode cc pc = .ok (.arraylength, 1)) (k : Aj G X P cc nL cs n r h (pc + 1) al (qi L :: st)) : Aj G X P cc nL cs n r h pc al (qa z :: st) := by
  obtain ⟨b, m, f, e1, e2, e3, e4, e5, e6, -⟩ := SX
  intro H locs ls hW hN hS ha hs hl
  have k1 := k H locs ls hW hN hS ha (q_ok1 (q_tl hs) (v := qi L) (by show q_r32 L; omega)) hl
  simp only [List.map_cons, qconc] at k1 ⊢
  rw [e1]
  refine va_slen C.1 C.2.1 e2 e3 e4 hS d ?_
  rw [e5] at k1
  exact k1
theorem Aj.sld (C : q_C G X cc nL own ret rm) {z L i : Int} {xv : Int → Int} (SX : q_scr G X z L xv) (hi : 0 ≤ i ∧ i < L) (d : decode cc pc = .ok (.iaload, 1)) (k : Aj G X P cc nL cs n r h (pc + 1) al (qi (xv i) :: st)) : Aj G X P cc nL cs n r h pc al (qi i :: qa z :: st) := by
  obtain ⟨b, m, f, e1, e2, e3, e4, e5, e6, e7⟩ := SX
  intro H locs ls hW hN hS ha hs hl
  have ri : q_r32 i := q_hd hs
  have k1 := k H locs ls hW hN hS ha (q_ok1 (q_tl (q_tl hs)) (v := qi (xv i)) (by show q_r32 (xv i); rw [e7]; exact q_rI _)) hl
  simp only [List.map_cons, qconc] at k1 ⊢
  rw [e1]
  refine va_sld C.1 C.2.1 e2 e3 e4 hS (by have := q_vin ri hi.1 hi.2; rw [e5] at this; exact this) d ?_
  rw [q_clamp ri]
  rw [e7, q_toI] at k1
  exact k1
end
