/-! The shapes of all that the law makes, and its entry -/
def shpL : List (Nat × Int) := [(8, 0), (4, 0), (10, 60), (10, 60), (6, 0), (10, 4), (10, 4), (6, 0), (10, 4), (10, 4), (6, 0), (10, 3), (10, 3), (7, 0), (10, 20), (10, 20), (10, 20), (10, 20), (1, 0), (10, 120), (10, 120), (10, 60), (10, 60), (10, 60), (5, 0), (10, 40), (10, 40), (10, 40), (10, 40), (10, 40), (10, 40), (10, 40), (4, 0), (10, 60), (10, 60), (6, 0), (10, 4), (10, 4), (6, 0), (10, 4), (10, 4), (6, 0), (10, 3), (10, 3), (7, 0), (10, 20), (10, 20), (10, 20), (10, 20), (1, 0), (10, 120), (10, 120), (10, 60), (10, 60), (10, 60), (5, 0), (10, 40), (10, 40), (10, 40), (10, 40), (10, 40), (10, 40), (10, 40), (2, 0), (10, 80), (3, 0), (10, 3), (0, 0), (12, 7), (4, 0), (10, 60), (10, 60), (6, 0), (10, 4), (10, 4), (6, 0), (10, 4), (10, 4), (6, 0), (10, 3), (10, 3), (7, 0), (10, 20), (10, 20), (10, 20), (10, 20), (4, 0), (10, 60), (10, 60), (6, 0), (10, 4), (10, 4), (6, 0), (10, 4), (10, 4), (6, 0), (10, 3), (10, 3), (7, 0), (10, 20), (10, 20), (10, 20), (10, 20), (4, 0), (10, 60), (10, 60), (6, 0), (10, 4), (10, 4), (6, 0), (10, 4), (10, 4), (6, 0), (10, 3), (10, 3), (7, 0), (10, 20), (10, 20), (10, 20), (10, 20), (4, 0), (10, 60), (10, 60), (6, 0), (10, 4), (10, 4), (6, 0), (10, 4), (10, 4), (6, 0), (10, 3), (10, 3), (7, 0), (10, 20), (10, 20), (10, 20), (10, 20), (4, 0), (10, 60), (10, 60), (6, 0), (10, 4), (10, 4), (6, 0), (10, 4), (10, 4), (6, 0), (10, 3), (10, 3), (7, 0), (10, 20), (10, 20), (10, 20), (10, 20), (4, 0), (10, 60), (10, 60), (6, 0), (10, 4), (10, 4), (6, 0), (10, 4), (10, 4), (6, 0), (10, 3), (10, 3), (7, 0), (10, 20), (10, 20), (10, 20), (10, 20), (4, 0), (10, 60), (10, 60), (6, 0), (10, 4), (10, 4), (6, 0), (10, 4), (10, 4), (6, 0), (10, 3), (10, 3), (7, 0), (10, 20), (10, 20), (10, 20), (10, 20), (12, 2), (4, 0), (10, 60), (10, 60), (6, 0), (10, 4), (10, 4), (6, 0), (10, 4), (10, 4), (6, 0), (10, 3), (10, 3), (7, 0), (10, 20), (10, 20), (10, 20), (10, 20), (4, 0), (10, 60), (10, 60), (6, 0), (10, 4), (10, 4), (6, 0), (10, 4), (10, 4), (6, 0), (10, 3), (10, 3), (7, 0), (10, 20), (10, 20), (10, 20), (10, 20), (11, 2), (9, 0), (10, 228), (10, 1368), (10, 456), (11, 2), (10, 80), (10, 128), (10, 128), (10, 48), (10, 48), (10, 48), (10, 48), (10, 48), (10, 48), (10, 48), (10, 160)]
def q_shp (base : Nat) : Int → Nat × Int := fun a => shpL.getD (a - base).toNat (0, 0)
theorem q_shp_at {base : Nat} {a : Int} (k : Nat) (e : a = (base : Int) + (k : Int)) : q_shp base a = shpL.getD k (0, 0) := by
  unfold q_shp; rw [show (a - base).toNat = k by omega]
theorem sh_spans {G : qG} {base : Nat} (hG : G.2.2.2 = q_shp base) (o : Nat) (cap : Int) {p : Int} (e : p = (base : Int) + (o : Int)) (h : shpL.getD o (0, 0) = (6, 0) ∧ shpL.getD (o + 1) (0, 0) = (10, cap) ∧ shpL.getD (o + 2) (0, 0) = (10, cap)) : SSpans G p cap := by
  unfold SSpans
  rw [hG, q_shp_at o (by omega), q_shp_at (o + 1) (by omega), q_shp_at (o + 2) (by omega)]
  exact h
theorem sh_titles {G : qG} {base : Nat} (hG : G.2.2.2 = q_shp base) (o : Nat) {p : Int} (e : p = (base : Int) + (o : Int)) (h : shpL.getD o (0, 0) = (7, 0) ∧ shpL.getD (o + 1) (0, 0) = (10, 20) ∧ shpL.getD (o + 2) (0, 0) = (10, 20) ∧ shpL.getD (o + 3) (0, 0) = (10, 20) ∧ shpL.getD (o + 4) (0, 0) = (10, 20)) : STitles G p := by
  unfold STitles
  rw [hG, q_shp_at o (by omega), q_shp_at (o + 1) (by omega), q_shp_at (o + 2) (by omega), q_shp_at (o + 3) (by omega), q_shp_at (o + 4) (by omega)]
  exact h
def q_isS (o : Nat) : Prop := (shpL.drop o).take 17 = [(4, 0), (10, 60), (10, 60), (6, 0), (10, 4), (10, 4), (6, 0), (10, 4), (10, 4), (6, 0), (10, 3), (10, 3), (7, 0), (10, 20), (10, 20), (10, 20), (10, 20)]
theorem q_drop {o k m : Nat} {l : List (Nat × Int)} (h : (shpL.drop o).take m = l) (hk : k < m) (hl : k < l.length) : shpL.getD (o + k) (0, 0) = l.getD k (0, 0) := by
  subst h
  rw [List.getD_eq_getElem?_getD, List.getD_eq_getElem?_getD, List.getElem?_take, if_pos hk, List.getElem?_drop]
theorem sh_score {G : qG} {base : Nat} (hG : G.2.2.2 = q_shp base) (o : Nat) {p : Int} (e : p = (base : Int) + (o : Int)) (h : q_isS o) : SScore G p := by
  refine ⟨?_, ?_, ?_, sh_spans hG (o + 3) 4 (by omega) ⟨q_drop (k := 3) h (by decide) (by decide), q_drop (k := 4) h (by decide) (by decide), q_drop (k := 5) h (by decide) (by decide)⟩, sh_spans hG (o + 6) 4 (by omega) ⟨q_drop (k := 6) h (by decide) (by decide), q_drop (k := 7) h (by decide) (by decide), q_drop (k := 8) h (by decide) (by decide)⟩, sh_spans hG (o + 9) 3 (by omega) ⟨q_drop (k := 9) h (by decide) (by decide), q_drop (k := 10) h (by decide) (by decide), q_drop (k := 11) h (by decide) (by decide)⟩, sh_titles hG (o + 12) (by omega) ⟨q_drop (k := 12) h (by decide) (by decide), q_drop (k := 13) h (by decide) (by decide), q_drop (k := 14) h (by decide) (by decide), q_drop (k := 15) h (by decide) (by decide), q_drop (k := 16) h (by decide) (by decide)⟩⟩
  · rw [hG, q_shp_at o (by omega)]; exact q_drop (k := 0) h (by decide) (by decide)
  · rw [hG, q_shp_at (o + 1) (by omega)]; exact q_drop (k := 1) h (by decide) (by decide)
  · rw [hG, q_shp_at (o + 2) (by omega)]; exact q_drop (k := 2) h (by decide) (by decide)
theorem sh_night {G : qG} {base : Nat} (hG : G.2.2.2 = q_shp base) (o : Nat) {p : Int} (e : p = (base : Int) + (o : Int)) (h : (shpL.drop o).take 14 = [(1, 0), (10, 120), (10, 120), (10, 60), (10, 60), (10, 60), (5, 0), (10, 40), (10, 40), (10, 40), (10, 40), (10, 40), (10, 40), (10, 40)]) : SNight G p := by
  refine ⟨?_, ?_, ?_, ?_, ?_, ?_, ?_, fun k k1 k2 => ?_⟩
  · rw [hG, q_shp_at (o + 0) (by omega)]; exact q_drop (k := 0) h (by decide) (by decide)
  · rw [hG, q_shp_at (o + 1) (by omega)]; exact q_drop (k := 1) h (by decide) (by decide)
  · rw [hG, q_shp_at (o + 2) (by omega)]; exact q_drop (k := 2) h (by decide) (by decide)
  · rw [hG, q_shp_at (o + 3) (by omega)]; exact q_drop (k := 3) h (by decide) (by decide)
  · rw [hG, q_shp_at (o + 4) (by omega)]; exact q_drop (k := 4) h (by decide) (by decide)
  · rw [hG, q_shp_at (o + 5) (by omega)]; exact q_drop (k := 5) h (by decide) (by decide)
  · rw [hG, q_shp_at (o + 6) (by omega)]; exact q_drop (k := 6) h (by decide) (by decide)
  · rw [hG]
    rcases (show k = 1 ∨ k = 2 ∨ k = 3 ∨ k = 4 ∨ k = 5 ∨ k = 6 ∨ k = 7 by omega) with rfl | rfl | rfl | rfl | rfl | rfl | rfl
    · rw [q_shp_at (o + 7) (by omega)]; exact q_drop (k := 7) h (by decide) (by decide)
    · rw [q_shp_at (o + 8) (by omega)]; exact q_drop (k := 8) h (by decide) (by decide)
    · rw [q_shp_at (o + 9) (by omega)]; exact q_drop (k := 9) h (by decide) (by decide)
    · rw [q_shp_at (o + 10) (by omega)]; exact q_drop (k := 10) h (by decide) (by decide)
    · rw [q_shp_at (o + 11) (by omega)]; exact q_drop (k := 11) h (by decide) (by decide)
    · rw [q_shp_at (o + 12) (by omega)]; exact q_drop (k := 12) h (by decide) (by decide)
    · rw [q_shp_at (o + 13) (by omega)]; exact q_drop (k := 13) h (by decide) (by decide)
theorem sh_call {G : qG} {base : Nat} (hG : G.2.2.2 = q_shp base) : SCall G (base : Int) := by
  refine ⟨(by rw [hG, q_shp_at 0 (by omega)]; rfl), sh_score hG 1 (by omega) (by rfl), sh_night hG 18 (by omega) (by rfl), sh_score hG 32 (by omega) (by rfl), sh_night hG 49 (by omega) (by rfl), ⟨(by rw [hG, q_shp_at 63 (by omega)]; rfl), (by rw [hG, q_shp_at 64 (by omega)]; rfl)⟩, ⟨(by rw [hG, q_shp_at 65 (by omega)]; rfl), (by rw [hG, q_shp_at 66 (by omega)]; rfl)⟩, ⟨(by rw [hG, q_shp_at 67 (by omega)]; rfl), (by rw [hG, q_shp_at 68 (by omega)]; rfl), fun i i0 i1 => ?_⟩, (by rw [hG, q_shp_at 188 (by omega)]; rfl), sh_score hG 189 (by omega) (by rfl), sh_score hG 206 (by omega) (by rfl), (by rw [hG, q_shp_at 223 (by omega)]; rfl)⟩
  rcases (show i = 0 ∨ i = 1 ∨ i = 2 ∨ i = 3 ∨ i = 4 ∨ i = 5 ∨ i = 6 by omega) with rfl | rfl | rfl | rfl | rfl | rfl | rfl
  · exact sh_score hG 69 (by omega) (by rfl)
  · exact sh_score hG 86 (by omega) (by rfl)
  · exact sh_score hG 103 (by omega) (by rfl)
  · exact sh_score hG 120 (by omega) (by rfl)
  · exact sh_score hG 137 (by omega) (by rfl)
  · exact sh_score hG 154 (by omega) (by rfl)
  · exact sh_score hG 171 (by omega) (by rfl)
theorem sh_model {G : qG} {base : Nat} (hG : G.2.2.2 = q_shp base) : SModel G ((base : Int) + 224) := by
  refine ⟨(by rw [hG, q_shp_at 224 (by omega)]; rfl), (by rw [hG, q_shp_at 225 (by omega)]; rfl), (by rw [hG, q_shp_at 226 (by omega)]; rfl), (by rw [hG, q_shp_at 227 (by omega)]; rfl), (by rw [hG, q_shp_at 228 (by omega)]; rfl), (by rw [hG, q_shp_at 229 (by omega)]; rfl), (by rw [hG, q_shp_at 230 (by omega)]; rfl), (by rw [hG, q_shp_at 231 (by omega)]; rfl), (by rw [hG, q_shp_at 232 (by omega)]; rfl), (by rw [hG, q_shp_at 233 (by omega)]; rfl), (by rw [hG, q_shp_at 234 (by omega)]; rfl), (by rw [hG, q_shp_at 235 (by omega)]; rfl), (by rw [hG, q_shp_at 236 (by omega)]; rfl), (by rw [hG, q_shp_at 237 (by omega)]; rfl), (by rw [hG, q_shp_at 238 (by omega)]; rfl), (by rw [hG, q_shp_at 239 (by omega)]; rfl)⟩
theorem q_kn_arr {s : State} {args : Array Value} {ty : FieldType} (h : (Cond.arrayClass ty).before args s = true) : ∃ cA : ClassId, ArrOfT s cA ty ∧ s.vm.findClass ("[" ++ ty.toString) = some cA := by
  obtain ⟨cA, k, comp, h1, h2, h3⟩ := Cond.arrayClass_spec h
  exact ⟨cA, fun n z => ⟨fun k h => (by cases h), k, h2, comp, h3⟩, h1⟩
theorem q_kn_ref {s : State} {args : Array Value} {C : String} (h : (Cond.arrayOver (.object C)).before args s = true) : ∃ cA : ClassId, ArrOfT s cA (.object C) ∧ va_RA s cA (.object C) := by
  obtain ⟨comp, cA, k, h1, -, h2, h3, h4⟩ := Cond.arrayOver_spec h
  exact ⟨cA, fun n z => ⟨fun k h => (by cases h), k, h2, comp, h3⟩, k, comp, h2, h3, h1, h4⟩
theorem q_known {s : State} {args : Array Value} (hts : ∀ w ∈ lw_tbl, w.before args s = true) (base : Nat) : ∃ G : qG, G.1 = base ∧ G.2.2.2 = q_shp base ∧ q_En G s := by
  have hq : ∀ w ∈ q_tbl, w.before args s = true := fun w hw => hts w (q_tbl_good w hw).1
  obtain ⟨c0, i0, k0⟩ := u_known (C := RX0) (T := TX0) (N := 3) (n := 3) hq q_inX0 (hq _ lk_RX0)
  obtain ⟨c1, i1, k1⟩ := u_known (C := RX1) (T := TX1) (N := 8) (n := 8) hq q_inX1 (hq _ lk_RX1)
  obtain ⟨c2, i2, k2⟩ := u_known (C := RX2) (T := TX2) (N := 2) (n := 2) hq q_inX2 (hq _ lk_RX2)
  obtain ⟨c3, i3, k3⟩ := u_known (C := RX3) (T := TX3) (N := 4) (n := 4) hq q_inX3 (hq _ lk_RX3)
  obtain ⟨c4, i4, k4⟩ := u_known (C := RX4) (T := TX4) (N := 8) (n := 8) hq q_inX4 (hq _ lk_RX4)
  obtain ⟨c5, i5, k5⟩ := u_known (C := RX5) (T := TX5) (N := 8) (n := 8) hq q_inX5 (hq _ lk_RX5)
  obtain ⟨c6, i6, k6⟩ := u_known (C := RX6) (T := TX6) (N := 3) (n := 3) hq q_inX6 (hq _ lk_RX6)
  obtain ⟨c7, i7, k7⟩ := u_known (C := RX7) (T := TX7) (N := 5) (n := 5) hq q_inX7 (hq _ lk_RX7)
  obtain ⟨c8, i8, k8⟩ := u_known (C := RX8) (T := TX8) (N := 9) (n := 9) hq q_inX8 (hq _ lk_RX8)
  obtain ⟨c9, i9, k9⟩ := u_known (C := RX9) (T := TX9) (N := 24) (n := 24) hq q_inX9 (hq _ lk_RX9)
  obtain ⟨cI, a1, a2⟩ := q_kn_arr (hq _ la_int)
  obtain ⟨cZ, b1, b2⟩ := q_kn_arr (hq _ la_boolean)
  obtain ⟨cS, d1, d2⟩ := q_kn_ref (hts _ lo_Score)
  obtain ⟨dC, dI, hKc⟩ : ∃ (dC : Nat → ClassId) (dI : Nat → Nat → Nat), ∀ (k : Nat) (q : vw_C), vwCl[k]? = some q → u_Kn s q.1 q.2.1 q.2.2 (dC k) (dI k) := by
    refine ⟨fun k => if k = 0 then c0 else if k = 1 then c1 else if k = 2 then c2 else if k = 3 then c3 else if k = 4 then c4 else if k = 5 then c5 else if k = 6 then c6 else if k = 7 then c7 else if k = 8 then c8 else c9, fun k => if k = 0 then i0 else if k = 1 then i1 else if k = 2 then i2 else if k = 3 then i3 else if k = 4 then i4 else if k = 5 then i5 else if k = 6 then i6 else if k = 7 then i7 else if k = 8 then i8 else i9, ?_⟩
    intro k q hq
    match k, hq with
    | 0, hq => cases hq; exact k0
    | 1, hq => cases hq; exact k1
    | 2, hq => cases hq; exact k2
    | 3, hq => cases hq; exact k3
    | 4, hq => cases hq; exact k4
    | 5, hq => cases hq; exact k5
    | 6, hq => cases hq; exact k6
    | 7, hq => cases hq; exact k7
    | 8, hq => cases hq; exact k8
    | 9, hq => cases hq; exact k9
    | k + 10, hq => simp [vwCl] at hq
  refine ⟨(base, (dC, dI), (cI, cZ, cS), q_shp base), rfl, rfl, ⟨hKc, fun k q h => ?_⟩, fun w hw => ?_, va_AO.of (hts _ lo_Score)⟩
  · match k, h with
    | 0, h => cases h; exact ⟨a1, a2⟩
    | 1, h => cases h; exact ⟨b1, b2⟩
    | 2, h => cases h; exact ⟨d1, d2⟩
    | k + 3, h => simp at h
  · have h2 : ∀ w ∈ q_nest, w.onTables = true := by decide
    exact va_Nw.of (h2 w hw) (hts w (q_nest_in w hw))
