/-! The abstract machine's state: values are whole numbers; a heap is two functions (references r, numbers h) of address and place. -/
abbrev qV : Type := Int ⊕ (Int ⊕ Int)
abbrev qi (z : Int) : qV := Sum.inl z
abbrev qa (z : Int) : qV := Sum.inr (Sum.inl z)
abbrev ql (z : Int) : qV := Sum.inr (Sum.inr z)
def q_opt (z : Int) : Option Nat := if z = 0 then none else some z.toNat
def qconc : qV → Value
  | .inl z => .int (Int32.ofInt z)
  | .inr (.inl z) => va_rf (q_opt z)
  | .inr (.inr z) => .long (Int64.ofInt z)
abbrev q_r32 (z : Int) : Prop := -2147483648 ≤ z ∧ z ≤ 2147483647
abbrev q_r64 (z : Int) : Prop := -9223372036854775808 ≤ z ∧ z ≤ 9223372036854775807
def qok : qV → Prop
  | .inl z => q_r32 z
  | .inr (.inl _) => True
  | .inr (.inr z) => q_r64 z
def q_is2 : qV → Bool
  | .inl _ => false
  | .inr (.inl _) => false
  | .inr (.inr _) => true
abbrev qH : Type := Int → Int → Int
/-- base, classes' numbers and slots, array classes, shapes (kind, length) -/
abbrev qG : Type := Nat × va_G × (ClassId × ClassId × ClassId) × (Int → Nat × Int)
abbrev q_tys (G : qG) : List (ClassId × FieldType) := [(G.2.2.1.1, .int), (G.2.2.1.2.1, .boolean), (G.2.2.1.2.2, .object RX4)]
def q_nf (t : Nat) : Nat := ((vwCl[t]?).map (fun q => q.2.2)).getD 0
def q_fv (ty : FieldType) (x y : Int) : Value := if ty.isReference = true then va_rf (q_opt x) else .int (Int32.ofInt y)
def q_fs (t : Nat) (r h : Int → Int) : List Value := (List.range (q_nf t)).map (fun k => q_fv (q_ty t k) (r (k : Int)) (h (k : Int)))
def q_enc (G : qG) (r h : qH) (a : Nat) : va_E :=
  if (G.2.2.2 (a : Int)).1 = 10 then .inl (G.2.2.1.1, (G.2.2.2 (a : Int)).2.toNat, .inl (fun j => Int32.ofInt (h (a : Int) (j : Int))))
  else if (G.2.2.2 (a : Int)).1 = 11 then .inl (G.2.2.1.2.1, (G.2.2.2 (a : Int)).2.toNat, .inl (fun j => Int32.ofInt (h (a : Int) (j : Int))))
  else if (G.2.2.2 (a : Int)).1 = 12 then .inl (G.2.2.1.2.2, (G.2.2.2 (a : Int)).2.toNat, .inr (.inr (.inr (.inr (fun j => q_opt (r (a : Int) (j : Int)))))))
  else .inr ((G.2.2.2 (a : Int)).1, q_fs (G.2.2.2 (a : Int)).1 (r (a : Int)) (h (a : Int)))
def q_L (G : qG) (n : Int) : List Nat := (List.range (n.toNat - G.1)).map (fun i => G.1 + i)
/-- the heap holds the numbers -/
def q_Wh (G : qG) (n : Int) (r h : qH) (H : Heap) : Prop := 0 < G.1 ∧ (G.1 : Int) ≤ n ∧ n ≤ (H.size : Int) ∧ (∀ p k, q_r32 (h p k)) ∧ va_P G.2.1 vwCl (va_pl (q_L G n) (q_enc G r h)) H
/-- what is known of the classes -/
def q_En (G : qG) (U : State) : Prop := va_K G.2.1 vwCl (q_tys G) U ∧ (∀ w ∈ q_nest, va_Nw w U) ∧ va_AO RX4 U
abbrev qA (G : qG) : Nat → Prop := fun q => G.1 ≤ q
/-- an address that is used: its kind and length -/
def q_al (G : qG) (n p : Int) (t : Nat) (len : Int) : Prop := (G.1 : Int) ≤ p ∧ p < n ∧ G.2.2.2 p = (t, len) ∧ 0 ≤ len
def hset (h : qH) (p k v : Int) : qH := fun a b => if a = p ∧ b = k then v else h a b
def hcpy (h : qH) (q sp p dp m : Int) : qH := fun a b => if a = p ∧ dp ≤ b ∧ b < dp + m then h q (sp + (b - dp)) else h a b
theorem hset_same (h : qH) (p k v : Int) : hset h p k v p k = v := by simp [hset]
theorem hset_ne (h : qH) {p k a b : Int} (v : Int) (hn : a ≠ p ∨ b ≠ k) : hset h p k v a b = h a b := by
  unfold hset; rw [if_neg]; omega
theorem hset_nea (h : qH) {p k a : Int} (v b : Int) (hn : a ≠ p) : hset h p k v a b = h a b := hset_ne h v (Or.inl hn)
theorem hset_neb (h : qH) {p k b : Int} (v a : Int) (hn : b ≠ k) : hset h p k v a b = h a b := hset_ne h v (Or.inr hn)
theorem hset_ap (h : qH) (p k v a b : Int) : hset h p k v a b = if a = p ∧ b = k then v else h a b := rfl
theorem hcpy_ap (h : qH) (q sp p dp m a b : Int) : hcpy h q sp p dp m a b = if a = p ∧ dp ≤ b ∧ b < dp + m then h q (sp + (b - dp)) else h a b := rfl
theorem q_i32 {z : Int} (h : q_r32 z) : (Int32.ofInt z).toInt = z := Int32.toInt_ofInt_of_le h.1 (by have := h.2; omega)
theorem q_i64 {z : Int} (h : q_r64 z) : (Int64.ofInt z).toInt = z := Int64.toInt_ofInt_of_le h.1 (by have := h.2; omega)
theorem q_eq32 {x y : Int} (hx : q_r32 x) (hy : q_r32 y) : Int32.ofInt x = Int32.ofInt y ↔ x = y := ⟨fun e => by rw [← q_i32 hx, e, q_i32 hy], fun e => by rw [e]⟩
theorem q_lt32 {x y : Int} (hx : q_r32 x) (hy : q_r32 y) : Int32.ofInt x < Int32.ofInt y ↔ x < y := by rw [Int32.lt_iff_toInt_lt, q_i32 hx, q_i32 hy]
theorem q_le32 {x y : Int} (hx : q_r32 x) (hy : q_r32 y) : Int32.ofInt x ≤ Int32.ofInt y ↔ x ≤ y := by rw [Int32.le_iff_toInt_le, q_i32 hx, q_i32 hy]
theorem q_0 : (0 : Int32) = Int32.ofInt 0 := by decide
theorem q_rz : q_r32 0 := by decide
theorem q_toI (x : Int32) : Int32.ofInt x.toInt = x := Int32.ofInt_toInt x
theorem q_rI (x : Int32) : q_r32 x.toInt := ⟨Int32.le_toInt x, by have := Int32.toInt_lt x; omega⟩
theorem q_clamp {z : Int} (h : q_r32 z) : (Int32.ofInt z).toNatClampNeg = z.toNat := by
  unfold Int32.toNatClampNeg; rw [q_i32 h]
theorem q_cat (v : qV) : (qconc v).category = if q_is2 v = true then 2 else 1 := by
  rcases v with z | z | z
  · rfl
  · show (va_rf (q_opt z)).category = 1
    unfold q_opt va_rf; split <;> rfl
  · rfl
theorem q_cat1 {v : qV} (h : q_is2 v = false) : (qconc v).category = 1 := by rw [q_cat, h]; rfl
theorem q_pos {G : qG} {n p : Int} {t : Nat} {len : Int} {r h : qH} {H : Heap} (hW : q_Wh G n r h H) (ha : q_al G n p t len) : 0 < p := by
  have h1 := hW.1; have h2 := ha.1; omega
theorem q_conc_a {p : Int} (h : 0 < p) : qconc (qa p) = .ref p.toNat := by
  show va_rf (q_opt p) = _
  unfold q_opt; rw [if_neg (by omega)]; rfl
theorem q_conc_n : qconc (qa 0) = .null := rfl
theorem q_mem_L {G : qG} {n : Int} {a : Nat} : a ∈ q_L G n ↔ G.1 ≤ a ∧ a < n.toNat := by
  unfold q_L
  rw [List.mem_map]
  constructor
  · rintro ⟨i, hi, rfl⟩
    have := List.mem_range.mp hi
    omega
  · rintro ⟨h1, h2⟩
    exact ⟨a - G.1, List.mem_range.mpr (by omega), by omega⟩
theorem q_in_L {G : qG} {n p : Int} {t : Nat} {len : Int} (ha : q_al G n p t len) : p.toNat ∈ q_L G n := by
  have h1 := ha.1; have h2 := ha.2.1
  exact q_mem_L.mpr ⟨by omega, by omega⟩
theorem q_cast {G : qG} {n p : Int} {t : Nat} {len : Int} (ha : q_al G n p t len) : ((p.toNat : Nat) : Int) = p := by
  have h1 := ha.1; omega
theorem q_L_at {G : qG} {n : Int} {i : Nat} {q : Nat × va_E} {f : Nat → va_E} (h : (va_pl (q_L G n) f)[i]? = some q) : q.1 = G.1 + i ∧ i < n.toNat - G.1 := by
  unfold va_pl q_L at h
  rw [List.getElem?_map, List.getElem?_map] at h
  rw [Option.map_eq_some_iff] at h
  obtain ⟨a, h1, h2⟩ := h
  rw [Option.map_eq_some_iff] at h1
  obtain ⟨b, h3, h4⟩ := h1
  have h5 := List.getElem?_eq_some_iff.mp h3
  obtain ⟨h6, h7⟩ := h5
  rw [List.getElem_range] at h7
  subst h2; subst h4; subst h7
  exact ⟨rfl, by simpa using h6⟩
theorem q_pl_D (G : qG) (n : Int) (f : Nat → va_E) : va_D (qA G) (va_pl (q_L G n) f) := by
  refine ⟨fun i j p q hi hj he => ?_, fun k q hq => ?_⟩
  · have h1 := (q_L_at hi).1; have h2 := (q_L_at hj).1; omega
  · have h1 := (q_L_at hq).1
    show G.1 ≤ q.1
    omega
theorem q_cls {t : Nat} {R : String} {T : u_T} {N : Nat} (h : vwCl[t]? = some (R, T, N)) : (∀ w ∈ u_ws R T N, w ∈ q_tbl) ∧ (∀ k, k < N → parseFieldDescriptor (T k).2.2.1 = some (q_ty t k)) ∧ (∀ a, a < N → ∀ b, b < N → a ≠ b → (T a).2.1 ≠ (T b).2.1) ∧ q_nf t = N := by
  match t, h with
  | 0, h => cases h; exact ⟨q_inX0, tyX0_ok, nmX0, rfl⟩
  | 1, h => cases h; exact ⟨q_inX1, tyX1_ok, nmX1, rfl⟩
  | 2, h => cases h; exact ⟨q_inX2, tyX2_ok, nmX2, rfl⟩
  | 3, h => cases h; exact ⟨q_inX3, tyX3_ok, nmX3, rfl⟩
  | 4, h => cases h; exact ⟨q_inX4, tyX4_ok, nmX4, rfl⟩
  | 5, h => cases h; exact ⟨q_inX5, tyX5_ok, nmX5, rfl⟩
  | 6, h => cases h; exact ⟨q_inX6, tyX6_ok, nmX6, rfl⟩
  | 7, h => cases h; exact ⟨q_inX7, tyX7_ok, nmX7, rfl⟩
  | 8, h => cases h; exact ⟨q_inX8, tyX8_ok, nmX8, rfl⟩
  | 9, h => cases h; exact ⟨q_inX9, tyX9_ok, nmX9, rfl⟩
  | k + 10, h => simp [vwCl] at h
/-- the cells of an address, by its kind -/
theorem q_enc_o {G : qG} {n p : Int} {t : Nat} {len : Int} {r h : qH} (ha : q_al G n p t len) (ht : t < 10) : q_enc G r h p.toNat = .inr (t, q_fs t (r p) (h p)) := by
  have hs := ha.2.2.1
  unfold q_enc
  rw [q_cast ha, hs]
  simp only
  rw [if_neg (by omega), if_neg (by omega), if_neg (by omega)]
theorem q_enc_i {G : qG} {n p : Int} {len : Int} {r h : qH} (ha : q_al G n p 10 len) : q_enc G r h p.toNat = .inl (G.2.2.1.1, len.toNat, .inl (fun j => Int32.ofInt (h p (j : Int)))) := by
  have hs := ha.2.2.1
  unfold q_enc
  rw [q_cast ha, hs]
  simp
theorem q_enc_z {G : qG} {n p : Int} {len : Int} {r h : qH} (ha : q_al G n p 11 len) : q_enc G r h p.toNat = .inl (G.2.2.1.2.1, len.toNat, .inl (fun j => Int32.ofInt (h p (j : Int)))) := by
  have hs := ha.2.2.1
  unfold q_enc
  rw [q_cast ha, hs]
  simp
theorem q_enc_q {G : qG} {n p : Int} {len : Int} {r h : qH} (ha : q_al G n p 12 len) : q_enc G r h p.toNat = .inl (G.2.2.1.2.2, len.toNat, .inr (.inr (.inr (.inr (fun j => q_opt (r p (j : Int))))))) := by
  have hs := ha.2.2.1
  unfold q_enc
  rw [q_cast ha, hs]
  simp
theorem q_fs_at {t k N : Nat} {R : String} {T : u_T} {r h : Int → Int} (hc : vwCl[t]? = some (R, T, N)) (hk : k < N) : (q_fs t r h)[k]? = some (q_fv (q_ty t k) (r (k : Int)) (h (k : Int))) := by
  unfold q_fs
  rw [(q_cls hc).2.2.2, List.getElem?_map, List.getElem?_range hk]
  rfl
theorem q_fs_len {t N : Nat} {R : String} {T : u_T} {r h : Int → Int} (hc : vwCl[t]? = some (R, T, N)) : (q_fs t r h).length = N := by
  unfold q_fs
  rw [(q_cls hc).2.2.2]; simp
theorem q_fs_set {t k N : Nat} {R : String} {T : u_T} {r h r' h' : Int → Int} (hc : vwCl[t]? = some (R, T, N)) (hk : k < N) (hr : ∀ j : Nat, j < N → j ≠ k → r' (j : Int) = r (j : Int) ∧ h' (j : Int) = h (j : Int)) :
    (q_fs t r h).set k (q_fv (q_ty t k) (r' (k : Int)) (h' (k : Int))) = q_fs t r' h' := by
  apply List.ext_getElem?
  intro j
  by_cases hj : j = k
  · subst hj
    rw [List.getElem?_set_self (by rw [q_fs_len hc]; exact hk), q_fs_at hc hk]
  · rw [List.getElem?_set_ne (Ne.symm hj)]
    by_cases hjN : j < N
    · rw [q_fs_at hc hjN, q_fs_at hc hjN, (hr j hjN hj).1, (hr j hjN hj).2]
    · have h1 := q_fs_len (r := r) (h := h) hc
      have h2 := q_fs_len (r := r') (h := h') hc
      rw [List.getElem?_eq_none (by omega), List.getElem?_eq_none (by omega)]
/-- a world changed at one address -/
theorem q_enc_up {G : qG} {n : Int} {r h r' h' : qH} {e : va_E} {a : Nat} (he : q_enc G r' h' a = e) (ho : ∀ b : Nat, b ≠ a → r' (b : Int) = r (b : Int) ∧ h' (b : Int) = h (b : Int)) : va_pl (q_L G n) (va_up (q_enc G r h) a e) = va_pl (q_L G n) (q_enc G r' h') := by
  apply va_pl_congr
  intro b
  by_cases hb : b = a
  · subst hb; rw [va_up_self, he]
  · rw [va_up_ne _ _ hb]
    obtain ⟨h1, h2⟩ := ho b hb
    unfold q_enc
    rw [h1, h2]
theorem q_hset_row {h : qH} {p k v : Int} {b : Nat} (hb : ((b : Nat) : Int) ≠ p) : hset h p k v (b : Int) = h (b : Int) := by
  funext j
  exact hset_nea h v j hb
theorem q_rg {h : qH} {p k v : Int} (hr : ∀ a b, q_r32 (h a b)) (hv : q_r32 v) : ∀ a b, q_r32 (hset h p k v a b) := by
  intro a b
  unfold hset
  split
  · exact hv
  · exact hr a b
