section
variable {G : qG} {X : qX} {P : qP} {cc : ByteArray} {nL : Nat} {own : String} {ret : Option FieldType} {rm : Room} {cs : Nat × Nat} {n : Int} {r h : qH} {pc : Nat} {al al2 : List (Nat × qV)} {st : List qV}
theorem q_tys0 (G : qG) : (q_tys G)[0]? = some (G.2.2.1.1, .int) := rfl
theorem q_tys1 (G : qG) : (q_tys G)[1]? = some (G.2.2.1.2.1, .boolean) := rfl
theorem q_tys2 (G : qG) : (q_tys G)[2]? = some (G.2.2.1.2.2, .object RX4) := rfl
theorem q_fvI {ty : FieldType} (h : ty.isReference = false) (x y : Int) : q_fv ty x y = .int (Int32.ofInt y) := by unfold q_fv; rw [h]; rfl
theorem q_fvR {ty : FieldType} (h : ty.isReference = true) (x y : Int) : q_fv ty x y = qconc (qa x) := by unfold q_fv; rw [h]; rfl
theorem Aj.get (C : q_C G X cc nL own ret rm) {idx t : Nat} {k : Int} {ty : FieldType} {fin : Bool} (hf : q_FL own idx t k ty fin) {p len : Int} (ha0 : q_al G n p t len) (d : decode cc pc = .ok (.getfield idx, 3)) {v : qV} (hv : q_fv ty (r p k) (h p k) = qconc v) (hvo : (∀ a b, q_r32 (h a b)) → qok v) (kk : Aj G X P cc nL cs n r h (pc + 3) al (v :: st)) : Aj G X P cc nL cs n r h pc al (qa p :: st) := by
  intro H locs ls hW hN hS ha hs hl
  obtain ⟨R, T, N, kn, hc, rfl, hk, hown, hlink, hty, -, ht⟩ := hf
  have hpos := q_pos hW ha0
  obtain ⟨j, hj⟩ := va_pl_get (X := []) (f := q_enc G r h) (q_in_L ha0)
  have he : (va_pl (q_L G n) (q_enc G r h))[j]? = some (p.toNat, .inr (t, q_fs t (r p) (h p))) := by
    rw [← q_enc_o ha0 ht]; exact hj
  show W _ _ _ _ _ _ _ _ _ _ _ _ _ _ _ (F0 _ _ _ (qconc (qa p) :: st.map qconc))
  rw [q_conc_a hpos]
  have hfv := q_fs_at (r := r p) (h := h p) hc hk
  rw [hty, hv] at hfv
  refine va_get (D := G.2.1) (ci := t) (v := qconc v) C.1 C.2.1 C.2.2.2.2.1 (q_cls hc).1 C.2.2.2.1 C.2.2.2.2.2.2.2.2.1 hW.2.2.2.2 j he hc kn hk (C.2.2.2.2.1 _ hlink) (fun x hx => by rw [hown] at hx; exact hx) hfv d ?_
  exact kk H locs ls hW hN hS ha (q_ok1 (q_tl hs) (hvo hW.2.2.2.1)) hl
theorem Aj.getI (C : q_C G X cc nL own ret rm) {idx t : Nat} {k : Int} {ty : FieldType} {fin : Bool} (hf : q_FL own idx t k ty fin) (hty : ty.isReference = false) {p len : Int} (ha0 : q_al G n p t len) (d : decode cc pc = .ok (.getfield idx, 3)) (kk : Aj G X P cc nL cs n r h (pc + 3) al (qi (h p k) :: st)) : Aj G X P cc nL cs n r h pc al (qa p :: st) :=
  Aj.get C hf ha0 d (v := qi (h p k)) (q_fvI hty _ _) (fun hr => hr p k) kk
theorem Aj.getR (C : q_C G X cc nL own ret rm) {idx t : Nat} {k : Int} {ty : FieldType} {fin : Bool} (hf : q_FL own idx t k ty fin) (hty : ty.isReference = true) {p len z : Int} (ha0 : q_al G n p t len) (hz : r p k = z) (d : decode cc pc = .ok (.getfield idx, 3)) (kk : Aj G X P cc nL cs n r h (pc + 3) al (qa z :: st)) : Aj G X P cc nL cs n r h pc al (qa p :: st) :=
  Aj.get C hf ha0 d (v := qa z) (by rw [q_fvR hty, hz]) (fun _ => trivial) kk
theorem q_wset {t kn N : Nat} {R : String} {T : u_T} {p len : Int} {r2 h2 : qH} (ha0 : q_al G n p t len) (ht : t < 10) (hc : vwCl[t]? = some (R, T, N)) (hk : kn < N) {v : Value} (hv : q_fv (q_ty t kn) (r2 p (kn : Int)) (h2 p (kn : Int)) = v)
    (ho : ∀ a b : Int, (a ≠ p ∨ b ≠ (kn : Int)) → r2 a b = r a b ∧ h2 a b = h a b) : va_pl (q_L G n) (va_up (q_enc G r h) p.toNat (.inr (t, (q_fs t (r p) (h p)).set kn v))) = va_pl (q_L G n) (q_enc G r2 h2) := by
  apply q_enc_up
  · rw [q_enc_o ha0 ht, ← hv, q_fs_set hc hk]
    intro j _ hj
    exact ho p j (Or.inr (by omega))
  · intro b hb
    have h1 := q_cast ha0
    have h2 : ((b : Nat) : Int) ≠ p := by omega
    exact ⟨funext fun j => (ho b j (Or.inl h2)).1, funext fun j => (ho b j (Or.inl h2)).2⟩
theorem q_size_of {H1 : Heap} {f : Nat → va_E} {p len : Int} {t : Nat} (ha0 : q_al G n p t len) (hP : va_P G.2.1 vwCl (va_pl (q_L G n) f) H1) : n ≤ (H1.size : Int) := by
  have h1 := ha0.1
  have h2 := ha0.2.1
  have h3 := va_pl_lt (X := []) hP (q_mem_L.mpr (show G.1 ≤ (n - 1).toNat ∧ (n - 1).toNat < n.toNat by omega))
  omega
theorem Aj.put (C : q_C G X cc nL own ret rm) {idx t : Nat} {k : Int} {ty : FieldType} {fin : Bool} (hf : q_FL own idx t k ty fin) {p len : Int} (ha0 : q_al G n p t len) (hfin : fin = false ∨ ((xme X).name = "<init>" ∧ (vwCl[t]?).map (fun q => q.1) = some own)) (d : decode cc pc = .ok (.putfield idx, 3)) {v : qV} {r2 h2 : qH} (hv : q_fv ty (r2 p k) (h2 p k) = qconc v) (hn : narrow ty (qconc v) = qconc v) (hfit : fits ty (qconc v) = true)
    (ho : ∀ a b : Int, (a ≠ p ∨ b ≠ k) → r2 a b = r a b ∧ h2 a b = h a b) (hrg : qok v → (∀ a b, q_r32 (h a b)) → ∀ a b, q_r32 (h2 a b)) (kk : Aj G X P cc nL cs n r2 h2 (pc + 3) al st) : Aj G X P cc nL cs n r h pc al (v :: qa p :: st) := by
  intro H locs ls hW hN hS ha hs hl
  obtain ⟨R, T, N, kn, hc, rfl, hk, hown, hlink, hty, hfi, ht⟩ := hf
  have hpos := q_pos hW ha0
  obtain ⟨j, hj⟩ := va_pl_get (X := []) (f := q_enc G r h) (q_in_L ha0)
  have he : (va_pl (q_L G n) (q_enc G r h))[j]? = some (p.toNat, .inr (t, q_fs t (r p) (h p))) := by
    rw [← q_enc_o ha0 ht]; exact hj
  show W _ _ _ _ _ _ _ _ _ _ _ _ _ _ _ (F0 _ _ _ (qconc v :: qconc (qa p) :: st.map qconc))
  rw [q_conc_a hpos]
  have hcl := q_cls hc
  have hD := q_pl_D G n (q_enc G r h)
  have hset : (va_pl (q_L G n) (q_enc G r h)).set j (p.toNat, .inr (t, (q_fs t (r p) (h p)).set kn (qconc v))) = va_pl (q_L G n) (q_enc G r2 h2) := by
    have h1 := va_pl_set (X := []) (f := q_enc G r h) (e := .inr (t, (q_fs t (r p) (h p)).set kn (qconc v))) hD (q_in_L ha0) hj
    refine Eq.trans h1 ?_
    exact q_wset ha0 ht hc hk (by rw [hty]; exact hv) ho
  have go : ∀ (H1 : Heap) (locs1 : List Loc), va_P G.2.1 vwCl ((va_pl (q_L G n) (q_enc G r h)).set j (p.toNat, .inr (t, (q_fs t (r p) (h p)).set kn (qconc v)))) H1 → va_S (qA G) (xs X).heap H1 locs1 → W (xp X) (xl X) (xe X) (xR X) (xs X) (xm X) (xa X) (xb X) (xme X) (xc X) H1 locs1 cs.1 cs.2 (MQ (xb X) (q_Qc G P (((xs X).heap.size : Int) + (xmc X).1)) (xa X) (xs X) (xmc X).1 (xmc X).2 (qA G)) (F0 (xm X) (pc + 3) ls (st.map qconc)) := by
    intro H1 locs1 hP hS1
    rw [hset] at hP
    exact kk H1 locs1 ls ⟨hW.1, hW.2.1, q_size_of ha0 hP, hrg (q_hd hs) hW.2.2.2.1, hP⟩ hN hS1 ha (q_tl (q_tl hs)) hl
  have hlen : kn < (q_fs t (r p) (h p)).length := by rw [q_fs_len hc]; exact hk
  have hdsc : parseFieldDescriptor (T kn).2.2.1 = some ty := by rw [← hty]; exact hcl.2.1 kn hk
  have hsame : ∀ x, (xs X).fieldFound? (T kn).1 (T kn).2.1 (T kn).2.2.1 = some x → (xs X).fieldFound? R (T kn).2.1 (T kn).2.2.1 = some x := fun x hx => by rw [hown] at hx; exact hx
  rcases hfin with hfin | ⟨hin, hR⟩
  · exact va_put (ty := ty) C.1 C.2.1 C.2.2.2.2.1 hcl.1 (q_ty t) hcl.2.1 hcl.2.2.1 C.2.2.2.1 C.2.2.2.2.2.2.2.2.1 hW.2.2.2.2 hD hS j he hc kn hk (C.2.2.2.2.1 _ hlink) hsame (by rw [hfi]; exact hfin) hdsc hn hfit hlen d (fun H1 locs1 h1 _ h3 => go H1 locs1 h1 h3)
  · by_cases hfb : fin = false
    · exact va_put (ty := ty) C.1 C.2.1 C.2.2.2.2.1 hcl.1 (q_ty t) hcl.2.1 hcl.2.2.1 C.2.2.2.1 C.2.2.2.2.2.2.2.2.1 hW.2.2.2.2 hD hS j he hc kn hk (C.2.2.2.2.1 _ hlink) hsame (by rw [hfi]; exact hfb) hdsc hn hfit hlen d (fun H1 locs1 h1 _ h3 => go H1 locs1 h1 h3)
    · have hRo : R = own := by
        rw [hc] at hR
        exact Option.some.inj hR
      exact va_putF (ty := ty) C.1 C.2.1 C.2.2.2.2.1 hcl.1 (q_ty t) hcl.2.1 hcl.2.2.1 C.2.2.2.1 C.2.2.2.2.2.2.2.2.1 hW.2.2.2.2 hD hS j he hc kn hk (C.2.2.2.2.1 _ hlink) hsame (by rw [hfi]; simpa using hfb) hin (by rw [hown, hRo]) hdsc hn hfit hlen d (fun H1 locs1 h1 _ h3 => go H1 locs1 h1 h3)
theorem Aj.putI (C : q_C G X cc nL own ret rm) {idx t : Nat} {k : Int} (hf : q_FL own idx t k .int false) {p len : Int} (ha0 : q_al G n p t len) (d : decode cc pc = .ok (.putfield idx, 3)) {z : Int} (kk : ∀ h2, h2 = hset h p k z → Aj G X P cc nL cs n r h2 (pc + 3) al st) : Aj G X P cc nL cs n r h pc al (qi z :: qa p :: st) :=
  Aj.put C hf ha0 (Or.inl rfl) d (r2 := r) (h2 := hset h p k z) (by rw [hset_same]; rfl) rfl rfl (fun a b hn => ⟨rfl, hset_ne h z hn⟩) (fun h1 h2 => q_rg h2 h1) (kk _ rfl)
theorem q_zb {z : Int} (hz : z = 0 ∨ z = 1) : narrow .boolean (qconc (qi z)) = qconc (qi z) ∧ fits .boolean (qconc (qi z)) = true := by
  rcases hz with rfl | rfl <;> exact ⟨by decide, by decide⟩
theorem Aj.putZ (C : q_C G X cc nL own ret rm) {idx t : Nat} {k : Int} (hf : q_FL own idx t k .boolean false) {p len : Int} (ha0 : q_al G n p t len) (d : decode cc pc = .ok (.putfield idx, 3)) {z : Int} (hz : z = 0 ∨ z = 1) (kk : ∀ h2, h2 = hset h p k z → Aj G X P cc nL cs n r h2 (pc + 3) al st) : Aj G X P cc nL cs n r h pc al (qi z :: qa p :: st) :=
  Aj.put C hf ha0 (Or.inl rfl) d (r2 := r) (h2 := hset h p k z) (by rw [hset_same]; rfl) (q_zb hz).1 (q_zb hz).2 (fun a b hn => ⟨rfl, hset_ne h z hn⟩) (fun h1 h2 => q_rg h2 h1) (kk _ rfl)
theorem Aj.putR (C : q_C G X cc nL own ret rm) {idx t : Nat} {k : Int} {ty : FieldType} (hf : q_FL own idx t k ty true) (hty : ty.isReference = true) {p len : Int} (ha0 : q_al G n p t len) (hin : (xme X).name = "<init>") (hR : (vwCl[t]?).map (fun q => q.1) = some own) (d : decode cc pc = .ok (.putfield idx, 3)) {z : Int} (kk : ∀ r2, r2 = hset r p k z → Aj G X P cc nL cs n r2 h (pc + 3) al st) : Aj G X P cc nL cs n r h pc al (qa z :: qa p :: st) := by
  have e : narrow ty (qconc (qa z)) = qconc (qa z) ∧ fits ty (qconc (qa z)) = true := by
    show narrow ty (va_rf (q_opt z)) = va_rf (q_opt z) ∧ fits ty (va_rf (q_opt z)) = true
    cases ty <;> first | (exact absurd hty (by decide)) | (cases q_opt z <;> exact ⟨rfl, rfl⟩)
  exact Aj.put C hf ha0 (Or.inr ⟨hin, hR⟩) d (r2 := hset r p k z) (h2 := h) (by rw [q_fvR hty, hset_same]) e.1 e.2 (fun a b hn => ⟨hset_ne r z hn, rfl⟩) (fun _ h2 => h2) (kk _ rfl)
/-! arrays -/
theorem q_vin {z len : Int} (hz : q_r32 z) (h0 : 0 ≤ z) (h1 : z < len) : vp_in (Int32.ofInt z) len.toNat := by
  rw [vp_in_iff, q_i32 hz]
  omega
theorem q_cidx {z : Int} (hz : q_r32 z) (h0 : 0 ≤ z) : (((Int32.ofInt z).toNatClampNeg : Nat) : Int) = z := by rw [q_clamp hz]; omega
theorem Aj.iald (C : q_C G X cc nL own ret rm) {p z len : Int} (ha0 : q_al G n p 10 len) (hz : 0 ≤ z ∧ z < len) (d : decode cc pc = .ok (.iaload, 1)) (kk : Aj G X P cc nL cs n r h (pc + 1) al (qi (h p z) :: st)) : Aj G X P cc nL cs n r h pc al (qi z :: qa p :: st) := by
  intro H locs ls hW hN hS ha hs hl
  have rz : q_r32 z := q_hd hs
  obtain ⟨j, hj⟩ := va_pl_get (X := []) (f := q_enc G r h) (q_in_L ha0)
  rw [q_enc_i ha0] at hj
  show W _ _ _ _ _ _ _ _ _ _ _ _ _ _ _ (F0 _ _ _ (qconc (qi z) :: qconc (qa p) :: st.map qconc))
  rw [q_conc_a (q_pos hW ha0)]
  refine va_iald C.1 C.2.1 C.2.2.2.2.2.2.2.2.1 hW.2.2.2.2 j 0 hj (q_tys0 G) (q_vin rz hz.1 hz.2) d ?_
  rw [q_cidx rz hz.1]
  exact kk H locs ls hW hN hS ha (q_ok1 (q_tl (q_tl hs)) (hW.2.2.2.1 p z)) hl
theorem Aj.zald (C : q_C G X cc nL own ret rm) {p z len : Int} (ha0 : q_al G n p 11 len) (hz : 0 ≤ z ∧ z < len) (d : decode cc pc = .ok (.baload, 1)) (kk : Aj G X P cc nL cs n r h (pc + 1) al (qi (h p z) :: st)) : Aj G X P cc nL cs n r h pc al (qi z :: qa p :: st) := by
  intro H locs ls hW hN hS ha hs hl
  have rz : q_r32 z := q_hd hs
  obtain ⟨j, hj⟩ := va_pl_get (X := []) (f := q_enc G r h) (q_in_L ha0)
  rw [q_enc_z ha0] at hj
  show W _ _ _ _ _ _ _ _ _ _ _ _ _ _ _ (F0 _ _ _ (qconc (qi z) :: qconc (qa p) :: st.map qconc))
  rw [q_conc_a (q_pos hW ha0)]
  refine va_zald C.1 C.2.1 C.2.2.2.2.2.2.2.2.1 hW.2.2.2.2 j 1 hj (q_tys1 G) (q_vin rz hz.1 hz.2) d ?_
  rw [q_cidx rz hz.1]
  exact kk H locs ls hW hN hS ha (q_ok1 (q_tl (q_tl hs)) (hW.2.2.2.1 p z)) hl
theorem Aj.aald (C : q_C G X cc nL own ret rm) {p z w len : Int} (ha0 : q_al G n p 12 len) (hz : 0 ≤ z ∧ z < len) (hw : r p z = w) (d : decode cc pc = .ok (.aaload, 1)) (kk : Aj G X P cc nL cs n r h (pc + 1) al (qa w :: st)) : Aj G X P cc nL cs n r h pc al (qi z :: qa p :: st) := by
  intro H locs ls hW hN hS ha hs hl
  have rz : q_r32 z := q_hd hs
  subst hw
  obtain ⟨j, hj⟩ := va_pl_get (X := []) (f := q_enc G r h) (q_in_L ha0)
  rw [q_enc_q ha0] at hj
  show W _ _ _ _ _ _ _ _ _ _ _ _ _ _ _ (F0 _ _ _ (qconc (qi z) :: qconc (qa p) :: st.map qconc))
  rw [q_conc_a (q_pos hW ha0)]
  refine va_aldq C.1 C.2.1 C.2.2.2.2.2.2.2.2.1 hW.2.2.2.2 j 2 hj (q_tys2 G) (q_vin rz hz.1 hz.2) d ?_
  rw [q_cidx rz hz.1]
  exact kk H locs ls hW hN hS ha (q_ok1 (q_tl (q_tl hs)) (v := qa (r p z)) trivial) hl
theorem q_aset {p len : Int} {r2 h2 : qH} {t : Nat} (ha0 : q_al G n p t len) {e : va_E} (he : q_enc G r2 h2 p.toNat = e) (ho : ∀ a b : Int, a ≠ p → r2 a b = r a b ∧ h2 a b = h a b) : va_pl (q_L G n) (va_up (q_enc G r h) p.toNat e) = va_pl (q_L G n) (q_enc G r2 h2) := by
  apply q_enc_up he
  intro b hb
  have h1 := q_cast ha0
  have h2 : ((b : Nat) : Int) ≠ p := by omega
  exact ⟨funext fun j => (ho b j h2).1, funext fun j => (ho b j h2).2⟩
theorem Aj.iast (C : q_C G X cc nL own ret rm) {p z v len : Int} (ha0 : q_al G n p 10 len) (hz : 0 ≤ z ∧ z < len) (d : decode cc pc = .ok (.iastore, 1)) (kk : ∀ h2, h2 = hset h p z v → Aj G X P cc nL cs n r h2 (pc + 1) al st) : Aj G X P cc nL cs n r h pc al (qi v :: qi z :: qa p :: st) := by
  intro H locs ls hW hN hS ha hs hl
  have rz : q_r32 z := q_hd (q_tl hs)
  have rv : q_r32 v := q_hd hs
  obtain ⟨j, hj⟩ := va_pl_get (X := []) (f := q_enc G r h) (q_in_L ha0)
  have hD := q_pl_D G n (q_enc G r h)
  have hst := fun e => va_pl_set (X := []) (f := q_enc G r h) (e := e) hD (q_in_L ha0) hj
  rw [q_enc_i ha0] at hj
  show W _ _ _ _ _ _ _ _ _ _ _ _ _ _ _ (F0 _ _ _ (qconc (qi v) :: qconc (qi z) :: qconc (qa p) :: st.map qconc))
  rw [q_conc_a (q_pos hW ha0)]
  refine va_iast C.1 C.2.1 C.2.2.2.2.2.2.2.2.1 hW.2.2.2.2 hD hS j 0 hj (q_tys0 G) (q_vin rz hz.1 hz.2) d (fun H1 locs1 hP _ hS1 => ?_)
  have e1 := hst (.inl (G.2.2.1.1, len.toNat, .inl (upd (fun j => Int32.ofInt (h p (j : Int))) (Int32.ofInt z).toNatClampNeg (Int32.ofInt v))))
  rw [List.nil_append, List.nil_append] at e1
  rw [e1, q_aset (r2 := r) (h2 := hset h p z v) ha0 ?_ ?_] at hP
  · exact kk _ rfl H1 locs1 ls ⟨hW.1, hW.2.1, q_size_of ha0 hP, q_rg hW.2.2.2.1 rv, hP⟩ hN hS1 ha (q_tl (q_tl (q_tl hs))) hl
  · rw [q_enc_i ha0]
    congr 4
    funext i
    unfold upd hset
    rw [q_clamp rz]
    by_cases hi : i = z.toNat
    · rw [if_pos hi, if_pos ⟨rfl, by omega⟩]
    · rw [if_neg hi, if_neg (by omega)]
  · exact fun a b hn => ⟨rfl, hset_nea h v b hn⟩
theorem Aj.zast (C : q_C G X cc nL own ret rm) {p z v len : Int} (ha0 : q_al G n p 11 len) (hz : 0 ≤ z ∧ z < len) (hv : v = 0 ∨ v = 1) (d : decode cc pc = .ok (.bastore, 1)) (kk : ∀ h2, h2 = hset h p z v → Aj G X P cc nL cs n r h2 (pc + 1) al st) : Aj G X P cc nL cs n r h pc al (qi v :: qi z :: qa p :: st) := by
  intro H locs ls hW hN hS ha hs hl
  have rz : q_r32 z := q_hd (q_tl hs)
  have rv : q_r32 v := q_hd hs
  obtain ⟨j, hj⟩ := va_pl_get (X := []) (f := q_enc G r h) (q_in_L ha0)
  have hD := q_pl_D G n (q_enc G r h)
  have hst := fun e => va_pl_set (X := []) (f := q_enc G r h) (e := e) hD (q_in_L ha0) hj
  rw [q_enc_z ha0] at hj
  show W _ _ _ _ _ _ _ _ _ _ _ _ _ _ _ (F0 _ _ _ (qconc (qi v) :: qconc (qi z) :: qconc (qa p) :: st.map qconc))
  rw [q_conc_a (q_pos hW ha0)]
  refine va_zast C.1 C.2.1 C.2.2.2.2.2.2.2.2.1 hW.2.2.2.2 hD hS j 1 hj (q_tys1 G) (q_vin rz hz.1 hz.2) d (fun H1 locs1 hP _ hS1 => ?_)
  have e1 := hst (.inl (G.2.2.1.2.1, len.toNat, .inl (upd (fun j => Int32.ofInt (h p (j : Int))) (Int32.ofInt z).toNatClampNeg (vp_nar .boolean (Int32.ofInt v)))))
  have e2 : vp_nar .boolean (Int32.ofInt v) = Int32.ofInt v := by rcases hv with rfl | rfl <;> decide
  rw [List.nil_append, List.nil_append] at e1
  rw [e1, e2, q_aset (r2 := r) (h2 := hset h p z v) ha0 ?_ ?_] at hP
  · exact kk _ rfl H1 locs1 ls ⟨hW.1, hW.2.1, q_size_of ha0 hP, q_rg hW.2.2.2.1 rv, hP⟩ hN hS1 ha (q_tl (q_tl (q_tl hs))) hl
  · rw [q_enc_z ha0]
    congr 4
    funext i
    unfold upd hset
    rw [q_clamp rz]
    by_cases hi : i = z.toNat
    · rw [if_pos hi, if_pos ⟨rfl, by omega⟩]
    · rw [if_neg hi, if_neg (by omega)]
  · exact fun a b hn => ⟨rfl, hset_nea h v b hn⟩
theorem Aj.aast (C : q_C G X cc nL own ret rm) {p z w len lw : Int} (ha0 : q_al G n p 12 len) (hw0 : q_al G n w 4 lw) (hz : 0 ≤ z ∧ z < len) (d : decode cc pc = .ok (.aastore, 1)) (kk : ∀ r2, r2 = hset r p z w → Aj G X P cc nL cs n r2 h (pc + 1) al st) : Aj G X P cc nL cs n r h pc al (qa w :: qi z :: qa p :: st) := by
  intro H locs ls hW hN hS ha hs hl
  have rz : q_r32 z := q_hd (q_tl hs)
  obtain ⟨j, hj⟩ := va_pl_get (X := []) (f := q_enc G r h) (q_in_L ha0)
  obtain ⟨j2, hj2⟩ := va_pl_get (X := []) (f := q_enc G r h) (q_in_L hw0)
  have hD := q_pl_D G n (q_enc G r h)
  have hst := fun e => va_pl_set (X := []) (f := q_enc G r h) (e := e) hD (q_in_L ha0) hj
  rw [q_enc_q ha0] at hj
  rw [q_enc_o hw0 (by decide)] at hj2
  show W _ _ _ _ _ _ _ _ _ _ _ _ _ _ _ (F0 _ _ _ (qconc (qa w) :: qconc (qi z) :: qconc (qa p) :: st.map qconc))
  rw [q_conc_a (q_pos hW ha0), q_conc_a (q_pos hW hw0)]
  refine va_astq (r := (RX4, TX4, 8)) C.1 C.2.1 C.2.2.2.2.2.2.2.2.1 hW.2.2.2.2 hD hS j 2 j2 4 hj (q_tys2 G) hj2 rfl (q_vin rz hz.1 hz.2) d (fun H1 locs1 hP _ hS1 => ?_)
  have e1 := hst (.inl (G.2.2.1.2.2, len.toNat, .inr (.inr (.inr (.inr (va_up (fun j => q_opt (r p (j : Int))) (Int32.ofInt z).toNatClampNeg (some w.toNat)))))))
  rw [List.nil_append, List.nil_append] at e1
  rw [e1, q_aset (r2 := hset r p z w) (h2 := h) ha0 ?_ ?_] at hP
  · exact kk _ rfl H1 locs1 ls ⟨hW.1, hW.2.1, q_size_of ha0 hP, hW.2.2.2.1, hP⟩ hN hS1 ha (q_tl (q_tl (q_tl hs))) hl
  · rw [q_enc_q ha0]
    congr 7
    funext i
    unfold va_up hset
    rw [q_clamp rz]
    by_cases hi : i = z.toNat
    · rw [if_pos hi, if_pos ⟨rfl, by omega⟩]
      unfold q_opt
      rw [if_neg (by have := q_pos hW hw0; omega)]
    · rw [if_neg hi, if_neg (by omega)]
  · exact fun a b hn => ⟨hset_nea r w b hn, rfl⟩
theorem Aj.alen (C : q_C G X cc nL own ret rm) {p len : Int} {t : Nat} (ha0 : q_al G n p t len) (ht : t = 10 ∨ t = 11 ∨ t = 12) (hlen : len ≤ 2147483647) (d : decode cc pc = .ok (.arraylength, 1)) (kk : Aj G X P cc nL cs n r h (pc + 1) al (qi len :: st)) : Aj G X P cc nL cs n r h pc al (qa p :: st) := by
  intro H locs ls hW hN hS ha hs hl
  have h0 := ha0.2.2.2
  obtain ⟨j, hj⟩ := va_pl_get (X := []) (f := q_enc G r h) (q_in_L ha0)
  show W _ _ _ _ _ _ _ _ _ _ _ _ _ _ _ (F0 _ _ _ (qconc (qa p) :: st.map qconc))
  rw [q_conc_a (q_pos hW ha0)]
  have hv : Int32.ofNat len.toNat = Int32.ofInt len := by
    apply Int32.toInt_inj.mp
    rw [q_i32 (by omega), toInt_of rfl (by omega)]
    omega
  have k1 := kk H locs ls hW hN hS ha (q_ok1 (q_tl hs) (show q_r32 len by omega)) hl
  rcases ht with rfl | rfl | rfl
  · rw [q_enc_i ha0] at hj
    exact va_alen C.1 C.2.1 C.2.2.2.2.2.2.2.2.1 hW.2.2.2.2 j 0 hj (q_tys0 G) hv d k1
  · rw [q_enc_z ha0] at hj
    exact va_alen C.1 C.2.1 C.2.2.2.2.2.2.2.2.1 hW.2.2.2.2 j 1 hj (q_tys1 G) hv d k1
  · rw [q_enc_q ha0] at hj
    exact va_alen C.1 C.2.1 C.2.2.2.2.2.2.2.2.1 hW.2.2.2.2 j 2 hj (q_tys2 G) hv d k1
end
