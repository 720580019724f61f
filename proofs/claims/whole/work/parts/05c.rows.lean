section
variable {G : qG} {X : qX} {P : qP} {cc : ByteArray} {nL : Nat} {own : String} {ret : Option FieldType} {rm : Room} {cs : Nat × Nat} {n : Int} {r h : qH} {pc : Nat} {al al2 : List (Nat × qV)} {st : List qV}
theorem q_ok1 {v : qV} {st : List qV} (hs : ∀ v ∈ st, qok v) (hv : qok v) : ∀ w ∈ v :: st, qok w := fun w hw => (List.mem_cons.mp hw).elim (fun e => e ▸ hv) (hs w)
theorem q_tl {v : qV} {st : List qV} (hs : ∀ w ∈ v :: st, qok w) : ∀ w ∈ st, qok w := fun w hw => hs w (List.mem_cons_of_mem _ hw)
theorem q_hd {v : qV} {st : List qV} (hs : ∀ w ∈ v :: st, qok w) : qok v := hs v List.mem_cons_self
theorem q_lat {ls : Array Slot} {nL : Nat} {al : List (Nat × qV)} (hl : lv_has ls nL (al.map q_lc)) (j : Nat) {i : Nat} {v : qV} (hj : al[j]? = some (i, v)) : ls[i]? = some (.val (qconc v)) := lv_at hl j (by rw [List.getElem?_map, hj]; rfl)
theorem q_aok {al : List (Nat × qV)} (ha : ∀ q ∈ al, qok q.2) {j i : Nat} {v : qV} (hj : al[j]? = some (i, v)) : qok v := ha _ (List.mem_of_getElem? hj)
def q_drop1 (i : Nat) (al : List (Nat × qV)) : List (Nat × qV) := al.filter (fun q => !(q.1 == i) && !(q.1 + 1 == i && q_is2 q.2))
def q_drop2 (i : Nat) (al : List (Nat × qV)) : List (Nat × qV) := al.filter (fun q => !(q.1 == i) && (!(q.1 == i + 1) && !(q.1 + 1 == i && q_is2 q.2)))
theorem q_catb (v : qV) : ((qconc v).category == 2) = q_is2 v := by rw [q_cat]; cases q_is2 v <;> rfl
theorem q_drop1_eq (i : Nat) (al : List (Nat × qV)) : (al.map q_lc).filter (fun q => !(q.1 == i) && !(q.1 + 1 == i && q.2.category == 2)) = (q_drop1 i al).map q_lc := by
  unfold q_drop1
  rw [List.filter_map]
  congr 1
  apply List.filter_congr
  intro q _
  show (!(q.1 == i) && !(q.1 + 1 == i && (qconc q.2).category == 2)) = _
  rw [q_catb]
theorem q_drop2_eq (i : Nat) (al : List (Nat × qV)) : (al.map q_lc).filter (fun q => !(q.1 == i) && (!(q.1 == i + 1) && !(q.1 + 1 == i && q.2.category == 2))) = (q_drop2 i al).map q_lc := by
  unfold q_drop2
  rw [List.filter_map]
  congr 1
  apply List.filter_congr
  intro q _
  show (!(q.1 == i) && (!(q.1 == i + 1) && !(q.1 + 1 == i && (qconc q.2).category == 2))) = _
  rw [q_catb]
theorem q_aset1 {al al2 : List (Nat × qV)} {i : Nat} {v : qV} (ha : ∀ q ∈ al, qok q.2) (hv : qok v) (h2 : (i, v) :: q_drop1 i al = al2) : ∀ q ∈ al2, qok q.2 := by
  subst h2
  intro q hq
  rcases List.mem_cons.mp hq with rfl | hq
  · exact hv
  · exact ha q (List.mem_filter.mp hq).1
theorem q_aset2 {al al2 : List (Nat × qV)} {i : Nat} {v : qV} (ha : ∀ q ∈ al, qok q.2) (hv : qok v) (h2 : (i, v) :: q_drop2 i al = al2) : ∀ q ∈ al2, qok q.2 := by
  subst h2
  intro q hq
  rcases List.mem_cons.mp hq with rfl | hq
  · exact hv
  · exact ha q (List.mem_filter.mp hq).1
theorem q_lset {al al2 : List (Nat × qV)} {i : Nat} {v : qV} (h2 : (i, v) :: q_drop1 i al = al2) : (i, qconc v) :: (al.map q_lc).filter (fun q => !(q.1 == i) && !(q.1 + 1 == i && q.2.category == 2)) = al2.map q_lc := by
  subst h2; rw [q_drop1_eq]; rfl
theorem q_lset2 {al al2 : List (Nat × qV)} {i : Nat} {v : qV} (h2 : (i, v) :: q_drop2 i al = al2) : (i, qconc v) :: (al.map q_lc).filter (fun q => !(q.1 == i) && (!(q.1 == i + 1) && !(q.1 + 1 == i && q.2.category == 2))) = al2.map q_lc := by
  subst h2; rw [q_drop2_eq]; rfl

theorem Aj.pick (ks : List Nat) (hk : ks.filterMap (fun k => al[k]?) = al2) (k : Aj G X P cc nL cs n r h pc al2 st) : Aj G X P cc nL cs n r h pc al st := by
  intro H locs ls hW hN hS ha hs hl
  refine k H locs ls hW hN hS (fun q hq => ?_) hs ?_
  · rw [← hk] at hq
    obtain ⟨i, -, hi⟩ := List.mem_filterMap.mp hq
    exact ha q (List.mem_of_getElem? hi)
  · refine lv_sub hl ks ?_
    subst hk
    unfold lv_pick
    rw [List.map_filterMap]
    congr 1
    funext i
    rw [List.getElem?_map]

theorem Aj.rg (k : (∀ a b, q_r32 (h a b)) → Aj G X P cc nL cs n r h pc al st) : Aj G X P cc nL cs n r h pc al st := by
  intro H locs ls hW hN hS ha hs hl
  exact k hW.2.2.2.1 H locs ls hW hN hS ha hs hl
theorem Aj.nn (k : 0 < n → Aj G X P cc nL cs n r h pc al st) : Aj G X P cc nL cs n r h pc al st := by
  intro H locs ls hW hN hS ha hs hl
  exact k (by have h1 := hW.1; have h2 := hW.2.1; omega) H locs ls hW hN hS ha hs hl
theorem Aj.lok (k : (∀ q ∈ al, qok q.2) → Aj G X P cc nL cs n r h pc al st) : Aj G X P cc nL cs n r h pc al st := by
  intro H locs ls hW hN hS ha hs hl
  exact k ha H locs ls hW hN hS ha hs hl

theorem Aj.iconst (C : q_C G X cc nL own ret rm) {z : Int} (d : decode cc pc = .ok (.iconst z, 1)) (hz : q_r32 z) (k : Aj G X P cc nL cs n r h (pc + 1) al (qi z :: st)) : Aj G X P cc nL cs n r h pc al st := by
  intro H locs ls hW hN hS ha hs hl
  exact lv_iconst C.1 C.2.1 d rfl (k H locs ls hW hN hS ha (q_ok1 hs hz) hl)

theorem Aj.bipush (C : q_C G X cc nL own ret rm) {z : Int} (d : decode cc pc = .ok (.bipush z, 2)) (hv : (Int8.ofInt z).toInt32 = Int32.ofInt z) (hz : q_r32 z) (k : Aj G X P cc nL cs n r h (pc + 2) al (qi z :: st)) : Aj G X P cc nL cs n r h pc al st := by
  intro H locs ls hW hN hS ha hs hl
  exact lv_bipush C.1 C.2.1 d hv (k H locs ls hW hN hS ha (q_ok1 hs hz) hl)

theorem Aj.sipush (C : q_C G X cc nL own ret rm) {z : Int} (d : decode cc pc = .ok (.sipush z, 3)) (hv : (Int16.ofInt z).toInt32 = Int32.ofInt z) (hz : q_r32 z) (k : Aj G X P cc nL cs n r h (pc + 3) al (qi z :: st)) : Aj G X P cc nL cs n r h pc al st := by
  intro H locs ls hW hN hS ha hs hl
  exact lv_sipush C.1 C.2.1 d hv (k H locs ls hW hN hS ha (q_ok1 hs hz) hl)

theorem Aj.lconst (C : q_C G X cc nL own ret rm) {z : Fin 2} {w : Int} (d : decode cc pc = .ok (.lconst z, 1)) (hv : Int64.ofNat (z : Nat) = Int64.ofInt w) (hz : q_r64 w) (k : Aj G X P cc nL cs n r h (pc + 1) al (ql w :: st)) : Aj G X P cc nL cs n r h pc al st := by
  intro H locs ls hW hN hS ha hs hl
  exact lv_lconst C.1 C.2.1 d hv (k H locs ls hW hN hS ha (q_ok1 hs hz) hl)

theorem Aj.ldc2 (C : q_C G X cc nL own ret rm) {idx : Nat} {v : Int64} {w : Int} (hw : Cond.constantLong own idx v ∈ q_tbl) (d : decode cc pc = .ok (.ldc2_w idx, 3)) (hv : v = Int64.ofInt w) (hz : q_r64 w) (k : Aj G X P cc nL cs n r h (pc + 3) al (ql w :: st)) : Aj G X P cc nL cs n r h pc al st := by
  intro H locs ls hW hN hS ha hs hl
  subst hv
  exact lv_ldc2 C.1 C.2.1 C.2.2.2.1 (C.2.2.2.2.1 _ hw) d (k H locs ls hW hN hS ha (q_ok1 hs hz) hl)

theorem Aj.anull (C : q_C G X cc nL own ret rm) (d : decode cc pc = .ok (.aconst_null, 1)) (k : Aj G X P cc nL cs n r h (pc + 1) al (qa 0 :: st)) : Aj G X P cc nL cs n r h pc al st := by
  intro H locs ls hW hN hS ha hs hl
  exact lv_null C.1 C.2.1 d (k H locs ls hW hN hS ha (q_ok1 hs (v := qa 0) trivial) hl)

theorem Aj.iload_n (C : q_C G X cc nL own ret rm) (j : Nat) {f : Fin 4} {z : Int} (d : decode cc pc = .ok (.iload_n f, 1)) (hj : al[j]? = some ((f : Nat), qi z)) (k : Aj G X P cc nL cs n r h (pc + 1) al (qi z :: st)) : Aj G X P cc nL cs n r h pc al st := by
  intro H locs ls hW hN hS ha hs hl
  exact lv_iload_n C.1 C.2.1 d rfl (q_lat hl j hj) (k H locs ls hW hN hS ha (q_ok1 hs (q_aok ha hj)) hl)

theorem Aj.iload (C : q_C G X cc nL own ret rm) (j : Nat) {f : Nat} {z : Int} (d : decode cc pc = .ok (.iload f, 2)) (hj : al[j]? = some (f, qi z)) (k : Aj G X P cc nL cs n r h (pc + 2) al (qi z :: st)) : Aj G X P cc nL cs n r h pc al st := by
  intro H locs ls hW hN hS ha hs hl
  exact lv_iload C.1 C.2.1 d (q_lat hl j hj) (k H locs ls hW hN hS ha (q_ok1 hs (q_aok ha hj)) hl)

theorem Aj.lload_n (C : q_C G X cc nL own ret rm) (j : Nat) {f : Fin 4} {z : Int} (d : decode cc pc = .ok (.lload_n f, 1)) (hj : al[j]? = some ((f : Nat), ql z)) (k : Aj G X P cc nL cs n r h (pc + 1) al (ql z :: st)) : Aj G X P cc nL cs n r h pc al st := by
  intro H locs ls hW hN hS ha hs hl
  exact lv_lload_n C.1 C.2.1 d rfl (q_lat hl j hj) (k H locs ls hW hN hS ha (q_ok1 hs (q_aok ha hj)) hl)

theorem Aj.lload (C : q_C G X cc nL own ret rm) (j : Nat) {f : Nat} {z : Int} (d : decode cc pc = .ok (.lload f, 2)) (hj : al[j]? = some (f, ql z)) (k : Aj G X P cc nL cs n r h (pc + 2) al (ql z :: st)) : Aj G X P cc nL cs n r h pc al st := by
  intro H locs ls hW hN hS ha hs hl
  exact lv_lload C.1 C.2.1 d (q_lat hl j hj) (k H locs ls hW hN hS ha (q_ok1 hs (q_aok ha hj)) hl)

theorem Aj.aload_n (C : q_C G X cc nL own ret rm) (j : Nat) {f : Fin 4} {z : Int} (d : decode cc pc = .ok (.aload_n f, 1)) (hj : al[j]? = some ((f : Nat), qa z)) (k : Aj G X P cc nL cs n r h (pc + 1) al (qa z :: st)) : Aj G X P cc nL cs n r h pc al st := by
  intro H locs ls hW hN hS ha hs hl
  have h1 := q_lat hl j hj
  have k1 := k H locs ls hW hN hS ha (q_ok1 hs (q_aok ha hj)) hl
  simp only [List.map_cons, qconc] at k1
  simp only [qconc] at h1
  unfold va_rf at h1 k1
  split at h1
  · rename_i e
    rw [e] at k1
    exact lv_aload_nN C.1 C.2.1 d rfl h1 k1
  · rename_i e
    rw [e] at k1
    exact lv_aload_n C.1 C.2.1 d rfl h1 k1

theorem Aj.aload (C : q_C G X cc nL own ret rm) (j : Nat) {f : Nat} {z : Int} (d : decode cc pc = .ok (.aload f, 2)) (hj : al[j]? = some (f, qa z)) (k : Aj G X P cc nL cs n r h (pc + 2) al (qa z :: st)) : Aj G X P cc nL cs n r h pc al st := by
  intro H locs ls hW hN hS ha hs hl
  have h1 := q_lat hl j hj
  have k1 := k H locs ls hW hN hS ha (q_ok1 hs (q_aok ha hj)) hl
  simp only [List.map_cons, qconc] at k1
  simp only [qconc] at h1
  unfold va_rf at h1 k1
  split at h1
  · rename_i e
    rw [e] at k1
    exact lv_aloadN C.1 C.2.1 d h1 k1
  · rename_i e
    rw [e] at k1
    exact lv_aload C.1 C.2.1 d h1 k1

theorem Aj.istore_n (C : q_C G X cc nL own ret rm) {f : Fin 4} {z : Int} (d : decode cc pc = .ok (.istore_n f, 1)) (hn : (f : Nat) < nL) (h2 : ((f : Nat), qi z) :: q_drop1 (f : Nat) al = al2) (k : Aj G X P cc nL cs n r h (pc + 1) al2 st) : Aj G X P cc nL cs n r h pc al (qi z :: st) := by
  intro H locs ls hW hN hS ha hs hl
  exact lv_istore_n C.1 C.2.1 d rfl hl hn (q_lset h2) (fun ls2 hl2 => k H locs ls2 hW hN hS (q_aset1 ha (q_hd hs) h2) (q_tl hs) hl2)

theorem Aj.istore (C : q_C G X cc nL own ret rm) {f : Nat} {z : Int} (d : decode cc pc = .ok (.istore f, 2)) (hn : f < nL) (h2 : (f, qi z) :: q_drop1 f al = al2) (k : Aj G X P cc nL cs n r h (pc + 2) al2 st) : Aj G X P cc nL cs n r h pc al (qi z :: st) := by
  intro H locs ls hW hN hS ha hs hl
  exact lv_istore C.1 C.2.1 d hl hn (q_lset h2) (fun ls2 hl2 => k H locs ls2 hW hN hS (q_aset1 ha (q_hd hs) h2) (q_tl hs) hl2)

theorem Aj.lstore_n (C : q_C G X cc nL own ret rm) {f : Fin 4} {z : Int} (d : decode cc pc = .ok (.lstore_n f, 1)) (hn : (f : Nat) + 1 < nL) (h2 : ((f : Nat), ql z) :: q_drop2 (f : Nat) al = al2) (k : Aj G X P cc nL cs n r h (pc + 1) al2 st) : Aj G X P cc nL cs n r h pc al (ql z :: st) := by
  intro H locs ls hW hN hS ha hs hl
  exact lv_lstore_n C.1 C.2.1 d rfl hl hn (q_lset2 h2) (fun ls2 hl2 => k H locs ls2 hW hN hS (q_aset2 ha (q_hd hs) h2) (q_tl hs) hl2)

theorem Aj.lstore (C : q_C G X cc nL own ret rm) {f : Nat} {z : Int} (d : decode cc pc = .ok (.lstore f, 2)) (hn : f + 1 < nL) (h2 : (f, ql z) :: q_drop2 f al = al2) (k : Aj G X P cc nL cs n r h (pc + 2) al2 st) : Aj G X P cc nL cs n r h pc al (ql z :: st) := by
  intro H locs ls hW hN hS ha hs hl
  exact lv_lstore C.1 C.2.1 d hl hn (q_lset2 h2) (fun ls2 hl2 => k H locs ls2 hW hN hS (q_aset2 ha (q_hd hs) h2) (q_tl hs) hl2)

theorem Aj.astore_n (C : q_C G X cc nL own ret rm) {f : Fin 4} {z : Int} (d : decode cc pc = .ok (.astore_n f, 1)) (hn : (f : Nat) < nL) (h2 : ((f : Nat), qa z) :: q_drop1 (f : Nat) al = al2) (k : Aj G X P cc nL cs n r h (pc + 1) al2 st) : Aj G X P cc nL cs n r h pc al (qa z :: st) := by
  intro H locs ls hW hN hS ha hs hl
  have hq := q_lset h2
  show W _ _ _ _ _ _ _ _ _ _ _ _ _ _ _ (F0 _ _ _ (qconc (qa z) :: _))
  have k1 := fun ls2 hl2 => k H locs ls2 hW hN hS (q_aset1 ha (q_hd hs) h2) (q_tl hs) hl2
  simp only [qconc] at hq ⊢
  unfold va_rf at hq ⊢
  split
  · rename_i e
    rw [e] at hq
    exact lv_astore_nN C.1 C.2.1 d rfl hl hn hq k1
  · rename_i e
    rw [e] at hq
    exact lv_astore_n C.1 C.2.1 d rfl hl hn hq k1

theorem Aj.astore (C : q_C G X cc nL own ret rm) {f : Nat} {z : Int} (d : decode cc pc = .ok (.astore f, 2)) (hn : f < nL) (h2 : (f, qa z) :: q_drop1 f al = al2) (k : Aj G X P cc nL cs n r h (pc + 2) al2 st) : Aj G X P cc nL cs n r h pc al (qa z :: st) := by
  intro H locs ls hW hN hS ha hs hl
  have hq := q_lset h2
  show W _ _ _ _ _ _ _ _ _ _ _ _ _ _ _ (F0 _ _ _ (qconc (qa z) :: _))
  have k1 := fun ls2 hl2 => k H locs ls2 hW hN hS (q_aset1 ha (q_hd hs) h2) (q_tl hs) hl2
  simp only [qconc] at hq ⊢
  unfold va_rf at hq ⊢
  split
  · rename_i e
    rw [e] at hq
    exact lv_astoreN C.1 C.2.1 d hl hn hq k1
  · rename_i e
    rw [e] at hq
    exact lv_astore C.1 C.2.1 d hl hn hq k1

theorem Aj.iinc (C : q_C G X cc nL own ret rm) (j : Nat) {f : Nat} {m z : Int} (d : decode cc pc = .ok (.iinc f m, 3)) (hj : al[j]? = some (f, qi z)) (hn : f < nL) (hr : q_r32 (z + m)) (h2 : (f, qi (z + m)) :: q_drop1 f al = al2) (k : Aj G X P cc nL cs n r h (pc + 3) al2 st) : Aj G X P cc nL cs n r h pc al st := by
  intro H locs ls hW hN hS ha hs hl
  exact lv_iinc (k := j) C.1 C.2.1 d hl (by rw [List.getElem?_map, hj]; rfl) (Int32.ofInt_add z m).symm hn (q_lset h2) (fun ls2 hl2 => k H locs ls2 hW hN hS (q_aset1 (v := qi (z + m)) ha hr h2) hs hl2)

theorem Aj.iadd (C : q_C G X cc nL own ret rm) {x y : Int} (d : decode cc pc = .ok (.iadd, 1)) (hr : q_r32 (x + y)) (k : Aj G X P cc nL cs n r h (pc + 1) al (qi (x + y) :: st)) : Aj G X P cc nL cs n r h pc al (qi y :: qi x :: st) := by
  intro H locs ls hW hN hS ha hs hl
  refine lv_iadd C.1 C.2.1 d ?_
  rw [← Int32.ofInt_add]
  exact k H locs ls hW hN hS ha (q_ok1 (q_tl (q_tl hs)) hr) hl

theorem Aj.isub (C : q_C G X cc nL own ret rm) {x y : Int} (d : decode cc pc = .ok (.isub, 1)) (hr : q_r32 (x - y)) (k : Aj G X P cc nL cs n r h (pc + 1) al (qi (x - y) :: st)) : Aj G X P cc nL cs n r h pc al (qi y :: qi x :: st) := by
  intro H locs ls hW hN hS ha hs hl
  refine lv_isub C.1 C.2.1 d ?_
  rw [← Int32.ofInt_sub]
  exact k H locs ls hW hN hS ha (q_ok1 (q_tl (q_tl hs)) hr) hl

theorem Aj.imul (C : q_C G X cc nL own ret rm) {x y : Int} (d : decode cc pc = .ok (.imul, 1)) (hr : q_r32 (x * y)) (k : Aj G X P cc nL cs n r h (pc + 1) al (qi (x * y) :: st)) : Aj G X P cc nL cs n r h pc al (qi y :: qi x :: st) := by
  intro H locs ls hW hN hS ha hs hl
  refine lv_imul C.1 C.2.1 d ?_
  rw [← Int32.ofInt_mul]
  exact k H locs ls hW hN hS ha (q_ok1 (q_tl (q_tl hs)) hr) hl

theorem Aj.idiv (C : q_C G X cc nL own ret rm) {x y : Int} (d : decode cc pc = .ok (.idiv, 1)) (hx : 0 ≤ x) (hy : 0 < y) (k : Aj G X P cc nL cs n r h (pc + 1) al (qi (x / y) :: st)) : Aj G X P cc nL cs n r h pc al (qi y :: qi x :: st) := by
  intro H locs ls hW hN hS ha hs hl
  have rx : q_r32 x := q_hd (q_tl hs)
  have ry : q_r32 y := q_hd hs
  have hne : ¬ Int32.ofInt y = 0 := by rw [q_0, q_eq32 ry q_rz]; omega
  refine lv_idiv C.1 C.2.1 d hne ?_
  have h1 := Int.ediv_nonneg hx (by omega : 0 ≤ y)
  have h2 : x / y ≤ x := Int.ediv_le_self y hx
  have hq : q_r32 (x / y) := by omega
  have he : Int32.ofInt x / Int32.ofInt y = Int32.ofInt (x / y) := by
    apply Int32.toInt_inj.mp
    rw [Int32.toInt_div, q_i32 rx, q_i32 ry, q_i32 hq, Int.tdiv_eq_ediv_of_nonneg hx]
    rw [Int.bmod_def]
    split <;> omega
  rw [he]
  exact k H locs ls hW hN hS ha (q_ok1 (q_tl (q_tl hs)) hq) hl

theorem Aj.irem (C : q_C G X cc nL own ret rm) {x y : Int} (d : decode cc pc = .ok (.irem, 1)) (hx : 0 ≤ x) (hy : 0 < y) (k : Aj G X P cc nL cs n r h (pc + 1) al (qi (x % y) :: st)) : Aj G X P cc nL cs n r h pc al (qi y :: qi x :: st) := by
  intro H locs ls hW hN hS ha hs hl
  have rx : q_r32 x := q_hd (q_tl hs)
  have ry : q_r32 y := q_hd hs
  have hne : ¬ Int32.ofInt y = 0 := by rw [q_0, q_eq32 ry q_rz]; omega
  refine lv_irem C.1 C.2.1 d hne ?_
  have h1 := Int.emod_nonneg x (by omega : y ≠ 0)
  have h2 := Int.emod_lt_of_pos x hy
  have hq : q_r32 (x % y) := by omega
  have he : Int32.ofInt x - Int32.ofInt x / Int32.ofInt y * Int32.ofInt y = Int32.ofInt (x % y) := by
    apply Int32.toInt_inj.mp
    rw [rem_toInt, q_i32 rx, q_i32 ry, q_i32 hq, Int.tmod_eq_emod_of_nonneg hx]
  rw [he]
  exact k H locs ls hW hN hS ha (q_ok1 (q_tl (q_tl hs)) hq) hl

def b_and (x y : Int) : Int := (Int32.ofInt x &&& Int32.ofInt y).toInt
def b_or (x y : Int) : Int := (Int32.ofInt x ||| Int32.ofInt y).toInt
def b_xor (x y : Int) : Int := (Int32.ofInt x ^^^ Int32.ofInt y).toInt
def b_shl (x y : Int) : Int := (Int32.ofInt x <<< (Int32.ofInt y &&& 31)).toInt

theorem Aj.iand (C : q_C G X cc nL own ret rm) {x y : Int} (d : decode cc pc = .ok (.iand, 1)) (k : Aj G X P cc nL cs n r h (pc + 1) al (qi (b_and x y) :: st)) : Aj G X P cc nL cs n r h pc al (qi y :: qi x :: st) := by
  intro H locs ls hW hN hS ha hs hl
  refine lv_iand C.1 C.2.1 d ?_
  have k1 := k H locs ls hW hN hS ha (q_ok1 (q_tl (q_tl hs)) (q_rI _)) hl
  simp only [List.map_cons, qconc, b_and, q_toI] at k1
  exact k1

theorem Aj.ior (C : q_C G X cc nL own ret rm) {x y : Int} (d : decode cc pc = .ok (.ior, 1)) (k : Aj G X P cc nL cs n r h (pc + 1) al (qi (b_or x y) :: st)) : Aj G X P cc nL cs n r h pc al (qi y :: qi x :: st) := by
  intro H locs ls hW hN hS ha hs hl
  refine lv_ior C.1 C.2.1 d ?_
  have k1 := k H locs ls hW hN hS ha (q_ok1 (q_tl (q_tl hs)) (q_rI _)) hl
  simp only [List.map_cons, qconc, b_or, q_toI] at k1
  exact k1

theorem Aj.ixor (C : q_C G X cc nL own ret rm) {x y : Int} (d : decode cc pc = .ok (.ixor, 1)) (k : Aj G X P cc nL cs n r h (pc + 1) al (qi (b_xor x y) :: st)) : Aj G X P cc nL cs n r h pc al (qi y :: qi x :: st) := by
  intro H locs ls hW hN hS ha hs hl
  refine lv_ixor C.1 C.2.1 d ?_
  have k1 := k H locs ls hW hN hS ha (q_ok1 (q_tl (q_tl hs)) (q_rI _)) hl
  simp only [List.map_cons, qconc, b_xor, q_toI] at k1
  exact k1

theorem Aj.ishl (C : q_C G X cc nL own ret rm) {x y : Int} (d : decode cc pc = .ok (.ishl, 1)) (k : Aj G X P cc nL cs n r h (pc + 1) al (qi (b_shl x y) :: st)) : Aj G X P cc nL cs n r h pc al (qi y :: qi x :: st) := by
  intro H locs ls hW hN hS ha hs hl
  refine lv_ishl C.1 C.2.1 d ?_
  have k1 := k H locs ls hW hN hS ha (q_ok1 (q_tl (q_tl hs)) (q_rI _)) hl
  simp only [List.map_cons, qconc, b_shl, q_toI] at k1
  exact k1

def l_and (x y : Int) : Int := (Int64.ofInt x &&& Int64.ofInt y).toInt
def l_or (x y : Int) : Int := (Int64.ofInt x ||| Int64.ofInt y).toInt
def l_shl (x y : Int) : Int := (Int64.ofInt x <<< ((Int32.ofInt y).toInt64 &&& 63)).toInt
def l_ushr (x y : Int) : Int := ((Int64.ofInt x).toUInt64 >>> ((Int32.ofInt y).toInt64.toUInt64 &&& Int64.toUInt64 63)).toInt64.toInt
def l_2i (x : Int) : Int := (Int64.ofInt x).toInt32.toInt
def l_cmp (x y : Int) : Int := if x > y then 1 else if x = y then 0 else -1
theorem q_toL (x : Int64) : Int64.ofInt x.toInt = x := Int64.ofInt_toInt x
theorem q_rL (x : Int64) : q_r64 x.toInt := ⟨Int64.le_toInt x, by have := Int64.toInt_lt x; omega⟩

theorem Aj.land (C : q_C G X cc nL own ret rm) {x y : Int} (d : decode cc pc = .ok (.land, 1)) (k : Aj G X P cc nL cs n r h (pc + 1) al (ql (l_and x y) :: st)) : Aj G X P cc nL cs n r h pc al (ql y :: ql x :: st) := by
  intro H locs ls hW hN hS ha hs hl
  refine lv_land C.1 C.2.1 d ?_
  have k1 := k H locs ls hW hN hS ha (q_ok1 (q_tl (q_tl hs)) (q_rL _)) hl
  simp only [List.map_cons, qconc, l_and, q_toL] at k1
  exact k1

theorem Aj.lor (C : q_C G X cc nL own ret rm) {x y : Int} (d : decode cc pc = .ok (.lor, 1)) (k : Aj G X P cc nL cs n r h (pc + 1) al (ql (l_or x y) :: st)) : Aj G X P cc nL cs n r h pc al (ql y :: ql x :: st) := by
  intro H locs ls hW hN hS ha hs hl
  refine lv_lor C.1 C.2.1 d ?_
  have k1 := k H locs ls hW hN hS ha (q_ok1 (q_tl (q_tl hs)) (q_rL _)) hl
  simp only [List.map_cons, qconc, l_or, q_toL] at k1
  exact k1

theorem Aj.lushr (C : q_C G X cc nL own ret rm) {x y : Int} (d : decode cc pc = .ok (.lushr, 1)) (k : Aj G X P cc nL cs n r h (pc + 1) al (ql (l_ushr x y) :: st)) : Aj G X P cc nL cs n r h pc al (qi y :: ql x :: st) := by
  intro H locs ls hW hN hS ha hs hl
  refine lv_lushr C.1 C.2.1 d rfl ?_
  have k1 := k H locs ls hW hN hS ha (q_ok1 (q_tl (q_tl hs)) (q_rL _)) hl
  simp only [List.map_cons, qconc, l_ushr, q_toL] at k1
  exact k1

theorem Aj.lshl (C : q_C G X cc nL own ret rm) {x y : Int} (d : decode cc pc = .ok (.lshl, 1)) (k : Aj G X P cc nL cs n r h (pc + 1) al (ql (l_shl x y) :: st)) : Aj G X P cc nL cs n r h pc al (qi y :: ql x :: st) := by
  intro H locs ls hW hN hS ha hs hl
  refine lv_lshl C.1 C.2.1 d rfl ?_
  have k1 := k H locs ls hW hN hS ha (q_ok1 (q_tl (q_tl hs)) (q_rL _)) hl
  simp only [List.map_cons, qconc, l_shl, q_toL] at k1
  exact k1

theorem Aj.l2i (C : q_C G X cc nL own ret rm) {x : Int} (d : decode cc pc = .ok (.l2i, 1)) (k : Aj G X P cc nL cs n r h (pc + 1) al (qi (l_2i x) :: st)) : Aj G X P cc nL cs n r h pc al (ql x :: st) := by
  intro H locs ls hW hN hS ha hs hl
  refine lv_l2i C.1 C.2.1 d rfl ?_
  have k1 := k H locs ls hW hN hS ha (q_ok1 (q_tl hs) (q_rI _)) hl
  simp only [List.map_cons, qconc, l_2i, q_toI] at k1
  exact k1

theorem Aj.i2l (C : q_C G X cc nL own ret rm) {x : Int} (d : decode cc pc = .ok (.i2l, 1)) (k : Aj G X P cc nL cs n r h (pc + 1) al (ql x :: st)) : Aj G X P cc nL cs n r h pc al (qi x :: st) := by
  intro H locs ls hW hN hS ha hs hl
  have rx : q_r32 x := q_hd hs
  refine lv_i2l C.1 C.2.1 d (v := Int64.ofInt x) ?_ ?_
  · apply Int64.toInt_inj.mp
    rw [Int32.toInt_toInt64, q_i32 rx, q_i64 (by omega)]
  · exact k H locs ls hW hN hS ha (q_ok1 (q_tl hs) (show q_r64 x by omega)) hl

theorem Aj.lcmp (C : q_C G X cc nL own ret rm) {x y : Int} (d : decode cc pc = .ok (.lcmp, 1)) (k : Aj G X P cc nL cs n r h (pc + 1) al (qi (l_cmp x y) :: st)) : Aj G X P cc nL cs n r h pc al (ql y :: ql x :: st) := by
  intro H locs ls hW hN hS ha hs hl
  have rx : q_r64 x := q_hd (q_tl hs)
  have ry : q_r64 y := q_hd hs
  refine W.lcmp C.1 C.2.1 d ?_
  have e : lg_cmp (Int64.ofInt x) (Int64.ofInt y) = Int32.ofInt (l_cmp x y) := by
    unfold lg_cmp l_cmp
    have h1 : Int64.ofInt x > Int64.ofInt y ↔ x > y := by
      show Int64.ofInt y < Int64.ofInt x ↔ y < x
      rw [Int64.lt_iff_toInt_lt, q_i64 rx, q_i64 ry]
    have h2 : Int64.ofInt x = Int64.ofInt y ↔ x = y := ⟨fun e => by rw [← q_i64 rx, e, q_i64 ry], fun e => by rw [e]⟩
    simp only [h1, h2]
    split
    · rfl
    · split <;> rfl
  rw [e]
  exact k H locs ls hW hN hS ha (q_ok1 (q_tl (q_tl hs)) (show q_r32 (l_cmp x y) by unfold l_cmp; split; decide; split <;> decide)) hl

theorem Aj.dup_qi (C : q_C G X cc nL own ret rm) {z : Int} (d : decode cc pc = .ok (.dup, 1)) (k : Aj G X P cc nL cs n r h (pc + 1) al (qi z :: qi z :: st)) : Aj G X P cc nL cs n r h pc al (qi z :: st) := by
  intro H locs ls hW hN hS ha hs hl
  exact lv_dup C.1 C.2.1 d (q_cat1 rfl) (k H locs ls hW hN hS ha (q_ok1 hs (q_hd hs)) hl)

theorem Aj.dup_qa (C : q_C G X cc nL own ret rm) {z : Int} (d : decode cc pc = .ok (.dup, 1)) (k : Aj G X P cc nL cs n r h (pc + 1) al (qa z :: qa z :: st)) : Aj G X P cc nL cs n r h pc al (qa z :: st) := by
  intro H locs ls hW hN hS ha hs hl
  exact lv_dup C.1 C.2.1 d (q_cat1 rfl) (k H locs ls hW hN hS ha (q_ok1 hs (q_hd hs)) hl)

theorem Aj.dup2 (C : q_C G X cc nL own ret rm) {z p : Int} (d : decode cc pc = .ok (.dup2, 1)) (k : Aj G X P cc nL cs n r h (pc + 1) al (qi z :: qa p :: qi z :: qa p :: st)) : Aj G X P cc nL cs n r h pc al (qi z :: qa p :: st) := by
  intro H locs ls hW hN hS ha hs hl
  exact lv_dup2_11 C.1 C.2.1 d (q_cat1 (v := qi z) rfl) (q_cat1 (v := qa p) rfl) (k H locs ls hW hN hS ha (q_ok1 (q_ok1 hs (v := qa p) trivial) (q_hd hs)) hl)

theorem Aj.dup_x1 (C : q_C G X cc nL own ret rm) {z p : Int} (d : decode cc pc = .ok (.dup_x1, 1)) (k : Aj G X P cc nL cs n r h (pc + 1) al (qi z :: qa p :: qi z :: st)) : Aj G X P cc nL cs n r h pc al (qi z :: qa p :: st) := by
  intro H locs ls hW hN hS ha hs hl
  exact lv_dup_x1 C.1 C.2.1 d (q_cat1 (v := qi z) rfl) (q_cat1 (v := qa p) rfl) (k H locs ls hW hN hS ha (q_ok1 (q_ok1 (q_ok1 (q_tl (q_tl hs)) (q_hd hs)) (v := qa p) trivial) (q_hd hs)) hl)

theorem Aj.pop (C : q_C G X cc nL own ret rm) {v : qV} (d : decode cc pc = .ok (.pop, 1)) (hv : q_is2 v = false) (k : Aj G X P cc nL cs n r h (pc + 1) al st) : Aj G X P cc nL cs n r h pc al (v :: st) := by
  intro H locs ls hW hN hS ha hs hl
  exact lv_pop C.1 C.2.1 d (q_cat1 hv) (k H locs ls hW hN hS ha (q_tl hs) hl)

theorem Aj.icmp_eq (C : q_C G X cc nL own ret rm) {x y : Int} {off : Int} {tgt : Nat} (d : decode cc pc = .ok (.if_icmp .eq off, 3)) (ht : (pc : Int) + off = (tgt : Int)) (kt : x = y → Aj G X P cc nL cs n r h tgt al st) (kf : x ≠ y → Aj G X P cc nL cs n r h (pc + 3) al st) : Aj G X P cc nL cs n r h pc al (qi y :: qi x :: st) := by
  intro H locs ls hW hN hS ha hs hl
  have ry : q_r32 y := q_hd hs
  have rx : q_r32 x := q_hd (q_tl hs)
  refine lv_icmp_eq C.1 C.2.1 d ht (fun e => ?_) (fun e => ?_)
  · have e2 : x = y := by (try rw [q_0] at e); (try simp only [ge_iff_le, gt_iff_lt, ne_eq] at e); (first | rw [q_eq32 rx ry] at e | skip); (first | exact e | omega)
    exact kt e2 H locs ls hW hN hS ha (q_tl (q_tl hs)) hl
  · have e2 : x ≠ y := by (try rw [q_0] at e); (try simp only [ge_iff_le, gt_iff_lt, ne_eq] at e); (first | rw [q_eq32 rx ry] at e | skip); (first | exact e | omega)
    exact kf e2 H locs ls hW hN hS ha (q_tl (q_tl hs)) hl

theorem Aj.if_eq (C : q_C G X cc nL own ret rm) {x : Int} {off : Int} {tgt : Nat} (d : decode cc pc = .ok (.ifCond .eq off, 3)) (ht : (pc : Int) + off = (tgt : Int)) (kt : x = 0 → Aj G X P cc nL cs n r h tgt al st) (kf : x ≠ 0 → Aj G X P cc nL cs n r h (pc + 3) al st) : Aj G X P cc nL cs n r h pc al (qi x :: st) := by
  intro H locs ls hW hN hS ha hs hl
  have ry : q_r32 0 := q_rz
  have rx : q_r32 x := q_hd hs
  refine lv_if_eq C.1 C.2.1 d ht (fun e => ?_) (fun e => ?_)
  · have e2 : x = 0 := by (try rw [q_0] at e); (try simp only [ge_iff_le, gt_iff_lt, ne_eq] at e); (first | rw [q_eq32 rx ry] at e | skip); (first | exact e | omega)
    exact kt e2 H locs ls hW hN hS ha (q_tl hs) hl
  · have e2 : x ≠ 0 := by (try rw [q_0] at e); (try simp only [ge_iff_le, gt_iff_lt, ne_eq] at e); (first | rw [q_eq32 rx ry] at e | skip); (first | exact e | omega)
    exact kf e2 H locs ls hW hN hS ha (q_tl hs) hl

theorem Aj.icmp_ne (C : q_C G X cc nL own ret rm) {x y : Int} {off : Int} {tgt : Nat} (d : decode cc pc = .ok (.if_icmp .ne off, 3)) (ht : (pc : Int) + off = (tgt : Int)) (kt : x ≠ y → Aj G X P cc nL cs n r h tgt al st) (kf : x = y → Aj G X P cc nL cs n r h (pc + 3) al st) : Aj G X P cc nL cs n r h pc al (qi y :: qi x :: st) := by
  intro H locs ls hW hN hS ha hs hl
  have ry : q_r32 y := q_hd hs
  have rx : q_r32 x := q_hd (q_tl hs)
  refine lv_icmp_ne C.1 C.2.1 d ht (fun e => ?_) (fun e => ?_)
  · have e2 : x ≠ y := by (try rw [q_0] at e); (try simp only [ge_iff_le, gt_iff_lt, ne_eq] at e); (first | rw [q_eq32 rx ry] at e | skip); (first | exact e | omega)
    exact kt e2 H locs ls hW hN hS ha (q_tl (q_tl hs)) hl
  · have e2 : x = y := by (try rw [q_0] at e); (try simp only [ge_iff_le, gt_iff_lt, ne_eq] at e); (first | rw [q_eq32 rx ry] at e | skip); (first | exact e | omega)
    exact kf e2 H locs ls hW hN hS ha (q_tl (q_tl hs)) hl

theorem Aj.if_ne (C : q_C G X cc nL own ret rm) {x : Int} {off : Int} {tgt : Nat} (d : decode cc pc = .ok (.ifCond .ne off, 3)) (ht : (pc : Int) + off = (tgt : Int)) (kt : x ≠ 0 → Aj G X P cc nL cs n r h tgt al st) (kf : x = 0 → Aj G X P cc nL cs n r h (pc + 3) al st) : Aj G X P cc nL cs n r h pc al (qi x :: st) := by
  intro H locs ls hW hN hS ha hs hl
  have ry : q_r32 0 := q_rz
  have rx : q_r32 x := q_hd hs
  refine lv_if_ne C.1 C.2.1 d ht (fun e => ?_) (fun e => ?_)
  · have e2 : x ≠ 0 := by (try rw [q_0] at e); (try simp only [ge_iff_le, gt_iff_lt, ne_eq] at e); (first | rw [q_eq32 rx ry] at e | skip); (first | exact e | omega)
    exact kt e2 H locs ls hW hN hS ha (q_tl hs) hl
  · have e2 : x = 0 := by (try rw [q_0] at e); (try simp only [ge_iff_le, gt_iff_lt, ne_eq] at e); (first | rw [q_eq32 rx ry] at e | skip); (first | exact e | omega)
    exact kf e2 H locs ls hW hN hS ha (q_tl hs) hl

theorem Aj.icmp_lt (C : q_C G X cc nL own ret rm) {x y : Int} {off : Int} {tgt : Nat} (d : decode cc pc = .ok (.if_icmp .lt off, 3)) (ht : (pc : Int) + off = (tgt : Int)) (kt : x < y → Aj G X P cc nL cs n r h tgt al st) (kf : y ≤ x → Aj G X P cc nL cs n r h (pc + 3) al st) : Aj G X P cc nL cs n r h pc al (qi y :: qi x :: st) := by
  intro H locs ls hW hN hS ha hs hl
  have ry : q_r32 y := q_hd hs
  have rx : q_r32 x := q_hd (q_tl hs)
  refine lv_icmp_lt C.1 C.2.1 d ht (fun e => ?_) (fun e => ?_)
  · have e2 : x < y := by (try rw [q_0] at e); (try simp only [ge_iff_le, gt_iff_lt, ne_eq] at e); (first | rw [q_lt32 rx ry] at e | skip); (first | exact e | omega)
    exact kt e2 H locs ls hW hN hS ha (q_tl (q_tl hs)) hl
  · have e2 : y ≤ x := by (try rw [q_0] at e); (try simp only [ge_iff_le, gt_iff_lt, ne_eq] at e); (first | rw [q_lt32 rx ry] at e | skip); (first | exact e | omega)
    exact kf e2 H locs ls hW hN hS ha (q_tl (q_tl hs)) hl

theorem Aj.if_lt (C : q_C G X cc nL own ret rm) {x : Int} {off : Int} {tgt : Nat} (d : decode cc pc = .ok (.ifCond .lt off, 3)) (ht : (pc : Int) + off = (tgt : Int)) (kt : x < 0 → Aj G X P cc nL cs n r h tgt al st) (kf : 0 ≤ x → Aj G X P cc nL cs n r h (pc + 3) al st) : Aj G X P cc nL cs n r h pc al (qi x :: st) := by
  intro H locs ls hW hN hS ha hs hl
  have ry : q_r32 0 := q_rz
  have rx : q_r32 x := q_hd hs
  refine lv_if_lt C.1 C.2.1 d ht (fun e => ?_) (fun e => ?_)
  · have e2 : x < 0 := by (try rw [q_0] at e); (try simp only [ge_iff_le, gt_iff_lt, ne_eq] at e); (first | rw [q_lt32 rx ry] at e | skip); (first | exact e | omega)
    exact kt e2 H locs ls hW hN hS ha (q_tl hs) hl
  · have e2 : 0 ≤ x := by (try rw [q_0] at e); (try simp only [ge_iff_le, gt_iff_lt, ne_eq] at e); (first | rw [q_lt32 rx ry] at e | skip); (first | exact e | omega)
    exact kf e2 H locs ls hW hN hS ha (q_tl hs) hl

theorem Aj.icmp_ge (C : q_C G X cc nL own ret rm) {x y : Int} {off : Int} {tgt : Nat} (d : decode cc pc = .ok (.if_icmp .ge off, 3)) (ht : (pc : Int) + off = (tgt : Int)) (kt : y ≤ x → Aj G X P cc nL cs n r h tgt al st) (kf : x < y → Aj G X P cc nL cs n r h (pc + 3) al st) : Aj G X P cc nL cs n r h pc al (qi y :: qi x :: st) := by
  intro H locs ls hW hN hS ha hs hl
  have ry : q_r32 y := q_hd hs
  have rx : q_r32 x := q_hd (q_tl hs)
  refine lv_icmp_ge C.1 C.2.1 d ht (fun e => ?_) (fun e => ?_)
  · have e2 : y ≤ x := by (try rw [q_0] at e); (try simp only [ge_iff_le, gt_iff_lt, ne_eq] at e); (first | rw [q_le32 ry rx] at e | skip); (first | exact e | omega)
    exact kt e2 H locs ls hW hN hS ha (q_tl (q_tl hs)) hl
  · have e2 : x < y := by (try rw [q_0] at e); (try simp only [ge_iff_le, gt_iff_lt, ne_eq] at e); (first | rw [q_le32 ry rx] at e | skip); (first | exact e | omega)
    exact kf e2 H locs ls hW hN hS ha (q_tl (q_tl hs)) hl

theorem Aj.if_ge (C : q_C G X cc nL own ret rm) {x : Int} {off : Int} {tgt : Nat} (d : decode cc pc = .ok (.ifCond .ge off, 3)) (ht : (pc : Int) + off = (tgt : Int)) (kt : 0 ≤ x → Aj G X P cc nL cs n r h tgt al st) (kf : x < 0 → Aj G X P cc nL cs n r h (pc + 3) al st) : Aj G X P cc nL cs n r h pc al (qi x :: st) := by
  intro H locs ls hW hN hS ha hs hl
  have ry : q_r32 0 := q_rz
  have rx : q_r32 x := q_hd hs
  refine lv_if_ge C.1 C.2.1 d ht (fun e => ?_) (fun e => ?_)
  · have e2 : 0 ≤ x := by (try rw [q_0] at e); (try simp only [ge_iff_le, gt_iff_lt, ne_eq] at e); (first | rw [q_le32 ry rx] at e | skip); (first | exact e | omega)
    exact kt e2 H locs ls hW hN hS ha (q_tl hs) hl
  · have e2 : x < 0 := by (try rw [q_0] at e); (try simp only [ge_iff_le, gt_iff_lt, ne_eq] at e); (first | rw [q_le32 ry rx] at e | skip); (first | exact e | omega)
    exact kf e2 H locs ls hW hN hS ha (q_tl hs) hl

theorem Aj.icmp_gt (C : q_C G X cc nL own ret rm) {x y : Int} {off : Int} {tgt : Nat} (d : decode cc pc = .ok (.if_icmp .gt off, 3)) (ht : (pc : Int) + off = (tgt : Int)) (kt : y < x → Aj G X P cc nL cs n r h tgt al st) (kf : x ≤ y → Aj G X P cc nL cs n r h (pc + 3) al st) : Aj G X P cc nL cs n r h pc al (qi y :: qi x :: st) := by
  intro H locs ls hW hN hS ha hs hl
  have ry : q_r32 y := q_hd hs
  have rx : q_r32 x := q_hd (q_tl hs)
  refine lv_icmp_gt C.1 C.2.1 d ht (fun e => ?_) (fun e => ?_)
  · have e2 : y < x := by (try rw [q_0] at e); (try simp only [ge_iff_le, gt_iff_lt, ne_eq] at e); (first | rw [q_lt32 ry rx] at e | skip); (first | exact e | omega)
    exact kt e2 H locs ls hW hN hS ha (q_tl (q_tl hs)) hl
  · have e2 : x ≤ y := by (try rw [q_0] at e); (try simp only [ge_iff_le, gt_iff_lt, ne_eq] at e); (first | rw [q_lt32 ry rx] at e | skip); (first | exact e | omega)
    exact kf e2 H locs ls hW hN hS ha (q_tl (q_tl hs)) hl

theorem Aj.if_gt (C : q_C G X cc nL own ret rm) {x : Int} {off : Int} {tgt : Nat} (d : decode cc pc = .ok (.ifCond .gt off, 3)) (ht : (pc : Int) + off = (tgt : Int)) (kt : 0 < x → Aj G X P cc nL cs n r h tgt al st) (kf : x ≤ 0 → Aj G X P cc nL cs n r h (pc + 3) al st) : Aj G X P cc nL cs n r h pc al (qi x :: st) := by
  intro H locs ls hW hN hS ha hs hl
  have ry : q_r32 0 := q_rz
  have rx : q_r32 x := q_hd hs
  refine lv_if_gt C.1 C.2.1 d ht (fun e => ?_) (fun e => ?_)
  · have e2 : 0 < x := by (try rw [q_0] at e); (try simp only [ge_iff_le, gt_iff_lt, ne_eq] at e); (first | rw [q_lt32 ry rx] at e | skip); (first | exact e | omega)
    exact kt e2 H locs ls hW hN hS ha (q_tl hs) hl
  · have e2 : x ≤ 0 := by (try rw [q_0] at e); (try simp only [ge_iff_le, gt_iff_lt, ne_eq] at e); (first | rw [q_lt32 ry rx] at e | skip); (first | exact e | omega)
    exact kf e2 H locs ls hW hN hS ha (q_tl hs) hl

theorem Aj.icmp_le (C : q_C G X cc nL own ret rm) {x y : Int} {off : Int} {tgt : Nat} (d : decode cc pc = .ok (.if_icmp .le off, 3)) (ht : (pc : Int) + off = (tgt : Int)) (kt : x ≤ y → Aj G X P cc nL cs n r h tgt al st) (kf : y < x → Aj G X P cc nL cs n r h (pc + 3) al st) : Aj G X P cc nL cs n r h pc al (qi y :: qi x :: st) := by
  intro H locs ls hW hN hS ha hs hl
  have ry : q_r32 y := q_hd hs
  have rx : q_r32 x := q_hd (q_tl hs)
  refine lv_icmp_le C.1 C.2.1 d ht (fun e => ?_) (fun e => ?_)
  · have e2 : x ≤ y := by (try rw [q_0] at e); (try simp only [ge_iff_le, gt_iff_lt, ne_eq] at e); (first | rw [q_le32 rx ry] at e | skip); (first | exact e | omega)
    exact kt e2 H locs ls hW hN hS ha (q_tl (q_tl hs)) hl
  · have e2 : y < x := by (try rw [q_0] at e); (try simp only [ge_iff_le, gt_iff_lt, ne_eq] at e); (first | rw [q_le32 rx ry] at e | skip); (first | exact e | omega)
    exact kf e2 H locs ls hW hN hS ha (q_tl (q_tl hs)) hl

theorem Aj.if_le (C : q_C G X cc nL own ret rm) {x : Int} {off : Int} {tgt : Nat} (d : decode cc pc = .ok (.ifCond .le off, 3)) (ht : (pc : Int) + off = (tgt : Int)) (kt : x ≤ 0 → Aj G X P cc nL cs n r h tgt al st) (kf : 0 < x → Aj G X P cc nL cs n r h (pc + 3) al st) : Aj G X P cc nL cs n r h pc al (qi x :: st) := by
  intro H locs ls hW hN hS ha hs hl
  have ry : q_r32 0 := q_rz
  have rx : q_r32 x := q_hd hs
  refine lv_if_le C.1 C.2.1 d ht (fun e => ?_) (fun e => ?_)
  · have e2 : x ≤ 0 := by (try rw [q_0] at e); (try simp only [ge_iff_le, gt_iff_lt, ne_eq] at e); (first | rw [q_le32 rx ry] at e | skip); (first | exact e | omega)
    exact kt e2 H locs ls hW hN hS ha (q_tl hs) hl
  · have e2 : 0 < x := by (try rw [q_0] at e); (try simp only [ge_iff_le, gt_iff_lt, ne_eq] at e); (first | rw [q_le32 rx ry] at e | skip); (first | exact e | omega)
    exact kf e2 H locs ls hW hN hS ha (q_tl hs) hl

theorem Aj.goto (C : q_C G X cc nL own ret rm) {off : Int} {tgt : Nat} (d : decode cc pc = .ok (.goto off, 3)) (ht : (pc : Int) + off = (tgt : Int)) (k : Aj G X P cc nL cs n r h tgt al st) : Aj G X P cc nL cs n r h pc al st := by
  intro H locs ls hW hN hS ha hs hl
  exact lv_goto C.1 C.2.1 d ht (k H locs ls hW hN hS ha hs hl)

theorem Aj.ifnull (C : q_C G X cc nL own ret rm) {z : Int} {off : Int} {tgt : Nat} (d : decode cc pc = .ok (.ifnull off, 3)) (ht : (pc : Int) + off = (tgt : Int)) (kt : z = 0 → Aj G X P cc nL cs n r h tgt al st) (kf : z ≠ 0 → Aj G X P cc nL cs n r h (pc + 3) al st) : Aj G X P cc nL cs n r h pc al (qa z :: st) := by
  intro H locs ls hW hN hS ha hs hl
  by_cases e : z = 0
  · subst e
    exact lv_ifnullN C.1 C.2.1 d ht (kt rfl H locs ls hW hN hS ha (q_tl hs) hl)
  · have e1 : qconc (qa z) = .ref z.toNat := by show va_rf (q_opt z) = _; unfold q_opt; rw [if_neg e]; rfl
    show W _ _ _ _ _ _ _ _ _ _ _ _ _ _ _ (F0 _ _ _ (qconc (qa z) :: _))
    rw [e1]
    exact lv_ifnull C.1 C.2.1 d (kf e H locs ls hW hN hS ha (q_tl hs) hl)

theorem Aj.ifnonnull (C : q_C G X cc nL own ret rm) {z : Int} {off : Int} {tgt : Nat} (d : decode cc pc = .ok (.ifnonnull off, 3)) (ht : (pc : Int) + off = (tgt : Int)) (kt : z ≠ 0 → Aj G X P cc nL cs n r h tgt al st) (kf : z = 0 → Aj G X P cc nL cs n r h (pc + 3) al st) : Aj G X P cc nL cs n r h pc al (qa z :: st) := by
  intro H locs ls hW hN hS ha hs hl
  by_cases e : z = 0
  · subst e
    exact lv_ifnonnullN C.1 C.2.1 d (kf rfl H locs ls hW hN hS ha (q_tl hs) hl)
  · have e1 : qconc (qa z) = .ref z.toNat := by show va_rf (q_opt z) = _; unfold q_opt; rw [if_neg e]; rfl
    show W _ _ _ _ _ _ _ _ _ _ _ _ _ _ _ (F0 _ _ _ (qconc (qa z) :: _))
    rw [e1]
    exact lv_ifnonnull C.1 C.2.1 d ht (kt e H locs ls hW hN hS ha (q_tl hs) hl)

theorem Aj.lookup (C : q_C G X cc nL own ret rm) {x dflt : Int} {ps : Array (Int × Int)} {len : Nat} (off : Int) {tgt : Nat} (d : decode cc pc = .ok (.lookupswitch dflt ps, len)) (hp : (ps.toList.zip (ps.toList.drop 1)).all (fun (a, next) => a.1 < next.1) = true) (ho : Op.lookupswitch.offset ps.toList dflt x = off) (ht : (pc : Int) + off = (tgt : Int)) (k : Aj G X P cc nL cs n r h tgt al st) : Aj G X P cc nL cs n r h pc al (qi x :: st) := by
  intro H locs ls hW hN hS ha hs hl
  have rx : q_r32 x := q_hd hs
  exact lv_lookup C.1 C.2.1 d hp (by rw [q_i32 rx]; exact ho) ht (k H locs ls hW hN hS ha (q_tl hs) hl)

theorem Aj.tableOut (C : q_C G X cc nL own ret rm) {x dflt lo hi : Int} {offs : Array Int} {len : Nat} {tgt : Nat} (d : decode cc pc = .ok (.tableswitch dflt lo hi offs, len)) (hx : x < lo ∨ hi < x) (ht : (pc : Int) + dflt = (tgt : Int)) (k : Aj G X P cc nL cs n r h tgt al st) : Aj G X P cc nL cs n r h pc al (qi x :: st) := by
  intro H locs ls hW hN hS ha hs hl
  have rx : q_r32 x := q_hd hs
  exact lv_tableOut C.1 C.2.1 d (by rw [q_i32 rx]; exact hx) ht (k H locs ls hW hN hS ha (q_tl hs) hl)

theorem Aj.tableIn (C : q_C G X cc nL own ret rm) {x dflt lo hi : Int} {offs : Array Int} {len : Nat} (off : Int) {tgt : Nat} (d : decode cc pc = .ok (.tableswitch dflt lo hi offs, len)) (hx : lo ≤ x ∧ x ≤ hi) (ho : offs[(x - lo).toNat]? = some off) (ht : (pc : Int) + off = (tgt : Int)) (k : Aj G X P cc nL cs n r h tgt al st) : Aj G X P cc nL cs n r h pc al (qi x :: st) := by
  intro H locs ls hW hN hS ha hs hl
  have rx : q_r32 x := q_hd hs
  exact lv_tableIn C.1 C.2.1 d (by rw [q_i32 rx]; omega) (by rw [q_i32 rx]; omega) (by rw [q_i32 rx]; exact ho) ht (k H locs ls hW hN hS ha (q_tl hs) hl)

end
