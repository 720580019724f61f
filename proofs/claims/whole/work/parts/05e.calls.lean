section
variable {G : qG} {X : qX} {P : qP} {cc : ByteArray} {nL : Nat} {own : String} {ret : Option FieldType} {rm : Room} {cs : Nat × Nat} {n : Int} {r h : qH} {pc : Nat} {al al2 : List (Nat × qV)} {st : List qV}
/-! returns -/
theorem q_ret {v : Option qV} {H : Heap} {locs : List Loc} (hok : ∀ w, v = some w → qok w) (hp : P v r h) (hW : q_Wh G n r h H) (hN : ((xs X).heap.size : Int) + cs.1 = n) (hcs : cs.1 = (xmc X).1) (hS : va_S (qA G) (xs X).heap H locs) (t : State) (ht : t.heap = H) (a : Array Value) :
    q_Qc G P (((xs X).heap.size : Int) + (xmc X).1) a (xs X) (.returned (v.map qconc)) t := by
  refine ⟨⟨v, r, h, rfl, hok, hp, ?_⟩, hS.F ht⟩
  rw [ht, ← hcs, hN]
  exact hW
theorem Aj.iret (C : q_C G X cc nL own (some .int) rm) {z : Int} (d : decode cc pc = .ok (.ireturn, 1)) (hc : cs.1 = (xmc X).1 ∧ cs.2 ≤ (xmc X).2) (hp : P (some (qi z)) r h) : Aj G X P cc nL cs n r h pc al [qi z] := by
  intro H locs ls hW hN hS ha hs hl
  refine W.widen (k := (xmc X).1) (n := (xmc X).2) (Nat.le_of_eq hc.1) hc.2 ?_
  exact W.iret (v := Int32.ofInt z) C.1 C.2.1 C.2.2.2.2.2.1 (fun t ht _ => q_ret (v := some (qi z)) (fun w hw => by cases hw; exact q_hd hs) hp hW hN hc.1 hS t ht _) hS.2.2 d C.2.2.2.2.2.2.1
theorem Aj.zret (C : q_C G X cc nL own (some .boolean) rm) {z : Int} (d : decode cc pc = .ok (.ireturn, 1)) (hz : z = 0 ∨ z = 1) (hc : cs.1 = (xmc X).1 ∧ cs.2 ≤ (xmc X).2) (hp : P (some (qi z)) r h) : Aj G X P cc nL cs n r h pc al [qi z] := by
  intro H locs ls hW hN hS ha hs hl
  refine W.widen (k := (xmc X).1) (n := (xmc X).2) (Nat.le_of_eq hc.1) hc.2 ?_
  exact W.zret (v := Int32.ofInt z) (ty := .boolean) C.1 C.2.1 C.2.2.2.2.2.1 (q_zb hz).1 (fun t ht _ => q_ret (v := some (qi z)) (fun w hw => by cases hw; exact q_hd hs) hp hW hN hc.1 hS t ht _) hS.2.2 d C.2.2.2.2.2.2.1
theorem Aj.vret (C : q_C G X cc nL own none rm) (d : decode cc pc = .ok (.return_, 1)) (hc : cs.1 = (xmc X).1 ∧ cs.2 ≤ (xmc X).2) (hp : P none r h) : Aj G X P cc nL cs n r h pc al [] := by
  intro H locs ls hW hN hS ha hs hl
  refine W.widen (k := (xmc X).1) (n := (xmc X).2) (Nat.le_of_eq hc.1) hc.2 ?_
  exact W.vret C.1 C.2.1 C.2.2.2.2.2.1 (fun t ht _ => q_ret (v := none) (fun w hw => by cases hw) hp hW hN hc.1 hS t ht _) hS.2.2 d C.2.2.2.2.2.2.1
theorem Aj.aret {C0 : String} (C : q_C G X cc nL own (some (.object C0)) rm) {z : Int} (d : decode cc pc = .ok (.areturn, 1)) (hc : cs.1 = (xmc X).1 ∧ cs.2 ≤ (xmc X).2) (hp : P (some (qa z)) r h) : Aj G X P cc nL cs n r h pc al [qa z] := by
  intro H locs ls hW hN hS ha hs hl
  refine W.widen (k := (xmc X).1) (n := (xmc X).2) (Nat.le_of_eq hc.1) hc.2 ?_
  refine W.aret (v := qconc (qa z)) (rt := .object C0) C.1 C.2.1 C.2.2.2.2.2.1 (Or.inl ⟨_, rfl⟩) ?_ (fun t ht _ => q_ret (v := some (qa z)) (fun w hw => by cases hw; exact trivial) hp hW hN hc.1 hS t ht _) hS.2.2 d C.2.2.2.2.2.2.1
  show va_rf (q_opt z) = .null ∨ ∃ a, va_rf (q_opt z) = .ref a
  cases q_opt z with
  | none => exact Or.inl rfl
  | some a => exact Or.inr ⟨a, rfl⟩
/-! calls -/
def q_sum (st : List qV) : Nat := (st.map fun v => if q_is2 v = true then 2 else 1).sum
theorem q_sum_eq (st : List qV) : ((st.map qconc).map fun v => v.category).sum = q_sum st := by
  unfold q_sum
  rw [List.map_map]
  congr 1
  apply List.map_congr_left
  intro v _
  exact q_cat v
theorem q_exact {T : State} {H : Heap} {locs : List Loc} {ca sl : Nat} (hT : T.heap = H) (S : Stand (xp X) (xl X) (xe X) (xR X) (xs X) (xm X) (xa X) (xb X) (xme X) (xc X) T locs ca sl) (hN : ((xs X).heap.size : Int) + ca = n) (hW : q_Wh G n r h H) : (H.size : Int) = n := by
  have h1 : T.heap.size ≤ (xs X).heap.size + ca := S.same.2.2.1
  have h2 := hW.2.2.1
  rw [hT] at h1
  omega
theorem q_call {P' : qP} {mc ms : Nat} {st0 : List qV} {rest : List qV} {a : Array Value} {H : Heap} {locs : List Loc} {ls : Array Slot} (hN : ((xs X).heap.size : Int) + cs.1 = n) (hS : va_S (qA G) (xs X).heap H locs)
    (hr : ∀ T : State, T.heap = H → Stand (xp X) (xl X) (xe X) (xR X) (xs X) (xm X) (xa X) (xb X) (xme X) (xc X) T locs cs.1 cs.2 → va_Run (xp X) (xl X) (xe X) (xR X) (xs X) (xm X) (xa X) (xb X) (xme X) (xc X) H locs cs.1 cs.2 mc ms (F0 (xm X) pc ls (st0.map qconc)) (rest.map qconc) (q_Qc G P' (n + mc) a) (qA G))
    (ha : ∀ q ∈ al, qok q.2) (hs : ∀ v ∈ rest, qok v) (hl : lv_has ls nL (al.map q_lc))
    (k : ∀ (v : Option qV) (r2 h2 : qH), (∀ w, v = some w → qok w) → P' v r2 h2 → Aj G X P cc nL (cs.1 + mc, cs.2 + ms) (n + mc) r2 h2 (pc + 3) al (v.toList ++ rest)) :
    W (xp X) (xl X) (xe X) (xR X) (xs X) (xm X) (xa X) (xb X) (xme X) (xc X) H locs cs.1 cs.2 (MQ (xb X) (q_Qc G P (((xs X).heap.size : Int) + (xmc X).1)) (xa X) (xs X) (xmc X).1 (xmc X).2 (qA G)) (F0 (xm X) pc ls (st0.map qconc)) := by
  intro T hT S
  obtain ⟨v, st₀, t, T', L, h0, S', hL, e1, e2, ⟨⟨v0, r2, h2, hv, hok, hp, hw2⟩, hz, hk⟩, stp⟩ := hr T hT S T hT S
  rw [h0] at hz hk
  have hvv : v = v0.map qconc := Outcome.returned.inj hv
  subst hvv
  rw [← e1] at hw2 hz hk
  have k1 := k v0 r2 h2 hok hp T'.heap (locs ++ L) ls hw2 (by show ((xs X).heap.size : Int) + ((cs.1 + mc : Nat) : Int) = n + mc; rw [← hN]; omega)
    ⟨Nat.le_trans hS.1 hz, fun q h1 h2 => by rw [hk q (Nat.lt_of_lt_of_le h1 hS.1) h2]; exact hS.2.1 q h1 h2, fun q hq => by
      rcases List.mem_append.mp hq with h | h
      · exact hS.2.2 q h
      · exact hL q h⟩ ha (fun w hw => by
      rcases List.mem_append.mp hw with h | h
      · cases v0 with
        | none => cases h
        | some x =>
          have hx : w = x := by simpa using h
          rw [hx]
          exact hok x rfl
      · exact hs w h) hl T' rfl S'
  obtain ⟨t2, a1, b1⟩ := k1
  refine ⟨t2, stp t2 ?_, b1⟩
  have e3 : (v0.map qconc).toList ++ rest.map qconc = (v0.toList ++ rest).map qconc := by
    rw [List.map_append]
    cases v0 <;> rfl
  rw [e3]
  exact a1
/-- the words of a callee -/
theorem q_cb {y : MethodName} {cc' : ByteArray} {mL np : Nat} {ret' : Option FieldType} {fr lo mc ms idx : Nat} (C : q_C G X cc nL own ret rm) (hm : q_M y cc' mL ret' np) (hl : Cond.methodLink own idx y ∈ q_tbl) (hroom : fr + 1 ≤ rm.frames ∧ 8 + (mL + 11) + lo ≤ rm.locals) :
    CallB (xR X) (xs X) (xa X) own idx y cc' mL ret' (Cond.code y cc' mL ret' :: q_tbl) (q_rm fr lo mc ms) mc ms np := by
  refine callB_of (Ts := q_tbl) (ws' := q_tbl) np C.2.2.2.2.1 (fun w hw => ?_) rfl rfl rfl (C.2.2.2.2.1 _ hm.2.1) (C.2.2.2.2.1 _ hl) ⟨hm.2.2.1, hm.2.2.2.1, hm.2.2.2.2.2⟩ ?_
  · rcases List.mem_cons.mp hw with rfl | hw
    · exact q_tbl_self _ hm.1
    · exact q_tbl_self _ hw
  · rw [C.2.2.2.2.2.2.2.1]; exact hroom
theorem q_cbN {y : MethodName} {cc' : ByteArray} {mL np : Nat} {ret' : Option FieldType} {fr lo mc ms idx : Nat} {host : String} (C : q_C G X cc nL own ret rm) (hm : q_M y cc' mL ret' np) (hl : Cond.methodLinkNest own idx y host ∈ q_nest) (hroom : fr + 1 ≤ rm.frames ∧ 8 + (mL + 11) + lo ≤ rm.locals) :
    va_CN (xR X) (xs X) (xa X) own idx y host cc' mL ret' (Cond.code y cc' mL ret' :: q_tbl) (q_rm fr lo mc ms) mc ms np := by
  refine va_cnB (Ts := q_tbl) (ws' := q_tbl) np C.2.2.2.2.1 (fun w hw => ?_) rfl rfl rfl (C.2.2.2.2.2.2.2.2.2.1 _ hl) (C.2.2.2.2.1 _ hm.2.1) ⟨hm.2.2.1, hm.2.2.2.1, hm.2.2.2.2.2⟩ ?_
  · rcases List.mem_cons.mp hw with rfl | hw
    · exact q_tbl_self _ hm.1
    · exact q_tbl_self _ hw
  · rw [C.2.2.2.2.2.2.2.1]; exact hroom
theorem q_pre {as : List qV} {H : Heap} (C : q_C G X cc nL own ret rm) (hW : q_Wh G n r h H) (hz : (H.size : Int) = n) (U : State) (hU : U.heap = H) (hw : (xs X).WarmedH U.vm) : va_Pc (as.map qconc) (fun U => q_En G U ∧ q_Wh G n r h U.heap ∧ (U.heap.size : Int) = n) ((as.map qconc).toArray) U :=
  ⟨rfl, C.2.2.2.2.2.2.2.2.warm hw, by rw [hU]; exact hW, by rw [hU]; exact hz⟩
theorem q_asok {As st : List qV} {p : qV} (h : ∀ v ∈ As.reverse ++ p :: st, qok v) : (∀ v ∈ p :: As, qok v) ∧ ∀ v ∈ st, qok v := by
  refine ⟨fun v hv => ?_, fun v hv => h v (List.mem_append_right _ (List.mem_cons_of_mem _ hv))⟩
  rcases List.mem_cons.mp hv with rfl | hv
  · exact h _ (List.mem_append_right _ List.mem_cons_self)
  · exact h v (List.mem_append_left _ (List.mem_reverse.mpr hv))
theorem Aj.callV (C : q_C G X cc nL own ret rm) {y : MethodName} {cc' : ByteArray} {mL np : Nat} {ret' : Option FieldType} {fr lo mc ms idx : Nat} {P' : qP} {p len : Int} {t : Nat} {R : String} {T : u_T} {N : Nat} {As st2 : List qV} (hl : Cond.methodLink own idx y ∈ q_tbl) (hm : q_M y cc' mL ret' np) (hi : Cond.instanceMethod y ∈ q_tbl) (hsel : Cond.selects y.cls y y ∈ q_tbl)
    (hM : q_Cm (xl X) G y cc' mL ret' fr lo (qa p :: As) n r h P' mc ms) (ha0 : q_al G n p t len) (hc : vwCl[t]? = some (R, T, N)) (hR : R = y.cls) (hst : st2 = As.reverse ++ qa p :: st) (hnp : As.length = np) (hroom : fr + 1 ≤ rm.frames ∧ 8 + (mL + 11) + lo ≤ rm.locals) (hsum : q_sum st ≤ 8) (hroom2 : cs.1 + mc ≤ rm.cells ∧ cs.2 + ms ≤ rm.slots) (d : decode cc pc = .ok (.invokevirtual idx, 3))
    (k : ∀ (v : Option qV) (r2 h2 : qH), (∀ w, v = some w → qok w) → P' v r2 h2 → Aj G X P cc nL (cs.1 + mc, cs.2 + ms) (n + mc) r2 h2 (pc + 3) al (v.toList ++ st)) : Aj G X P cc nL cs n r h pc al st2 := by
  intro H locs ls hW hN hS ha hs hl2
  subst hst
  obtain ⟨hso, hst⟩ := q_asok hs
  refine q_call (rest := st) (a := (Value.ref p.toNat :: As.map qconc).toArray) hN hS (fun U hU SU => ?_) ha hst hl2 k
  have hz := q_exact hU SU hN hW
  obtain ⟨j, hj⟩ := va_pl_get (X := []) (f := q_enc G r h) (q_in_L ha0)
  have ht10 : t < 10 := by
    rcases Nat.lt_or_ge t 10 with q | q
    · exact q
    · rw [List.getElem?_eq_none (by exact q)] at hc; cases hc
  rw [q_enc_o ha0 ht10] at hj
  have hrv := va_recv C.2.2.2.2.2.2.2.2.1 hW.2.2.2.2 hc hj
  have ep := q_conc_a (q_pos hW ha0)
  have hpr := fun U hU hw => q_pre (as := qa p :: As) C hW hz U hU hw
  rw [List.map_cons, ep] at hpr
  exact va_runV (C := y.cls) (b := p.toNat) (As := As.map qconc) (rest := st.map qconc) (g := F0 (xm X) pc ls ((As.reverse ++ qa p :: st).map qconc)) ⟨C.1, C.2.1, C.2.2.1, C.2.2.2.1, C.2.2.2.2.1⟩ (hM hso) ⟨q_cb (ms := ms) (mc := mc) C hm hl hroom, C.2.2.2.2.1 _ hi, C.2.2.2.2.1 _ hsel⟩
    ⟨q_blind _ _ _ _ _, by rw [← hR]; exact hrv, by
      rw [List.map_cons, ep]
      exact hpr⟩ rfl (by rw [List.length_map]; exact hnp) (hl2.1) (by show (As.reverse ++ qa p :: st).map qconc = _; rw [List.map_append, List.map_cons, ep, List.map_reverse]) (lv_room (by rw [q_sum_eq]; exact hsum)) d ⟨by rw [C.2.2.2.2.2.2.2.1]; exact hroom2.1, by rw [C.2.2.2.2.2.2.2.1]; exact hroom2.2⟩
theorem Aj.callS (C : q_C G X cc nL own ret rm) {y : MethodName} {cc' : ByteArray} {mL np : Nat} {ret' : Option FieldType} {fr lo mc ms idx : Nat} {P' : qP} {As st2 : List qV} (hl : Cond.methodLink own idx y ∈ q_tbl) (hm : q_M y cc' mL ret' np) (hi : Cond.static y ∈ q_tbl)
    (hM : q_Cm (xl X) G y cc' mL ret' fr lo As n r h P' mc ms) (hst : st2 = As.reverse ++ st) (hnp : As.length = np) (hroom : fr + 1 ≤ rm.frames ∧ 8 + (mL + 11) + lo ≤ rm.locals) (hsum : q_sum st ≤ 8) (hroom2 : cs.1 + mc ≤ rm.cells ∧ cs.2 + ms ≤ rm.slots) (d : decode cc pc = .ok (.invokestatic idx, 3))
    (k : ∀ (v : Option qV) (r2 h2 : qH), (∀ w, v = some w → qok w) → P' v r2 h2 → Aj G X P cc nL (cs.1 + mc, cs.2 + ms) (n + mc) r2 h2 (pc + 3) al (v.toList ++ st)) : Aj G X P cc nL cs n r h pc al st2 := by
  intro H locs ls hW hN hS ha hs hl2
  subst hst
  have hso : ∀ v ∈ As, qok v := fun v hv => hs v (List.mem_append_left _ (List.mem_reverse.mpr hv))
  have hst : ∀ v ∈ st, qok v := fun v hv => hs v (List.mem_append_right _ hv)
  refine q_call (rest := st) (a := (As.map qconc).toArray) hN hS (fun U hU SU => ?_) ha hst hl2 k
  have hz := q_exact hU SU hN hW
  exact va_runS (As := As.map qconc) (rest := st.map qconc) (g := F0 (xm X) pc ls ((As.reverse ++ st).map qconc)) ⟨C.1, C.2.1, C.2.2.1, C.2.2.2.1, C.2.2.2.2.1⟩ (hM hso) ⟨q_cb (ms := ms) (mc := mc) C hm hl hroom, C.2.2.2.2.1 _ hi⟩
    ⟨q_blind _ _ _ _ _, fun U hU hw => q_pre C hW hz U hU hw⟩ rfl (by rw [List.length_map]; exact hnp) (hl2.1) (by show (As.reverse ++ st).map qconc = _; rw [List.map_append, List.map_reverse]) (lv_room (by rw [q_sum_eq]; exact hsum)) d ⟨by rw [C.2.2.2.2.2.2.2.1]; exact hroom2.1, by rw [C.2.2.2.2.2.2.2.1]; exact hroom2.2⟩
theorem Aj.callSN (C : q_C G X cc nL own ret rm) {y : MethodName} {cc' : ByteArray} {mL np : Nat} {ret' : Option FieldType} {fr lo mc ms idx : Nat} {host : String} {P' : qP} {As st2 : List qV} (hl : Cond.methodLinkNest own idx y host ∈ q_nest) (hm : q_M y cc' mL ret' np) (hi : Cond.static y ∈ q_tbl)
    (hM : q_Cm (xl X) G y cc' mL ret' fr lo As n r h P' mc ms) (hst : st2 = As.reverse ++ st) (hnp : As.length = np) (hroom : fr + 1 ≤ rm.frames ∧ 8 + (mL + 11) + lo ≤ rm.locals) (hsum : q_sum st ≤ 8) (hroom2 : cs.1 + mc ≤ rm.cells ∧ cs.2 + ms ≤ rm.slots) (d : decode cc pc = .ok (.invokestatic idx, 3))
    (k : ∀ (v : Option qV) (r2 h2 : qH), (∀ w, v = some w → qok w) → P' v r2 h2 → Aj G X P cc nL (cs.1 + mc, cs.2 + ms) (n + mc) r2 h2 (pc + 3) al (v.toList ++ st)) : Aj G X P cc nL cs n r h pc al st2 := by
  intro H locs ls hW hN hS ha hs hl2
  subst hst
  have hso : ∀ v ∈ As, qok v := fun v hv => hs v (List.mem_append_left _ (List.mem_reverse.mpr hv))
  have hst : ∀ v ∈ st, qok v := fun v hv => hs v (List.mem_append_right _ hv)
  refine q_call (rest := st) (a := (As.map qconc).toArray) hN hS (fun U hU SU => ?_) ha hst hl2 k
  have hz := q_exact hU SU hN hW
  exact va_runSN (As := As.map qconc) (rest := st.map qconc) (g := F0 (xm X) pc ls ((As.reverse ++ st).map qconc)) (Ts := q_tbl) ⟨C.1, C.2.1, C.2.2.1, C.2.2.2.1, C.2.2.2.2.1⟩ (hM hso) ⟨q_cbN (ms := ms) (mc := mc) C hm hl hroom, C.2.2.2.2.1 _ hi, trivial⟩
    ⟨q_blind _ _ _ _ _, fun U hU hw => q_pre C hW hz U hU hw⟩ rfl (by rw [List.length_map]; exact hnp) (hl2.1) (by show (As.reverse ++ st).map qconc = _; rw [List.map_append, List.map_reverse]) (lv_room (by rw [q_sum_eq]; exact hsum)) d ⟨by rw [C.2.2.2.2.2.2.2.1]; exact hroom2.1, by rw [C.2.2.2.2.2.2.2.1]; exact hroom2.2⟩
theorem Aj.callI (C : q_C G X cc nL own ret rm) {y : MethodName} {cc' : ByteArray} {mL np : Nat} {fr lo mc ms idx : Nat} {P' : qP} {p len : Int} {t : Nat} {As st2 : List qV} (hl : Cond.methodLink own idx y ∈ q_tbl) (hm : q_M y cc' mL none np) (hi : Cond.instanceMethod y ∈ q_tbl) (hin : y.name = "<init>")
    (hM : q_Cm (xl X) G y cc' mL none fr lo (qa p :: As) n r h P' mc ms) (ha0 : q_al G n p t len) (hst : st2 = As.reverse ++ qa p :: st) (hnp : As.length = np) (hroom : fr + 1 ≤ rm.frames ∧ 8 + (mL + 11) + lo ≤ rm.locals) (hsum : q_sum st ≤ 8) (hroom2 : cs.1 + mc ≤ rm.cells ∧ cs.2 + ms ≤ rm.slots) (d : decode cc pc = .ok (.invokespecial idx, 3))
    (k : ∀ (v : Option qV) (r2 h2 : qH), (∀ w, v = some w → qok w) → P' v r2 h2 → Aj G X P cc nL (cs.1 + mc, cs.2 + ms) (n + mc) r2 h2 (pc + 3) al (v.toList ++ st)) : Aj G X P cc nL cs n r h pc al st2 := by
  intro H locs ls hW hN hS ha hs hl2
  subst hst
  obtain ⟨hso, hst⟩ := q_asok hs
  refine q_call (rest := st) (a := (Value.ref p.toNat :: As.map qconc).toArray) hN hS (fun U hU SU => ?_) ha hst hl2 k
  have hz := q_exact hU SU hN hW
  have ep := q_conc_a (q_pos hW ha0)
  have hpr := fun U hU hw => q_pre (as := qa p :: As) C hW hz U hU hw
  rw [List.map_cons, ep] at hpr
  exact va_runI (b := p.toNat) (As := As.map qconc) (rest := st.map qconc) (g := F0 (xm X) pc ls ((As.reverse ++ qa p :: st).map qconc)) ⟨C.1, C.2.1, C.2.2.1, C.2.2.2.1, C.2.2.2.2.1⟩ (hM hso) ⟨q_cb (ms := ms) (mc := mc) C hm hl hroom, hin, C.2.2.2.2.1 _ hi⟩
    ⟨q_blind _ _ _ _ _, by
      rw [List.map_cons, ep]
      exact hpr⟩ rfl (by rw [List.length_map]; exact hnp) (hl2.1) (by show (As.reverse ++ qa p :: st).map qconc = _; rw [List.map_append, List.map_cons, ep, List.map_reverse]) (lv_room (by rw [q_sum_eq]; exact hsum)) d ⟨by rw [C.2.2.2.2.2.2.2.1]; exact hroom2.1, by rw [C.2.2.2.2.2.2.2.1]; exact hroom2.2⟩
theorem Aj.objInit (C : q_C G X cc nL own ret rm) {idx : Nat} {p len : Int} {t : Nat} (hl : Cond.methodLink own idx objectInit ∈ q_tbl) (ha0 : q_al G n p t len) (hroom : 1 ≤ rm.frames ∧ q_sum st + 12 ≤ rm.locals) (d : decode cc pc = .ok (.invokespecial idx, 3)) (k : Aj G X P cc nL cs n r h (pc + 3) al st) : Aj G X P cc nL cs n r h pc al (qa p :: st) := by
  intro H locs ls hW hN hS ha hs hl2
  show W _ _ _ _ _ _ _ _ _ _ _ _ _ _ _ (F0 _ _ _ (qconc (qa p) :: st.map qconc))
  rw [q_conc_a (q_pos hW ha0)]
  refine W.objInit C.1 C.2.1 C.2.2.2.1 (C.2.2.2.2.1 _ hl) (C.2.2.2.2.1 _ l_obji) (C.2.2.2.2.1 _ l_objc) rfl (by rw [C.2.2.1]; exact hl2.1) rfl d (by rw [C.2.2.2.2.2.2.2.1]; exact hroom.1) ?_ ?_
  · rw [q_sum_eq, C.2.2.2.2.2.2.2.1]
    show 2 * 0 + _ + 12 ≤ _
    have := hroom.2
    omega
  · exact k H locs ls hW hN hS ha (q_tl hs) hl2
theorem Aj.mmax (C : q_C G X cc nL own ret rm) {idx : Nat} {x y : Int} (hl : Cond.methodLink own idx Lib.Math.max.name ∈ q_tbl) (hroom : 1 ≤ rm.frames ∧ q_sum st + 13 ≤ rm.locals) (hc : cs.1 ≤ rm.cells ∧ cs.2 ≤ rm.slots) (d : decode cc pc = .ok (.invokestatic idx, 3)) (k : Aj G X P cc nL cs n r h (pc + 3) al (qi (max x y) :: st)) : Aj G X P cc nL cs n r h pc al (qi y :: qi x :: st) := by
  intro H locs ls hW hN hS ha hs hl2
  have rx : q_r32 x := q_hd (q_tl hs)
  have ry : q_r32 y := q_hd hs
  have hrm := C.2.2.2.2.2.2.2.1
  refine va_mmax C.1 C.2.1 (by rw [C.2.2.1]; exact hl2.1.symm) C.2.2.2.1 (C.2.2.2.2.1 _ hl) (C.2.2.2.2.1 _ l_maxs) (C.2.2.2.2.1 _ li_Math) (C.2.2.2.2.1 _ l_maxc) (by rw [hrm]; exact hroom.1) (by rw [q_sum_eq, hrm]; exact hroom.2) (by rw [hrm]; exact hc.1) (by rw [hrm]; exact hc.2) d ?_
  have e : (if Int32.ofInt x < Int32.ofInt y then Int32.ofInt y else Int32.ofInt x) = Int32.ofInt (max x y) := by
    by_cases q : x < y
    · rw [if_pos ((q_lt32 rx ry).mpr q), Int.max_eq_right (by omega)]
    · rw [if_neg (fun z => q ((q_lt32 rx ry).mp z)), Int.max_eq_left (by omega)]
  rw [e]
  exact k H locs ls hW hN hS ha (q_ok1 (q_tl (q_tl hs)) (show q_r32 (max x y) by omega)) hl2
theorem Aj.mmin (C : q_C G X cc nL own ret rm) {idx : Nat} {x y : Int} (hl : Cond.methodLink own idx Lib.Math.min.name ∈ q_tbl) (hroom : 1 ≤ rm.frames ∧ q_sum st + 13 ≤ rm.locals) (hc : cs.1 ≤ rm.cells ∧ cs.2 ≤ rm.slots) (d : decode cc pc = .ok (.invokestatic idx, 3)) (k : Aj G X P cc nL cs n r h (pc + 3) al (qi (min x y) :: st)) : Aj G X P cc nL cs n r h pc al (qi y :: qi x :: st) := by
  intro H locs ls hW hN hS ha hs hl2
  have rx : q_r32 x := q_hd (q_tl hs)
  have ry : q_r32 y := q_hd hs
  have hrm := C.2.2.2.2.2.2.2.1
  refine va_mmin C.1 C.2.1 (by rw [C.2.2.1]; exact hl2.1.symm) C.2.2.2.1 (C.2.2.2.2.1 _ hl) (C.2.2.2.2.1 _ l_mins) (C.2.2.2.2.1 _ li_Math) (C.2.2.2.2.1 _ l_minc) (by rw [hrm]; exact hroom.1) (by rw [q_sum_eq, hrm]; exact hroom.2) (by rw [hrm]; exact hc.1) (by rw [hrm]; exact hc.2) d ?_
  have e : (if Int32.ofInt y < Int32.ofInt x then Int32.ofInt y else Int32.ofInt x) = Int32.ofInt (min x y) := by
    by_cases q : y < x
    · rw [if_pos ((q_lt32 ry rx).mpr q), Int.min_eq_right (by omega)]
    · rw [if_neg (fun z => q ((q_lt32 ry rx).mp z)), Int.min_eq_left (by omega)]
  rw [e]
  exact k H locs ls hW hN hS ha (q_ok1 (q_tl (q_tl hs)) (show q_r32 (min x y) by omega)) hl2
theorem Aj.acopy (C : q_C G X cc nL own ret rm) {idx : Nat} {p q sp dp m lp lq : Int} (hl : Cond.methodLink own idx arraycopyName ∈ q_tbl) (hap : q_al G n p 10 lp) (haq : q_al G n q 10 lq) (h1 : 0 ≤ sp) (h2 : 0 ≤ dp) (h3 : 0 ≤ m) (h4 : sp + m ≤ lq) (h5 : dp + m ≤ lp) (hroom : 1 ≤ rm.frames ∧ q_sum st + (nativeFrameWords "java/lang/System" "arraycopy" 5 + 11) ≤ rm.locals) (d : decode cc pc = .ok (.invokestatic idx, 3)) (k : ∀ h2, h2 = hcpy h q sp p dp m → Aj G X P cc nL cs n r h2 (pc + 3) al st) : Aj G X P cc nL cs n r h pc al (qi m :: qi dp :: qa p :: qi sp :: qa q :: st) := by
  intro H locs ls hW hN hS ha hs hl2
  have rm1 : q_r32 m := q_hd hs
  have rd : q_r32 dp := q_hd (q_tl hs)
  have rs : q_r32 sp := q_hd (q_tl (q_tl (q_tl hs)))
  have hrm := C.2.2.2.2.2.2.2.1
  obtain ⟨j, hj⟩ := va_pl_get (X := []) (f := q_enc G r h) (q_in_L hap)
  obtain ⟨j2, hj2⟩ := va_pl_get (X := []) (f := q_enc G r h) (q_in_L haq)
  have hD := q_pl_D G n (q_enc G r h)
  have hst := fun e => va_pl_set (X := []) (f := q_enc G r h) (e := e) hD (q_in_L hap) hj
  rw [q_enc_i hap] at hj
  rw [q_enc_i haq] at hj2
  show W _ _ _ _ _ _ _ _ _ _ _ _ _ _ _ (F0 _ _ _ (qconc (qi m) :: qconc (qi dp) :: qconc (qa p) :: qconc (qi sp) :: qconc (qa q) :: st.map qconc))
  rw [q_conc_a (q_pos hW hap), q_conc_a (q_pos hW haq)]
  have nn : ∀ z : Int, q_r32 z → 0 ≤ z → ¬ Int32.ofInt z < 0 := fun z hz h0 e => by
    rw [q_0, q_lt32 hz q_rz] at e
    omega
  refine va_copyi C.1 C.2.1 (by rw [C.2.2.1]; exact hl2.1.symm) C.2.2.2.1 (C.2.2.2.2.1 _ hl) (C.2.2.2.2.1 _ l_native) (C.2.2.2.2.1 _ l_acs) (C.2.2.2.2.1 _ li_System) C.2.2.2.2.2.2.2.2.1 hW.2.2.2.2 hD hS j2 j 0 0 hj2 hj (q_tys0 G) (q_tys0 G) rfl (nn sp rs h1) (nn dp rd h2) (nn m rm1 h3) (by rw [q_clamp rs, q_clamp rm1]; omega) (by rw [q_clamp rd, q_clamp rm1]; omega) (fun i _ => rfl) (by rw [hrm]; exact hroom.1) (by rw [q_sum_eq, hrm]; exact hroom.2) d (fun H1 locs1 hP _ hS1 => ?_)
  have e1 := hst (.inl (G.2.2.1.1, lp.toNat, .inl (va_cpy (fun j => Int32.ofInt (h q (j : Int))) (fun j => Int32.ofInt (h p (j : Int))) (Int32.ofInt sp).toNatClampNeg (Int32.ofInt dp).toNatClampNeg (Int32.ofInt m).toNatClampNeg)))
  rw [List.nil_append, List.nil_append] at e1
  rw [e1, q_aset (r2 := r) (h2 := hcpy h q sp p dp m) hap ?_ ?_] at hP
  · refine k _ rfl H1 locs1 ls ⟨hW.1, hW.2.1, q_size_of hap hP, fun a b => ?_, hP⟩ hN hS1 ha (q_tl (q_tl (q_tl (q_tl (q_tl hs))))) hl2
    unfold hcpy
    split
    · exact hW.2.2.2.1 _ _
    · exact hW.2.2.2.1 _ _
  · rw [q_enc_i hap]
    congr 4
    funext i
    unfold va_cpy hcpy
    rw [q_clamp rs, q_clamp rd, q_clamp rm1]
    by_cases hi : dp.toNat ≤ i ∧ i < dp.toNat + m.toNat
    · rw [if_pos hi, if_pos ⟨rfl, by omega, by omega⟩]
      congr 2
      omega
    · rw [if_neg hi, if_neg (by omega)]
  · intro a b hn
    refine ⟨rfl, ?_⟩
    unfold hcpy
    rw [if_neg (fun q => hn q.1)]
/-! making cells -/
theorem q_L_push {G : qG} {n : Int} (h : (G.1 : Int) ≤ n) : q_L G (n + 1) = q_L G n ++ [n.toNat] := by
  unfold q_L
  have h1 : (n + 1).toNat - G.1 = (n.toNat - G.1) + 1 := by omega
  rw [h1, List.range_succ, List.map_append, List.map_cons, List.map_nil]
  congr 2
  omega
theorem q_new_W {H H1 : Heap} (hW : q_Wh G n r h H) (hz : (H.size : Int) = n) (z1 : H1.size = H.size + 1) (o1 : ∀ q : Nat, q < H.size → H1[q]? = H[q]?) (he : va_at G.2.1 vwCl (n.toNat, q_enc G r h n.toNat) H1) : q_Wh G (n + 1) r h H1 := by
  refine ⟨hW.1, by have := hW.2.1; omega, by omega, hW.2.2.2.1, ?_⟩
  rw [q_L_push hW.2.1]
  unfold va_pl
  rw [List.map_append, List.map_cons, List.map_nil]
  have hk : va_P G.2.1 vwCl (va_pl (q_L G n) (q_enc G r h)) H1 := hW.2.2.2.2.kept (fun k x hx => o1 x.1 ((hW.2.2.2.2 k x hx).lt))
  refine va_P.app hk (fun k x hx => ?_)
  have hz : k < 1 := (List.getElem?_eq_some_iff.mp hx).1
  rw [show k = 0 by omega] at hx
  cases hx
  exact he
theorem q_new_S {H H1 : Heap} {locs : List Loc} (hS : va_S (qA G) (xs X).heap H locs) (z1 : H1.size = H.size + 1) (o1 : ∀ q : Nat, q < H.size → H1[q]? = H[q]?) : va_S (qA G) (xs X).heap H1 locs :=
  ⟨Nat.le_trans hS.1 (by omega), fun x h1 h2 => (o1 x (Nat.lt_of_lt_of_le h1 hS.1)).trans (hS.2.1 x h1 h2), hS.2.2⟩
theorem q_dflt {t : Nat} {R : String} {T : u_T} {N : Nat} (hc : vwCl[t]? = some (R, T, N)) : ∀ k, k < N → defaultValue (q_ty t k) = q_fv (q_ty t k) 0 0 := by
  match t, hc with
  | 0, h => cases h; decide +kernel
  | 1, h => cases h; decide +kernel
  | 2, h => cases h; decide +kernel
  | 3, h => cases h; decide +kernel
  | 4, h => cases h; decide +kernel
  | 5, h => cases h; decide +kernel
  | 6, h => cases h; decide +kernel
  | 7, h => cases h; decide +kernel
  | 8, h => cases h; decide +kernel
  | 9, h => cases h; decide +kernel
  | k + 10, h => simp [vwCl] at h
theorem Aj.new (C : q_C G X cc nL own ret rm) {idx t N : Nat} {R : String} {T : u_T} {len : Int} (hcl : Cond.classLink own idx R ∈ q_tbl) (hk : Cond.instantiable R N ∈ q_tbl) (hini : Cond.initialized R ∈ q_tbl) (hc : vwCl[t]? = some (R, T, N)) (hσ : G.2.2.2 n = (t, len)) (ht : t < 10) (hz0 : ∀ b, r n b = 0 ∧ h n b = 0) (hroom : cs.1 + 1 ≤ rm.cells ∧ cs.2 + N ≤ rm.slots) (d : decode cc pc = .ok (.new idx, 3))
    (k : Aj G X P cc nL (cs.1 + 1, cs.2 + N) (n + 1) r h (pc + 3) al (qa n :: st)) : Aj G X P cc nL cs n r h pc al st := by
  intro H locs ls hW hN hS ha hs hl U hU SU
  have hz := q_exact hU SU hN hW
  have hrm := C.2.2.2.2.2.2.2.1
  have hKn := C.2.2.2.2.2.2.2.2.1.1 t _ hc
  have hn0 : 0 < n := by have h1 := hW.1; have h2 := hW.2.1; omega
  have hcast : ((n.toNat : Nat) : Int) = n := by omega
  have he : q_enc G r h n.toNat = .inr (t, q_fs t (r n) (h n)) := by
    unfold q_enc
    rw [hcast, hσ]
    simp only
    rw [if_neg (by omega), if_neg (by omega), if_neg (by omega)]
  have w : W (xp X) (xl X) (xe X) (xR X) (xs X) (xm X) (xa X) (xb X) (xme X) (xc X) H locs cs.1 cs.2 (MQ (xb X) (q_Qc G P (((xs X).heap.size : Int) + (xmc X).1)) (xa X) (xs X) (xmc X).1 (xmc X).2 (qA G)) (F0 (xm X) pc ls (st.map qconc)) := by
    refine W.newcK C.1 C.2.1 C.2.2.2.1 (C.2.2.2.2.1 _ hcl) (C.2.2.2.2.1 _ hk) (C.2.2.2.2.1 _ hini) rfl d (by rw [hrm]; exact hroom.1) (by rw [hrm]; exact hroom.2) hKn.2.1 (h := n.toNat) (by omega) (fun H1 kC hkC e1 z1 o1 => ?_)
    have z1' : H1.size = H.size + 1 := by omega
    have o1' : ∀ q : Nat, q < H.size → H1[q]? = H[q]? := fun q hq => o1 q (by omega)
    have hat : va_at G.2.1 vwCl (n.toNat, q_enc G r h n.toNat) H1 := by
      rw [he]
      refine ⟨_, hc, (u_born (q_ty t) C.2.2.2.2.1 (q_cls hc).1 hKn hkC e1 (q_cls hc).2.1).to (fun j hj => ?_)⟩
      rw [q_dflt hc j hj]
      unfold vp_V
      rw [List.getD_eq_getElem?_getD, q_fs_at hc hj, (hz0 _).1, (hz0 _).2]
      rfl
    have k1 := k H1 locs ls (q_new_W hW hz z1' o1' hat) (by show ((xs X).heap.size : Int) + ((cs.1 + 1 : Nat) : Int) = n + 1; omega) (q_new_S hS z1' o1') ha (q_ok1 hs (v := qa n) trivial) hl
    rw [List.map_cons, q_conc_a hn0] at k1
    exact k1
  exact w U hU SU
theorem q_znn {z : Int} (rz : q_r32 z) (h0 : 0 ≤ z) : ¬ Int32.ofInt z < 0 := fun e => by
  rw [q_0, q_lt32 rz q_rz] at e
  omega
theorem q_dfun {ty : FieldType} {v : Value} (h : defaultValue ty = v) (cA : ClassId) (N : Nat) (f : Nat → Value) (hf : ∀ j, f j = v) : arrV cA N (fun _ => defaultValue ty) = arrV cA N f := by
  congr 1
  funext j
  rw [hf, h]
theorem Aj.newaI (C : q_C G X cc nL own ret rm) {z : Int} (h0 : 0 ≤ z) (hz4 : z ≤ 100000) (hσ : G.2.2.2 n = (10, z)) (hz0 : ∀ b, r n b = 0 ∧ h n b = 0) (hroom : cs.1 + 1 ≤ rm.cells ∧ cs.2 + z.toNat ≤ rm.slots) (d : decode cc pc = .ok (.newarray .int, 2))
    (k : Aj G X P cc nL (cs.1 + 1, cs.2 + z.toNat) (n + 1) r h (pc + 2) al (qa n :: st)) : Aj G X P cc nL cs n r h pc al (qi z :: st) := by
  intro H locs ls hW hN hS ha hs hl U hU SU
  have hz := q_exact hU SU hN hW
  have hrm := C.2.2.2.2.2.2.2.1
  have rz : q_r32 z := q_hd hs
  have hn0 : 0 < n := by have h1 := hW.1; have h2 := hW.2.1; omega
  have hcast : ((n.toNat : Nat) : Int) = n := by omega
  have he : q_enc G r h n.toNat = .inl (G.2.2.1.1, z.toNat, .inl (fun j => Int32.ofInt (h n (j : Int)))) := by
    unfold q_enc
    rw [hcast, hσ]
    simp
  have w : W (xp X) (xl X) (xe X) (xR X) (xs X) (xm X) (xa X) (xb X) (xme X) (xc X) H locs cs.1 cs.2 (MQ (xb X) (q_Qc G P (((xs X).heap.size : Int) + (xmc X).1)) (xa X) (xs X) (xmc X).1 (xmc X).2 (qA G)) (F0 (xm X) pc ls (.int (Int32.ofInt z) :: st.map qconc)) := by
    refine va_newaK (atype := .int) C.1 C.2.1 (C.2.2.2.2.1 _ la_int) rfl d rfl (q_znn rz h0) (q_clamp rz) (by show z.toNat * 4 ≤ _; omega) (by rw [hrm]; exact hroom.1) (by rw [hrm]; exact hroom.2) (h := n.toNat) (by omega) (fun H1 cA e1 z1 o1 _ hfc => ?_)
    have hcA : cA = G.2.2.1.1 := Option.some.inj (hfc.symm.trans (C.2.2.2.2.2.2.2.2.1.2 0 _ (q_tys0 G)).2)
    subst hcA
    have z1' : H1.size = H.size + 1 := by omega
    have o1' : ∀ q : Nat, q < H.size → H1[q]? = H[q]? := fun q hq => o1 q (by omega)
    have hat : va_at G.2.1 vwCl (n.toNat, q_enc G r h n.toNat) H1 := by
      rw [he]
      show H1[n.toNat]? = some (vp_cell G.2.2.1.1 (z.toNat, .inl (fun j => Int32.ofInt (h n (j : Int)))))
      rw [vp_cell_i, e1, q_dfun (v := .int 0) rfl _ _ (fun j : Nat => Value.int (Int32.ofInt (h n (j : Int)))) (fun j => by rw [(hz0 _).2]; rfl)]
    have k1 := k H1 locs ls (q_new_W hW hz z1' o1' hat) (by show ((xs X).heap.size : Int) + ((cs.1 + 1 : Nat) : Int) = n + 1; omega) (q_new_S hS z1' o1') ha (q_ok1 (q_tl hs) (v := qa n) trivial) hl
    rw [List.map_cons, q_conc_a hn0] at k1
    exact k1
  exact w U hU SU
theorem Aj.newaZ (C : q_C G X cc nL own ret rm) {z : Int} (h0 : 0 ≤ z) (hz4 : z ≤ 100000) (hσ : G.2.2.2 n = (11, z)) (hz0 : ∀ b, r n b = 0 ∧ h n b = 0) (hroom : cs.1 + 1 ≤ rm.cells ∧ cs.2 + z.toNat ≤ rm.slots) (d : decode cc pc = .ok (.newarray .boolean, 2))
    (k : Aj G X P cc nL (cs.1 + 1, cs.2 + z.toNat) (n + 1) r h (pc + 2) al (qa n :: st)) : Aj G X P cc nL cs n r h pc al (qi z :: st) := by
  intro H locs ls hW hN hS ha hs hl U hU SU
  have hz := q_exact hU SU hN hW
  have hrm := C.2.2.2.2.2.2.2.1
  have rz : q_r32 z := q_hd hs
  have hn0 : 0 < n := by have h1 := hW.1; have h2 := hW.2.1; omega
  have hcast : ((n.toNat : Nat) : Int) = n := by omega
  have he : q_enc G r h n.toNat = .inl (G.2.2.1.2.1, z.toNat, .inl (fun j => Int32.ofInt (h n (j : Int)))) := by
    unfold q_enc
    rw [hcast, hσ]
    simp
  have w : W (xp X) (xl X) (xe X) (xR X) (xs X) (xm X) (xa X) (xb X) (xme X) (xc X) H locs cs.1 cs.2 (MQ (xb X) (q_Qc G P (((xs X).heap.size : Int) + (xmc X).1)) (xa X) (xs X) (xmc X).1 (xmc X).2 (qA G)) (F0 (xm X) pc ls (.int (Int32.ofInt z) :: st.map qconc)) := by
    refine va_newaK (atype := .boolean) C.1 C.2.1 (C.2.2.2.2.1 _ la_boolean) rfl d rfl (q_znn rz h0) (q_clamp rz) (by show z.toNat * 1 ≤ _; omega) (by rw [hrm]; exact hroom.1) (by rw [hrm]; exact hroom.2) (h := n.toNat) (by omega) (fun H1 cA e1 z1 o1 _ hfc => ?_)
    have hcA : cA = G.2.2.1.2.1 := Option.some.inj (hfc.symm.trans (C.2.2.2.2.2.2.2.2.1.2 1 _ (q_tys1 G)).2)
    subst hcA
    have z1' : H1.size = H.size + 1 := by omega
    have o1' : ∀ q : Nat, q < H.size → H1[q]? = H[q]? := fun q hq => o1 q (by omega)
    have hat : va_at G.2.1 vwCl (n.toNat, q_enc G r h n.toNat) H1 := by
      rw [he]
      show H1[n.toNat]? = some (vp_cell G.2.2.1.2.1 (z.toNat, .inl (fun j => Int32.ofInt (h n (j : Int)))))
      rw [vp_cell_i, e1, q_dfun (v := .int 0) rfl _ _ (fun j : Nat => Value.int (Int32.ofInt (h n (j : Int)))) (fun j => by rw [(hz0 _).2]; rfl)]
    have k1 := k H1 locs ls (q_new_W hW hz z1' o1' hat) (by show ((xs X).heap.size : Int) + ((cs.1 + 1 : Nat) : Int) = n + 1; omega) (q_new_S hS z1' o1') ha (q_ok1 (q_tl hs) (v := qa n) trivial) hl
    rw [List.map_cons, q_conc_a hn0] at k1
    exact k1
  exact w U hU SU
theorem Aj.newaR (C : q_C G X cc nL own ret rm) {z : Int} {idx : Nat} (h0 : 0 ≤ z) (hz4 : z ≤ 100000) (hcl : Cond.classLink own idx RX4 ∈ q_tbl) (hσ : G.2.2.2 n = (12, z)) (hz0 : ∀ b, r n b = 0 ∧ h n b = 0) (hroom : cs.1 + 1 ≤ rm.cells ∧ cs.2 + z.toNat ≤ rm.slots) (d : decode cc pc = .ok (.anewarray idx, 3))
    (k : Aj G X P cc nL (cs.1 + 1, cs.2 + z.toNat) (n + 1) r h (pc + 3) al (qa n :: st)) : Aj G X P cc nL cs n r h pc al (qi z :: st) := by
  intro H locs ls hW hN hS ha hs hl U hU SU
  have hz := q_exact hU SU hN hW
  have hrm := C.2.2.2.2.2.2.2.1
  have rz : q_r32 z := q_hd hs
  have hn0 : 0 < n := by have h1 := hW.1; have h2 := hW.2.1; omega
  have hcast : ((n.toNat : Nat) : Int) = n := by omega
  have he : q_enc G r h n.toNat = .inl (G.2.2.1.2.2, z.toNat, .inr (.inr (.inr (.inr (fun j => q_opt (r n (j : Int))))))) := by
    unfold q_enc
    rw [hcast, hσ]
    simp
  have w : W (xp X) (xl X) (xe X) (xR X) (xs X) (xm X) (xa X) (xb X) (xme X) (xc X) H locs cs.1 cs.2 (MQ (xb X) (q_Qc G P (((xs X).heap.size : Int) + (xmc X).1)) (xa X) (xs X) (xmc X).1 (xmc X).2 (qA G)) (F0 (xm X) pc ls (.int (Int32.ofInt z) :: st.map qconc)) := by
    refine W.anew C.1 C.2.1 C.2.2.2.1 (C.2.2.2.2.1 _ hcl) (va_AO.use C.2.2.2.2.2.2.2.2.2.2) rfl d rfl (q_znn rz h0) (by rw [q_clamp rz]; omega) (by rw [hrm]; exact hroom.1) (by rw [hrm, q_clamp rz]; exact hroom.2) (fun cA kA comp f1 f2 f3 f4 => ?_)
    obtain ⟨kA2, comp2, g1, g2, g3, g4⟩ := (C.2.2.2.2.2.2.2.2.1.2 2 _ (q_tys2 G)).2
    have hcA : cA = G.2.2.1.2.2 := Option.some.inj (f1.symm.trans g4)
    subst hcA
    rw [q_clamp rz]
    generalize hH1 : H.push ({ cls := G.2.2.1.2.2, slots := Array.replicate z.toNat .null, vm := .none } : Cell) = H1
    have z1' : H1.size = H.size + 1 := by rw [← hH1, Array.size_push]
    have o1' : ∀ q : Nat, q < H.size → H1[q]? = H[q]? := fun q hq => by rw [← hH1, Array.getElem?_push, if_neg (Nat.ne_of_lt hq)]
    have hzn : H.size = n.toNat := by omega
    have e1 : H1[n.toNat]? = some (arrV G.2.2.1.2.2 z.toNat (fun _ => .null)) := by rw [← hH1, ← hzn, Array.getElem?_push_size, ← arrV_new]
    have hat : va_at G.2.1 vwCl (n.toNat, q_enc G r h n.toNat) H1 := by
      rw [he]
      show H1[n.toNat]? = some (vp_cell G.2.2.1.2.2 (z.toNat, .inr (.inr (.inr (.inr (fun j => q_opt (r n (j : Int))))))))
      rw [vp_cell_q, e1]
      congr 2
      funext j
      rw [(hz0 _).1]
      rfl
    have k1 := k H1 locs ls (q_new_W hW hz z1' o1' hat) (by show ((xs X).heap.size : Int) + ((cs.1 + 1 : Nat) : Int) = n + 1; omega) (q_new_S hS z1' o1') ha (q_ok1 (q_tl hs) (v := qa n) trivial) hl
    rw [List.map_cons, q_conc_a hn0] at k1
    rw [hzn]
    exact k1
  exact w U hU SU
end
