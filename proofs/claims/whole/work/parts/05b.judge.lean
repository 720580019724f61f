/-! The judgement: from here, whatever the machine's heap and locals be that hold these numbers, the method comes to its end as P says. -/
abbrev qX : Type := Program × Launch × Env × Room × State × MethodId × Array Value × List Frame × Method × Code × (Nat × Nat)
abbrev xp (X : qX) : Program := X.1
abbrev xl (X : qX) : Launch := X.2.1
abbrev xe (X : qX) : Env := X.2.2.1
abbrev xR (X : qX) : Room := X.2.2.2.1
abbrev xs (X : qX) : State := X.2.2.2.2.1
abbrev xm (X : qX) : MethodId := X.2.2.2.2.2.1
abbrev xa (X : qX) : Array Value := X.2.2.2.2.2.2.1
abbrev xb (X : qX) : List Frame := X.2.2.2.2.2.2.2.1
abbrev xme (X : qX) : Method := X.2.2.2.2.2.2.2.2.1
abbrev xc (X : qX) : Code := X.2.2.2.2.2.2.2.2.2.1
abbrev xmc (X : qX) : Nat × Nat := X.2.2.2.2.2.2.2.2.2.2
abbrev qP : Type := Option qV → qH → qH → Prop
def q_Qc (G : qG) (P : qP) (n : Int) : Array Value → State → Outcome → State → Prop := fun _ st oc t =>
  (∃ (v : Option qV) (r h : qH), oc = .returned (v.map qconc) ∧ (∀ w, v = some w → qok w) ∧ P v r h ∧ q_Wh G n r h t.heap) ∧ va_F (qA G) st t
abbrev q_lc (q : Nat × qV) : Nat × Value := (q.1, qconc q.2)
def Aj (G : qG) (X : qX) (P : qP) (cc : ByteArray) (nL : Nat) (cs : Nat × Nat) (n : Int) (r h : qH) (pc : Nat) (al : List (Nat × qV)) (st : List qV) : Prop :=
  ∀ (H : Heap) (locs : List Loc) (ls : Array Slot), q_Wh G n r h H → ((xs X).heap.size : Int) + cs.1 = n → va_S (qA G) (xs X).heap H locs → (∀ q ∈ al, qok q.2) → (∀ v ∈ st, qok v) → lv_has ls nL (al.map q_lc) →
    W (xp X) (xl X) (xe X) (xR X) (xs X) (xm X) (xa X) (xb X) (xme X) (xc X) H locs cs.1 cs.2 (MQ (xb X) (q_Qc G P (((xs X).heap.size : Int) + (xmc X).1)) (xa X) (xs X) (xmc X).1 (xmc X).2 (qA G)) (F0 (xm X) pc ls (st.map qconc))
/-- what stays the same while a method runs -/
def q_C (G : qG) (X : qX) (cc : ByteArray) (nL : Nat) (own : String) (ret : Option FieldType) (rm : Room) : Prop :=
  (xp X).tables.exec = Jvm.exec ∧ (xc X).code = cc ∧ (xc X).maxLocals = nL ∧ (xs X).vm.findClass own = some (xm X).cls ∧ (∀ w ∈ q_tbl, w.before (xa X) (xs X) = true) ∧ (xme X).sig.returnType = ret ∧ (xme X).locks = false ∧ xR X = rm ∧ q_En G (xs X)
abbrev q_rm (fr lo mc ms : Nat) : Room := { frames := fr, cells := mc, slots := ms, locals := lo }
/-- a method's contract -/
def q_Cm (l : Launch) (G : qG) (y : MethodName) (cc : ByteArray) (mL : Nat) (ret : Option FieldType) (fr lo : Nat) (as : List qV) (n : Int) (r h : qH) (P : qP) (mc ms : Nat) : Prop :=
  (∀ a ∈ as, qok a) → Met l y (Cond.code y cc mL ret :: q_tbl) (q_rm fr lo mc ms) (va_Pc (as.map qconc) (fun U => q_En G U ∧ q_Wh G n r h U.heap ∧ (U.heap.size : Int) = n)) (q_Qc G P (n + mc)) mc ms (qA G)
def q_Pi (r : qH) (P : Int → qH → Prop) : qP := fun v r' h' => ∃ z, v = some (qi z) ∧ r' = r ∧ P z h'
def q_Pq (r : qH) (P : Int → qH → Prop) : qP := fun v r' h' => ∃ z, v = some (qa z) ∧ r' = r ∧ P z h'
def q_Pv (r : qH) (P : qH → Prop) : qP := fun v r' h' => v = none ∧ r' = r ∧ P h'
def q_Pn (P : qH → qH → Prop) : qP := fun v r' h' => v = none ∧ P r' h'
def q_args : Nat → List qV → List (Nat × qV)
  | _, [] => []
  | i, v :: vs => (i, v) :: q_args (if q_is2 v = true then i + 2 else i + 1) vs
def q_words : List qV → Nat
  | [] => 0
  | v :: vs => (if q_is2 v = true then 2 else 1) + q_words vs
theorem q_args_eq (as : List qV) : ∀ i, lv_args i (as.map qconc) = (q_args i as).map q_lc := by
  induction as with
  | nil => intro i; rfl
  | cons a as ih =>
    intro i
    show (i, qconc a) :: lv_args (if (qconc a).category = 2 then i + 2 else i + 1) (as.map qconc) = (i, qconc a) :: (q_args (if q_is2 a = true then i + 2 else i + 1) as).map q_lc
    rw [ih, q_cat]
    cases q_is2 a <;> rfl
theorem q_words_eq (as : List qV) : (lg_sl (as.map qconc)).length = q_words as := by
  induction as with
  | nil => rfl
  | cons a as ih =>
    show ((if (qconc a).category = 2 then [Slot.val (qconc a), Slot.second] else [Slot.val (qconc a)]) ++ lg_sl (as.map qconc)).length = (if q_is2 a = true then 2 else 1) + q_words as
    rw [List.length_append, ih, q_cat]
    cases q_is2 a <;> rfl
theorem q_args_mem {as : List qV} : ∀ {i : Nat} {q : Nat × qV}, q ∈ q_args i as → q.2 ∈ as := by
  induction as with
  | nil => intro i q h; cases h
  | cons a as ih =>
    intro i q h
    rcases List.mem_cons.mp h with rfl | h
    · exact List.mem_cons_self
    · exact List.mem_cons_of_mem _ (ih h)
theorem q_En.same {G : qG} {u U : State} (h : u.vm = U.vm) (e : q_En G u) : q_En G U :=
  ⟨va_K.moved (h ▸ Vm.Alike.refl _) e.1, fun w hw => by
    have h1 := e.2.1 w hw
    have h2 : w.onTables = true := by
      have h3 : ∀ w ∈ q_nest, w.onTables = true := by decide
      exact h3 w hw
    exact va_Nw.same h2 h h1, va_AO.moved (h ▸ Vm.Alike.refl _) e.2.2⟩
theorem q_En.warm {G : qG} {s U : State} (hW : s.WarmedH U.vm) (e : q_En G s) : q_En G U :=
  ⟨va_K.moved hW.alike e.1, fun w hw => by
    have h1 := e.2.1 w hw
    have h3 : ∀ w ∈ q_nest, ∃ a i x h, w = .methodLinkNest a i x h := by
      intro w hw
      simp only [q_nest, List.mem_cons, List.not_mem_nil, or_false] at hw
      rcases hw with rfl | rfl | rfl | rfl | rfl | rfl <;> exact ⟨_, _, _, _, rfl⟩
    obtain ⟨a, i, x, hh, rfl⟩ := h3 w hw
    exact va_Nw.warmM hW h1, va_AO.moved hW.alike e.2.2⟩
theorem q_blind (G : qG) (vs : List Value) (n : Int) (r h : qH) : FrameBlind (va_Pc vs (fun U => q_En G U ∧ q_Wh G n r h U.heap ∧ (U.heap.size : Int) = n)) := fun a U g mk q => by
  obtain ⟨q1, q2, q3⟩ := q
  exact ⟨q1, q_En.same (u := U) (U := U.calling g mk a) rfl q2, q3⟩
/-- a method is proved from its first instruction on -/
theorem q_enter {l : Launch} {G : qG} {y : MethodName} {cc : ByteArray} {mL np : Nat} {ret : Option FieldType} {fr lo : Nat} {as : List qV} {n : Int} {r h : qH} {P : qP} {mc ms : Nat} {al : List (Nat × qV)} (hm : q_M y cc mL ret np) (hal : q_args 0 as = al) (hw : q_words as ≤ mL)
    (body : (∀ a ∈ as, qok a) → ∀ X, q_C G X cc mL y.cls ret (q_rm fr lo mc ms) → xmc X = (mc, ms) → xl X = l → (y.name = "<init>" → (xme X).name = "<init>") → Aj G X P cc mL (0, 0) n r h 0 al []) : q_Cm l G y cc mL ret fr lo as n r h P mc ms := by
  intro hok
  refine Met.ofW (cc := cc) (maxL := mL) (ret := ret) hm.2.2.2.2.1 rfl ?_
  intro p e s m args below meth c s₁ B hml hv
  obtain ⟨hargs, hE, hH, hZ⟩ := hv
  have hts := atoms_spec (ws := Cond.code y cc mL ret :: q_tbl) B.pre
  have hown := findClass_of_methodNamed B.named
  have k := body hok (p, l, e, q_rm fr lo mc ms, s, m, args, below, meth, c, (mc, ms)) ⟨B.exec, B.bytes, hml, hown, fun w h => hts w (List.mem_cons_of_mem _ h), B.returns, B.notSynchronized, rfl, hE⟩ rfl rfl (fun h1 => (name_of_methodNamed B.named B.method).1.trans h1)
  subst hargs
  have hl := lv_entry (as.map qconc) (n := mL) (by rw [q_words_eq]; exact hw)
  rw [q_args_eq, hal] at hl
  rw [lg_entry_eq]
  have hQ : n + mc = (s.heap.size : Int) + mc := by rw [hZ]
  rw [hQ]
  exact k s.heap [] _ hH (by show (s.heap.size : Int) + ((0 : Nat) : Int) = n; rw [hZ]; omega) va_S.rf (fun q hq => by
    rw [← hal] at hq
    exact hok _ (q_args_mem hq)) (fun v hv => by cases hv) hl
