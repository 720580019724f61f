section
variable {G : qG} {X : qX} {P : qP} {cc : ByteArray} {nL : Nat} {own : String} {ret : Option FieldType} {rm : Room} {cs : Nat × Nat} {n : Int} {r h : qH} {pc : Nat} {al al2 : List (Nat × qV)} {st : List qV}
theorem Aj.getIe (C : q_C G X cc nL own ret rm) {idx t : Nat} {k : Int} {ty : FieldType} {fin : Bool} (hf : q_FL own idx t k ty fin) (hty : ty.isReference = false) {p len : Int} (ha0 : q_al G n p t len) (d : decode cc pc = .ok (.getfield idx, 3)) {z : Int} (hz : h p k = z) (kk : Aj G X P cc nL cs n r h (pc + 3) al (qi z :: st)) : Aj G X P cc nL cs n r h pc al (qa p :: st) := by
  subst hz; exact Aj.getI C hf hty ha0 d kk
theorem Aj.ialde (C : q_C G X cc nL own ret rm) {p z len : Int} (ha0 : q_al G n p 10 len) (hz : 0 ≤ z ∧ z < len) (d : decode cc pc = .ok (.iaload, 1)) {w : Int} (hw : h p z = w) (kk : Aj G X P cc nL cs n r h (pc + 1) al (qi w :: st)) : Aj G X P cc nL cs n r h pc al (qi z :: qa p :: st) := by
  subst hw; exact Aj.iald C ha0 hz d kk
theorem Aj.zalde (C : q_C G X cc nL own ret rm) {p z len : Int} (ha0 : q_al G n p 11 len) (hz : 0 ≤ z ∧ z < len) (d : decode cc pc = .ok (.baload, 1)) {w : Int} (hw : h p z = w) (kk : Aj G X P cc nL cs n r h (pc + 1) al (qi w :: st)) : Aj G X P cc nL cs n r h pc al (qi z :: qa p :: st) := by
  subst hw; exact Aj.zald C ha0 hz d kk
/-- the top of the stack under another name -/
theorem Aj.topI {x y : Int} (e : x = y) (k : Aj G X P cc nL cs n r h pc al (qi y :: st)) : Aj G X P cc nL cs n r h pc al (qi x :: st) := by
  subst e; exact k
theorem q_n0 (n : Int) : n + ((0 : Nat) : Int) = n := by omega
theorem Aj.callVi (C : q_C G X cc nL own ret rm) {y : MethodName} {cc' : ByteArray} {mL np : Nat} {ret' : Option FieldType} {fr lo idx : Nat} {Pz : Int → qH → Prop} {p len : Int} {t : Nat} {R : String} {T : u_T} {N : Nat} {As st2 : List qV} (hl : Cond.methodLink own idx y ∈ q_tbl) (hm : q_M y cc' mL ret' np) (hi : Cond.instanceMethod y ∈ q_tbl) (hsel : Cond.selects y.cls y y ∈ q_tbl)
    (hM : q_Cm (xl X) G y cc' mL ret' fr lo (qa p :: As) n r h (q_Pi r Pz) 0 0) (ha0 : q_al G n p t len) (hc : vwCl[t]? = some (R, T, N)) (hR : R = y.cls) (hst : st2 = As.reverse ++ qa p :: st) (hnp : As.length = np) (hroom : fr + 1 ≤ rm.frames ∧ 8 + (mL + 11) + lo ≤ rm.locals) (hsum : q_sum st ≤ 8) (hroom2 : cs.1 ≤ rm.cells ∧ cs.2 ≤ rm.slots) (d : decode cc pc = .ok (.invokevirtual idx, 3))
    (k : ∀ (z : Int) (h2 : qH), q_r32 z → Pz z h2 → Aj G X P cc nL cs n r h2 (pc + 3) al (qi z :: st)) : Aj G X P cc nL cs n r h pc al st2 := by
  refine Aj.callV C hl hm hi hsel hM ha0 hc hR hst hnp hroom hsum hroom2 d (fun v r2 h2 hok hp => ?_)
  obtain ⟨z, rfl, rfl, hp⟩ := hp
  rw [q_n0]
  exact k z h2 (hok _ rfl) hp
theorem Aj.callVv (C : q_C G X cc nL own ret rm) {y : MethodName} {cc' : ByteArray} {mL np : Nat} {ret' : Option FieldType} {fr lo idx : Nat} {Pz : qH → Prop} {p len : Int} {t : Nat} {R : String} {T : u_T} {N : Nat} {As st2 : List qV} (hl : Cond.methodLink own idx y ∈ q_tbl) (hm : q_M y cc' mL ret' np) (hi : Cond.instanceMethod y ∈ q_tbl) (hsel : Cond.selects y.cls y y ∈ q_tbl)
    (hM : q_Cm (xl X) G y cc' mL ret' fr lo (qa p :: As) n r h (q_Pv r Pz) 0 0) (ha0 : q_al G n p t len) (hc : vwCl[t]? = some (R, T, N)) (hR : R = y.cls) (hst : st2 = As.reverse ++ qa p :: st) (hnp : As.length = np) (hroom : fr + 1 ≤ rm.frames ∧ 8 + (mL + 11) + lo ≤ rm.locals) (hsum : q_sum st ≤ 8) (hroom2 : cs.1 ≤ rm.cells ∧ cs.2 ≤ rm.slots) (d : decode cc pc = .ok (.invokevirtual idx, 3))
    (k : ∀ (h2 : qH), Pz h2 → Aj G X P cc nL cs n r h2 (pc + 3) al st) : Aj G X P cc nL cs n r h pc al st2 := by
  refine Aj.callV C hl hm hi hsel hM ha0 hc hR hst hnp hroom hsum hroom2 d (fun v r2 h2 hok hp => ?_)
  obtain ⟨rfl, rfl, hp⟩ := hp
  rw [q_n0]
  exact k h2 hp
theorem Aj.callVq (C : q_C G X cc nL own ret rm) {y : MethodName} {cc' : ByteArray} {mL np : Nat} {ret' : Option FieldType} {fr lo idx : Nat} {Pz : Int → qH → Prop} {p len : Int} {t : Nat} {R : String} {T : u_T} {N : Nat} {As st2 : List qV} (hl : Cond.methodLink own idx y ∈ q_tbl) (hm : q_M y cc' mL ret' np) (hi : Cond.instanceMethod y ∈ q_tbl) (hsel : Cond.selects y.cls y y ∈ q_tbl)
    (hM : q_Cm (xl X) G y cc' mL ret' fr lo (qa p :: As) n r h (q_Pq r Pz) 0 0) (ha0 : q_al G n p t len) (hc : vwCl[t]? = some (R, T, N)) (hR : R = y.cls) (hst : st2 = As.reverse ++ qa p :: st) (hnp : As.length = np) (hroom : fr + 1 ≤ rm.frames ∧ 8 + (mL + 11) + lo ≤ rm.locals) (hsum : q_sum st ≤ 8) (hroom2 : cs.1 ≤ rm.cells ∧ cs.2 ≤ rm.slots) (d : decode cc pc = .ok (.invokevirtual idx, 3))
    (k : ∀ (z : Int) (h2 : qH), Pz z h2 → Aj G X P cc nL cs n r h2 (pc + 3) al (qa z :: st)) : Aj G X P cc nL cs n r h pc al st2 := by
  refine Aj.callV C hl hm hi hsel hM ha0 hc hR hst hnp hroom hsum hroom2 d (fun v r2 h2 hok hp => ?_)
  obtain ⟨z, rfl, rfl, hp⟩ := hp
  rw [q_n0]
  exact k z h2 hp
theorem Aj.callSi (C : q_C G X cc nL own ret rm) {y : MethodName} {cc' : ByteArray} {mL np : Nat} {ret' : Option FieldType} {fr lo idx : Nat} {Pz : Int → qH → Prop} {As st2 : List qV} (hl : Cond.methodLink own idx y ∈ q_tbl) (hm : q_M y cc' mL ret' np) (hi : Cond.static y ∈ q_tbl)
    (hM : q_Cm (xl X) G y cc' mL ret' fr lo As n r h (q_Pi r Pz) 0 0) (hst : st2 = As.reverse ++ st) (hnp : As.length = np) (hroom : fr + 1 ≤ rm.frames ∧ 8 + (mL + 11) + lo ≤ rm.locals) (hsum : q_sum st ≤ 8) (hroom2 : cs.1 ≤ rm.cells ∧ cs.2 ≤ rm.slots) (d : decode cc pc = .ok (.invokestatic idx, 3))
    (k : ∀ (z : Int) (h2 : qH), q_r32 z → Pz z h2 → Aj G X P cc nL cs n r h2 (pc + 3) al (qi z :: st)) : Aj G X P cc nL cs n r h pc al st2 := by
  refine Aj.callS C hl hm hi hM hst hnp hroom hsum hroom2 d (fun v r2 h2 hok hp => ?_)
  obtain ⟨z, rfl, rfl, hp⟩ := hp
  rw [q_n0]
  exact k z h2 (hok _ rfl) hp
theorem Aj.callNi (C : q_C G X cc nL own ret rm) {y : MethodName} {cc' : ByteArray} {mL np : Nat} {ret' : Option FieldType} {fr lo idx : Nat} {host : String} {Pz : Int → qH → Prop} {As st2 : List qV} (hl : Cond.methodLinkNest own idx y host ∈ q_nest) (hm : q_M y cc' mL ret' np) (hi : Cond.static y ∈ q_tbl)
    (hM : q_Cm (xl X) G y cc' mL ret' fr lo As n r h (q_Pi r Pz) 0 0) (hst : st2 = As.reverse ++ st) (hnp : As.length = np) (hroom : fr + 1 ≤ rm.frames ∧ 8 + (mL + 11) + lo ≤ rm.locals) (hsum : q_sum st ≤ 8) (hroom2 : cs.1 ≤ rm.cells ∧ cs.2 ≤ rm.slots) (d : decode cc pc = .ok (.invokestatic idx, 3))
    (k : ∀ (z : Int) (h2 : qH), q_r32 z → Pz z h2 → Aj G X P cc nL cs n r h2 (pc + 3) al (qi z :: st)) : Aj G X P cc nL cs n r h pc al st2 := by
  refine Aj.callSN C hl hm hi hM hst hnp hroom hsum hroom2 d (fun v r2 h2 hok hp => ?_)
  obtain ⟨z, rfl, rfl, hp⟩ := hp
  rw [q_n0]
  exact k z h2 (hok _ rfl) hp
theorem Aj.callIn (C : q_C G X cc nL own ret rm) {y : MethodName} {cc' : ByteArray} {mL np : Nat} {fr lo mc ms idx : Nat} {Pz : qH → qH → Prop} {p len : Int} {t : Nat} {As st2 : List qV} (hl : Cond.methodLink own idx y ∈ q_tbl) (hm : q_M y cc' mL none np) (hi : Cond.instanceMethod y ∈ q_tbl) (hin : y.name = "<init>")
    (hM : q_Cm (xl X) G y cc' mL none fr lo (qa p :: As) n r h (q_Pn Pz) mc ms) (ha0 : q_al G n p t len) (hst : st2 = As.reverse ++ qa p :: st) (hnp : As.length = np) (hroom : fr + 1 ≤ rm.frames ∧ 8 + (mL + 11) + lo ≤ rm.locals) (hsum : q_sum st ≤ 8) (hroom2 : cs.1 + mc ≤ rm.cells ∧ cs.2 + ms ≤ rm.slots) (d : decode cc pc = .ok (.invokespecial idx, 3))
    (k : ∀ (r2 h2 : qH), Pz r2 h2 → Aj G X P cc nL (cs.1 + mc, cs.2 + ms) (n + mc) r2 h2 (pc + 3) al st) : Aj G X P cc nL cs n r h pc al st2 := by
  refine Aj.callI C hl hm hi hin hM ha0 hst hnp hroom hsum hroom2 d (fun v r2 h2 hok hp => ?_)
  obtain ⟨rfl, hp⟩ := hp
  exact k r2 h2 hp
theorem q_lkd : ∀ (ps : List (Int × Int)) (d x : Int), (∀ q ∈ ps, q.1 ≠ x) → Op.lookupswitch.offset ps d x = d := by
  intro ps
  induction ps with
  | nil => intro d x _; rfl
  | cons a ps ih =>
    intro d x hq
    obtain ⟨k, o⟩ := a
    rw [Op.lookupswitch.offset_cons, if_neg (fun e => hq (k, o) List.mem_cons_self (by first | exact e | exact e.symm | simpa using e | simpa using e.symm))]
    exact ih d x (fun q h => hq q (List.mem_cons_of_mem _ h))
end
