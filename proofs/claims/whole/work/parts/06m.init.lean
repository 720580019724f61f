/-! what the shapes of a block must be before it is made -/
theorem al_mk {G : qG} {n p len : Int} {t : Nat} (h : G.2.2.2 p = (t, len)) (h0 : (G.1 : Int) ≤ p) (h1 : p < n) (h2 : 0 ≤ len) : q_al G n p t len := ⟨h0, h1, h, h2⟩
theorem al_up {G : qG} {n m p len : Int} {t : Nat} (a : q_al G n p t len) (h : n ≤ m) : q_al G m p t len := ⟨a.1, by have := a.2.1; omega, a.2.2⟩
def SSpans (G : qG) (p cap : Int) : Prop := G.2.2.2 p = (6, 0) ∧ G.2.2.2 (p + 1) = (10, cap) ∧ G.2.2.2 (p + 2) = (10, cap)
def STitles (G : qG) (p : Int) : Prop := G.2.2.2 p = (7, 0) ∧ G.2.2.2 (p + 1) = (10, 20) ∧ G.2.2.2 (p + 2) = (10, 20) ∧ G.2.2.2 (p + 3) = (10, 20) ∧ G.2.2.2 (p + 4) = (10, 20)
def SScore (G : qG) (p : Int) : Prop := G.2.2.2 p = (4, 0) ∧ G.2.2.2 (p + 1) = (10, 60) ∧ G.2.2.2 (p + 2) = (10, 60) ∧ SSpans G (p + 3) 4 ∧ SSpans G (p + 6) 4 ∧ SSpans G (p + 9) 3 ∧ STitles G (p + 12)
def SShow (G : qG) (p : Int) : Prop := G.2.2.2 p = (5, 0) ∧ ∀ k, 1 ≤ k → k ≤ 7 → G.2.2.2 (p + k) = (10, 40)
/-- nothing lies from n on -/
def ZF (n : Int) (r h : qH) : Prop := ∀ a b, n ≤ a → r a b = 0 ∧ h a b = 0
theorem ZF.up {n m : Int} {r h : qH} (z : ZF n r h) (w : n ≤ m) : ZF m r h := fun a b q => z a b (by omega)
theorem ZF.r {n p k v : Int} {r r2 h : qH} (z : ZF n r h) (e : r2 = hset r p k v) (w : p < n) : ZF n r2 h := fun a b q => ⟨by rw [e, hset_nea _ _ _ (by omega)]; exact (z a b q).1, (z a b q).2⟩
theorem ZF.h {n p k v : Int} {r h h2 : qH} (z : ZF n r h) (e : h2 = hset h p k v) (w : p < n) : ZF n r h2 := fun a b q => ⟨(z a b q).1, by rw [e, hset_nea _ _ _ (by omega)]; exact (z a b q).2⟩
