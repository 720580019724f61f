set_option maxHeartbeats 4000000 in
set_option maxRecDepth 100000 in
theorem c_X9_reads (l : Launch) {G : qG} {n : Int} {r h : qH} {M m : Int} {P : Int → Int} (L : LModel G n r M) (cp : IMp h M (m, P)) (pg : PG m P) : q_Cm l G yX9_reads cX9_reads 1 (some .int) 3 69 [qa M] n r h (q_Pi r (fun z h' => O_fault m P z ∧ (z = -6 → h' M 23 = (allO P m).1 ∧ COr h' M (allO P m) ∧ 2 * (allO P m).1 ≤ m) ∧ FS M h h')) 0 0 := by
  refine q_enter (al := [(0, qa M)]) m_X9_reads rfl (Nat.le_of_ble_eq_true rfl) ?_
  intro hok X C hmc hxl hin
  have pm : 0 ≤ m ∧ m ≤ 80 := ⟨pg.1, pg.2.1⟩
  refine Aj.aload_n C 0 dX9_reads_0 rfl ?_
  refine Aj.iconst C dX9_reads_1 (by decide) ?_
  refine Aj.putI C lf_RX9_193 L.a dX9_reads_2 (fun h_1 eh_1 => ?_)
  refine Aj.aload_n C 0 dX9_reads_5 rfl ?_
  refine Aj.iconst C dX9_reads_6 (by decide) ?_
  refine Aj.putZ C lf_RX9_196 L.a dX9_reads_7 (by omega) (fun h_2 eh_2 => ?_)
  refine Aj.aload_n C 0 dX9_reads_10 rfl ?_
  refine Aj.iconst C dX9_reads_11 (by decide) ?_
  refine Aj.putI C lf_RX9_209 L.a dX9_reads_12 (fun h_3 eh_3 => ?_)
  refine Aj.aload_n C 0 dX9_reads_15 rfl ?_
  refine Aj.callVv (As := []) (st := []) C lm_RX9_212 m_X9_readsOrder mk_X9_readsOrder ms_X9_readsOrder (c_X9_readsOrder _ (i := 0) (k := 0) (O := (0, fun _ => D0)) L (cp.r (fun x y q => by rw [eh_3, eh_2, eh_1, hset_ne _ _ (by omega), hset_ne _ _ (by omega), hset_ne _ _ (by omega)])) pg (by rw [eh_3, hset_neb _ _ _ (by decide)]; exact (by rw [eh_2, hset_neb _ _ _ (by decide)]; exact (by rw [eh_1]; exact hset_same _ _ _ _))) (by rw [eh_3, hset_neb _ _ _ (by decide)]; exact (by rw [eh_2]; exact hset_same _ _ _ _)) (by rw [eh_3]; exact hset_same _ _ _ _) (by decide) ⟨by decide, pm.1⟩ (fun k hk => absurd hk (Nat.not_lt_zero _)) rfl rfl) L.a (t := 9) rfl rfl rfl rfl (by decide) (Nat.le_of_ble_eq_true rfl) (by decide) dX9_reads_16 (fun g16 p16 => ?_)
  obtain ⟨w16, j16, a16, b16, f16, i16, e16⟩ := p16
  have F16 : FRo M h g16 := FRo.tr (fun x y q w => by rw [eh_3, eh_2, eh_1, hset_ne _ _ (by omega), hset_ne _ _ (by omega), hset_ne _ _ (by omega)]) f16
  have c16 : COr h_3 M (0, fun _ => D0) := fun x x1 x2 => by have x2 : x < 0 := x2; omega
  refine Aj.pick (al2 := [(0, qa M)]) [0] rfl ?_
  suffices L19 : ∀ (N : Nat) (w j : Int) (hh : qH) , (hh M 21 = w ∧ hh M 20 = j ∧ FRo M h hh ∧ (0 ≤ j ∧ j ≤ m) ∧ ((w = 0 ∧ failF P m j) ∨ (w = 1 ∧ EO P m j (ordS P j.toNat) ∧ hh M 23 = (allO P j).1 ∧ COr hh M (allO P j) ∧ 2 * (allO P j).1 ≤ j))) → (m - j + w).toNat < N → Aj G X (q_Pi r (fun z h' => O_fault m P z ∧ (z = -6 → h' M 23 = (allO P m).1 ∧ COr h' M (allO P m) ∧ 2 * (allO P m).1 ≤ m) ∧ FS M h h')) cX9_reads 1 (0, 0) n r hh 19 [(0, qa M)] [] from L19 (_ + 1)  w16 j16 g16 (⟨a16, b16, F16, rd_next0 e16 i16 c16⟩) (Nat.lt_succ_self _)
  intro N19
  induction N19 with
  | zero => intro w j hh _ hN; exact absurd hN (Nat.not_lt_zero _)
  | succ N ih19 =>
    intro w j hh hI19 hN19
    obtain ⟨hh1, hh2, hhF, hhj, hhE⟩ := hI19
    refine Aj.aload_n C 0 dX9_reads_19 rfl ?_
    refine Aj.getIe (z := w) C lf_RX9_196 rfl L.a dX9_reads_20 hh1 ?_
    refine Aj.if_eq (tgt := 57) C dX9_reads_23 (by decide) (fun c23 => ?_) (fun c23 => ?_)
    · refine Aj.aload_n C 0 dX9_reads_57 rfl ?_
      refine Aj.getIe (z := w) C lf_RX9_196 rfl L.a dX9_reads_58 hh1 ?_
      refine Aj.if_eq (tgt := 69) C dX9_reads_61 (by decide) (fun c61 => ?_) (fun c61 => ?_)
      · refine Aj.aload_n C 0 dX9_reads_69 rfl ?_
        refine Aj.getIe (z := j) C lf_RX9_193 rfl L.a dX9_reads_70 hh2 ?_
        refine Aj.iret C dX9_reads_73 (by rw [hmc]; exact ⟨rfl, Nat.le_of_ble_eq_true rfl⟩) ⟨_, rfl, rfl, ?_⟩
        rcases hhE with ⟨q1, q2⟩ | ⟨q1, q2, q3, q4, q5⟩
        · exact ⟨q2.o, fun z => by omega, hhF.s⟩
        · omega
      · refine Aj.bipush C dX9_reads_64 (by decide) (by decide) ?_
        refine Aj.goto (tgt := 73) C dX9_reads_66 (by decide) ?_
        refine Aj.iret C dX9_reads_73 (by rw [hmc]; exact ⟨rfl, Nat.le_of_ble_eq_true rfl⟩) ⟨_, rfl, rfl, ?_⟩
        rcases hhE with ⟨q1, q2⟩ | ⟨q1, q2, q3, q4, q5⟩
        · omega
        · have e : j = m := by omega
          rw [e] at q2 q3 q4 q5
          exact ⟨Or.inl ⟨rfl, q2.2.1, q2.2.2.1⟩, fun _ => ⟨q3, q4, q5⟩, hhF.s⟩
    · refine Aj.aload_n C 0 dX9_reads_26 rfl ?_
      refine Aj.getIe (z := j) C lf_RX9_193 rfl L.a dX9_reads_27 hh2 ?_
      refine Aj.aload_n C 0 dX9_reads_30 rfl ?_
      refine Aj.getIe (z := m) C lf_RX9_182 rfl L.a dX9_reads_31 ((hhF _ _ (by omega) (by omega)).trans cp.1) ?_
      refine Aj.icmp_ge (tgt := 57) C dX9_reads_34 (by decide) (fun c34 => ?_) (fun c34 => ?_)
      · refine Aj.aload_n C 0 dX9_reads_57 rfl ?_
        refine Aj.getIe (z := w) C lf_RX9_196 rfl L.a dX9_reads_58 hh1 ?_
        refine Aj.if_eq (tgt := 69) C dX9_reads_61 (by decide) (fun c61 => ?_) (fun c61 => ?_)
        · refine Aj.aload_n C 0 dX9_reads_69 rfl ?_
          refine Aj.getIe (z := j) C lf_RX9_193 rfl L.a dX9_reads_70 hh2 ?_
          refine Aj.iret C dX9_reads_73 (by rw [hmc]; exact ⟨rfl, Nat.le_of_ble_eq_true rfl⟩) ⟨_, rfl, rfl, ?_⟩
          rcases hhE with ⟨q1, q2⟩ | ⟨q1, q2, q3, q4, q5⟩
          · exact ⟨q2.o, fun z => by omega, hhF.s⟩
          · omega
        · refine Aj.bipush C dX9_reads_64 (by decide) (by decide) ?_
          refine Aj.goto (tgt := 73) C dX9_reads_66 (by decide) ?_
          refine Aj.iret C dX9_reads_73 (by rw [hmc]; exact ⟨rfl, Nat.le_of_ble_eq_true rfl⟩) ⟨_, rfl, rfl, ?_⟩
          rcases hhE with ⟨q1, q2⟩ | ⟨q1, q2, q3, q4, q5⟩
          · omega
          · have e : j = m := by omega
            rw [e] at q2 q3 q4 q5
            exact ⟨Or.inl ⟨rfl, q2.2.1, q2.2.2.1⟩, fun _ => ⟨q3, q4, q5⟩, hhF.s⟩
      · have w1 : w = 1 := by rcases hhE with ⟨q, _⟩ | ⟨q, _⟩ <;> omega
        have hE2 : EO P m j (ordS P j.toNat) ∧ hh M 23 = (allO P j).1 ∧ COr hh M (allO P j) ∧ 2 * (allO P j).1 ≤ j := by
          rcases hhE with ⟨q, _⟩ | ⟨_, q⟩
          · omega
          · exact q
        obtain ⟨eo, eo2, eo3, eo4⟩ := hE2
        have eo5 : 1 ≤ (allO P j).1 := by have := ordS_nn P j.toNat; show 1 ≤ (ordS P j.toNat).1 + 1; omega
        have eo6 := eo.1
        have cp2 : IMp hh M (m, P) := cp.r (fun x y q => hhF x y (by omega) (by omega))
        refine Aj.aload_n C 0 dX9_reads_37 rfl ?_
        refine Aj.bipush C dX9_reads_38 (by decide) (by decide) ?_
        refine Aj.callVv (As := [qi 59]) (st := []) C lm_RX9_206 m_X9_wants mk_X9_wants ms_X9_wants (c_X9_wants _ (i := j) (w := 1) (a := 59) L cp2 pg hh2 (by omega) (hh1.trans w1) (by decide)) L.a (t := 9) rfl rfl rfl rfl (by decide) (Nat.le_of_ble_eq_true rfl) (by decide) dX9_reads_40 (fun g40 p40 => ?_)
        obtain ⟨w40, j40, a40, b40, n40, f40⟩ := p40
        have e40 := eo_want eo (by omega) n40
        have F40 : FRo M h g40 := hhF.tr f40.o
        have m40 : (w40 = 1 ∧ j40 = j + 1) ∨ (w40 = 0 ∧ j40 = j) := by
          rcases e40 with ⟨q1, q2, _⟩ | ⟨q1, q2, _⟩
          · exact Or.inl ⟨q1, q2⟩
          · exact Or.inr ⟨q1, q2⟩
        refine Aj.aload_n C 0 dX9_reads_43 rfl ?_
        refine Aj.getIe (z := w40) C lf_RX9_196 rfl L.a dX9_reads_44 a40 ?_
        refine Aj.if_eq (tgt := 19) C dX9_reads_47 (by decide) (fun c47 => ?_) (fun c47 => ?_)
        · refine Aj.pick (al2 := [(0, qa M)]) [0] rfl ?_
          exact ih19  w40 j40 g40 (⟨a40, b40, F40, by
            rcases e40 with ⟨e, _⟩ | ⟨e1, e2, e3⟩
            · omega
            · exact ⟨e3.1, Or.inl ⟨e1, e3⟩⟩⟩) (by omega)
        · have e4 : w40 = 1 ∧ j40 = j + 1 ∧ runC P j40.toNat ∧ runD P j40.toNat = D0 ∧ ordS P j40.toNat = allO P j := by
            rcases e40 with e | ⟨e, _⟩
            · exact e
            · omega
          obtain ⟨w4, j4, e4⟩ := e4
          refine Aj.aload_n C 0 dX9_reads_50 rfl ?_
          refine Aj.callVv (As := []) (st := []) C lm_RX9_212 m_X9_readsOrder mk_X9_readsOrder ms_X9_readsOrder (c_X9_readsOrder _ (i := j40) (k := (allO P j).1) (O := allO P j) L (cp.r (fun x y q => F40 x y (by omega) (by omega))) pg b40 (a40.trans w4) ((f40 _ _ (by omega)).trans eo2) ⟨by omega, by omega⟩ ⟨by omega, by omega⟩ e4.1 e4.2.1 e4.2.2) L.a (t := 9) rfl rfl rfl rfl (by decide) (Nat.le_of_ble_eq_true rfl) (by decide) dX9_reads_51 (fun g51 p51 => ?_)
          obtain ⟨w51, j51, a51, b51, f51, i51, e51⟩ := p51
          have m51 : (w51 = 0 ∨ w51 = 1) ∧ (0 ≤ j51 ∧ j51 ≤ m) := by
            rcases e51 with ⟨q1, q2⟩ | ⟨q1, _, q2, _⟩
            · exact ⟨Or.inl q1, q2.1⟩
            · exact ⟨Or.inr q1, q2.1⟩
          refine Aj.goto (tgt := 19) C dX9_reads_54 (by decide) ?_
          refine Aj.pick (al2 := [(0, qa M)]) [0] rfl ?_
          exact ih19  w51 j51 g51 (⟨a51, b51, F40.tr f51, rd_next e51 (by omega) (eo3.mv (fun x => f40 _ _ (by omega))) rfl⟩) (by omega)
