set_option maxHeartbeats 400000 in
set_option maxRecDepth 100000 in
theorem c_X9_readsOrder (l : Launch) {G : qG} {n : Int} {r h : qH} {M i m k : Int} {P : Int → Int} {O : Int × (Int → qD)} (L : LModel G n r M) (cp : IMp h M (m, P)) (pg : PG m P) (hi : h M 20 = i) (hw : h M 21 = 1) (hk : h M 23 = k) (hk0 : 0 ≤ k ∧ 2 * k ≤ i) (h0 : 0 ≤ i ∧ i ≤ m) (rc : runC P i.toNat) (rD : runD P i.toNat = D0) (ro : ordS P i.toNat = O) : q_Cm l G yX9_readsOrder cX9_readsOrder 6 none 2 44 [qa M] n r h (q_Pv r (fun h' => ∃ w j, h' M 21 = w ∧ h' M 20 = j ∧ FRo M h h' ∧ i ≤ j ∧ ((w = 0 ∧ failF P m j) ∨ (w = 1 ∧ i + 2 ≤ j ∧ EO P m j O ∧ h' M 23 = k + 1 ∧ C4 h' M k (runD P j.toNat) ∧ ∀ x, ¬ (4 * k ≤ x ∧ x < 4 * k + 4) → h' (M + 15) x = h (M + 15) x)))) 0 0 := by
  refine q_enter (al := [(0, qa M)]) m_X9_readsOrder rfl (Nat.le_of_ble_eq_true rfl) ?_
  intro hok X C hmc hxl hin
  have pm : 0 ≤ m ∧ m ≤ 80 := ⟨pg.1, pg.2.1⟩
  refine Aj.aload_n C 0 dX9_readsOrder_0 rfl ?_
  refine Aj.callVi (As := []) (st := []) C lm_RX9_200 m_X9_sign mk_X9_sign ms_X9_sign (c_X9_sign _ (i := i) L (cp.r (fun x y q => rfl)) pg hi (by omega)) L.a (t := 9) rfl rfl rfl rfl (by decide) (Nat.le_of_ble_eq_true rfl) (by decide) dX9_readsOrder_1 (fun z1 h_1 rz1 p1 => ?_)
  obtain ⟨rfl, ps1⟩ := p1
  subst ps1
  have gs1 := sgn_in pg (i) (by omega)
  refine Aj.istore_n (al2 := [(1, qi (sgn P m i)), (0, qa M)]) C dX9_readsOrder_4 (by decide) rfl ?_
  have J28 : ∀ (tt : Int) , ((tt = 0 ∨ tt = 1) ∧ (tt = 1 ↔ sgn P m i = 108 ∨ sgn P m i = 101 ∨ sgn P m i = 110)) → Aj G X (q_Pv r (fun h' => ∃ w j, h' M 21 = w ∧ h' M 20 = j ∧ FRo M h h' ∧ i ≤ j ∧ ((w = 0 ∧ failF P m j) ∨ (w = 1 ∧ i + 2 ≤ j ∧ EO P m j O ∧ h' M 23 = k + 1 ∧ C4 h' M k (runD P j.toNat) ∧ ∀ x, ¬ (4 * k ≤ x ∧ x < 4 * k + 4) → h' (M + 15) x = h (M + 15) x)))) cX9_readsOrder 6 (0, 0) n r h 28 [(0, qa M), (1, qi (sgn P m i))] [qi tt] := by
    intro tt hJ28
    refine Aj.istore_n (al2 := [(2, qi tt), (0, qa M), (1, qi (sgn P m i))]) C dX9_readsOrder_28 (by decide) rfl ?_
    have J70 : ∀ (wl : Int) , ((wl = 0 ∨ wl = 1) ∧ (wl = 1 ↔ openP (sgn P m i))) → Aj G X (q_Pv r (fun h' => ∃ w j, h' M 21 = w ∧ h' M 20 = j ∧ FRo M h h' ∧ i ≤ j ∧ ((w = 0 ∧ failF P m j) ∨ (w = 1 ∧ i + 2 ≤ j ∧ EO P m j O ∧ h' M 23 = k + 1 ∧ C4 h' M k (runD P j.toNat) ∧ ∀ x, ¬ (4 * k ≤ x ∧ x < 4 * k + 4) → h' (M + 15) x = h (M + 15) x)))) cX9_readsOrder 6 (0, 0) n r h 70 [(0, qa M), (1, qi (sgn P m i)), (2, qi tt)] [qi wl, qa M] := by
      intro wl hJ70
      refine Aj.putZ C lf_RX9_196 L.a dX9_readsOrder_70 (by omega) (fun h_2 eh_2 => ?_)
      have J90 : ∀ (ai : Int) , (ai = wl) → Aj G X (q_Pv r (fun h' => ∃ w j, h' M 21 = w ∧ h' M 20 = j ∧ FRo M h h' ∧ i ≤ j ∧ ((w = 0 ∧ failF P m j) ∨ (w = 1 ∧ i + 2 ≤ j ∧ EO P m j O ∧ h' M 23 = k + 1 ∧ C4 h' M k (runD P j.toNat) ∧ ∀ x, ¬ (4 * k ≤ x ∧ x < 4 * k + 4) → h' (M + 15) x = h (M + 15) x)))) cX9_readsOrder 6 (0, 0) n r h_2 90 [(0, qa M), (1, qi (sgn P m i)), (2, qi tt)] [qi ai, qi i, qa M] := by
        intro ai hJ90
        refine Aj.iadd C dX9_readsOrder_90 (by omega) ?_
        refine Aj.putI C lf_RX9_193 L.a dX9_readsOrder_91 (fun h_3 eh_3 => ?_)
        have sA : STG P m wl (i + ai) (sgn P m i, 0, 0, fun _ => 0) O := by rw [hJ90]; exact stg_open h0 rc rD ro hJ70
        refine Aj.aload_n C 0 dX9_readsOrder_94 rfl ?_
        refine Aj.callVi (As := []) (st := []) C lm_RX9_203 m_X9_number mk_X9_number ms_X9_number (c_X9_number _ (i := i + ai) (w := wl) L (cp.r (fun x y q => by rw [eh_3, eh_2, hset_ne _ _ (by omega), hset_ne _ _ (by omega)])) pg (by rw [eh_3]; exact hset_same _ _ _ _) (by omega) (by rw [eh_3, hset_neb _ _ _ (by decide)]; exact (by rw [eh_2]; exact hset_same _ _ _ _)) (by omega)) L.a (t := 9) rfl rfl rfl rfl (by decide) (Nat.le_of_ble_eq_true rfl) (by decide) dX9_readsOrder_95 (fun z95 g95 rz95 p95 => ?_)
        obtain ⟨w95, j95, a95, b95, n95, f95⟩ := p95
        obtain ⟨t95, -⟩ := stg_num sA (fun q => by have := hJ70.2.mp q; unfold openP at this; omega) rfl n95
        obtain ⟨H95, hl0⟩ := n95.h0 hJ90 hJ70.1
        have F95 : FRd M h g95 := FRd.tr (fun x y q => by rw [eh_3, eh_2, hset_ne _ _ (by omega), hset_ne _ _ (by omega)]) f95
        refine Aj.istore_n (al2 := [(3, qi z95), (0, qa M), (1, qi (sgn P m i)), (2, qi tt)]) C dX9_readsOrder_98 (by decide) rfl ?_
        refine Aj.iconst C dX9_readsOrder_99 (by decide) ?_
        refine Aj.istore (al2 := [(4, qi 0), (3, qi z95), (0, qa M), (1, qi (sgn P m i)), (2, qi tt)]) C dX9_readsOrder_100 (by decide) rfl ?_
        refine Aj.iconst C dX9_readsOrder_102 (by decide) ?_
        refine Aj.istore (al2 := [(5, qi 0), (4, qi 0), (3, qi z95), (0, qa M), (1, qi (sgn P m i)), (2, qi tt)]) C dX9_readsOrder_103 (by decide) rfl ?_
        have J184 : ∀ (b d : Int) (hj : qH) , (∃ w j cu V, hj M 21 = w ∧ hj M 20 = j ∧ FRd M h hj ∧ STN P m w j (sgn P m i) cu V O ∧ (w = 0 ∨ w = 1) ∧ i ≤ j ∧ (w = 1 → i + 2 ≤ j ∧ sgn P m i ≠ 0 ∧ sigR (sgn P m i, cu, 1, V) = 59 ∧ V 0 = z95 ∧ V 1 = b ∧ V 2 = d)) → Aj G X (q_Pv r (fun h' => ∃ w j, h' M 21 = w ∧ h' M 20 = j ∧ FRo M h h' ∧ i ≤ j ∧ ((w = 0 ∧ failF P m j) ∨ (w = 1 ∧ i + 2 ≤ j ∧ EO P m j O ∧ h' M 23 = k + 1 ∧ C4 h' M k (runD P j.toNat) ∧ ∀ x, ¬ (4 * k ≤ x ∧ x < 4 * k + 4) → h' (M + 15) x = h (M + 15) x)))) cX9_readsOrder 6 (0, 0) n r hj 184 [(0, qa M), (1, qi (sgn P m i)), (2, qi tt), (3, qi z95), (4, qi b), (5, qi d)] [] := by
          intro b d hj hJ184
          obtain ⟨w, j, cu, V, q1, q2, q3, q4, q5, q7, q6⟩ := hJ184
          refine Aj.aload_n C 0 dX9_readsOrder_184 rfl ?_
          refine Aj.getIe (z := w) C lf_RX9_196 rfl L.a dX9_readsOrder_185 q1 ?_
          refine Aj.if_eq (tgt := 257) C dX9_readsOrder_188 (by decide) (fun c188 => ?_) (fun c188 => ?_)
          · refine Aj.vret C dX9_readsOrder_257 (by rw [hmc]; exact ⟨rfl, Nat.le_of_ble_eq_true rfl⟩) ⟨rfl, rfl, ?_⟩
            exact ⟨w, j, q1, q2, q3.o, q7, Or.inl ⟨by omega, by rcases q4 with ⟨z1, _⟩ | ⟨_, z2⟩; omega; exact z2⟩⟩
          · obtain ⟨y1, y2, y3⟩ := q6 (by omega)
            obtain ⟨e1, e2, e3⟩ := stn_end q4 (by omega) y2 y3.1
            have e4 := e1.1
            clear q6
            refine Aj.aload_n C 0 dX9_readsOrder_191 rfl ?_
            refine Aj.getR C lf_RX9_53 rfl L.a L.r22 dX9_readsOrder_192 ?_
            refine Aj.iconst C dX9_readsOrder_195 (by decide) ?_
            refine Aj.aload_n C 0 dX9_readsOrder_196 rfl ?_
            refine Aj.getIe (z := k) C lf_RX9_209 rfl L.a dX9_readsOrder_197 ((q3 _ _ (by omega)).trans hk) ?_
            refine Aj.imul C dX9_readsOrder_200 (by omega) ?_
            refine Aj.iload_n C 1 dX9_readsOrder_201 rfl ?_
            refine Aj.iast C L.a15 (by omega) dX9_readsOrder_202 (fun h_4 eh_4 => ?_)
            refine Aj.aload_n C 0 dX9_readsOrder_203 rfl ?_
            refine Aj.getR C lf_RX9_53 rfl L.a L.r22 dX9_readsOrder_204 ?_
            refine Aj.iconst C dX9_readsOrder_207 (by decide) ?_
            refine Aj.aload_n C 0 dX9_readsOrder_208 rfl ?_
            refine Aj.getIe (z := k) C lf_RX9_209 rfl L.a dX9_readsOrder_209 (by rw [eh_4, hset_nea _ _ _ (by omega)]; exact ((q3 _ _ (by omega)).trans hk)) ?_
            refine Aj.imul C dX9_readsOrder_212 (by omega) ?_
            refine Aj.iconst C dX9_readsOrder_213 (by decide) ?_
            refine Aj.iadd C dX9_readsOrder_214 (by omega) ?_
            refine Aj.iload_n C 3 dX9_readsOrder_215 rfl ?_
            refine Aj.iast C L.a15 (by omega) dX9_readsOrder_216 (fun h_5 eh_5 => ?_)
            refine Aj.aload_n C 0 dX9_readsOrder_217 rfl ?_
            refine Aj.getR C lf_RX9_53 rfl L.a L.r22 dX9_readsOrder_218 ?_
            refine Aj.iconst C dX9_readsOrder_221 (by decide) ?_
            refine Aj.aload_n C 0 dX9_readsOrder_222 rfl ?_
            refine Aj.getIe (z := k) C lf_RX9_209 rfl L.a dX9_readsOrder_223 (by rw [eh_5, hset_nea _ _ _ (by omega)]; exact (by rw [eh_4, hset_nea _ _ _ (by omega)]; exact ((q3 _ _ (by omega)).trans hk))) ?_
            refine Aj.imul C dX9_readsOrder_226 (by omega) ?_
            refine Aj.iconst C dX9_readsOrder_227 (by decide) ?_
            refine Aj.iadd C dX9_readsOrder_228 (by omega) ?_
            refine Aj.iload C 4 dX9_readsOrder_229 rfl ?_
            refine Aj.iast C L.a15 (by omega) dX9_readsOrder_231 (fun h_6 eh_6 => ?_)
            refine Aj.aload_n C 0 dX9_readsOrder_232 rfl ?_
            refine Aj.getR C lf_RX9_53 rfl L.a L.r22 dX9_readsOrder_233 ?_
            refine Aj.iconst C dX9_readsOrder_236 (by decide) ?_
            refine Aj.aload_n C 0 dX9_readsOrder_237 rfl ?_
            refine Aj.getIe (z := k) C lf_RX9_209 rfl L.a dX9_readsOrder_238 (by rw [eh_6, hset_nea _ _ _ (by omega)]; exact (by rw [eh_5, hset_nea _ _ _ (by omega)]; exact (by rw [eh_4, hset_nea _ _ _ (by omega)]; exact ((q3 _ _ (by omega)).trans hk)))) ?_
            refine Aj.imul C dX9_readsOrder_241 (by omega) ?_
            refine Aj.iconst C dX9_readsOrder_242 (by decide) ?_
            refine Aj.iadd C dX9_readsOrder_243 (by omega) ?_
            refine Aj.iload C 5 dX9_readsOrder_244 rfl ?_
            refine Aj.iast C L.a15 (by omega) dX9_readsOrder_246 (fun h_7 eh_7 => ?_)
            refine Aj.aload_n C 0 dX9_readsOrder_247 rfl ?_
            refine Aj.dup_qa C dX9_readsOrder_248 ?_
            refine Aj.getIe (z := k) C lf_RX9_209 rfl L.a dX9_readsOrder_249 (by rw [eh_7, hset_nea _ _ _ (by omega)]; exact (by rw [eh_6, hset_nea _ _ _ (by omega)]; exact (by rw [eh_5, hset_nea _ _ _ (by omega)]; exact (by rw [eh_4, hset_nea _ _ _ (by omega)]; exact ((q3 _ _ (by omega)).trans hk))))) ?_
            refine Aj.iconst C dX9_readsOrder_252 (by decide) ?_
            refine Aj.iadd C dX9_readsOrder_253 (by omega) ?_
            refine Aj.putI C lf_RX9_209 L.a dX9_readsOrder_254 (fun h_8 eh_8 => ?_)
            refine Aj.vret C dX9_readsOrder_257 (by rw [hmc]; exact ⟨rfl, Nat.le_of_ble_eq_true rfl⟩) ⟨rfl, rfl, ?_⟩
            refine ⟨w, j, ?_, ?_, fun x y z1 z2 => ?_, q7, Or.inr ⟨by omega, y1, e1, ?_, ⟨?_, ?_, ?_, ?_⟩, fun x z => ?_⟩⟩
            · rw [eh_8, eh_7, eh_6, eh_5, eh_4, hset_neb _ _ _ (by decide), hset_nea _ _ _ (by omega), hset_nea _ _ _ (by omega), hset_nea _ _ _ (by omega), hset_nea _ _ _ (by omega)]; exact q1
            · rw [eh_8, eh_7, eh_6, eh_5, eh_4, hset_neb _ _ _ (by decide), hset_nea _ _ _ (by omega), hset_nea _ _ _ (by omega), hset_nea _ _ _ (by omega), hset_nea _ _ _ (by omega)]; exact q2
            · rw [eh_8, eh_7, eh_6, eh_5, eh_4, hset_ne _ _ (by omega), hset_nea _ _ _ z2, hset_nea _ _ _ z2, hset_nea _ _ _ z2, hset_nea _ _ _ z2]; exact q3 x y (by omega)
            · rw [eh_8, hset_same]
            · rw [eh_8, eh_7, eh_6, eh_5, eh_4, hset_nea _ _ _ (by omega), hset_neb _ _ _ (by omega), hset_neb _ _ _ (by omega), hset_neb _ _ _ (by omega), hset_same]; exact e2.symm
            · rw [eh_8, eh_7, eh_6, eh_5, hset_nea _ _ _ (by omega), hset_neb _ _ _ (by omega), hset_neb _ _ _ (by omega), hset_same, e3]; exact y3.2.1.symm
            · rw [eh_8, eh_7, eh_6, hset_nea _ _ _ (by omega), hset_neb _ _ _ (by omega), hset_same, e3]; exact y3.2.2.1.symm
            · rw [eh_8, eh_7, hset_nea _ _ _ (by omega), hset_same, e3]; exact y3.2.2.2.symm
            · rw [eh_8, eh_7, eh_6, eh_5, eh_4, hset_nea _ _ _ (by omega), hset_neb _ _ _ (by omega), hset_neb _ _ _ (by omega), hset_neb _ _ _ (by omega), hset_neb _ _ _ (by omega)]; exact q3 _ _ (by omega)
        have J115 : ∀ (_ : Unit), (sgn P m i = 98 ∨ tt ≠ 0) → Aj G X (q_Pv r (fun h' => ∃ w j, h' M 21 = w ∧ h' M 20 = j ∧ FRo M h h' ∧ i ≤ j ∧ ((w = 0 ∧ failF P m j) ∨ (w = 1 ∧ i + 2 ≤ j ∧ EO P m j O ∧ h' M 23 = k + 1 ∧ C4 h' M k (runD P j.toNat) ∧ ∀ x, ¬ (4 * k ≤ x ∧ x < 4 * k + 4) → h' (M + 15) x = h (M + 15) x)))) cX9_readsOrder 6 (0, 0) n r g95 115 [(0, qa M), (1, qi (sgn P m i)), (2, qi tt), (3, qi z95), (4, qi 0), (5, qi 0)] [] := by
          intro _ hJ115
          have J127 : ∀ (sg : Int) , ((tt ≠ 0 → sg = 43) ∧ (tt = 0 → sg = 61)) → Aj G X (q_Pv r (fun h' => ∃ w j, h' M 21 = w ∧ h' M 20 = j ∧ FRo M h h' ∧ i ≤ j ∧ ((w = 0 ∧ failF P m j) ∨ (w = 1 ∧ i + 2 ≤ j ∧ EO P m j O ∧ h' M 23 = k + 1 ∧ C4 h' M k (runD P j.toNat) ∧ ∀ x, ¬ (4 * k ≤ x ∧ x < 4 * k + 4) → h' (M + 15) x = h (M + 15) x)))) cX9_readsOrder 6 (0, 0) n r g95 127 [(0, qa M), (1, qi (sgn P m i)), (2, qi tt), (3, qi z95), (4, qi 0), (5, qi 0)] [qi sg, qa M] := by
            intro sg hJ127
            refine Aj.callVv (As := [qi sg]) (st := []) C lm_RX9_206 m_X9_wants mk_X9_wants ms_X9_wants (c_X9_wants _ (i := j95) (w := w95) L (cp.r (fun x y q => F95 x y (by omega))) pg b95 (H95.r h0 pm.2 (by omega)) a95 H95.1) L.a (t := 9) rfl rfl rfl rfl (by decide) (Nat.le_of_ble_eq_true rfl) (by decide) dX9_readsOrder_127 (fun g127 p127 => ?_)
            obtain ⟨w127, j127, a127, b127, n127, f127⟩ := p127
            have k127 : sigR (sgn P m i, 0, 1, sset (fun _ => 0) 0 z95) = sg := by
              rw [sigR_mk]
              repeat (first | rw [if_neg (by omega)] | rw [if_pos (by omega)])
              all_goals omega
            obtain ⟨t127, -⟩ := stg_want t95 (fun _ => by omega) (fun _ => k127) (by omega) n127
            have H127 := n127.h H95
            have F127 : FRd M h g127 := FRd.tr (fun x y q => F95 x y (by omega)) f127
            refine Aj.aload_n C 0 dX9_readsOrder_130 rfl ?_
            refine Aj.callVi (As := []) (st := []) C lm_RX9_203 m_X9_number mk_X9_number ms_X9_number (c_X9_number _ (i := j127) (w := w127) L (cp.r (fun x y q => F127 x y (by omega))) pg b127 (H127.r h0 pm.2 (by omega)) a127 H127.1) L.a (t := 9) rfl rfl rfl rfl (by decide) (Nat.le_of_ble_eq_true rfl) (by decide) dX9_readsOrder_131 (fun z131 g131 rz131 p131 => ?_)
            obtain ⟨w131, j131, a131, b131, n131, f131⟩ := p131
            obtain ⟨t131, -⟩ := stg_num t127 (fun _ => by omega) (by rw [sset_ne _ _ (by decide)]) n131
            have H131 := n131.h H127
            have F131 : FRd M h g131 := FRd.tr (fun x y q => F127 x y (by omega)) f131
            refine Aj.istore (al2 := [(4, qi z131), (0, qa M), (1, qi (sgn P m i)), (2, qi tt), (3, qi z95), (5, qi 0)]) C dX9_readsOrder_134 (by decide) rfl ?_
            have J148 : ∀ (sg2 : Int) , ((tt ≠ 0 → sg2 = 58) ∧ (tt = 0 → sg2 = 64)) → Aj G X (q_Pv r (fun h' => ∃ w j, h' M 21 = w ∧ h' M 20 = j ∧ FRo M h h' ∧ i ≤ j ∧ ((w = 0 ∧ failF P m j) ∨ (w = 1 ∧ i + 2 ≤ j ∧ EO P m j O ∧ h' M 23 = k + 1 ∧ C4 h' M k (runD P j.toNat) ∧ ∀ x, ¬ (4 * k ≤ x ∧ x < 4 * k + 4) → h' (M + 15) x = h (M + 15) x)))) cX9_readsOrder 6 (0, 0) n r g131 148 [(0, qa M), (1, qi (sgn P m i)), (2, qi tt), (3, qi z95), (4, qi z131), (5, qi 0)] [qi sg2, qa M] := by
              intro sg2 hJ148
              refine Aj.callVv (As := [qi sg2]) (st := []) C lm_RX9_206 m_X9_wants mk_X9_wants ms_X9_wants (c_X9_wants _ (i := j131) (w := w131) L (cp.r (fun x y q => F131 x y (by omega))) pg b131 (H131.r h0 pm.2 (by omega)) a131 H131.1) L.a (t := 9) rfl rfl rfl rfl (by decide) (Nat.le_of_ble_eq_true rfl) (by decide) dX9_readsOrder_148 (fun g148 p148 => ?_)
              obtain ⟨w148, j148, a148, b148, n148, f148⟩ := p148
              have k148 : sigR (sgn P m i, 0 + 1, 1, sset (sset (fun _ => 0) 0 z95) (0 + 1) z131) = sg2 := by
                rw [sigR_mk]
                repeat (first | rw [if_neg (by omega)] | rw [if_pos (by omega)])
                all_goals omega
              obtain ⟨t148, -⟩ := stg_want t131 (fun _ => by omega) (fun _ => k148) (by omega) n148
              have H148 := n148.h H131
              have F148 : FRd M h g148 := FRd.tr (fun x y q => F131 x y (by omega)) f148
              refine Aj.aload_n C 0 dX9_readsOrder_151 rfl ?_
              refine Aj.callVi (As := []) (st := []) C lm_RX9_203 m_X9_number mk_X9_number ms_X9_number (c_X9_number _ (i := j148) (w := w148) L (cp.r (fun x y q => F148 x y (by omega))) pg b148 (H148.r h0 pm.2 (by omega)) a148 H148.1) L.a (t := 9) rfl rfl rfl rfl (by decide) (Nat.le_of_ble_eq_true rfl) (by decide) dX9_readsOrder_152 (fun z152 g152 rz152 p152 => ?_)
              obtain ⟨w152, j152, a152, b152, n152, f152⟩ := p152
              obtain ⟨t152, -⟩ := stg_num t148 (fun _ => by omega) (by rw [sset_ne _ _ (by decide), sset_ne _ _ (by decide)]) n152
              have H152 := n152.h H148
              have F152 : FRd M h g152 := FRd.tr (fun x y q => F148 x y (by omega)) f152
              refine Aj.istore (al2 := [(5, qi z152), (0, qa M), (1, qi (sgn P m i)), (2, qi tt), (3, qi z95), (4, qi z131)]) C dX9_readsOrder_155 (by decide) rfl ?_
              refine Aj.goto (tgt := 184) C dX9_readsOrder_157 (by decide) ?_
              refine Aj.pick (al2 := [(0, qa M), (1, qi (sgn P m i)), (2, qi tt), (3, qi z95), (4, qi z131), (5, qi z152)]) [1, 2, 3, 4, 5, 0] rfl ?_
              exact J184 z131 z152 g152 (⟨w152, j152, _, _, a152, b152, F152, t152, H152.1, H152.2.1.1, fun y => ⟨H152.2.2 y, by omega, sigR_2 (show (2 : Int) ≤ 0 + 1 + 1 by decide), by rw [sset_ne _ _ (by decide), sset_ne _ _ (by decide)]; exact sset_same _ _ _, by rw [sset_ne _ _ (by decide)]; exact sset_same _ _ _, sset_same _ _ _⟩⟩)
            refine Aj.aload_n C 1 dX9_readsOrder_136 rfl ?_
            refine Aj.iload_n C 3 dX9_readsOrder_137 rfl ?_
            refine Aj.if_eq (tgt := 146) C dX9_readsOrder_138 (by decide) (fun c138 => ?_) (fun c138 => ?_)
            · refine Aj.bipush C dX9_readsOrder_146 (by decide) (by decide) ?_
              refine Aj.pick (al2 := [(0, qa M), (1, qi (sgn P m i)), (2, qi tt), (3, qi z95), (4, qi z131), (5, qi 0)]) [1, 2, 3, 4, 0, 5] rfl ?_
              exact J148 64 (by omega)
            · refine Aj.bipush C dX9_readsOrder_141 (by decide) (by decide) ?_
              refine Aj.goto (tgt := 148) C dX9_readsOrder_143 (by decide) ?_
              refine Aj.pick (al2 := [(0, qa M), (1, qi (sgn P m i)), (2, qi tt), (3, qi z95), (4, qi z131), (5, qi 0)]) [1, 2, 3, 4, 0, 5] rfl ?_
              exact J148 58 (by omega)
          refine Aj.aload_n C 0 dX9_readsOrder_115 rfl ?_
          refine Aj.iload_n C 2 dX9_readsOrder_116 rfl ?_
          refine Aj.if_eq (tgt := 125) C dX9_readsOrder_117 (by decide) (fun c117 => ?_) (fun c117 => ?_)
          · refine Aj.bipush C dX9_readsOrder_125 (by decide) (by decide) ?_
            refine Aj.pick (al2 := [(0, qa M), (1, qi (sgn P m i)), (2, qi tt), (3, qi z95), (4, qi 0), (5, qi 0)]) [0, 1, 2, 3, 4, 5] rfl ?_
            exact J127 61 (by omega)
          · refine Aj.bipush C dX9_readsOrder_120 (by decide) (by decide) ?_
            refine Aj.goto (tgt := 127) C dX9_readsOrder_122 (by decide) ?_
            refine Aj.pick (al2 := [(0, qa M), (1, qi (sgn P m i)), (2, qi tt), (3, qi z95), (4, qi 0), (5, qi 0)]) [0, 1, 2, 3, 4, 5] rfl ?_
            exact J127 43 (by omega)
        have J172 : ∀ (_ : Unit), (sgn P m i = 114 ∨ sgn P m i = 120) → Aj G X (q_Pv r (fun h' => ∃ w j, h' M 21 = w ∧ h' M 20 = j ∧ FRo M h h' ∧ i ≤ j ∧ ((w = 0 ∧ failF P m j) ∨ (w = 1 ∧ i + 2 ≤ j ∧ EO P m j O ∧ h' M 23 = k + 1 ∧ C4 h' M k (runD P j.toNat) ∧ ∀ x, ¬ (4 * k ≤ x ∧ x < 4 * k + 4) → h' (M + 15) x = h (M + 15) x)))) cX9_readsOrder 6 (0, 0) n r g95 172 [(0, qa M), (1, qi (sgn P m i)), (2, qi tt), (3, qi z95), (4, qi 0), (5, qi 0)] [] := by
          intro _ hJ172
          refine Aj.aload_n C 0 dX9_readsOrder_172 rfl ?_
          refine Aj.bipush C dX9_readsOrder_173 (by decide) (by decide) ?_
          refine Aj.callVv (As := [qi 45]) (st := []) C lm_RX9_206 m_X9_wants mk_X9_wants ms_X9_wants (c_X9_wants _ (i := j95) (w := w95) L (cp.r (fun x y q => F95 x y (by omega))) pg b95 (H95.r h0 pm.2 (by omega)) a95 H95.1) L.a (t := 9) rfl rfl rfl rfl (by decide) (Nat.le_of_ble_eq_true rfl) (by decide) dX9_readsOrder_175 (fun g175 p175 => ?_)
          obtain ⟨w175, j175, a175, b175, n175, f175⟩ := p175
          have k175 : sigR (sgn P m i, 0, 1, sset (fun _ => 0) 0 z95) = 45 := by
            rw [sigR_mk]
            repeat (first | rw [if_neg (by omega)] | rw [if_pos (by omega)])
            all_goals omega
          obtain ⟨t175, -⟩ := stg_want t95 (fun _ => by omega) (fun _ => k175) (by omega) n175
          have H175 := n175.h H95
          have F175 : FRd M h g175 := FRd.tr (fun x y q => F95 x y (by omega)) f175
          refine Aj.aload_n C 0 dX9_readsOrder_178 rfl ?_
          refine Aj.callVi (As := []) (st := []) C lm_RX9_203 m_X9_number mk_X9_number ms_X9_number (c_X9_number _ (i := j175) (w := w175) L (cp.r (fun x y q => F175 x y (by omega))) pg b175 (H175.r h0 pm.2 (by omega)) a175 H175.1) L.a (t := 9) rfl rfl rfl rfl (by decide) (Nat.le_of_ble_eq_true rfl) (by decide) dX9_readsOrder_179 (fun z179 g179 rz179 p179 => ?_)
          obtain ⟨w179, j179, a179, b179, n179, f179⟩ := p179
          obtain ⟨t179, -⟩ := stg_num t175 (fun _ => by omega) (by rw [sset_ne _ _ (by decide)]) n179
          have H179 := n179.h H175
          have F179 : FRd M h g179 := FRd.tr (fun x y q => F175 x y (by omega)) f179
          refine Aj.istore (al2 := [(4, qi z179), (0, qa M), (1, qi (sgn P m i)), (2, qi tt), (3, qi z95), (5, qi 0)]) C dX9_readsOrder_182 (by decide) rfl ?_
          refine Aj.pick (al2 := [(0, qa M), (1, qi (sgn P m i)), (2, qi tt), (3, qi z95), (4, qi z179), (5, qi 0)]) [1, 2, 3, 4, 0, 5] rfl ?_
          exact J184 z179 0 g179 (⟨w179, j179, _, _, a179, b179, F179, t179, H179.1, H179.2.1.1, fun y => ⟨H179.2.2 y, by omega, by rw [sigR_mk]; repeat (first | rw [if_neg (by omega)] | rw [if_pos (by omega)]), by rw [sset_ne _ _ (by decide)]; exact sset_same _ _ _, sset_same _ _ _, rfl⟩⟩)
        have hl : w95 = 1 → openP (sgn P m i) := fun q => hJ70.2.mp (hl0 q)
        refine Aj.iload_n C 4 dX9_readsOrder_105 rfl ?_
        refine Aj.bipush C dX9_readsOrder_106 (by decide) (by decide) ?_
        refine Aj.icmp_eq (tgt := 115) C dX9_readsOrder_108 (by decide) (fun c108 => ?_) (fun c108 => ?_)
        · refine Aj.pick (al2 := [(0, qa M), (1, qi (sgn P m i)), (2, qi tt), (3, qi z95), (4, qi 0), (5, qi 0)]) [3, 4, 5, 2, 1, 0] rfl ?_
          exact J115 () (by omega)
        · refine Aj.iload_n C 5 dX9_readsOrder_111 rfl ?_
          refine Aj.if_eq (tgt := 160) C dX9_readsOrder_112 (by decide) (fun c112 => ?_) (fun c112 => ?_)
          · refine Aj.iload_n C 4 dX9_readsOrder_160 rfl ?_
            refine Aj.bipush C dX9_readsOrder_161 (by decide) (by decide) ?_
            refine Aj.icmp_eq (tgt := 172) C dX9_readsOrder_163 (by decide) (fun c163 => ?_) (fun c163 => ?_)
            · refine Aj.pick (al2 := [(0, qa M), (1, qi (sgn P m i)), (2, qi tt), (3, qi z95), (4, qi 0), (5, qi 0)]) [3, 4, 5, 2, 1, 0] rfl ?_
              exact J172 () (by omega)
            · refine Aj.iload_n C 4 dX9_readsOrder_166 rfl ?_
              refine Aj.bipush C dX9_readsOrder_167 (by decide) (by decide) ?_
              refine Aj.icmp_ne (tgt := 184) C dX9_readsOrder_169 (by decide) (fun c169 => ?_) (fun c169 => ?_)
              · refine Aj.pick (al2 := [(0, qa M), (1, qi (sgn P m i)), (2, qi tt), (3, qi z95), (4, qi 0), (5, qi 0)]) [3, 4, 5, 2, 1, 0] rfl ?_
                exact J184 0 0 g95 (⟨w95, j95, _, _, a95, b95, F95, t95, H95.1, H95.2.1.1, fun y => ⟨H95.2.2 y, by have := hl y; unfold openP at this; omega, by have := hl y; unfold openP at this; rw [sigR_mk]; repeat (first | rw [if_neg (by omega)] | rw [if_pos (by omega)]), sset_same _ _ _, rfl, rfl⟩⟩)
              · refine Aj.pick (al2 := [(0, qa M), (1, qi (sgn P m i)), (2, qi tt), (3, qi z95), (4, qi 0), (5, qi 0)]) [3, 4, 5, 2, 1, 0] rfl ?_
                exact J172 () (by omega)
          · refine Aj.pick (al2 := [(0, qa M), (1, qi (sgn P m i)), (2, qi tt), (3, qi z95), (4, qi 0), (5, qi 0)]) [3, 4, 5, 2, 1, 0] rfl ?_
            exact J115 () (by omega)
      refine Aj.aload_n C 0 dX9_readsOrder_73 rfl ?_
      refine Aj.dup_qa C dX9_readsOrder_74 ?_
      refine Aj.getIe (z := i) C lf_RX9_193 rfl L.a dX9_readsOrder_75 (by rw [eh_2, hset_neb _ _ _ (by decide)]; exact hi) ?_
      refine Aj.aload_n C 0 dX9_readsOrder_78 rfl ?_
      refine Aj.getIe (z := wl) C lf_RX9_196 rfl L.a dX9_readsOrder_79 (by rw [eh_2]; exact hset_same _ _ _ _) ?_
      refine Aj.if_eq (tgt := 89) C dX9_readsOrder_82 (by decide) (fun c82 => ?_) (fun c82 => ?_)
      · refine Aj.iconst C dX9_readsOrder_89 (by decide) ?_
        refine Aj.pick (al2 := [(0, qa M), (1, qi (sgn P m i)), (2, qi tt)]) [0, 1, 2] rfl ?_
        exact J90 0 (by omega)
      · refine Aj.iconst C dX9_readsOrder_85 (by decide) ?_
        refine Aj.goto (tgt := 90) C dX9_readsOrder_86 (by decide) ?_
        refine Aj.pick (al2 := [(0, qa M), (1, qi (sgn P m i)), (2, qi tt)]) [0, 1, 2] rfl ?_
        exact J90 1 (by omega)
    refine Aj.aload_n C 1 dX9_readsOrder_29 rfl ?_
    refine Aj.aload_n C 1 dX9_readsOrder_30 rfl ?_
    refine Aj.getIe (z := 1) C lf_RX9_196 rfl L.a dX9_readsOrder_31 hw ?_
    refine Aj.if_eq (tgt := 69) C dX9_readsOrder_34 (by decide) (fun c34 => ?_) (fun c34 => ?_)
    · exact absurd c34 (by decide)
    · refine Aj.iload_n C 0 dX9_readsOrder_37 rfl ?_
      refine Aj.if_ne (tgt := 65) C dX9_readsOrder_38 (by decide) (fun c38 => ?_) (fun c38 => ?_)
      · refine Aj.iconst C dX9_readsOrder_65 (by decide) ?_
        refine Aj.goto (tgt := 70) C dX9_readsOrder_66 (by decide) ?_
        refine Aj.pick (al2 := [(0, qa M), (1, qi (sgn P m i)), (2, qi tt)]) [1, 2, 0] rfl ?_
        exact J70 1 (⟨by omega, by unfold openP; omega⟩)
      · refine Aj.iload_n C 2 dX9_readsOrder_41 rfl ?_
        refine Aj.bipush C dX9_readsOrder_42 (by decide) (by decide) ?_
        refine Aj.icmp_eq (tgt := 65) C dX9_readsOrder_44 (by decide) (fun c44 => ?_) (fun c44 => ?_)
        · refine Aj.iconst C dX9_readsOrder_65 (by decide) ?_
          refine Aj.goto (tgt := 70) C dX9_readsOrder_66 (by decide) ?_
          refine Aj.pick (al2 := [(0, qa M), (1, qi (sgn P m i)), (2, qi tt)]) [1, 2, 0] rfl ?_
          exact J70 1 (⟨by omega, by unfold openP; omega⟩)
        · refine Aj.iload_n C 2 dX9_readsOrder_47 rfl ?_
          refine Aj.bipush C dX9_readsOrder_48 (by decide) (by decide) ?_
          refine Aj.icmp_eq (tgt := 65) C dX9_readsOrder_50 (by decide) (fun c50 => ?_) (fun c50 => ?_)
          · refine Aj.iconst C dX9_readsOrder_65 (by decide) ?_
            refine Aj.goto (tgt := 70) C dX9_readsOrder_66 (by decide) ?_
            refine Aj.pick (al2 := [(0, qa M), (1, qi (sgn P m i)), (2, qi tt)]) [1, 2, 0] rfl ?_
            exact J70 1 (⟨by omega, by unfold openP; omega⟩)
          · refine Aj.iload_n C 2 dX9_readsOrder_53 rfl ?_
            refine Aj.bipush C dX9_readsOrder_54 (by decide) (by decide) ?_
            refine Aj.icmp_eq (tgt := 65) C dX9_readsOrder_56 (by decide) (fun c56 => ?_) (fun c56 => ?_)
            · refine Aj.iconst C dX9_readsOrder_65 (by decide) ?_
              refine Aj.goto (tgt := 70) C dX9_readsOrder_66 (by decide) ?_
              refine Aj.pick (al2 := [(0, qa M), (1, qi (sgn P m i)), (2, qi tt)]) [1, 2, 0] rfl ?_
              exact J70 1 (⟨by omega, by unfold openP; omega⟩)
            · refine Aj.iload_n C 2 dX9_readsOrder_59 rfl ?_
              refine Aj.bipush C dX9_readsOrder_60 (by decide) (by decide) ?_
              refine Aj.icmp_ne (tgt := 69) C dX9_readsOrder_62 (by decide) (fun c62 => ?_) (fun c62 => ?_)
              · refine Aj.iconst C dX9_readsOrder_69 (by decide) ?_
                refine Aj.pick (al2 := [(0, qa M), (1, qi (sgn P m i)), (2, qi tt)]) [1, 2, 0] rfl ?_
                exact J70 0 (⟨by omega, by unfold openP; omega⟩)
              · refine Aj.iconst C dX9_readsOrder_65 (by decide) ?_
                refine Aj.goto (tgt := 70) C dX9_readsOrder_66 (by decide) ?_
                refine Aj.pick (al2 := [(0, qa M), (1, qi (sgn P m i)), (2, qi tt)]) [1, 2, 0] rfl ?_
                exact J70 1 (⟨by omega, by unfold openP; omega⟩)
  refine Aj.iload_n C 0 dX9_readsOrder_5 rfl ?_
  refine Aj.bipush C dX9_readsOrder_6 (by decide) (by decide) ?_
  refine Aj.icmp_eq (tgt := 23) C dX9_readsOrder_8 (by decide) (fun c8 => ?_) (fun c8 => ?_)
  · refine Aj.iconst C dX9_readsOrder_23 (by decide) ?_
    refine Aj.goto (tgt := 28) C dX9_readsOrder_24 (by decide) ?_
    refine Aj.pick (al2 := [(0, qa M), (1, qi (sgn P m i))]) [1, 0] rfl ?_
    exact J28 1 (⟨by omega, by omega⟩)
  · refine Aj.iload_n C 0 dX9_readsOrder_11 rfl ?_
    refine Aj.bipush C dX9_readsOrder_12 (by decide) (by decide) ?_
    refine Aj.icmp_eq (tgt := 23) C dX9_readsOrder_14 (by decide) (fun c14 => ?_) (fun c14 => ?_)
    · refine Aj.iconst C dX9_readsOrder_23 (by decide) ?_
      refine Aj.goto (tgt := 28) C dX9_readsOrder_24 (by decide) ?_
      refine Aj.pick (al2 := [(0, qa M), (1, qi (sgn P m i))]) [1, 0] rfl ?_
      exact J28 1 (⟨by omega, by omega⟩)
    · refine Aj.iload_n C 0 dX9_readsOrder_17 rfl ?_
      refine Aj.bipush C dX9_readsOrder_18 (by decide) (by decide) ?_
      refine Aj.icmp_ne (tgt := 27) C dX9_readsOrder_20 (by decide) (fun c20 => ?_) (fun c20 => ?_)
      · refine Aj.iconst C dX9_readsOrder_27 (by decide) ?_
        refine Aj.pick (al2 := [(0, qa M), (1, qi (sgn P m i))]) [1, 0] rfl ?_
        exact J28 0 (⟨by omega, by omega⟩)
      · refine Aj.iconst C dX9_readsOrder_23 (by decide) ?_
        refine Aj.goto (tgt := 28) C dX9_readsOrder_24 (by decide) ?_
        refine Aj.pick (al2 := [(0, qa M), (1, qi (sgn P m i))]) [1, 0] rfl ?_
        exact J28 1 (⟨by omega, by omega⟩)
