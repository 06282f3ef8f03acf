/-- a cell of the model's draft that nothing speaks of yet -/
def dr_free (D : Nat → Nat → Nat) (k : Nat) : Prop := (9 + 4 * D 0 4 ≤ k ∧ k < 57) ∨ (57 + D 0 5 ≤ k ∧ k < 67) ∨ (67 + 2 * D 0 6 ≤ k ∧ k < 79) ∨ (79 + 2 * D 0 7 ≤ k ∧ k < 91)
theorem dr_SM_free {z0 z : ds_St} {k : Nat} {hs : Bool} {Nm : Nat → List Nat} {D : Nat → Nat → Nat} (r : Int32) (h : dr_SM z0 hs Nm D z) (hd : dr_dok hs D) (hk : dr_free D k) : dr_SM z0 hs Nm D (ds_setI z 94 k r) := by
  obtain ⟨⟨c8, c0, ⟨c4, c5, c6, c7⟩, ci, cm, cw, cs⟩, cn, cg, c9, c10⟩ := h
  obtain ⟨d4, d5, d6, d7, _⟩ := hd
  have k9 : 9 ≤ k ∧ k < 91 := by unfold dr_free at hk; omega
  unfold dr_free at hk
  refine ⟨⟨dr_set94 c8 (by omega), fun q => ?_, ⟨dr_set94 c4 (by omega), dr_set94 c5 (by omega), dr_set94 c6 (by omega), dr_set94 c7 (by omega)⟩, fun i hi => ?_, fun i hi => ?_, fun i hi => ?_, fun i hi => ?_⟩, fun s hs => ?_, ?_, ?_, ?_⟩
  · obtain ⟨x0, x1, x2, x3⟩ := c0 q
    exact ⟨dr_set94 x0 (by omega), dr_set94 x1 (by omega), dr_set94 x2 (by omega), dr_set94 x3 (by omega)⟩
  · obtain ⟨x0, x1, x2, x3⟩ := ci i hi
    exact ⟨dr_set94 x0 (by omega), dr_set94 x1 (by omega), dr_set94 x2 (by omega), dr_set94 x3 (by omega)⟩
  · exact dr_set94 (cm i hi) (by omega)
  · obtain ⟨x0, x1⟩ := cw i hi
    exact ⟨dr_set94 x0 (by omega), dr_set94 x1 (by omega)⟩
  · obtain ⟨x0, x1⟩ := cs i hi
    exact ⟨dr_set94 x0 (by omega), dr_set94 x1 (by omega)⟩
  · exact ⟨dr_set94 (cn s hs).1 (by omega), fun j hj => dr_set94 ((cn s hs).2 j hj) (by omega)⟩
  · rw [ds_setI_row]; exact dr_gM_94 _ cg
  · rw [ds_setI_row, ds_rowI_ne _ _ (by decide)]; exact c9
  · rw [ds_setI_row, ds_rowI_ne _ _ (by decide)]; exact c10
theorem dr_SM_I {z0 z : ds_St} {k g r p : Nat} {Nm : Nat → List Nat} {D : Nat → Nat → Nat} (h : dr_SM z0 true Nm D z) (hd : dr_dok true D) (a0 : z.1 94 (9 + 4 * D 0 4) = nI k) (a1 : z.1 94 (9 + 4 * D 0 4 + 1) = nI g) (a2 : z.1 94 (9 + 4 * D 0 4 + 2) = nI r) (a3 : z.1 94 (9 + 4 * D 0 4 + 3) = nI p) (h12 : D 0 4 < 12) : dr_SM z0 true Nm (dr_addI D k g r p) (ds_setI z 94 4 (nI (D 0 4 + 1))) := by
  obtain ⟨⟨c8, c0, ⟨c4, c5, c6, c7⟩, ci, cm, cw, cs⟩, cn, cg, c9, c10⟩ := h
  obtain ⟨d4, d5, d6, d7, _⟩ := hd
  have hD4 : dr_addI D k g r p 0 4 = D 0 4 + 1 := by simp [dr_addI, dr_D1]
  have hD0 : ∀ j, j ≠ 4 → dr_addI D k g r p 0 j = D 0 j := by intro j hj; simp [dr_addI, dr_D1, hj]
  have hD1 : ∀ i, dr_addI D k g r p 1 i = if i = D 0 4 then k else D 1 i := by intro i; simp [dr_addI, dr_D1]
  have hD2 : ∀ i, dr_addI D k g r p 2 i = if i = D 0 4 then g else D 2 i := by intro i; simp [dr_addI, dr_D1]
  have hD3 : ∀ i, dr_addI D k g r p 3 i = if i = D 0 4 then r else D 3 i := by intro i; simp [dr_addI, dr_D1]
  have hDp : ∀ i, dr_addI D k g r p 4 i = if i = D 0 4 then p else D 4 i := by intro i; simp [dr_addI, dr_D1]
  have hDr : ∀ w i, 5 ≤ w → dr_addI D k g r p w i = D w i := by
    intro w i hw
    have h0 : ¬ w = 0 := by omega
    have h1 : ¬ w = 1 := by omega
    have h2 : ¬ w = 2 := by omega
    have h3 : ¬ w = 3 := by omega
    have h4 : ¬ w = 4 := by omega
    simp [dr_addI, dr_D1, h0, h1, h2, h3, h4]
  generalize dr_addI D k g r p = D' at *
  refine ⟨⟨dr_set94 c8 (by decide), fun q => ?_, ⟨by rw [hD4]; exact dr_set94s _ _ _, by rw [hD0 5 (by decide)]; exact dr_set94 c5 (by decide), by rw [hD0 6 (by decide)]; exact dr_set94 c6 (by decide), by rw [hD0 7 (by decide)]; exact dr_set94 c7 (by decide)⟩, fun i hi => ?_, fun i hi => ?_, fun i hi => ?_, fun i hi => ?_⟩, fun s hs => ?_, ?_, ?_, ?_⟩
  · rw [hD0 0 (by decide), hD0 1 (by decide), hD0 2 (by decide), hD0 3 (by decide)]
    obtain ⟨x0, x1, x2, x3⟩ := c0 q
    exact ⟨dr_set94 x0 (by decide), dr_set94 x1 (by decide), dr_set94 x2 (by decide), dr_set94 x3 (by decide)⟩
  · rw [hD4] at hi
    rw [hD1, hD2, hD3, hDp]
    by_cases q : i = D 0 4
    · rw [if_pos q, if_pos q, if_pos q, if_pos q, q]
      exact ⟨dr_set94 a0 (by omega), dr_set94 a1 (by omega), dr_set94 a2 (by omega), dr_set94 a3 (by omega)⟩
    · rw [if_neg q, if_neg q, if_neg q, if_neg q]
      obtain ⟨x0, x1, x2, x3⟩ := ci i (by omega)
      exact ⟨dr_set94 x0 (by omega), dr_set94 x1 (by omega), dr_set94 x2 (by omega), dr_set94 x3 (by omega)⟩
  · rw [hD0 5 (by decide)] at hi
    rw [hDr 5 i (by decide)]
    exact dr_set94 (cm i hi) (by omega)
  · rw [hD0 6 (by decide)] at hi
    rw [hDr 6 i (by decide), hDr 7 i (by decide)]
    obtain ⟨x0, x1⟩ := cw i hi
    exact ⟨dr_set94 x0 (by omega), dr_set94 x1 (by omega)⟩
  · rw [hD0 7 (by decide)] at hi
    rw [hDr 8 i (by decide), hDr 9 i (by decide)]
    obtain ⟨x0, x1⟩ := cs i hi
    exact ⟨dr_set94 x0 (by omega), dr_set94 x1 (by omega)⟩
  · exact ⟨dr_set94 (cn s hs).1 (by omega), fun j hj => dr_set94 ((cn s hs).2 j hj) (by omega)⟩
  · rw [ds_setI_row]; exact dr_gM_94 _ cg
  · rw [ds_setI_row, ds_rowI_ne _ _ (by decide)]; exact c9
  · rw [ds_setI_row, ds_rowI_ne _ _ (by decide)]; exact c10
theorem dr_SM_F {z0 z : ds_St} {m : Nat} {Nm : Nat → List Nat} {D : Nat → Nat → Nat} (h : dr_SM z0 true Nm D z) (hd : dr_dok true D) (a0 : z.1 94 (57 + D 0 5) = nI m) (h10 : D 0 5 < 10) : dr_SM z0 true Nm (dr_addF D m) (ds_setI z 94 5 (nI (D 0 5 + 1))) := by
  obtain ⟨⟨c8, c0, ⟨c4, c5, c6, c7⟩, ci, cm, cw, cs⟩, cn, cg, c9, c10⟩ := h
  obtain ⟨d4, d5, d6, d7, _⟩ := hd
  have hD5 : dr_addF D m 0 5 = D 0 5 + 1 := by simp [dr_addF, dr_D1]
  have hD0 : ∀ j, j ≠ 5 → dr_addF D m 0 j = D 0 j := by intro j hj; simp [dr_addF, dr_D1, hj]
  have hDm : ∀ i, dr_addF D m 5 i = if i = D 0 5 then m else D 5 i := by intro i; simp [dr_addF, dr_D1]
  have hDr : ∀ w i, w ≠ 0 → w ≠ 5 → dr_addF D m w i = D w i := by intro w i h0 h5; simp [dr_addF, dr_D1, h0, h5]
  generalize dr_addF D m = D' at *
  refine ⟨⟨dr_set94 c8 (by decide), fun q => ?_, ⟨by rw [hD0 4 (by decide)]; exact dr_set94 c4 (by decide), by rw [hD5]; exact dr_set94s _ _ _, by rw [hD0 6 (by decide)]; exact dr_set94 c6 (by decide), by rw [hD0 7 (by decide)]; exact dr_set94 c7 (by decide)⟩, fun i hi => ?_, fun i hi => ?_, fun i hi => ?_, fun i hi => ?_⟩, fun s hs => ?_, ?_, ?_, ?_⟩
  · rw [hD0 0 (by decide), hD0 1 (by decide), hD0 2 (by decide), hD0 3 (by decide)]
    obtain ⟨x0, x1, x2, x3⟩ := c0 q
    exact ⟨dr_set94 x0 (by decide), dr_set94 x1 (by decide), dr_set94 x2 (by decide), dr_set94 x3 (by decide)⟩
  · rw [hD0 4 (by decide)] at hi
    rw [hDr 1 i (by decide) (by decide), hDr 2 i (by decide) (by decide), hDr 3 i (by decide) (by decide), hDr 4 i (by decide) (by decide)]
    obtain ⟨x0, x1, x2, x3⟩ := ci i hi
    exact ⟨dr_set94 x0 (by omega), dr_set94 x1 (by omega), dr_set94 x2 (by omega), dr_set94 x3 (by omega)⟩
  · rw [hD5] at hi
    rw [hDm]
    by_cases q : i = D 0 5
    · rw [if_pos q, q]; exact dr_set94 a0 (by omega)
    · rw [if_neg q]; exact dr_set94 (cm i (by omega)) (by omega)
  · rw [hD0 6 (by decide)] at hi
    rw [hDr 6 i (by decide) (by decide), hDr 7 i (by decide) (by decide)]
    obtain ⟨x0, x1⟩ := cw i hi
    exact ⟨dr_set94 x0 (by omega), dr_set94 x1 (by omega)⟩
  · rw [hD0 7 (by decide)] at hi
    rw [hDr 8 i (by decide) (by decide), hDr 9 i (by decide) (by decide)]
    obtain ⟨x0, x1⟩ := cs i hi
    exact ⟨dr_set94 x0 (by omega), dr_set94 x1 (by omega)⟩
  · exact ⟨dr_set94 (cn s hs).1 (by omega), fun j hj => dr_set94 ((cn s hs).2 j hj) (by omega)⟩
  · rw [ds_setI_row]; exact dr_gM_94 _ cg
  · rw [ds_setI_row, ds_rowI_ne _ _ (by decide)]; exact c9
  · rw [ds_setI_row, ds_rowI_ne _ _ (by decide)]; exact c10
theorem dr_wC {i : Int32} {m : Nat} {a : Option ds_Out} {Q : Option Value → ds_St → Prop} (h : ds_chk i m a = a) (g : dr_w a Q) : dr_w (ds_chk i m a) Q := by
  rw [h]
  exact g
theorem s_islandLine (d : Nat) (z0 z : ds_St) (B : Nat → Nat) (n e : Nat) (Nm : Nat → List Nat) (D : Nat → Nat → Nat) (hO : dr_OM z B n e) (hS : dr_SM z0 true Nm D z) (hd : dr_dok true D) (hn : dr_nok D Nm) (h12 : D 0 4 < 12) : ∃ z', ds_call (d + 6) j_Mod_islandLine [.ref 90] z = some (none, z') ∧ dr_postM z0 B n (dr_isl B n e Nm D) z' := by
  have hw := hd.2.2.1
  have c4 := hS.1.2.2.1.1
  have ef : nI 9 + nI 4 * nI (D 0 4) = nI (9 + 4 * D 0 4) := by rw [pk_mul, nI_add]
  generalize hF : 9 + 4 * D 0 4 = F at *
  have Fb : F + 3 < 57 := by omega
  have fr : ∀ j, j < 4 → dr_free D (F + j) := fun j hj => .inl ⟨by omega, by omega⟩
  have X76 : ∀ (y : ds_St) (v a : Nat), dr_XM z0 v a y → dr_w (ds_Rw ds_c_Mod_islandLine ds_u_Mod_islandLine (ds_call (d + 5)) 76 [some (.ref 90), some (.int (nI F))] [] y) (fun w z' => w = none ∧ dr_XM z0 v a z') := by
    intro y v a X
    rw [b_Mod_islandLine_76]
    simp only [dl_0, dl_1, dl_2, dl_3, dl_9, dl_99, nI_add]
    refine dr_wI (s_after_x (d + 3) 328 (nI 1) (nI 9) y X.1) ?_
    rw [nI_clamp (by omega), nI_clamp (by omega)]
    refine dr_wC (ds_chkN (by omega) (by decide)) ?_
    have X1 := dr_XM_set (k := F + 2) (nI 1) X (by omega)
    refine dr_wI (s_after_x (d + 3) 329 (nI 0) (nI 99) _ X1.1) ?_
    refine dr_wC (ds_chkN (by omega) (by decide)) ?_
    refine dr_wT (dr_XM_ne X1) ?_
    exact dr_wR ⟨rfl, dr_XM_set _ X1 (by omega)⟩
  have X57 : ∀ (y : ds_St) (v a : Nat), dr_XM z0 v a y → dr_w (ds_Rw ds_c_Mod_islandLine ds_u_Mod_islandLine (ds_call (d + 5)) 57 [some (.ref 90), some (.int (nI F))] [] y) (fun w z' => w = none ∧ dr_XM z0 v a z') := by
    intro y v a X
    rw [b_Mod_islandLine_57]
    exact dr_wT (dr_XM_ne X) (X76 y v a X)
  have X76b : ∀ (y : ds_St) (v a : Nat), dr_XM z0 v a y → dr_w (ds_cI (ds_call (d + 5)) j_Mod_after [.ref 90, .ref 329, .int (nI 0), .int (nI 99)] y fun r2 z2 => ds_chk (nI (F + 3)) 289 (if ¬ (z2.1 90 13) = nI 0 then some (none, (ds_setI z2 94 (F + 3) r2)) else some (none, (ds_setI (ds_setI z2 94 (F + 3) r2) 94 4 (((ds_setI z2 94 (F + 3) r2).1 94 4) + nI 1))))) (fun w z' => w = none ∧ dr_XM z0 v a z') := by
    intro y v a X
    refine dr_wI (s_after_x (d + 3) 329 (nI 0) (nI 99) _ X.1) ?_
    refine dr_wC (ds_chkN (by omega) (by decide)) ?_
    refine dr_wT (dr_XM_ne X) ?_
    exact dr_wR ⟨rfl, dr_XM_set _ X (by omega)⟩
  apply dr_wc (c_Mod_islandLine _ _ _)
  rw [b_Mod_islandLine_0, c4]
  simp only [dl_0, dl_1, dl_2, dl_3, dl_4, dl_9, ef]
  rw [nI_clamp (by omega)]
  refine dr_wT hO.1.1 ?_
  unfold dr_isl
  obtain ⟨na, nb, nc⟩ := s_newName (d + 2) (D 0 4) z z0 true B n e Nm D hO hS hn hw hd.2.2.2.1 (by omega)
  unfold dr_pNew
  cases q : dr_isn B n e
  · refine dr_wV (na q) ?_
    have X := dr_XM_zw (v := 1) (a := dr_at B n e) hS hw
    exact dr_wT (dr_XM_ne X) (X57 _ _ _ X)
  · cases qh : dr_has Nm (dr_wl B n e)
    · obtain ⟨z1, w1, O1, S1⟩ := nc q qh
      refine dr_wV w1 ?_
      refine dr_wF (fun q => q O1.1.1) ?_
      simp only [↓reduceIte, Bool.false_eq_true]
      generalize dr_Nm Nm (D 0 4) (dr_wl B n e) = Nm' at *
      generalize dr_nx B n e = e1 at *
      obtain ⟨g1, g2⟩ := s_oneOf (d + 2) 325 326 327 320 z1 B n e1 O1 (by decide) (by decide) (by decide) (by decide)
      rw [dr_on4_306 O1.2.1] at g1 g2
      cases q1 : dr_on B n e1 306 with
      | none =>
        rw [dr_pOne_n q1]
        refine dr_wI (g2 q1) ?_
        refine dr_wC (ds_chkN (by omega) (by decide)) ?_
        have X := dr_XM_zw (v := 1) (a := dr_at B n e1) S1 hw
        exact X57 _ _ _ (dr_XM_set _ X (by omega))
      | some k =>
        rw [dr_pOne_s q1]
        obtain ⟨z2, w2, O2, f2⟩ := g1 k q1
        refine dr_wI w2 ?_
        refine dr_wC (ds_chkN (by omega) (by decide)) ?_
        have S2 := dr_SM_free (nI k) (dr_SM_g1 S1 f2) hd (fr 0 (by decide))
        have O2' := dr_OM_set (F + 0) (nI k) O2
        have t0 := dr_set94s z2 (F + 0) (nI k)
        rw [Nat.add_zero] at S2 O2' t0
        generalize dr_nx B n e1 = e2 at *
        generalize ds_setI z2 94 F (nI k) = y2 at *
        rw [b_Mod_islandLine_57]
        simp only [dl_0, dl_1, nI_add]
        rw [nI_clamp (by omega)]
        refine dr_wF (fun q => q O2'.1.1) ?_
        obtain ⟨g3, g4⟩ := s_oneOf (d + 1) 314 315 316 317 y2 B n e2 O2' (by decide) (by decide) (by decide) (by decide)
        rw [dr_on4_304] at g3 g4
        cases q2 : dr_on B n e2 304 with
        | none =>
          rw [dr_pOne_n q2]
          have gp : ds_call (d + 5) j_Mod_goodPassed [.ref 90] y2 = some (some (.int ds_m1), dr_zw y2 1 (dr_at B n e2)) := by
            have g := g4 q2
            generalize dr_zw y2 1 (dr_at B n e2) = y at *
            rw [c_Mod_goodPassed, b_Mod_goodPassed_0]
            simp (disch := first | assumption | omega) only [ds_cI, ds_cV, ds_cL, ds_cR, ds_nn, ds_isK_t, ds_isA_t, ds_chk_t, ds_chkN, ds_nz_t, ds_nzN, ds_isB_t, ds_isB_bo, ↓dl_m1, ↓dl_m2, dl_0, dl_1, dl_2, dl_3, dl_4, dl_5, dl_6, dl_7, dl_8, dl_9, dl_10, dl_11, dl_12, dl_13, dl_14, dl_15, dl_16, dl_20, dl_24, dl_31, dl_50, dl_57, dl_67, dl_68, dl_74, dl_75, dl_79, dl_80, dl_99, dl_100, dl_200, dl_210, dl_224, dl_255, dl_289, dl_900, dl_1000, dl_1728, dl_65536, dl_65537, nI_add, pk_mul, pk_sub, pk_div, pk_rem, ds_rem2, nI_clamp, nI_leI, nI_ltI, nI_eq, ds_m1_eq, ds_eq_m1, ds_m2_eq, ds_eq_m2, ds_m1_le, ds_le_m1, ds_m1_lt, ds_lt_m1, ds_in_N, ds_bo0, ds_bo1, if_pos, if_neg, Nat.not_le, Nat.not_lt, not_true_eq_false, not_false_eq_true, if_true, if_false, ne_eq, Option.some.injEq, Prod.mk.injEq, Value.int.injEq, true_and, and_true, and_self, ite_self, Bool.not_eq_true, Bool.not_eq_false, Bool.true_eq_false, Bool.false_eq_true, reduceCtorEq, Nat.zero_add, Nat.reduceAdd, Nat.reduceMul, Nat.reduceSub, ds_setI_row, ds_setL_row, ds_rowI_self, ds_rowI_ne, ds_rowI_2, ds_rowI_rowI, ds_setS_1, ds_setS_21, ds_setS_self, ds_setS_ne, pk_us, pk_un, g]
          refine dr_wI gp ?_
          refine dr_wC (ds_chkN (by omega) (by decide)) ?_
          have X := dr_XM_zw (v := 1) (a := dr_at B n e2) S2 hw
          exact X76 _ _ _ (dr_XM_set _ X (by omega))
        | some g =>
          rw [dr_pOne_s q2]
          obtain ⟨z3, w3, O3, f3⟩ := g3 g q2
          have gp : ds_call (d + 5) j_Mod_goodPassed [.ref 90] y2 = some (some (.int (nI g)), z3) := by
            rw [c_Mod_goodPassed, b_Mod_goodPassed_0]
            simp (disch := first | assumption | omega) only [ds_cI, ds_cV, ds_cL, ds_cR, ds_nn, ds_isK_t, ds_isA_t, ds_chk_t, ds_chkN, ds_nz_t, ds_nzN, ds_isB_t, ds_isB_bo, ↓dl_m1, ↓dl_m2, dl_0, dl_1, dl_2, dl_3, dl_4, dl_5, dl_6, dl_7, dl_8, dl_9, dl_10, dl_11, dl_12, dl_13, dl_14, dl_15, dl_16, dl_20, dl_24, dl_31, dl_50, dl_57, dl_67, dl_68, dl_74, dl_75, dl_79, dl_80, dl_99, dl_100, dl_200, dl_210, dl_224, dl_255, dl_289, dl_900, dl_1000, dl_1728, dl_65536, dl_65537, nI_add, pk_mul, pk_sub, pk_div, pk_rem, ds_rem2, nI_clamp, nI_leI, nI_ltI, nI_eq, ds_m1_eq, ds_eq_m1, ds_m2_eq, ds_eq_m2, ds_m1_le, ds_le_m1, ds_m1_lt, ds_lt_m1, ds_in_N, ds_bo0, ds_bo1, if_pos, if_neg, Nat.not_le, Nat.not_lt, not_true_eq_false, not_false_eq_true, if_true, if_false, ne_eq, Option.some.injEq, Prod.mk.injEq, Value.int.injEq, true_and, and_true, and_self, ite_self, Bool.not_eq_true, Bool.not_eq_false, Bool.true_eq_false, Bool.false_eq_true, reduceCtorEq, Nat.zero_add, Nat.reduceAdd, Nat.reduceMul, Nat.reduceSub, ds_setI_row, ds_setL_row, ds_rowI_self, ds_rowI_ne, ds_rowI_2, ds_rowI_rowI, ds_setS_1, ds_setS_21, ds_setS_self, ds_setS_ne, pk_us, pk_un, w3]
          refine dr_wI gp ?_
          refine dr_wC (ds_chkN (by omega) (by decide)) ?_
          have S3 := dr_SM_free (nI g) (dr_SM_g1 S2 f3) hd (fr 1 (by decide))
          have O3' := dr_OM_set (F + 1) (nI g) O3
          have t0' := dr_set94 (k := F + 1) (v := nI g) (dr_row94_g1 t0 f3) (by omega)
          have t1 := dr_set94s z3 (F + 1) (nI g)
          generalize dr_nx B n e2 = e3 at *
          generalize ds_setI z3 94 (F + 1) (nI g) = y3 at *
          rw [b_Mod_islandLine_76]
          simp only [dl_0, dl_1, dl_2, dl_3, dl_9, dl_99, nI_add]
          rw [nI_clamp (by omega), nI_clamp (by omega)]
          obtain ⟨a1, b1⟩ := s_after d 328 1 9 y3 B n e3 O3' (by decide) (by decide) (by decide) (by decide)
          have on1 : dr_on B n e3 307 = if dr_is B n e3 328 = true then some 0 else none := dr_on_1 rfl
          cases q3 : dr_is B n e3 328
          · rw [q3] at on1
            rw [dr_pOne_n on1]
            refine dr_wI (a1 q3) ?_
            refine dr_wC (ds_chkN (by omega) (by decide)) ?_
            have X := dr_XM_zw (v := 1) (a := dr_at B n e3) S3 hw
            exact X76b _ _ _ (dr_XM_set _ X (by omega))
          · rw [q3] at on1
            rw [dr_pOne_s on1]
            obtain ⟨z4, O4, f4, c1, c2⟩ := b1 q3
            have S4 := dr_SM_g1 S3 f4
            generalize dr_nx B n e3 = e4 at *
            by_cases q4 : dr_nu B n e4 1 9 = 0
            · rw [dr_pNum_s q4]
              obtain ⟨z5, w5, O5, f5⟩ := c2 q4
              refine dr_wI w5 ?_
              refine dr_wC (ds_chkN (by omega) (by decide)) ?_
              have S5 := dr_SM_free (nI (dr_wh B n e4)) (dr_SM_g1 S3 f5) hd (fr 2 (by decide))
              have O5' := dr_OM_set (F + 2) (nI (dr_wh B n e4)) O5
              have u0 := dr_set94 (k := F + 2) (v := nI (dr_wh B n e4)) (dr_row94_g1 t0' f5) (by omega)
              have u1 := dr_set94 (k := F + 2) (v := nI (dr_wh B n e4)) (dr_row94_g1 t1 f5) (by omega)
              have u2 := dr_set94s z5 (F + 2) (nI (dr_wh B n e4))
              generalize dr_wh B n e4 = R at *
              generalize dr_nx B n e4 = e5 at *
              generalize ds_setI z5 94 (F + 2) (nI R) = y5 at *
              obtain ⟨a2, b2⟩ := s_after d 329 0 99 y5 B n e5 O5' (by decide) (by decide) (by decide) (by decide)
              have on2 : dr_on B n e5 308 = if dr_is B n e5 329 = true then some 0 else none := dr_on_1 rfl
              cases q5 : dr_is B n e5 329
              · rw [q5] at on2
                rw [dr_pOne_n on2]
                refine dr_wI (a2 q5) ?_
                refine dr_wC (ds_chkN (by omega) (by decide)) ?_
                have X := dr_XM_zw (v := 1) (a := dr_at B n e5) S5 hw
                refine dr_wT (dr_XM_ne X) ?_
                exact dr_wR ⟨rfl, dr_XM_set _ X (by omega)⟩
              · rw [q5] at on2
                rw [dr_pOne_s on2]
                obtain ⟨z6, O6, f6, c3, c4'⟩ := b2 q5
                have S6 := dr_SM_g1 S5 f6
                generalize dr_nx B n e5 = e6 at *
                by_cases q6 : dr_nu B n e6 0 99 = 0
                · rw [dr_pNum_s q6]
                  obtain ⟨z7, w7, O7, f7⟩ := c4' q6
                  refine dr_wI w7 ?_
                  refine dr_wC (ds_chkN (by omega) (by decide)) ?_
                  refine dr_wF (fun q => q O7.1.1) ?_
                  have S7 := dr_SM_free (nI (dr_wh B n e6)) (dr_SM_g1 S5 f7) hd (fr 3 (by decide))
                  have O7' := dr_OM_set (F + 3) (nI (dr_wh B n e6)) O7
                  have v0 := dr_set94 (k := F + 3) (v := nI (dr_wh B n e6)) (dr_row94_g1 u0 f7) (by omega)
                  have v1 := dr_set94 (k := F + 3) (v := nI (dr_wh B n e6)) (dr_row94_g1 u1 f7) (by omega)
                  have v2 := dr_set94 (k := F + 3) (v := nI (dr_wh B n e6)) (dr_row94_g1 u2 f7) (by omega)
                  have v3 := dr_set94s z7 (F + 3) (nI (dr_wh B n e6))
                  generalize dr_wh B n e6 = P at *
                  generalize ds_setI z7 94 (F + 3) (nI P) = y7 at *
                  rw [S7.1.2.2.1.1, nI_add]
                  subst hF
                  exact dr_wR ⟨rfl, dr_OM_set 4 _ O7', dr_SM_I S7 hd v0 v1 v2 v3 h12⟩
                · rw [dr_pNum_n q6]
                  refine dr_wI (c3 q6) ?_
                  refine dr_wC (ds_chkN (by omega) (by decide)) ?_
                  have X := dr_XM_zw (v := dr_nu B n e6 0 99) (a := dr_at B n e6) S6 hw
                  refine dr_wT (dr_XM_ne X) ?_
                  exact dr_wR ⟨rfl, dr_XM_set _ X (by omega)⟩
            · rw [dr_pNum_n q4]
              refine dr_wI (c1 q4) ?_
              refine dr_wC (ds_chkN (by omega) (by decide)) ?_
              have X := dr_XM_zw (v := dr_nu B n e4 1 9) (a := dr_at B n e4) S4 hw
              exact X76b _ _ _ (dr_XM_set _ X (by omega))
    · refine dr_wV (nb q qh) ?_
      have X := dr_XM_zw (v := 3) (a := dr_at B n e) hS hw
      exact dr_wT (dr_XM_ne X) (X57 _ _ _ X)
theorem s_familyLine (d : Nat) (z0 z : ds_St) (B : Nat → Nat) (n e : Nat) (Nm : Nat → List Nat) (D : Nat → Nat → Nat) (hO : dr_OM z B n e) (hS : dr_SM z0 true Nm D z) (hd : dr_dok true D) (hn : dr_nok D Nm) (h10 : D 0 5 < 10) : ∃ z', ds_call (d + 6) j_Mod_familyLine [.ref 90] z = some (none, z') ∧ dr_postM z0 B n (dr_fam B n e Nm D) z' := by
  have hw := hd.2.2.1
  have c5 := hS.1.2.2.1.2.1
  have X84 : ∀ (r : Int32) (y : ds_St) (v a : Nat), dr_XM z0 v a y → dr_w (ds_Rw ds_c_Mod_familyLine ds_u_Mod_familyLine (ds_call (d + 5)) 84 [some (.ref 90), some (.int (nI ((57 + D 0 5)))), none, none] [.int r] y) (fun w z' => w = none ∧ dr_XM z0 v a z') := by
    intro r y v a X
    rw [b_Mod_familyLine_84]
    exact dr_wF (dr_XM_ne X) (dr_wR ⟨rfl, X⟩)
  have X58 : ∀ (r : Int32) (y : ds_St) (v a : Nat), dr_XM z0 v a y → dr_w (ds_Rw ds_c_Mod_familyLine ds_u_Mod_familyLine (ds_call (d + 5)) 58 [some (.ref 90), some (.int (nI ((57 + D 0 5)))), none, none] [.int r] y) (fun w z' => w = none ∧ dr_XM z0 v a z') := by
    intro r y v a X
    rw [b_Mod_familyLine_58]
    refine dr_wT (dr_XM_ne X) ?_
    rw [b_Mod_familyLine_83]
    exact X84 r y v a X
  have ok84 : ∀ (m e' : Nat) (y : ds_St) (Nm' : Nat → List Nat), dr_OM y B n e' → dr_SM z0 true Nm' D y → dr_w (ds_Rw ds_c_Mod_familyLine ds_u_Mod_familyLine (ds_call (d + 5)) 84 [some (.ref 90), some (.int (nI ((57 + D 0 5)))), none, none] [.int (nI m)] y) (fun w z' => w = none ∧ dr_OM z' B n e' ∧ dr_SM z0 true Nm' (dr_addF D m) z') := by
    intro m e' y Nm' O S
    rw [b_Mod_familyLine_84]
    refine dr_wT O.1.1 ?_
    rw [nI_clamp (by omega)]
    refine dr_wC (ds_chkN (by omega) (by decide)) ?_
    have S1 := dr_SM_free (k := 57 + D 0 5) (nI m) S hd (.inr (.inl ⟨Nat.le_refl _, by omega⟩))
    have O1 := dr_OM_set (57 + D 0 5) (nI m) O
    have t := dr_set94s y (57 + D 0 5) (nI m)
    generalize ds_setI y 94 (57 + D 0 5) (nI m) = y1 at *
    rw [S1.1.2.2.1.2.1, dl_1, nI_add]
    exact dr_wR ⟨rfl, dr_OM_set 5 _ O1, dr_SM_F S1 hd t h10⟩
  apply dr_wc (c_Mod_familyLine _ _ _)
  rw [b_Mod_familyLine_0, c5]
  simp only [dl_0, dl_12, dl_57, nI_add]
  refine dr_wT hO.1.1 ?_
  unfold dr_fam
  obtain ⟨na, nb, nc⟩ := s_newName (d + 2) (12 + D 0 5) z z0 true B n e Nm D hO hS hn hw hd.2.2.2.1 (by omega)
  unfold dr_pNew
  cases q : dr_isn B n e
  · refine dr_wV (na q) ?_
    have X := dr_XM_zw (v := 1) (a := dr_at B n e) hS hw
    exact dr_wF (dr_XM_ne X) (X58 _ _ _ _ X)
  · cases qh : dr_has Nm (dr_wl B n e)
    · obtain ⟨z1, w1, O1, S1⟩ := nc q qh
      refine dr_wV w1 ?_
      refine dr_wT O1.1.1 ?_
      simp only [↓reduceIte, Bool.false_eq_true]
      generalize dr_Nm Nm (12 + D 0 5) (dr_wl B n e) = Nm' at *
      generalize dr_nx B n e = e1 at *
      obtain ⟨g1, g2⟩ := s_oneOf (d + 2) 330 331 332 333 z1 B n e1 O1 (by decide) (by decide) (by decide) (by decide)
      rw [dr_on4_309] at g1 g2
      cases q1 : dr_on B n e1 309 with
      | none =>
        rw [dr_pOne_n q1]
        refine dr_wI (g2 q1) ?_
        have X := dr_XM_zw (v := 1) (a := dr_at B n e1) S1 hw
        exact X58 _ _ _ _ X
      | some k =>
        rw [dr_pOne_s q1]
        have k4 : k < 4 := dr_on_lt q1
        obtain ⟨z2, w2, O2, f2⟩ := g1 k q1
        have S2 := dr_SM_g1 S1 f2
        refine dr_wI w2 ?_
        generalize dr_nx B n e1 = e2 at *
        rw [b_Mod_familyLine_58]
        refine dr_wF (fun q => q O2.1.1) ?_
        by_cases q2 : k ≤ 2
        · rw [if_pos q2]
          refine dr_wT (by show ¬ nI k = nI 3; rw [nI_eq (by omega) (by decide)]; omega) ?_
          rw [b_Mod_familyLine_83]
          exact ok84 k e2 z2 Nm' O2 S2
        · rw [if_neg q2]
          have k3 : k = 3 := by omega
          subst k3
          refine dr_wF (fun q => q rfl) ?_
          obtain ⟨a1, b1⟩ := s_number (d + 2) 1 11 z2 B n e2 O2 (by decide) (by decide)
          by_cases q3 : dr_nu B n e2 1 11 = 0
          · rw [dr_pNum_s q3]
            obtain ⟨z3, w3, O3, f3⟩ := a1 q3
            refine dr_wI w3 ?_
            rw [dl_2, nI_add]
            exact ok84 _ _ z3 Nm' O3 (dr_SM_g1 S2 f3)
          · rw [dr_pNum_n q3]
            refine dr_wI (b1 q3) ?_
            have X := dr_XM_zw (v := dr_nu B n e2 1 11) (a := dr_at B n e2) S2 hw
            exact X84 _ _ _ _ X
    · refine dr_wV (nb q qh) ?_
      have X := dr_XM_zw (v := 3) (a := dr_at B n e) hS hw
      exact dr_wF (dr_XM_ne X) (X58 _ _ _ _ X)
