/-! the model reads lines -/
def dr_postM (z0 : ds_St) (B : Nat → Nat) (n : Nat) (r : dr_Rs) (z : ds_St) : Prop := match r with
  | .inl q => dr_XM z0 q.1 q.2 z
  | .inr s => dr_OM z B n s.1 ∧ dr_SM z0 true s.2.1 s.2.2 z
theorem dr_XM_ne {z0 z : ds_St} {v a : Nat} (h : dr_XM z0 v a z) : ¬ z.1 90 13 = nI 0 := by
  rw [h.1]
  decide
theorem dr_SM_set0 {z0 z : ds_St} {k : Nat} {Nm : Nat → List Nat} {D : Nat → Nat → Nat} (r : Int32) (h : dr_SM z0 false Nm D z) (hk : k < 4) (h4 : D 0 4 = 0) (h5 : D 0 5 = 0) (h6 : D 0 6 = 0) (h7 : D 0 7 = 0) : dr_SM z0 false Nm D (ds_setI z 94 k r) := by
  obtain ⟨⟨c8, c0, ⟨c4, c5, c6, c7⟩, ci, cm, cw, cs⟩, cn, cg, c9, c10⟩ := h
  rw [ds_setI_row]
  refine ⟨⟨?_, fun q => absurd q (by decide), ⟨?_, ?_, ?_, ?_⟩, fun i hi => by omega, fun i hi => by omega, fun i hi => by omega, fun i hi => by omega⟩, fun s hs => ?_, dr_gM_94 _ cg, ?_, ?_⟩
  · rw [ds_rowI_self, pk_un (by omega)]; exact c8
  · rw [ds_rowI_self, pk_un (by omega)]; exact c4
  · rw [ds_rowI_self, pk_un (by omega)]; exact c5
  · rw [ds_rowI_self, pk_un (by omega)]; exact c6
  · rw [ds_rowI_self, pk_un (by omega)]; exact c7
  · rw [ds_rowI_self, pk_un (by omega)]
    refine ⟨(cn s hs).1, fun j hj => ?_⟩
    rw [pk_un (by omega)]
    exact (cn s hs).2 j hj
  · rw [ds_rowI_ne _ _ (by decide)]; exact c9
  · rw [ds_rowI_ne _ _ (by decide)]; exact c10
theorem dr_set94 {z : ds_St} {k f : Nat} {v x : Int32} (h : z.1 94 f = x) (hk : f ≠ k) : (ds_setI z 94 k v).1 94 f = x := by
  rw [ds_setI_row, ds_rowI_self, pk_un hk]
  exact h
theorem dr_set94s (z : ds_St) (k : Nat) (v : Int32) : (ds_setI z 94 k v).1 94 k = v := by
  rw [ds_setI_row, ds_rowI_self, pk_us]
theorem dr_SM_sea {z0 z : ds_St} {w h g s : Nat} {Nm : Nat → List Nat} {D : Nat → Nat → Nat} (hS : dr_SM z0 false Nm D z) (a0 : z.1 94 0 = nI w) (a1 : z.1 94 1 = nI h) (a2 : z.1 94 2 = nI g) (a3 : z.1 94 3 = nI s) (h4 : D 0 4 = 0) (h5 : D 0 5 = 0) (h6 : D 0 6 = 0) (h7 : D 0 7 = 0) : dr_SM z0 true Nm (dr_D1 (dr_D1 (dr_D1 (dr_D1 D 0 0 w) 0 1 h) 0 2 g) 0 3 s) (ds_setI z 94 8 (nI 1)) := by
  have e0 : dr_D1 (dr_D1 (dr_D1 (dr_D1 D 0 0 w) 0 1 h) 0 2 g) 0 3 s 0 0 = w := by simp [dr_D1]
  have e1 : dr_D1 (dr_D1 (dr_D1 (dr_D1 D 0 0 w) 0 1 h) 0 2 g) 0 3 s 0 1 = h := by simp [dr_D1]
  have e2 : dr_D1 (dr_D1 (dr_D1 (dr_D1 D 0 0 w) 0 1 h) 0 2 g) 0 3 s 0 2 = g := by simp [dr_D1]
  have e3 : dr_D1 (dr_D1 (dr_D1 (dr_D1 D 0 0 w) 0 1 h) 0 2 g) 0 3 s 0 3 = s := by simp [dr_D1]
  have e4 : dr_D1 (dr_D1 (dr_D1 (dr_D1 D 0 0 w) 0 1 h) 0 2 g) 0 3 s 0 4 = D 0 4 := by simp [dr_D1]
  have e5 : dr_D1 (dr_D1 (dr_D1 (dr_D1 D 0 0 w) 0 1 h) 0 2 g) 0 3 s 0 5 = D 0 5 := by simp [dr_D1]
  have e6 : dr_D1 (dr_D1 (dr_D1 (dr_D1 D 0 0 w) 0 1 h) 0 2 g) 0 3 s 0 6 = D 0 6 := by simp [dr_D1]
  have e7 : dr_D1 (dr_D1 (dr_D1 (dr_D1 D 0 0 w) 0 1 h) 0 2 g) 0 3 s 0 7 = D 0 7 := by simp [dr_D1]
  generalize dr_D1 (dr_D1 (dr_D1 (dr_D1 D 0 0 w) 0 1 h) 0 2 g) 0 3 s = D' at *
  obtain ⟨⟨c8, c0, ⟨c4, c5, c6, c7⟩, ci, cm, cw, cs⟩, cn, cg, c9, c10⟩ := hS
  refine ⟨⟨dr_set94s _ _ _, fun _ => ⟨?_, ?_, ?_, ?_⟩, ⟨?_, ?_, ?_, ?_⟩, fun i hi => by omega, fun i hi => by omega, fun i hi => by omega, fun i hi => by omega⟩, fun s hs => ?_, ?_, ?_, ?_⟩
  · rw [e0]; exact dr_set94 a0 (by decide)
  · rw [e1]; exact dr_set94 a1 (by decide)
  · rw [e2]; exact dr_set94 a2 (by decide)
  · rw [e3]; exact dr_set94 a3 (by decide)
  · rw [e4]; exact dr_set94 c4 (by decide)
  · rw [e5]; exact dr_set94 c5 (by decide)
  · rw [e6]; exact dr_set94 c6 (by decide)
  · rw [e7]; exact dr_set94 c7 (by decide)
  · exact ⟨dr_set94 (cn s hs).1 (by omega), fun j hj => dr_set94 ((cn s hs).2 j hj) (by omega)⟩
  · rw [ds_setI_row]; exact dr_gM_94 _ cg
  · rw [ds_setI_row, ds_rowI_ne _ _ (by decide)]; exact c9
  · rw [ds_setI_row, ds_rowI_ne _ _ (by decide)]; exact c10
theorem dr_row94_g1 {z z' : ds_St} {k : Nat} {x : Int32} (h : z.1 94 k = x) (hf : dr_g1 z z') : z'.1 94 k = x := by
  rw [hf.1 94 (by decide) (by decide)]
  exact h
theorem s_seaLine (d : Nat) (z0 z : ds_St) (B : Nat → Nat) (n e : Nat) (Nm : Nat → List Nat) (D : Nat → Nat → Nat) (hO : dr_OM z B n e) (hS : dr_SM z0 false Nm D z) (h4 : D 0 4 = 0) (h5 : D 0 5 = 0) (h6 : D 0 6 = 0) (h7 : D 0 7 = 0) : ∃ z', ds_call (d + 6) j_Mod_seaLine [.ref 90] z = some (none, z') ∧ dr_postM z0 B n (dr_sea B n (dr_nx B n e) Nm D) z' := by
  have hw : D 0 6 ≤ 6 := by omega
  have T108 : ∀ (y : ds_St) (v a : Nat), dr_XM z0 v a y → dr_w (ds_Rw ds_c_Mod_seaLine ds_u_Mod_seaLine (ds_call (d + 5)) 108 [some (.ref 90)] [] y) (fun w z' => w = none ∧ dr_XM z0 v a z') := by
    intro y v a X
    rw [b_Mod_seaLine_108]
    exact dr_wT (dr_XM_ne X) (dr_wR ⟨rfl, X⟩)
  have T83 : ∀ (y : ds_St) (v a : Nat), dr_XM z0 v a y → dr_w (ds_Rw ds_c_Mod_seaLine ds_u_Mod_seaLine (ds_call (d + 5)) 83 [some (.ref 90)] [] y) (fun w z' => w = none ∧ dr_XM z0 v a z') := by
    intro y v a X
    rw [b_Mod_seaLine_83]
    exact dr_wT (dr_XM_ne X) (T108 y v a X)
  have T4 : ∀ (y : ds_St) (v a : Nat), dr_XM z0 v a y → dr_w (ds_cV (ds_call (d + 5)) j_Mod_must [.ref 90, .ref 313] y fun z4 => if ¬ (z4.1 90 13) = nI 0 then ds_Rw ds_c_Mod_seaLine ds_u_Mod_seaLine (ds_call (d + 5)) 83 [some (.ref 90)] [] z4 else (ds_cI (ds_call (d + 5)) j_Mod_goodPassed [.ref 90] z4 fun r5 z5 => ds_Rw ds_c_Mod_seaLine ds_u_Mod_seaLine (ds_call (d + 5)) 83 [some (.ref 90)] [] (ds_setI z5 94 2 r5))) (fun w z' => w = none ∧ dr_XM z0 v a z') := by
    intro y v a X
    refine dr_wV (s_must_x (d + 4) 313 y X.1) ?_
    exact dr_wT (dr_XM_ne X) (T83 y v a X)
  have T3 : ∀ (y : ds_St) (v a : Nat), dr_XM z0 v a y → dr_w (ds_cI (ds_call (d + 5)) j_Mod_after [.ref 90, .ref 312, .int (nI 2), .int (nI 3)] y fun r3 z3 => ds_cV (ds_call (d + 5)) j_Mod_must [.ref 90, .ref 313] (ds_setI z3 94 1 r3) fun z4 => if ¬ (z4.1 90 13) = nI 0 then ds_Rw ds_c_Mod_seaLine ds_u_Mod_seaLine (ds_call (d + 5)) 83 [some (.ref 90)] [] z4 else (ds_cI (ds_call (d + 5)) j_Mod_goodPassed [.ref 90] z4 fun r5 z5 => ds_Rw ds_c_Mod_seaLine ds_u_Mod_seaLine (ds_call (d + 5)) 83 [some (.ref 90)] [] (ds_setI z5 94 2 r5))) (fun w z' => w = none ∧ dr_XM z0 v a z') := by
    intro y v a X
    refine dr_wI (s_after_x (d + 3) 312 (nI 2) (nI 3) y X.1) ?_
    exact T4 _ v a (dr_XM_set _ X (by decide))
  apply dr_wc (c_Mod_seaLine _ _ _)
  have n8 : ¬ z.1 94 8 = nI 1 := by
    rw [hS.1.1]
    decide
  have i13 : z.1 90 13 = nI 0 := hO.1.1
  rw [b_Mod_seaLine_0]
  simp only [dl_0, dl_1, dl_2, dl_3, dl_4]
  refine dr_wT n8 ?_
  rw [b_Mod_seaLine_20]
  simp only [dl_0, dl_1, dl_2, dl_3, dl_4]
  refine dr_wT i13 ?_
  obtain ⟨z1, w1, O1, f1⟩ := s_mgo (d + 3) z B n e hO
  have S1 := dr_SM_g1 hS f1
  refine dr_wV w1 ?_
  generalize dr_nx B n e = e1 at *
  unfold dr_sea
  obtain ⟨a1, b1⟩ := s_after d 311 2 4 z1 B n e1 O1 (by decide) (by decide) (by decide) (by decide)
  have on1 : dr_on B n e1 301 = if dr_is B n e1 311 = true then some 0 else none := dr_on_1 rfl
  cases q1 : dr_is B n e1 311
  · rw [q1] at on1
    rw [dr_pOne_n on1]
    refine dr_wI (a1 q1) ?_
    have X := dr_XM_zw (v := 1) (a := dr_at B n e1) S1 hw
    exact T3 _ _ _ (dr_XM_set _ X (by decide))
  · rw [q1] at on1
    rw [dr_pOne_s on1]
    obtain ⟨z2, O2, f2, c1, c2⟩ := b1 q1
    have S2 := dr_SM_g1 S1 f2
    generalize dr_nx B n e1 = e2 at *
    by_cases q2 : dr_nu B n e2 2 4 = 0
    · rw [dr_pNum_s q2]
      obtain ⟨z3, v1, O3, f3⟩ := c2 q2
      have S3 := dr_SM_g1 S1 f3
      refine dr_wI v1 ?_
      have O3' := dr_OM_set 0 (nI (dr_wh B n e2)) O3
      have S3' := dr_SM_set0 (k := 0) (nI (dr_wh B n e2)) S3 (by decide) h4 h5 h6 h7
      have t0 := dr_set94s z3 0 (nI (dr_wh B n e2))
      generalize dr_wh B n e2 = W at *
      generalize dr_nx B n e2 = e3 at *
      generalize ds_setI z3 94 0 (nI W) = y3 at *
      obtain ⟨a2, b2⟩ := s_after d 312 2 3 y3 B n e3 O3' (by decide) (by decide) (by decide) (by decide)
      have on2 : dr_on B n e3 302 = if dr_is B n e3 312 = true then some 0 else none := dr_on_1 rfl
      cases q3 : dr_is B n e3 312
      · rw [q3] at on2
        rw [dr_pOne_n on2]
        refine dr_wI (a2 q3) ?_
        have X := dr_XM_zw (v := 1) (a := dr_at B n e3) S3' hw
        exact T4 _ _ _ (dr_XM_set _ X (by decide))
      · rw [q3] at on2
        rw [dr_pOne_s on2]
        obtain ⟨z4, O4, f4, c3, c4⟩ := b2 q3
        have S4 := dr_SM_g1 S3' f4
        generalize dr_nx B n e3 = e4 at *
        by_cases q4 : dr_nu B n e4 2 3 = 0
        · rw [dr_pNum_s q4]
          obtain ⟨z5, v2, O5, f5⟩ := c4 q4
          have S5 := dr_SM_g1 S3' f5
          refine dr_wI v2 ?_
          have O5' := dr_OM_set 1 (nI (dr_wh B n e4)) O5
          have S5' := dr_SM_set0 (k := 1) (nI (dr_wh B n e4)) S5 (by decide) h4 h5 h6 h7
          have t0' := dr_set94 (k := 1) (v := nI (dr_wh B n e4)) (dr_row94_g1 t0 f5) (by decide)
          have t1 := dr_set94s z5 1 (nI (dr_wh B n e4))
          generalize dr_wh B n e4 = H at *
          generalize dr_nx B n e4 = e5 at *
          generalize ds_setI z5 94 1 (nI H) = y5 at *
          obtain ⟨a3, b3⟩ := s_must (d + 1) 313 y5 B n e5 O5' (by decide) (by decide)
          have on3 : dr_on B n e5 303 = if dr_is B n e5 313 = true then some 0 else none := dr_on_1 rfl
          cases q5 : dr_is B n e5 313
          · rw [q5] at on3
            rw [dr_pOne_n on3]
            refine dr_wV (b3 q5) ?_
            have X := dr_XM_zw (v := 1) (a := dr_at B n e5) S5' hw
            exact dr_wT (dr_XM_ne X) (T83 _ _ _ X)
          · rw [q5] at on3
            rw [dr_pOne_s on3]
            obtain ⟨z6, v3, O6, f6⟩ := a3 q5
            have S6 := dr_SM_g1 S5' f6
            refine dr_wV v3 ?_
            refine dr_wF (fun q => q O6.1.1) ?_
            generalize dr_nx B n e5 = e6 at *
            obtain ⟨g1, g2⟩ := s_oneOf (d + 1) 314 315 316 317 z6 B n e6 O6 (by decide) (by decide) (by decide) (by decide)
            rw [dr_on4_304] at g1 g2
            cases q6 : dr_on B n e6 304 with
            | none =>
              rw [dr_pOne_n q6]
              have gp : ds_call (d + 5) j_Mod_goodPassed [.ref 90] z6 = some (some (.int ds_m1), dr_zw z6 1 (dr_at B n e6)) := by
                have g := g2 q6
                generalize dr_zw z6 1 (dr_at B n e6) = y at *
                rw [c_Mod_goodPassed, b_Mod_goodPassed_0]
                simp (disch := first | assumption | omega) only [ds_cI, ds_cV, ds_cL, ds_cR, ds_nn, ds_isK_t, ds_isA_t, ds_chk_t, ds_chkN, ds_nz_t, ds_nzN, ds_isB_t, ds_isB_bo, ↓dl_m1, ↓dl_m2, dl_0, dl_1, dl_2, dl_3, dl_4, dl_5, dl_6, dl_7, dl_8, dl_9, dl_10, dl_11, dl_12, dl_13, dl_14, dl_15, dl_16, dl_20, dl_24, dl_31, dl_50, dl_57, dl_67, dl_68, dl_74, dl_75, dl_79, dl_80, dl_99, dl_100, dl_200, dl_210, dl_224, dl_255, dl_289, dl_900, dl_1000, dl_1728, dl_65536, dl_65537, nI_add, pk_mul, pk_sub, pk_div, pk_rem, ds_rem2, nI_clamp, nI_leI, nI_ltI, nI_eq, ds_m1_eq, ds_eq_m1, ds_m2_eq, ds_eq_m2, ds_m1_le, ds_le_m1, ds_m1_lt, ds_lt_m1, ds_in_N, ds_bo0, ds_bo1, if_pos, if_neg, Nat.not_le, Nat.not_lt, not_true_eq_false, not_false_eq_true, if_true, if_false, ne_eq, Option.some.injEq, Prod.mk.injEq, Value.int.injEq, true_and, and_true, and_self, ite_self, Bool.not_eq_true, Bool.not_eq_false, Bool.true_eq_false, Bool.false_eq_true, reduceCtorEq, Nat.zero_add, Nat.reduceAdd, Nat.reduceMul, Nat.reduceSub, ds_setI_row, ds_setL_row, ds_rowI_self, ds_rowI_ne, ds_rowI_2, ds_rowI_rowI, ds_setS_1, ds_setS_21, ds_setS_self, ds_setS_ne, pk_us, pk_un, g]
              refine dr_wI gp ?_
              have X := dr_XM_zw (v := 1) (a := dr_at B n e6) S6 hw
              exact T83 _ _ _ (dr_XM_set _ X (by decide))
            | some i =>
              rw [dr_pOne_s q6]
              obtain ⟨z7, v4, O7, f7⟩ := g1 i q6
              have gp : ds_call (d + 5) j_Mod_goodPassed [.ref 90] z6 = some (some (.int (nI i)), z7) := by
                rw [c_Mod_goodPassed, b_Mod_goodPassed_0]
                simp (disch := first | assumption | omega) only [ds_cI, ds_cV, ds_cL, ds_cR, ds_nn, ds_isK_t, ds_isA_t, ds_chk_t, ds_chkN, ds_nz_t, ds_nzN, ds_isB_t, ds_isB_bo, ↓dl_m1, ↓dl_m2, dl_0, dl_1, dl_2, dl_3, dl_4, dl_5, dl_6, dl_7, dl_8, dl_9, dl_10, dl_11, dl_12, dl_13, dl_14, dl_15, dl_16, dl_20, dl_24, dl_31, dl_50, dl_57, dl_67, dl_68, dl_74, dl_75, dl_79, dl_80, dl_99, dl_100, dl_200, dl_210, dl_224, dl_255, dl_289, dl_900, dl_1000, dl_1728, dl_65536, dl_65537, nI_add, pk_mul, pk_sub, pk_div, pk_rem, ds_rem2, nI_clamp, nI_leI, nI_ltI, nI_eq, ds_m1_eq, ds_eq_m1, ds_m2_eq, ds_eq_m2, ds_m1_le, ds_le_m1, ds_m1_lt, ds_lt_m1, ds_in_N, ds_bo0, ds_bo1, if_pos, if_neg, Nat.not_le, Nat.not_lt, not_true_eq_false, not_false_eq_true, if_true, if_false, ne_eq, Option.some.injEq, Prod.mk.injEq, Value.int.injEq, true_and, and_true, and_self, ite_self, Bool.not_eq_true, Bool.not_eq_false, Bool.true_eq_false, Bool.false_eq_true, reduceCtorEq, Nat.zero_add, Nat.reduceAdd, Nat.reduceMul, Nat.reduceSub, ds_setI_row, ds_setL_row, ds_rowI_self, ds_rowI_ne, ds_rowI_2, ds_rowI_rowI, ds_setS_1, ds_setS_21, ds_setS_self, ds_setS_ne, pk_us, pk_un, v4]
              refine dr_wI gp ?_
              have S7 := dr_SM_g1 S6 f7
              have O7' := dr_OM_set 2 (nI i) O7
              have S7' := dr_SM_set0 (k := 2) (nI i) S7 (by decide) h4 h5 h6 h7
              have f67 := dr_g1_trans f6 f7
              have u0 := dr_set94 (k := 2) (v := nI i) (dr_row94_g1 t0' f67) (by decide)
              have u1 := dr_set94 (k := 2) (v := nI i) (dr_row94_g1 t1 f67) (by decide)
              have u2 := dr_set94s z7 2 (nI i)
              generalize dr_nx B n e6 = e7 at *
              generalize ds_setI z7 94 2 (nI i) = y7 at *
              rw [b_Mod_seaLine_83]
              refine dr_wF (fun q => q O7'.1.1) ?_
              obtain ⟨g3, g4⟩ := s_oneOf (d + 2) 318 319 320 320 y7 B n e7 O7' (by decide) (by decide) (by decide) (by decide)
              rw [dr_on4_305 O7'.2.1] at g3 g4
              cases q7 : dr_on B n e7 305 with
              | none =>
                rw [dr_pOne_n q7]
                refine dr_wI (g4 q7) ?_
                have X := dr_XM_zw (v := 1) (a := dr_at B n e7) S7' hw
                exact T108 _ _ _ (dr_XM_set _ X (by decide))
              | some j =>
                rw [dr_pOne_s q7]
                obtain ⟨z8, v5, O8, f8⟩ := g3 j q7
                refine dr_wI v5 ?_
                have S8 := dr_SM_g1 S7' f8
                have O8' := dr_OM_set 3 (nI j) O8
                have S8' := dr_SM_set0 (k := 3) (nI j) S8 (by decide) h4 h5 h6 h7
                have p0 := dr_set94 (k := 3) (v := nI j) (dr_row94_g1 u0 f8) (by decide)
                have p1 := dr_set94 (k := 3) (v := nI j) (dr_row94_g1 u1 f8) (by decide)
                have p2 := dr_set94 (k := 3) (v := nI j) (dr_row94_g1 u2 f8) (by decide)
                have p3 := dr_set94s z8 3 (nI j)
                rw [b_Mod_seaLine_108]
                refine dr_wF (fun q => q O8'.1.1) ?_
                refine dr_wR ⟨rfl, dr_OM_set 8 _ O8', ?_⟩
                exact dr_SM_sea S8' p0 p1 p2 p3 h4 h5 h6 h7
        · rw [dr_pNum_n q4]
          refine dr_wI (c3 q4) ?_
          have X := dr_XM_zw (v := dr_nu B n e4 2 3) (a := dr_at B n e4) S4 hw
          exact T4 _ _ _ (dr_XM_set _ X (by decide))
    · rw [dr_pNum_n q2]
      refine dr_wI (c1 q2) ?_
      have X := dr_XM_zw (v := dr_nu B n e2 2 4) (a := dr_at B n e2) S2 hw
      exact T3 _ _ _ (dr_XM_set _ X (by decide))
