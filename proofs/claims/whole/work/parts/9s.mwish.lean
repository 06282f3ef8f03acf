/-! the model's wish and shows lines -/
theorem dr_SM_W {z0 z : ds_St} {a b : Nat} {Nm : Nat → List Nat} {D : Nat → Nat → Nat} (h : dr_SM z0 true Nm D z) (hd : dr_dok true D) (a0 : z.1 94 (67 + 2 * D 0 6) = nI a) (a1 : z.1 94 (67 + 2 * D 0 6 + 1) = nI b) (h6 : D 0 6 < 6) : dr_SM z0 true Nm (dr_addW D a b) (ds_setI z 94 6 (nI (D 0 6 + 1))) := by
  obtain ⟨⟨c8, c0, ⟨c4, c5, c6, c7⟩, ci, cm, cw, cs⟩, cn, cg, c9, c10⟩ := h
  obtain ⟨d4, d5, d6, d7, _⟩ := hd
  have hDc : dr_addW D a b 0 6 = D 0 6 + 1 := by simp [dr_addW, dr_D1]
  have hD0 : ∀ j, j ≠ 6 → dr_addW D a b 0 j = D 0 j := by intro j hj; simp [dr_addW, dr_D1, hj]
  have hDa : ∀ i, dr_addW D a b 6 i = if i = D 0 6 then a else D 6 i := by intro i; simp [dr_addW, dr_D1]
  have hDb : ∀ i, dr_addW D a b 7 i = if i = D 0 6 then b else D 7 i := by intro i; simp [dr_addW, dr_D1]
  have hDr : ∀ w i, w ≠ 0 → w ≠ 6 → w ≠ 7 → dr_addW D a b w i = D w i := by intro w i h0 h5 h7; simp [dr_addW, dr_D1, h0, h5, h7]
  generalize dr_addW D a b = D' at *
  refine ⟨⟨dr_set94 c8 (by decide), fun q => ?_, ⟨by rw [hD0 4 (by decide)]; exact dr_set94 c4 (by decide), by rw [hD0 5 (by decide)]; exact dr_set94 c5 (by decide), by rw [hDc]; exact dr_set94s _ _ _, by rw [hD0 7 (by decide)]; exact dr_set94 c7 (by decide)⟩, fun i hi => ?_, fun i hi => ?_, fun i hi => ?_, fun i hi => ?_⟩, fun s hs => ?_, ?_, ?_, ?_⟩
  · rw [hD0 0 (by decide), hD0 1 (by decide), hD0 2 (by decide), hD0 3 (by decide)]
    obtain ⟨x0, x1, x2, x3⟩ := c0 q
    exact ⟨dr_set94 x0 (by decide), dr_set94 x1 (by decide), dr_set94 x2 (by decide), dr_set94 x3 (by decide)⟩
  · rw [hD0 4 (by decide)] at hi
    rw [hDr 1 i (by decide) (by decide) (by decide), hDr 2 i (by decide) (by decide) (by decide), hDr 3 i (by decide) (by decide) (by decide), hDr 4 i (by decide) (by decide) (by decide)]
    obtain ⟨x0, x1, x2, x3⟩ := ci i hi
    exact ⟨dr_set94 x0 (by omega), dr_set94 x1 (by omega), dr_set94 x2 (by omega), dr_set94 x3 (by omega)⟩
  · rw [hD0 5 (by decide)] at hi
    rw [hDr 5 i (by decide) (by decide) (by decide)]
    exact dr_set94 (cm i hi) (by omega)
  · rw [hDc] at hi
    rw [hDa, hDb]
    by_cases q : i = D 0 6
    · rw [if_pos q, if_pos q, q]; exact ⟨dr_set94 a0 (by omega), dr_set94 a1 (by omega)⟩
    · rw [if_neg q, if_neg q]
      obtain ⟨x0, x1⟩ := cw i (by omega)
      exact ⟨dr_set94 x0 (by omega), dr_set94 x1 (by omega)⟩
  · rw [hD0 7 (by decide)] at hi
    rw [hDr 8 i (by decide) (by decide) (by decide), hDr 9 i (by decide) (by decide) (by decide)]
    obtain ⟨x0, x1⟩ := cs i hi
    exact ⟨dr_set94 x0 (by omega), dr_set94 x1 (by omega)⟩
  · exact ⟨dr_set94 (cn s hs).1 (by omega), fun j hj => dr_set94 ((cn s hs).2 j hj) (by omega)⟩
  · rw [ds_setI_row]; exact dr_gM_94 _ cg
  · rw [ds_setI_row, ds_rowI_ne _ _ (by decide)]; exact c9
  · rw [ds_setI_row, ds_rowI_ne _ _ (by decide)]; exact c10
theorem dr_SM_S {z0 z : ds_St} {a b : Nat} {Nm : Nat → List Nat} {D : Nat → Nat → Nat} (h : dr_SM z0 true Nm D z) (hd : dr_dok true D) (a0 : z.1 94 (79 + 2 * D 0 7) = nI a) (a1 : z.1 94 (79 + 2 * D 0 7 + 1) = nI b) (h6 : D 0 7 < 6) : dr_SM z0 true Nm (dr_addS D a b) (ds_setI z 94 7 (nI (D 0 7 + 1))) := by
  obtain ⟨⟨c8, c0, ⟨c4, c5, c6, c7⟩, ci, cm, cw, cs⟩, cn, cg, c9, c10⟩ := h
  obtain ⟨d4, d5, d6, d7, _⟩ := hd
  have hDc : dr_addS D a b 0 7 = D 0 7 + 1 := by simp [dr_addS, dr_D1]
  have hD0 : ∀ j, j ≠ 7 → dr_addS D a b 0 j = D 0 j := by intro j hj; simp [dr_addS, dr_D1, hj]
  have hDa : ∀ i, dr_addS D a b 8 i = if i = D 0 7 then a else D 8 i := by intro i; simp [dr_addS, dr_D1]
  have hDb : ∀ i, dr_addS D a b 9 i = if i = D 0 7 then b else D 9 i := by intro i; simp [dr_addS, dr_D1]
  have hDr : ∀ w i, w ≠ 0 → w ≠ 8 → w ≠ 9 → dr_addS D a b w i = D w i := by intro w i h0 h5 h7; simp [dr_addS, dr_D1, h0, h5, h7]
  generalize dr_addS D a b = D' at *
  refine ⟨⟨dr_set94 c8 (by decide), fun q => ?_, ⟨by rw [hD0 4 (by decide)]; exact dr_set94 c4 (by decide), by rw [hD0 5 (by decide)]; exact dr_set94 c5 (by decide), by rw [hD0 6 (by decide)]; exact dr_set94 c6 (by decide), by rw [hDc]; exact dr_set94s _ _ _⟩, fun i hi => ?_, fun i hi => ?_, fun i hi => ?_, fun i hi => ?_⟩, fun s hs => ?_, ?_, ?_, ?_⟩
  · rw [hD0 0 (by decide), hD0 1 (by decide), hD0 2 (by decide), hD0 3 (by decide)]
    obtain ⟨x0, x1, x2, x3⟩ := c0 q
    exact ⟨dr_set94 x0 (by decide), dr_set94 x1 (by decide), dr_set94 x2 (by decide), dr_set94 x3 (by decide)⟩
  · rw [hD0 4 (by decide)] at hi
    rw [hDr 1 i (by decide) (by decide) (by decide), hDr 2 i (by decide) (by decide) (by decide), hDr 3 i (by decide) (by decide) (by decide), hDr 4 i (by decide) (by decide) (by decide)]
    obtain ⟨x0, x1, x2, x3⟩ := ci i hi
    exact ⟨dr_set94 x0 (by omega), dr_set94 x1 (by omega), dr_set94 x2 (by omega), dr_set94 x3 (by omega)⟩
  · rw [hD0 5 (by decide)] at hi
    rw [hDr 5 i (by decide) (by decide) (by decide)]
    exact dr_set94 (cm i hi) (by omega)
  · rw [hD0 6 (by decide)] at hi
    rw [hDr 6 i (by decide) (by decide) (by decide), hDr 7 i (by decide) (by decide) (by decide)]
    obtain ⟨x0, x1⟩ := cw i hi
    exact ⟨dr_set94 x0 (by omega), dr_set94 x1 (by omega)⟩
  · rw [hDc] at hi
    rw [hDa, hDb]
    by_cases q : i = D 0 7
    · rw [if_pos q, if_pos q, q]; exact ⟨dr_set94 a0 (by omega), dr_set94 a1 (by omega)⟩
    · rw [if_neg q, if_neg q]
      obtain ⟨x0, x1⟩ := cs i (by omega)
      exact ⟨dr_set94 x0 (by omega), dr_set94 x1 (by omega)⟩
  · exact ⟨dr_set94 (cn s hs).1 (by omega), fun j hj => dr_set94 ((cn s hs).2 j hj) (by omega)⟩
  · rw [ds_setI_row]; exact dr_gM_94 _ cg
  · rw [ds_setI_row, ds_rowI_ne _ _ (by decide)]; exact c9
  · rw [ds_setI_row, ds_rowI_ne _ _ (by decide)]; exact c10
theorem s_pass_f (d : Nat) (z z0 : ds_St) (hs : Bool) (B : Nat → Nat) (n e : Nat) (Nm : Nat → List Nat) (D : Nat → Nat → Nat) (hO : dr_OM z B n e) (hS : dr_SM z0 hs Nm D z) (hn : dr_nok D Nm) : (dr_ni B n e Nm = 0 → ∃ z', ds_call (d + 4) j_Mod_islandPassed [.ref 90] z = some (some (.int (nI (dr_slot Nm (dr_wl B n e)))), z') ∧ dr_OM z' B n (dr_nx B n e) ∧ dr_g1 z z') ∧ (¬ dr_ni B n e Nm = 0 → ds_call (d + 4) j_Mod_islandPassed [.ref 90] z = some (some (.int (nI 0)), dr_zw z (dr_ni B n e Nm) (dr_at B n e))) := by
  obtain ⟨a, _⟩ := s_here d z z0 hs B n e Nm D hO hS hn
  have h13 := hO.1.1
  refine ⟨fun h => ?_, (s_pass d z z0 hs B n e Nm D hO hS hn).2⟩
  obtain ⟨z', w1, w2, w3⟩ := s_mgo (d + 1) z B n e hO
  have ha := a h
  refine ⟨z', ?_, w2, w3⟩
  generalize dr_slot Nm (dr_wl B n e) = s at *
  rw [c_Mod_islandPassed, b_Mod_islandPassed_0]
  simp (disch := first | assumption | omega) only [ds_cI, ds_cV, ds_cL, ds_cR, ds_nn, ds_isK_t, ds_isA_t, ds_chk_t, ds_chkN, ds_nz_t, ds_nzN, ds_isB_t, ds_isB_bo, ↓dl_m1, ↓dl_m2, dl_0, dl_1, dl_2, dl_3, dl_4, dl_5, dl_6, dl_7, dl_8, dl_9, dl_10, dl_11, dl_12, dl_13, dl_14, dl_15, dl_16, dl_20, dl_24, dl_31, dl_50, dl_57, dl_67, dl_68, dl_74, dl_75, dl_79, dl_80, dl_99, dl_100, dl_200, dl_210, dl_224, dl_255, dl_289, dl_900, dl_1000, dl_1728, dl_65536, dl_65537, nI_add, pk_mul, pk_sub, pk_div, pk_rem, ds_rem2, nI_clamp, nI_leI, nI_ltI, nI_eq, ds_m1_eq, ds_eq_m1, ds_m2_eq, ds_eq_m2, ds_m1_le, ds_le_m1, ds_m1_lt, ds_lt_m1, ds_in_N, ds_bo0, ds_bo1, if_pos, if_neg, Nat.not_le, Nat.not_lt, not_true_eq_false, not_false_eq_true, if_true, if_false, ne_eq, Option.some.injEq, Prod.mk.injEq, Value.int.injEq, true_and, and_true, and_self, ite_self, Bool.not_eq_true, Bool.not_eq_false, Bool.true_eq_false, Bool.false_eq_true, reduceCtorEq, Nat.zero_add, Nat.reduceAdd, Nat.reduceMul, Nat.reduceSub, ds_setI_row, ds_setL_row, ds_rowI_self, ds_rowI_ne, ds_rowI_2, ds_rowI_rowI, ds_setS_1, ds_setS_21, ds_setS_self, ds_setS_ne, pk_us, pk_un, ha, h13, w1]
theorem s_showsLine (d : Nat) (z0 z : ds_St) (B : Nat → Nat) (n e : Nat) (Nm : Nat → List Nat) (D : Nat → Nat → Nat) (hO : dr_OM z B n e) (hS : dr_SM z0 true Nm D z) (hd : dr_dok true D) (hn : dr_nok D Nm) (h6 : D 0 7 < 6) : ∃ z', ds_call (d + 6) j_Mod_showsLine [.ref 90] z = some (none, z') ∧ dr_postM z0 B n (dr_shw B n e Nm D) z' := by
  have hw := hd.2.2.1
  have c7 := hS.1.2.2.1.2.2.2
  obtain ⟨c0, c1, _, _⟩ := hS.1.2.1 rfl
  obtain ⟨⟨W2, W4⟩, ⟨H2, H3⟩, _⟩ := hd.2.2.2.2.1 rfl
  have WH : D 0 0 * D 0 1 ≤ 12 := Nat.mul_le_mul W4 H3
  have WH4 : 4 ≤ D 0 0 * D 0 1 := Nat.mul_le_mul W2 H2
  have ef : nI 79 + nI 2 * nI (D 0 7) = nI (79 + 2 * D 0 7) := by rw [pk_mul, nI_add]
  have ew : nI (D 0 0) * nI (D 0 1) - nI 1 = nI (D 0 0 * D 0 1 - 1) := by rw [pk_mul, pk_sub (by omega)]
  generalize hF : 79 + 2 * D 0 7 = F at *
  have Fb : F + 1 < 91 := by omega
  have fr : ∀ j, j < 2 → dr_free D (F + j) := fun j hj => .inr (.inr (.inr ⟨by omega, by omega⟩))
  apply dr_wc (c_Mod_showsLine _ _ _)
  rw [b_Mod_showsLine_0, c7, c0, c1]
  simp only [dl_0, dl_1, dl_2, dl_79, ef, ew, nI_add]
  rw [nI_clamp (by omega), nI_clamp (by omega)]
  refine dr_wT hO.1.1 ?_
  unfold dr_shw
  obtain ⟨a1, b1⟩ := s_number (d + 2) 0 (D 0 0 * D 0 1 - 1) z B n e hO (by decide) (by omega)
  by_cases q1 : dr_nu B n e 0 (D 0 0 * D 0 1 - 1) = 0
  · rw [dr_pNum_s q1]
    obtain ⟨z1, w1, O1, f1⟩ := a1 q1
    refine dr_wI w1 ?_
    refine dr_wC (ds_chkN (by omega) (by decide)) ?_
    have S1 := dr_SM_free (nI (dr_wh B n e)) (dr_SM_g1 hS f1) hd (fr 0 (by decide))
    have O1' := dr_OM_set (F + 0) (nI (dr_wh B n e)) O1
    have t0 := dr_set94s z1 (F + 0) (nI (dr_wh B n e))
    rw [Nat.add_zero F] at S1 O1' t0
    generalize dr_wh B n e = p at *
    generalize dr_nx B n e = e1 at *
    generalize ds_setI z1 94 F (nI p) = y1 at *
    obtain ⟨g1, g2⟩ := s_pass_f (d + 1) y1 z0 true B n e1 Nm D O1' S1 hn
    by_cases q2 : dr_ni B n e1 Nm = 0
    · rw [dr_pIsl_s q2]
      obtain ⟨z2, w2, O2, f2⟩ := g1 q2
      have S2 := dr_SM_g1 S1 f2
      refine dr_wI w2 ?_
      refine dr_wC (ds_chkN (by omega) (by decide)) ?_
      refine dr_wF (fun q => q O2.1.1) ?_
      have S3 := dr_SM_free (nI (dr_slot Nm (dr_wl B n e1))) S2 hd (fr 1 (by decide))
      have O3 := dr_OM_set (F + 1) (nI (dr_slot Nm (dr_wl B n e1))) O2
      have t1 := dr_set94s z2 (F + 1) (nI (dr_slot Nm (dr_wl B n e1)))
      have t2 := dr_set94 (k := F + 1) (v := nI (dr_slot Nm (dr_wl B n e1))) (dr_row94_g1 t0 f2) (by omega)
      generalize dr_slot Nm (dr_wl B n e1) = s at *
      generalize ds_setI z2 94 (F + 1) (nI s) = y2 at *
      rw [S3.1.2.2.1.2.2.2, nI_add]
      subst hF
      exact dr_wR ⟨rfl, dr_OM_set 7 _ O3, dr_SM_S S3 hd t2 t1 h6⟩
    · rw [dr_pIsl_n q2]
      refine dr_wI (g2 q2) ?_
      refine dr_wC (ds_chkN (by omega) (by decide)) ?_
      have X := dr_XM_zw (v := dr_ni B n e1 Nm) (a := dr_at B n e1) S1 hw
      exact dr_wT (dr_XM_ne X) (dr_wR ⟨rfl, dr_XM_set _ X (by omega)⟩)
  · rw [dr_pNum_n q1]
    refine dr_wI (b1 q1) ?_
    refine dr_wC (ds_chkN (by omega) (by decide)) ?_
    have X := dr_XM_set (k := F) (nI 0) (dr_XM_zw (v := dr_nu B n e 0 (D 0 0 * D 0 1 - 1)) (a := dr_at B n e) hS hw) (by omega)
    refine dr_wI (s_pass_x (d + 3) _ X.1) ?_
    refine dr_wC (ds_chkN (by omega) (by decide)) ?_
    exact dr_wT (dr_XM_ne X) (dr_wR ⟨rfl, dr_XM_set _ X (by omega)⟩)
theorem s_wl (d a b : Nat) (q : Bool) (z : ds_St) (D : Nat → Nat → Nat) (h6 : z.1 94 6 = nI (D 0 6)) (cw : ∀ m, m < D 0 6 → z.1 94 (67 + 2 * m) = nI (D 6 m) ∧ z.1 94 (67 + 2 * m + 1) = nI (D 7 m)) (hw : D 0 6 ≤ 6) (hd : ∀ m, m < D 0 6 → D 6 m < 12 ∧ D 7 m < 12) (ha : a < 12) (hb : b < 12) : ∀ j i, i + j = D 0 6 → ds_Rw ds_c_Mod_wishLine ds_u_Mod_wishLine (ds_call (d + 5)) 32 [some (.ref 90), some (.int (nI a)), some (.int (nI b)), some (.int (ds_bo (q || dk_any (fun w => (D 6 w == a && D 7 w == b) || (D 6 w == b && D 7 w == a)) i))), some (.int (nI i)), none, none] [] z = ds_Rw ds_c_Mod_wishLine ds_u_Mod_wishLine (ds_call (d + 5)) 32 [some (.ref 90), some (.int (nI a)), some (.int (nI b)), some (.int (ds_bo (q || dr_hw D a b))), some (.int (nI ((D 0 6)))), none, none] [] z := by
  intro j
  induction j with
  | zero =>
    intro i hi
    rw [Nat.add_zero] at hi
    subst hi
    rfl
  | succ j ih =>
    intro i hi
    have hi' : i < D 0 6 := by omega
    rw [← ih (i + 1) (by omega)]
    obtain ⟨x0, x1⟩ := cw i hi'
    obtain ⟨y0, y1⟩ := hd i hi'
    have nle : ¬ D 0 6 ≤ i := by omega
    show _ = ds_Rw ds_c_Mod_wishLine ds_u_Mod_wishLine (ds_call (d + 5)) 32 [some (.ref 90), some (.int (nI a)), some (.int (nI b)), some (.int (ds_bo (q || (dk_any (fun w => (D 6 w == a && D 7 w == b) || (D 6 w == b && D 7 w == a)) i || ((D 6 i == a && D 7 i == b) || (D 6 i == b && D 7 i == a)))))), some (.int (nI ((i + 1)))), none, none] [] z
    rw [← Bool.or_assoc]
    generalize (q || dk_any (fun w => (D 6 w == a && D 7 w == b) || (D 6 w == b && D 7 w == a)) i) = c
    have b1 : ds_bo true = nI 1 := rfl
    have b0 : ds_bo false = nI 0 := rfl
    cases c
    · rw [Bool.false_or]
      have ra : (D 6 i == a && D 7 i == b || D 6 i == b && D 7 i == a) = if D 6 i = a then (if D 7 i = b then true else if D 6 i = b then (if D 7 i = a then true else false) else false) else if D 6 i = b then (if D 7 i = a then true else false) else false := by
        by_cases p1 : D 6 i = a <;> by_cases p2 : D 7 i = b <;> by_cases p3 : D 6 i = b <;> by_cases p4 : D 7 i = a <;> simp_all
      rw [ra, b0]
      generalize D 6 i = u at *
      generalize D 7 i = v at *
      rw [b_Mod_wishLine_32]
      by_cases p1 : u = a
      · by_cases p2 : v = b
        · rw [if_pos p1, if_pos p2, b1]
          simp (disch := first | assumption | omega) only [ds_cI, ds_cV, ds_cL, ds_cR, ds_nn, ds_isK_t, ds_isA_t, ds_chk_t, ds_chkN, ds_nz_t, ds_nzN, ds_isB_t, ds_isB_bo, ↓dl_m1, ↓dl_m2, dl_0, dl_1, dl_2, dl_3, dl_4, dl_5, dl_6, dl_7, dl_8, dl_9, dl_10, dl_11, dl_12, dl_13, dl_14, dl_15, dl_16, dl_20, dl_24, dl_31, dl_50, dl_57, dl_67, dl_68, dl_74, dl_75, dl_79, dl_80, dl_99, dl_100, dl_200, dl_210, dl_224, dl_255, dl_289, dl_900, dl_1000, dl_1728, dl_65536, dl_65537, nI_add, pk_mul, pk_sub, pk_div, pk_rem, ds_rem2, nI_clamp, nI_leI, nI_ltI, nI_eq, ds_m1_eq, ds_eq_m1, ds_m2_eq, ds_eq_m2, ds_m1_le, ds_le_m1, ds_m1_lt, ds_lt_m1, ds_in_N, ds_bo0, ds_bo1, if_pos, if_neg, Nat.not_le, Nat.not_lt, not_true_eq_false, not_false_eq_true, if_true, if_false, ne_eq, Option.some.injEq, Prod.mk.injEq, Value.int.injEq, true_and, and_true, and_self, ite_self, Bool.not_eq_true, Bool.not_eq_false, Bool.true_eq_false, Bool.false_eq_true, reduceCtorEq, Nat.zero_add, Nat.reduceAdd, Nat.reduceMul, Nat.reduceSub, ds_setI_row, ds_setL_row, ds_rowI_self, ds_rowI_ne, ds_rowI_2, ds_rowI_rowI, ds_setS_1, ds_setS_21, ds_setS_self, ds_setS_ne, pk_us, pk_un, h6, x0, x1, p1, p2, nle]
        · rw [if_pos p1, if_neg p2]
          by_cases p3 : u = b
          · by_cases p4 : v = a
            · rw [if_pos p3, if_pos p4, b1]
              have p5 : a = b := p1.symm.trans p3
              have p6 : v = b := p4.trans p5
              exact absurd p6 p2
            · rw [if_pos p3, if_neg p4, b0]
              simp (disch := first | assumption | omega) only [ds_cI, ds_cV, ds_cL, ds_cR, ds_nn, ds_isK_t, ds_isA_t, ds_chk_t, ds_chkN, ds_nz_t, ds_nzN, ds_isB_t, ds_isB_bo, ↓dl_m1, ↓dl_m2, dl_0, dl_1, dl_2, dl_3, dl_4, dl_5, dl_6, dl_7, dl_8, dl_9, dl_10, dl_11, dl_12, dl_13, dl_14, dl_15, dl_16, dl_20, dl_24, dl_31, dl_50, dl_57, dl_67, dl_68, dl_74, dl_75, dl_79, dl_80, dl_99, dl_100, dl_200, dl_210, dl_224, dl_255, dl_289, dl_900, dl_1000, dl_1728, dl_65536, dl_65537, nI_add, pk_mul, pk_sub, pk_div, pk_rem, ds_rem2, nI_clamp, nI_leI, nI_ltI, nI_eq, ds_m1_eq, ds_eq_m1, ds_m2_eq, ds_eq_m2, ds_m1_le, ds_le_m1, ds_m1_lt, ds_lt_m1, ds_in_N, ds_bo0, ds_bo1, if_pos, if_neg, Nat.not_le, Nat.not_lt, not_true_eq_false, not_false_eq_true, if_true, if_false, ne_eq, Option.some.injEq, Prod.mk.injEq, Value.int.injEq, true_and, and_true, and_self, ite_self, Bool.not_eq_true, Bool.not_eq_false, Bool.true_eq_false, Bool.false_eq_true, reduceCtorEq, Nat.zero_add, Nat.reduceAdd, Nat.reduceMul, Nat.reduceSub, ds_setI_row, ds_setL_row, ds_rowI_self, ds_rowI_ne, ds_rowI_2, ds_rowI_rowI, ds_setS_1, ds_setS_21, ds_setS_self, ds_setS_ne, pk_us, pk_un, h6, x0, x1, p1, p2, nle, b_Mod_wishLine_90, p3, p4]
          · rw [if_neg p3, b0]
            simp (disch := first | assumption | omega) only [ds_cI, ds_cV, ds_cL, ds_cR, ds_nn, ds_isK_t, ds_isA_t, ds_chk_t, ds_chkN, ds_nz_t, ds_nzN, ds_isB_t, ds_isB_bo, ↓dl_m1, ↓dl_m2, dl_0, dl_1, dl_2, dl_3, dl_4, dl_5, dl_6, dl_7, dl_8, dl_9, dl_10, dl_11, dl_12, dl_13, dl_14, dl_15, dl_16, dl_20, dl_24, dl_31, dl_50, dl_57, dl_67, dl_68, dl_74, dl_75, dl_79, dl_80, dl_99, dl_100, dl_200, dl_210, dl_224, dl_255, dl_289, dl_900, dl_1000, dl_1728, dl_65536, dl_65537, nI_add, pk_mul, pk_sub, pk_div, pk_rem, ds_rem2, nI_clamp, nI_leI, nI_ltI, nI_eq, ds_m1_eq, ds_eq_m1, ds_m2_eq, ds_eq_m2, ds_m1_le, ds_le_m1, ds_m1_lt, ds_lt_m1, ds_in_N, ds_bo0, ds_bo1, if_pos, if_neg, Nat.not_le, Nat.not_lt, not_true_eq_false, not_false_eq_true, if_true, if_false, ne_eq, Option.some.injEq, Prod.mk.injEq, Value.int.injEq, true_and, and_true, and_self, ite_self, Bool.not_eq_true, Bool.not_eq_false, Bool.true_eq_false, Bool.false_eq_true, reduceCtorEq, Nat.zero_add, Nat.reduceAdd, Nat.reduceMul, Nat.reduceSub, ds_setI_row, ds_setL_row, ds_rowI_self, ds_rowI_ne, ds_rowI_2, ds_rowI_rowI, ds_setS_1, ds_setS_21, ds_setS_self, ds_setS_ne, pk_us, pk_un, h6, x0, x1, p1, p2, nle, b_Mod_wishLine_90, p3]
      · rw [if_neg p1]
        by_cases p3 : u = b
        · by_cases p4 : v = a
          · rw [if_pos p3, if_pos p4, b1]
            simp (disch := first | assumption | omega) only [ds_cI, ds_cV, ds_cL, ds_cR, ds_nn, ds_isK_t, ds_isA_t, ds_chk_t, ds_chkN, ds_nz_t, ds_nzN, ds_isB_t, ds_isB_bo, ↓dl_m1, ↓dl_m2, dl_0, dl_1, dl_2, dl_3, dl_4, dl_5, dl_6, dl_7, dl_8, dl_9, dl_10, dl_11, dl_12, dl_13, dl_14, dl_15, dl_16, dl_20, dl_24, dl_31, dl_50, dl_57, dl_67, dl_68, dl_74, dl_75, dl_79, dl_80, dl_99, dl_100, dl_200, dl_210, dl_224, dl_255, dl_289, dl_900, dl_1000, dl_1728, dl_65536, dl_65537, nI_add, pk_mul, pk_sub, pk_div, pk_rem, ds_rem2, nI_clamp, nI_leI, nI_ltI, nI_eq, ds_m1_eq, ds_eq_m1, ds_m2_eq, ds_eq_m2, ds_m1_le, ds_le_m1, ds_m1_lt, ds_lt_m1, ds_in_N, ds_bo0, ds_bo1, if_pos, if_neg, Nat.not_le, Nat.not_lt, not_true_eq_false, not_false_eq_true, if_true, if_false, ne_eq, Option.some.injEq, Prod.mk.injEq, Value.int.injEq, true_and, and_true, and_self, ite_self, Bool.not_eq_true, Bool.not_eq_false, Bool.true_eq_false, Bool.false_eq_true, reduceCtorEq, Nat.zero_add, Nat.reduceAdd, Nat.reduceMul, Nat.reduceSub, ds_setI_row, ds_setL_row, ds_rowI_self, ds_rowI_ne, ds_rowI_2, ds_rowI_rowI, ds_setS_1, ds_setS_21, ds_setS_self, ds_setS_ne, pk_us, pk_un, h6, x0, x1, p1, nle, b_Mod_wishLine_90, p3, p4]
          · rw [if_pos p3, if_neg p4, b0]
            simp (disch := first | assumption | omega) only [ds_cI, ds_cV, ds_cL, ds_cR, ds_nn, ds_isK_t, ds_isA_t, ds_chk_t, ds_chkN, ds_nz_t, ds_nzN, ds_isB_t, ds_isB_bo, ↓dl_m1, ↓dl_m2, dl_0, dl_1, dl_2, dl_3, dl_4, dl_5, dl_6, dl_7, dl_8, dl_9, dl_10, dl_11, dl_12, dl_13, dl_14, dl_15, dl_16, dl_20, dl_24, dl_31, dl_50, dl_57, dl_67, dl_68, dl_74, dl_75, dl_79, dl_80, dl_99, dl_100, dl_200, dl_210, dl_224, dl_255, dl_289, dl_900, dl_1000, dl_1728, dl_65536, dl_65537, nI_add, pk_mul, pk_sub, pk_div, pk_rem, ds_rem2, nI_clamp, nI_leI, nI_ltI, nI_eq, ds_m1_eq, ds_eq_m1, ds_m2_eq, ds_eq_m2, ds_m1_le, ds_le_m1, ds_m1_lt, ds_lt_m1, ds_in_N, ds_bo0, ds_bo1, if_pos, if_neg, Nat.not_le, Nat.not_lt, not_true_eq_false, not_false_eq_true, if_true, if_false, ne_eq, Option.some.injEq, Prod.mk.injEq, Value.int.injEq, true_and, and_true, and_self, ite_self, Bool.not_eq_true, Bool.not_eq_false, Bool.true_eq_false, Bool.false_eq_true, reduceCtorEq, Nat.zero_add, Nat.reduceAdd, Nat.reduceMul, Nat.reduceSub, ds_setI_row, ds_setL_row, ds_rowI_self, ds_rowI_ne, ds_rowI_2, ds_rowI_rowI, ds_setS_1, ds_setS_21, ds_setS_self, ds_setS_ne, pk_us, pk_un, h6, x0, x1, p1, nle, b_Mod_wishLine_90, p3, p4]
        · rw [if_neg p3, b0]
          simp (disch := first | assumption | omega) only [ds_cI, ds_cV, ds_cL, ds_cR, ds_nn, ds_isK_t, ds_isA_t, ds_chk_t, ds_chkN, ds_nz_t, ds_nzN, ds_isB_t, ds_isB_bo, ↓dl_m1, ↓dl_m2, dl_0, dl_1, dl_2, dl_3, dl_4, dl_5, dl_6, dl_7, dl_8, dl_9, dl_10, dl_11, dl_12, dl_13, dl_14, dl_15, dl_16, dl_20, dl_24, dl_31, dl_50, dl_57, dl_67, dl_68, dl_74, dl_75, dl_79, dl_80, dl_99, dl_100, dl_200, dl_210, dl_224, dl_255, dl_289, dl_900, dl_1000, dl_1728, dl_65536, dl_65537, nI_add, pk_mul, pk_sub, pk_div, pk_rem, ds_rem2, nI_clamp, nI_leI, nI_ltI, nI_eq, ds_m1_eq, ds_eq_m1, ds_m2_eq, ds_eq_m2, ds_m1_le, ds_le_m1, ds_m1_lt, ds_lt_m1, ds_in_N, ds_bo0, ds_bo1, if_pos, if_neg, Nat.not_le, Nat.not_lt, not_true_eq_false, not_false_eq_true, if_true, if_false, ne_eq, Option.some.injEq, Prod.mk.injEq, Value.int.injEq, true_and, and_true, and_self, ite_self, Bool.not_eq_true, Bool.not_eq_false, Bool.true_eq_false, Bool.false_eq_true, reduceCtorEq, Nat.zero_add, Nat.reduceAdd, Nat.reduceMul, Nat.reduceSub, ds_setI_row, ds_setL_row, ds_rowI_self, ds_rowI_ne, ds_rowI_2, ds_rowI_rowI, ds_setS_1, ds_setS_21, ds_setS_self, ds_setS_ne, pk_us, pk_un, h6, x0, x1, p1, nle, b_Mod_wishLine_90, p3]
    · rw [Bool.true_or, b1, b_Mod_wishLine_32]
      simp (disch := first | assumption | omega) only [ds_cI, ds_cV, ds_cL, ds_cR, ds_nn, ds_isK_t, ds_isA_t, ds_chk_t, ds_chkN, ds_nz_t, ds_nzN, ds_isB_t, ds_isB_bo, ↓dl_m1, ↓dl_m2, dl_0, dl_1, dl_2, dl_3, dl_4, dl_5, dl_6, dl_7, dl_8, dl_9, dl_10, dl_11, dl_12, dl_13, dl_14, dl_15, dl_16, dl_20, dl_24, dl_31, dl_50, dl_57, dl_67, dl_68, dl_74, dl_75, dl_79, dl_80, dl_99, dl_100, dl_200, dl_210, dl_224, dl_255, dl_289, dl_900, dl_1000, dl_1728, dl_65536, dl_65537, nI_add, pk_mul, pk_sub, pk_div, pk_rem, ds_rem2, nI_clamp, nI_leI, nI_ltI, nI_eq, ds_m1_eq, ds_eq_m1, ds_m2_eq, ds_eq_m2, ds_m1_le, ds_le_m1, ds_m1_lt, ds_lt_m1, ds_in_N, ds_bo0, ds_bo1, if_pos, if_neg, Nat.not_le, Nat.not_lt, not_true_eq_false, not_false_eq_true, if_true, if_false, ne_eq, Option.some.injEq, Prod.mk.injEq, Value.int.injEq, true_and, and_true, and_self, ite_self, Bool.not_eq_true, Bool.not_eq_false, Bool.true_eq_false, Bool.false_eq_true, reduceCtorEq, Nat.zero_add, Nat.reduceAdd, Nat.reduceMul, Nat.reduceSub, ds_setI_row, ds_setL_row, ds_rowI_self, ds_rowI_ne, ds_rowI_2, ds_rowI_rowI, ds_setS_1, ds_setS_21, ds_setS_self, ds_setS_ne, pk_us, pk_un, h6, x0, x1, nle]
theorem s_wl_x (d : Nat) (z z0 : ds_St) (v a : Nat) (X : dr_XM z0 v a z) (w : Nat) (hw : w ≤ 6) (h6 : z.1 94 6 = nI w) : ∀ j i, i + j = w → ∀ x1 x2 x3 : Int32, ds_Rw ds_c_Mod_wishLine ds_u_Mod_wishLine (ds_call (d + 5)) 32 [some (.ref 90), some (.int x1), some (.int x2), some (.int x3), some (.int (nI i)), none, none] [] z = some (none, z) := by
  have ne1 := X.1
  intro j
  induction j with
  | zero =>
    intro i hi x1 x2 x3
    rw [Nat.add_zero] at hi
    subst hi
    rw [b_Mod_wishLine_32]
    simp (disch := first | assumption | omega) only [ds_cI, ds_cV, ds_cL, ds_cR, ds_nn, ds_isK_t, ds_isA_t, ds_chk_t, ds_chkN, ds_nz_t, ds_nzN, ds_isB_t, ds_isB_bo, ↓dl_m1, ↓dl_m2, dl_0, dl_1, dl_2, dl_3, dl_4, dl_5, dl_6, dl_7, dl_8, dl_9, dl_10, dl_11, dl_12, dl_13, dl_14, dl_15, dl_16, dl_20, dl_24, dl_31, dl_50, dl_57, dl_67, dl_68, dl_74, dl_75, dl_79, dl_80, dl_99, dl_100, dl_200, dl_210, dl_224, dl_255, dl_289, dl_900, dl_1000, dl_1728, dl_65536, dl_65537, nI_add, pk_mul, pk_sub, pk_div, pk_rem, ds_rem2, nI_clamp, nI_leI, nI_ltI, nI_eq, ds_m1_eq, ds_eq_m1, ds_m2_eq, ds_eq_m2, ds_m1_le, ds_le_m1, ds_m1_lt, ds_lt_m1, ds_in_N, ds_bo0, ds_bo1, if_pos, if_neg, Nat.not_le, Nat.not_lt, not_true_eq_false, not_false_eq_true, if_true, if_false, ne_eq, Option.some.injEq, Prod.mk.injEq, Value.int.injEq, true_and, and_true, and_self, ite_self, Bool.not_eq_true, Bool.not_eq_false, Bool.true_eq_false, Bool.false_eq_true, reduceCtorEq, Nat.zero_add, Nat.reduceAdd, Nat.reduceMul, Nat.reduceSub, ds_setI_row, ds_setL_row, ds_rowI_self, ds_rowI_ne, ds_rowI_2, ds_rowI_rowI, ds_setS_1, ds_setS_21, ds_setS_self, ds_setS_ne, pk_us, pk_un, h6, ne1, b_Mod_wishLine_134]
  | succ j ih =>
    intro i hi x1 x2 x3
    have ih' := ih (i + 1) (by omega) x1 x2
    have nle : ¬ w ≤ i := by omega
    have e90 : ∀ x5 x6 : Int32, ds_Rw ds_c_Mod_wishLine ds_u_Mod_wishLine (ds_call (d + 5)) 90 [some (.ref 90), some (.int x1), some (.int x2), none, some (.int (nI i)), some (.int x5), some (.int x6)] [] z = some (none, z) := by
      intro x5 x6
      rw [b_Mod_wishLine_90]
      simp (disch := first | assumption | omega) only [ds_cI, ds_cV, ds_cL, ds_cR, ds_nn, ds_isK_t, ds_isA_t, ds_chk_t, ds_chkN, ds_nz_t, ds_nzN, ds_isB_t, ds_isB_bo, ↓dl_m1, ↓dl_m2, dl_0, dl_1, dl_2, dl_3, dl_4, dl_5, dl_6, dl_7, dl_8, dl_9, dl_10, dl_11, dl_12, dl_13, dl_14, dl_15, dl_16, dl_20, dl_24, dl_31, dl_50, dl_57, dl_67, dl_68, dl_74, dl_75, dl_79, dl_80, dl_99, dl_100, dl_200, dl_210, dl_224, dl_255, dl_289, dl_900, dl_1000, dl_1728, dl_65536, dl_65537, nI_add, pk_mul, pk_sub, pk_div, pk_rem, ds_rem2, nI_clamp, nI_leI, nI_ltI, nI_eq, ds_m1_eq, ds_eq_m1, ds_m2_eq, ds_eq_m2, ds_m1_le, ds_le_m1, ds_m1_lt, ds_lt_m1, ds_in_N, ds_bo0, ds_bo1, if_pos, if_neg, Nat.not_le, Nat.not_lt, not_true_eq_false, not_false_eq_true, if_true, if_false, ne_eq, Option.some.injEq, Prod.mk.injEq, Value.int.injEq, true_and, and_true, and_self, ite_self, Bool.not_eq_true, Bool.not_eq_false, Bool.true_eq_false, Bool.false_eq_true, reduceCtorEq, Nat.zero_add, Nat.reduceAdd, Nat.reduceMul, Nat.reduceSub, ds_setI_row, ds_setL_row, ds_rowI_self, ds_rowI_ne, ds_rowI_2, ds_rowI_rowI, ds_setS_1, ds_setS_21, ds_setS_self, ds_setS_ne, pk_us, pk_un, ih']
    rw [b_Mod_wishLine_32]
    simp (disch := first | assumption | omega) only [ds_cI, ds_cV, ds_cL, ds_cR, ds_nn, ds_isK_t, ds_isA_t, ds_chk_t, ds_chkN, ds_nz_t, ds_nzN, ds_isB_t, ds_isB_bo, ↓dl_m1, ↓dl_m2, dl_0, dl_1, dl_2, dl_3, dl_4, dl_5, dl_6, dl_7, dl_8, dl_9, dl_10, dl_11, dl_12, dl_13, dl_14, dl_15, dl_16, dl_20, dl_24, dl_31, dl_50, dl_57, dl_67, dl_68, dl_74, dl_75, dl_79, dl_80, dl_99, dl_100, dl_200, dl_210, dl_224, dl_255, dl_289, dl_900, dl_1000, dl_1728, dl_65536, dl_65537, nI_add, pk_mul, pk_sub, pk_div, pk_rem, ds_rem2, nI_clamp, nI_leI, nI_ltI, nI_eq, ds_m1_eq, ds_eq_m1, ds_m2_eq, ds_eq_m2, ds_m1_le, ds_le_m1, ds_m1_lt, ds_lt_m1, ds_in_N, ds_bo0, ds_bo1, if_pos, if_neg, Nat.not_le, Nat.not_lt, not_true_eq_false, not_false_eq_true, if_true, if_false, ne_eq, Option.some.injEq, Prod.mk.injEq, Value.int.injEq, true_and, and_true, and_self, ite_self, Bool.not_eq_true, Bool.not_eq_false, Bool.true_eq_false, Bool.false_eq_true, reduceCtorEq, Nat.zero_add, Nat.reduceAdd, Nat.reduceMul, Nat.reduceSub, ds_setI_row, ds_setL_row, ds_rowI_self, ds_rowI_ne, ds_rowI_2, ds_rowI_rowI, ds_setS_1, ds_setS_21, ds_setS_self, ds_setS_ne, pk_us, pk_un, h6, nle, ih', e90]
theorem s_wishLine (d : Nat) (z0 z : ds_St) (B : Nat → Nat) (n e : Nat) (Nm : Nat → List Nat) (D : Nat → Nat → Nat) (hO : dr_OM z B n e) (hS : dr_SM z0 true Nm D z) (hd : dr_dok true D) (hn : dr_nok D Nm) (h6 : D 0 6 < 6) : ∃ z', ds_call (d + 6) j_Mod_wishLine [.ref 90] z = some (none, z') ∧ dr_postM z0 B n (dr_wsh B n e Nm D) z' := by
  have hw := hd.2.2.1
  have X32 : ∀ (y : ds_St) (v a : Nat) (x1 x2 x3 : Int32), dr_XM z0 v a y → dr_w (ds_Rw ds_c_Mod_wishLine ds_u_Mod_wishLine (ds_call (d + 5)) 32 [some (.ref 90), some (.int x1), some (.int x2), some (.int x3), some (.int (nI 0)), none, none] [] y) (fun w z' => w = none ∧ dr_XM z0 v a z') := by
    intro y v a x1 x2 x3 X
    obtain ⟨w, hw, e6⟩ := X.2.2.2.1
    rw [s_wl_x d y z0 v a X w hw e6 w 0 (by omega)]
    exact dr_wR ⟨rfl, X⟩
  have X32b : ∀ (y : ds_St) (v a : Nat) (x1 x2 : Int32), dr_XM z0 v a y → dr_w (if ¬ x1 = x2 then ds_Rw ds_c_Mod_wishLine ds_u_Mod_wishLine (ds_call (d + 5)) 32 [some (.ref 90), some (.int x1), some (.int x2), some (.int (nI 0)), some (.int (nI 0)), none, none] [] y else ds_Rw ds_c_Mod_wishLine ds_u_Mod_wishLine (ds_call (d + 5)) 32 [some (.ref 90), some (.int x1), some (.int x2), some (.int (nI 1)), some (.int (nI 0)), none, none] [] y) (fun w z' => w = none ∧ dr_XM z0 v a z') := by
    intro y v a x1 x2 X
    by_cases q : x1 = x2
    · exact dr_wF (fun h => h q) (X32 y v a x1 x2 _ X)
    · exact dr_wT q (X32 y v a x1 x2 _ X)
  apply dr_wc (c_Mod_wishLine _ _ _)
  rw [b_Mod_wishLine_0]
  simp only [dl_0, dl_1]
  refine dr_wT hO.1.1 ?_
  unfold dr_wsh
  obtain ⟨g1, g2⟩ := s_pass (d + 1) z z0 true B n e Nm D hO hS hn
  by_cases q1 : dr_ni B n e Nm = 0
  · rw [dr_pIsl_s q1]
    obtain ⟨_, _, sa⟩ := dr_ni_0 q1
    obtain ⟨z1, w1, O1, S1⟩ := g1 q1
    refine dr_wI w1 ?_
    generalize dr_slot Nm (dr_wl B n e) = a at *
    generalize dr_nx B n e = e1 at *
    obtain ⟨g3, g4⟩ := s_here (d + 2) z1 z0 true B n e1 Nm D O1 S1 hn
    by_cases q2 : dr_ni B n e1 Nm = 0
    · rw [dr_pIsl_s q2]
      obtain ⟨_, _, sb⟩ := dr_ni_0 q2
      refine dr_wI (g3 q2) ?_
      generalize dr_slot Nm (dr_wl B n e1) = b at *
      have c6 := S1.1.2.2.1.2.2.1
      have cw := S1.1.2.2.2.2.2.1
      have hdw : ∀ m, m < D 0 6 → D 6 m < 12 ∧ D 7 m < 12 := fun m hm => by
        have h1 := hd.1
        obtain ⟨h2, h3, _⟩ := hd.2.2.2.2.2.2.2.1 m hm
        omega
      have lp := s_wl d a b (decide (a = b)) z1 D c6 cw hw hdw sa sb (D 0 6) 0 (by omega)
      have st : (if ¬ nI a = nI b then ds_Rw ds_c_Mod_wishLine ds_u_Mod_wishLine (ds_call (d + 5)) 32 [some (.ref 90), some (.int (nI a)), some (.int (nI b)), some (.int (nI 0)), some (.int (nI 0)), none, none] [] z1 else ds_Rw ds_c_Mod_wishLine ds_u_Mod_wishLine (ds_call (d + 5)) 32 [some (.ref 90), some (.int (nI a)), some (.int (nI b)), some (.int (nI 1)), some (.int (nI 0)), none, none] [] z1) = ds_Rw ds_c_Mod_wishLine ds_u_Mod_wishLine (ds_call (d + 5)) 32 [some (.ref 90), some (.int (nI a)), some (.int (nI b)), some (.int (ds_bo (decide (a = b) || dr_hw D a b))), some (.int (nI ((D 0 6)))), none, none] [] z1 := by
        rw [← lp]
        by_cases q : a = b
        · rw [if_neg (fun h => h (congrArg nI q)), decide_eq_true q]
          rfl
        · rw [if_pos (by rw [nI_eq (by omega) (by omega)]; exact q), decide_eq_false q]
          rfl
      rw [st, b_Mod_wishLine_32, c6]
      simp only [dl_0]
      rw [if_pos (Int32.le_refl _)]
      refine dr_wF (fun q => q O1.1.1) ?_
      cases q3 : (decide (a = b) || dr_hw D a b)
      · refine dr_wT rfl ?_
        simp only [↓reduceIte, Bool.false_eq_true]
        obtain ⟨z2, w2, O2, f2⟩ := s_mgo (d + 3) z1 B n e1 O1
        have S2 := dr_SM_g1 S1 f2
        rw [b_Mod_wishLine_134]
        simp only [dl_0, dl_1, dl_2, dl_67]
        refine dr_wT O1.1.1 ?_
        refine dr_wV w2 ?_
        have c6' := S2.1.2.2.1.2.2.1
        rw [c6', pk_mul, nI_add, nI_clamp (by omega)]
        have S3 := dr_SM_free (k := 67 + 2 * D 0 6) (nI a) S2 hd (.inr (.inr (.inl ⟨by omega, by omega⟩)))
        have O3 := dr_OM_set (67 + 2 * D 0 6) (nI a) O2
        have t0 := dr_set94s z2 (67 + 2 * D 0 6) (nI a)
        generalize ds_setI z2 94 (67 + 2 * D 0 6) (nI a) = y3 at *
        have c63 := S3.1.2.2.1.2.2.1
        rw [c63, pk_mul, nI_add, nI_add, nI_clamp (by omega)]
        have S4 := dr_SM_free (k := 67 + 2 * D 0 6 + 1) (nI b) S3 hd (.inr (.inr (.inl ⟨by omega, by omega⟩)))
        have O4 := dr_OM_set (67 + 2 * D 0 6 + 1) (nI b) O3
        have t1 := dr_set94s y3 (67 + 2 * D 0 6 + 1) (nI b)
        have t2 := dr_set94 (k := 67 + 2 * D 0 6 + 1) (v := nI b) t0 (by omega)
        generalize ds_setI y3 94 (67 + 2 * D 0 6 + 1) (nI b) = y4 at *
        rw [S4.1.2.2.1.2.2.1, nI_add]
        refine dr_wC (ds_chkN (by omega) (by decide)) ?_
        refine dr_wC (ds_chkN (by omega) (by decide)) ?_
        exact dr_wR ⟨rfl, dr_OM_set 6 _ O4, dr_SM_W S4 hd t2 t1 h6⟩
      · refine dr_wF (by decide) ?_
        simp only [↓reduceIte]
        rw [O1.2.2.1]
        refine dr_wV (s_wrong (d + 4) 3 _ z1 O1.1.1) ?_
        have X := dr_XM_zw (v := 3) (a := dr_at B n e1) S1 hw
        rw [b_Mod_wishLine_134]
        exact dr_wF (dr_XM_ne X) (dr_wR ⟨rfl, X⟩)
    · rw [dr_pIsl_n q2]
      refine dr_wI (g4 q2) ?_
      have X := dr_XM_zw (v := dr_ni B n e1 Nm) (a := dr_at B n e1) S1 hw
      exact X32b _ _ _ _ _ X
  · rw [dr_pIsl_n q1]
    refine dr_wI (g2 q1) ?_
    have X := dr_XM_zw (v := dr_ni B n e Nm) (a := dr_at B n e) hS hw
    refine dr_wI (s_here_x (d + 4) _ X.1) ?_
    exact X32b _ _ _ _ _ X
