theorem s_readWish (d t : Nat) (z0 z : ds_St) (B : Nat → Nat) (n e : Nat) (Nm : Nat → List Nat) (D : Nat → Nat → Nat) (hO : dr_O z B n e) (hS : dr_S z0 t true Nm D D z) (hn : dr_nok D Nm) (hd : dr_dok true D) (h6 : D 0 6 < 6) : ∃ z', ds_call (d + 5) j_Reader_readWish [.ref 1] z = some (none, z') ∧ dr_postC z0 t B n (dr_wsh B n e Nm D) z' := by
  have ht := hS.1.2
  have hKt := ds_Kt ht
  have hc : D 0 4 + D 0 5 ≤ 22 := by have := hd.1; have := hd.2.1; omega
  have X36 : ∀ (r1 r3 : Int32) (y : ds_St) (v a : Nat), dr_X z0 t v a y → dr_w (ds_Rw ds_c_Reader_readWish ds_u_Reader_readWish (ds_call (d + 4)) 36 [some (.ref 1), some (.int r1), some (.int r3)] [] y) (fun w z' => w = none ∧ dr_X z0 t v a z') := by
    intro r1 r3 y v a X
    rw [b_Reader_readWish_36, dl_0]
    refine dr_wT (dr_ne0 X.1 X.2.1.1 X.2.1.2) ?_
    refine dr_wV (s_adv_x (d + 3) v y X.1 X.2.1.1 X.2.1.2) ?_
    exact dr_wR ⟨rfl, X⟩
  have X31 : ∀ (r1 r3 : Int32) (y : ds_St) (v a : Nat), dr_X z0 t v a y → dr_w (ds_Rw ds_c_Reader_readWish ds_u_Reader_readWish (ds_call (d + 4)) 31 [some (.ref 1), some (.int r1), some (.int r3)] [] y) (fun w z' => w = none ∧ dr_X z0 t v a z') := by
    intro r1 r3 y v a X
    rw [b_Reader_readWish_31]
    refine dr_wV (s_blame_x (d + 3) v 3 y X.1 X.2.1.1 X.2.1.2) ?_
    exact X36 r1 r3 y v a X
  have Xm : ∀ (r1 r3 : Int32) (y : ds_St) (v a : Nat), dr_X z0 t v a y → dr_w (if r1 = r3 then ds_Rw ds_c_Reader_readWish ds_u_Reader_readWish (ds_call (d + 4)) 31 [some (.ref 1), some (.int r1), some (.int r3)] [] y else ds_isK (y.2.2 1) 7 ((ds_cI (ds_call (d + 4)) j_Told_hasWish [.ref (y.2.2 1), .int r1, .int r3] y fun r4 z4 => if r4 = 0 then ds_Rw ds_c_Reader_readWish ds_u_Reader_readWish (ds_call (d + 4)) 36 [some (.ref 1), some (.int r1), some (.int r3)] [] z4 else ds_Rw ds_c_Reader_readWish ds_u_Reader_readWish (ds_call (d + 4)) 31 [some (.ref 1), some (.int r1), some (.int r3)] [] z4))) (fun w z' => w = none ∧ dr_X z0 t v a z') := by
    intro r1 r3 y v a X
    by_cases q : r1 = r3
    · exact dr_wT q (X31 r1 r3 y v a X)
    · refine dr_wF q ?_
      rw [X.2.2.2.1.1]
      refine dr_wK hKt ?_
      obtain ⟨b, hb⟩ := s_hasWishX (d + 2) r1 r3 X
      refine dr_wI hb ?_
      cases b
      · exact dr_wT (by decide) (X36 r1 r3 y v a X)
      · exact dr_wF (by decide) (X31 r1 r3 y v a X)
  apply dr_wc (c_Reader_readWish _ _ _)
  rw [b_Reader_readWish_0]
  unfold dr_wsh
  obtain ⟨n1, n2⟩ := s_named d z z0 t true B n e Nm D D hO hS hn
  by_cases h1 : dr_ni B n e Nm = 0
  · rw [dr_pIsl_s h1]
    refine dr_wI (n1 h1) ?_
    obtain ⟨z1, w1, O1, f1⟩ := s_next (d + 1) z B n e hO
    refine dr_wV w1 ?_
    have S1 := dr_S_f1 hS f1
    obtain ⟨m1, m2⟩ := s_named d z1 z0 t true B n _ Nm D D O1 S1 hn
    by_cases h2 : dr_ni B n (dr_nx B n e) Nm = 0
    · rw [dr_pIsl_s h2]
      refine dr_wI (m1 h2) ?_
      have sa := (dr_ni_0 h1).2.2
      have sb := (dr_ni_0 h2).2.2
      generalize dr_slot Nm (dr_wl B n e) = a at *
      generalize dr_slot Nm (dr_wl B n (dr_nx B n e)) = b at *
      have bl := s_blame (d + 3) 3 z1 O1.1.1
      have X := dr_X_zb (v := 3) O1 S1 hc hd.2.2.1 (by decide) (by decide)
      have fail31 : dr_w (ds_Rw ds_c_Reader_readWish ds_u_Reader_readWish (ds_call (d + 4)) 31 [some (.ref 1), some (.int (nI a)), some (.int (nI b))] [] z1) (fun w z' => w = none ∧ dr_postC z0 t B n (.inl (3, dr_at B n (dr_nx B n e))) z') := by
        rw [b_Reader_readWish_31]
        refine dr_wV bl ?_
        exact X36 _ _ _ _ _ X
      by_cases q : a = b
      · rw [decide_eq_true q, Bool.true_or, if_pos rfl]
        exact dr_wT (by rw [q]) fail31
      · rw [decide_eq_false q, Bool.false_or]
        refine dr_wF (by rw [nI_eq (by omega) (by omega)]; exact q) ?_
        rw [S1.1.1]
        refine dr_wK hKt ?_
        have hw := s_hasWish (d + 2) t a b z1 D ht S1.2.1.2.1.2.2.1 hd.2.2.1 S1.2.1.2.2.2.2.1 (fun m hm => by
          have x := hd.2.2.2.2.2.2.2.1 m hm
          have y := hd.1
          omega) sa sb
        refine dr_wI hw ?_
        cases hv : dr_hw D a b
        · refine dr_wT (by decide) ?_
          rw [if_neg (by decide), b_Reader_readWish_36]
          refine dr_wF (fun q => q O1.1.1) ?_
          rw [S1.1.1]
          refine dr_wK hKt ?_
          obtain ⟨z2, v1, O2, S2⟩ := s_addW (d + 2) t z0 z1 a b B n _ Nm D O1 S1 h6
          refine dr_wV v1 ?_
          obtain ⟨z3, u1, O3, f3⟩ := s_next (d + 1) z2 B n _ O2
          refine dr_wV u1 ?_
          exact dr_wR ⟨rfl, O3, dr_S_f1 S2 f3⟩
        · refine dr_wF (by decide) ?_
          rw [if_pos rfl]
          exact fail31
    · rw [dr_pIsl_n h2]
      have u := (dr_ni_6 B n (dr_nx B n e) Nm).resolve_left h2
      have X := dr_X_zb O1 S1 hc hd.2.2.1 u.1 u.2
      obtain ⟨r, hr⟩ := m2 h2
      refine dr_wI hr ?_
      exact Xm _ _ _ _ _ X
  · rw [dr_pIsl_n h1]
    have u := (dr_ni_6 B n e Nm).resolve_left h1
    have X := dr_X_zb hO hS hc hd.2.2.1 u.1 u.2
    obtain ⟨r, hr⟩ := n2 h1
    refine dr_wI hr ?_
    refine dr_wV (s_adv_x (d + 3) _ _ X.1 X.2.1.1 X.2.1.2) ?_
    obtain ⟨r3, h3⟩ := s_namedX d X
    refine dr_wI h3 ?_
    exact Xm _ _ _ _ _ X
theorem s_readShows (d t : Nat) (z0 z : ds_St) (B : Nat → Nat) (n e : Nat) (Nm : Nat → List Nat) (D : Nat → Nat → Nat) (hO : dr_O z B n e) (hS : dr_S z0 t true Nm D D z) (hn : dr_nok D Nm) (hd : dr_dok true D) (h6 : D 0 7 < 6) : ∃ z', ds_call (d + 5) j_Reader_readShows [.ref 1] z = some (none, z') ∧ dr_postC z0 t B n (dr_shw B n e Nm D) z' := by
  have ht := hS.1.2
  have hKt := ds_Kt ht
  have hc : D 0 4 + D 0 5 ≤ 22 := by have := hd.1; have := hd.2.1; omega
  obtain ⟨⟨w2, w4⟩, ⟨g2, g3⟩, _, _⟩ := hd.2.2.2.2.1 rfl
  have hR : D 0 0 * D 0 1 ≤ 12 := Nat.mul_le_mul w4 g3
  have hR2 : 2 * 2 ≤ D 0 0 * D 0 1 := Nat.mul_le_mul w2 g2
  obtain ⟨t0, t1, _, _⟩ := hS.2.1.1 rfl
  have rm := s_room (d + 3) t z ht
  rw [t0, t1, pk_mul] at rm
  apply dr_wc (c_Reader_readShows _ _ _)
  rw [b_Reader_readShows_0, hS.1.1]
  refine dr_wK hKt ?_
  refine dr_wI rm ?_
  rw [dl_1, dl_0, pk_sub (show 1 ≤ D 0 0 * D 0 1 by omega)]
  unfold dr_shw
  obtain ⟨a1, b1⟩ := s_whole d 0 (D 0 0 * D 0 1 - 1) z B n e hO (by decide) (by omega)
  by_cases h1 : dr_nu B n e 0 (D 0 0 * D 0 1 - 1) = 0
  · rw [dr_pNum_s h1]
    obtain ⟨z1, w1, O1, f1⟩ := a1 h1
    have S1 := dr_S_f1 hS f1
    refine dr_wI w1 ?_
    obtain ⟨m1, m2⟩ := s_named d z1 z0 t true B n _ Nm D D O1 S1 hn
    by_cases h2 : dr_ni B n (dr_nx B n e) Nm = 0
    · rw [dr_pIsl_s h2]
      refine dr_wI (m1 h2) ?_
      refine dr_wF (fun q => q O1.1.1) ?_
      rw [S1.1.1]
      refine dr_wK hKt ?_
      obtain ⟨z2, v1, O2, S2⟩ := s_addS (d + 2) t z0 z1 (dr_wh B n e) (dr_slot Nm (dr_wl B n (dr_nx B n e))) B n _ Nm D O1 S1 h6
      refine dr_wV v1 ?_
      obtain ⟨z3, u1, O3, f3⟩ := s_next (d + 1) z2 B n _ O2
      refine dr_wV u1 ?_
      exact dr_wR ⟨rfl, O3, dr_S_f1 S2 f3⟩
    · rw [dr_pIsl_n h2]
      have u := (dr_ni_6 B n (dr_nx B n e) Nm).resolve_left h2
      have X := dr_X_zb O1 S1 hc hd.2.2.1 u.1 u.2
      obtain ⟨r, hr⟩ := m2 h2
      refine dr_wI hr ?_
      refine dr_wT (dr_ne0 X.1 X.2.1.1 X.2.1.2) ?_
      refine dr_wV (s_adv_x (d + 3) _ _ X.1 X.2.1.1 X.2.1.2) ?_
      exact dr_wR ⟨rfl, X⟩
  · rw [dr_pNum_n h1]
    have u := (dr_nu_6 B n e 0 (D 0 0 * D 0 1 - 1)).resolve_left h1
    have X := dr_X_zb hO hS hc hd.2.2.1 u.1 u.2
    refine dr_wI (b1 h1) ?_
    obtain ⟨r3, h3⟩ := s_namedX d X
    refine dr_wI h3 ?_
    refine dr_wT (dr_ne0 X.1 X.2.1.1 X.2.1.2) ?_
    refine dr_wV (s_adv_x (d + 3) _ _ X.1 X.2.1.1 X.2.1.2) ?_
    exact dr_wR ⟨rfl, X⟩
/-! a line -/
def dr_full (k : Nat) (D : Nat → Nat → Nat) : Bool := if k = 1 then decide (12 ≤ D 0 4) else if k = 2 then decide (10 ≤ D 0 5) else if k = 3 then decide (6 ≤ D 0 6) else if k = 4 then decide (6 ≤ D 0 7) else false
/-- the fault of a line's first word, of sort k -/
def dr_ck (hs : Bool) (k : Nat) (D : Nat → Nat → Nat) : Nat := if hs = false ∧ k ≠ 0 then 6 else if hs = true ∧ k = 0 then 3 else if dr_full k D = true then 5 else 0
def dr_line (hs : Bool) (B : Nat → Nat) (n e : Nat) (Nm : Nat → List Nat) (D : Nat → Nat → Nat) : dr_Rs :=
  dr_pOne B n e 300 fun k e1 => if dr_ck hs k D = 0 then (if k = 0 then dr_sea B n e1 Nm D else if k = 1 then dr_isl B n e1 Nm D else if k = 2 then dr_fam B n e1 Nm D else if k = 3 then dr_wsh B n e1 Nm D else dr_shw B n e1 Nm D) else .inl (dr_ck hs k D, dr_at B n e)
theorem s_isFull (d k t : Nat) (z : ds_St) (hs : Bool) (D : Nat → Nat → Nat) (h1 : z.2.2 1 = t) (ht : t = 10 ∨ t = 30) (hC : dr_dC z t hs D) (hd : dr_dok hs D) (hk : k < 5) : ds_call (d + 1) j_Reader_isFull [.ref 1, .int (nI k)] z = some (some (.int (ds_bo (dr_full k D))), z) := by
  have hKt := ds_Kt ht
  obtain ⟨a4, a9, a11, a14⟩ := hC.2.1
  have d4 := hd.1
  have d5 := hd.2.1
  have d6 := hd.2.2.1
  have d7 := hd.2.2.2.1
  rw [c_Reader_isFull, b_Reader_isFull_0]
  unfold dr_full
  have : k = 0 ∨ k = 1 ∨ k = 2 ∨ k = 3 ∨ k = 4 := by omega
  rcases this with rfl | rfl | rfl | rfl | rfl
  · simp (disch := first | assumption | omega) only [ds_cI, ds_cV, ds_cL, ds_cR, ds_nn, ds_isK_t, ds_isA_t, ds_chk_t, ds_chkN, ds_nz_t, ds_nzN, ds_isB_t, ds_isB_bo, ↓dl_m1, ↓dl_m2, dl_0, dl_1, dl_2, dl_3, dl_4, dl_5, dl_6, dl_7, dl_8, dl_9, dl_10, dl_11, dl_12, dl_13, dl_14, dl_15, dl_16, dl_20, dl_24, dl_31, dl_50, dl_57, dl_67, dl_68, dl_74, dl_75, dl_79, dl_80, dl_99, dl_100, dl_200, dl_210, dl_224, dl_255, dl_289, dl_900, dl_1000, dl_1728, dl_65536, dl_65537, nI_add, pk_mul, pk_sub, pk_div, pk_rem, ds_rem2, nI_clamp, nI_leI, nI_ltI, nI_eq, ds_m1_eq, ds_eq_m1, ds_m2_eq, ds_eq_m2, ds_m1_le, ds_le_m1, ds_m1_lt, ds_lt_m1, ds_in_N, ds_bo0, ds_bo1, if_pos, if_neg, Nat.not_le, Nat.not_lt, not_true_eq_false, not_false_eq_true, if_true, if_false, ne_eq, Option.some.injEq, Prod.mk.injEq, Value.int.injEq, true_and, and_true, and_self, ite_self, Bool.not_eq_true, Bool.not_eq_false, Bool.true_eq_false, Bool.false_eq_true, reduceCtorEq, Nat.zero_add, Nat.reduceAdd, Nat.reduceMul, Nat.reduceSub, ds_setI_row, ds_setL_row, ds_rowI_self, ds_rowI_ne, ds_rowI_2, ds_rowI_rowI, ds_setS_1, ds_setS_21, ds_setS_self, ds_setS_ne, pk_us, pk_un]
    rfl
  · simp (disch := first | assumption | omega) only [ds_cI, ds_cV, ds_cL, ds_cR, ds_nn, ds_isK_t, ds_isA_t, ds_chk_t, ds_chkN, ds_nz_t, ds_nzN, ds_isB_t, ds_isB_bo, ↓dl_m1, ↓dl_m2, dl_0, dl_1, dl_2, dl_3, dl_4, dl_5, dl_6, dl_7, dl_8, dl_9, dl_10, dl_11, dl_12, dl_13, dl_14, dl_15, dl_16, dl_20, dl_24, dl_31, dl_50, dl_57, dl_67, dl_68, dl_74, dl_75, dl_79, dl_80, dl_99, dl_100, dl_200, dl_210, dl_224, dl_255, dl_289, dl_900, dl_1000, dl_1728, dl_65536, dl_65537, nI_add, pk_mul, pk_sub, pk_div, pk_rem, ds_rem2, nI_clamp, nI_leI, nI_ltI, nI_eq, ds_m1_eq, ds_eq_m1, ds_m2_eq, ds_eq_m2, ds_m1_le, ds_le_m1, ds_m1_lt, ds_lt_m1, ds_in_N, ds_bo0, ds_bo1, if_pos, if_neg, Nat.not_le, Nat.not_lt, not_true_eq_false, not_false_eq_true, if_true, if_false, ne_eq, Option.some.injEq, Prod.mk.injEq, Value.int.injEq, true_and, and_true, and_self, ite_self, Bool.not_eq_true, Bool.not_eq_false, Bool.true_eq_false, Bool.false_eq_true, reduceCtorEq, Nat.zero_add, Nat.reduceAdd, Nat.reduceMul, Nat.reduceSub, ds_setI_row, ds_setL_row, ds_rowI_self, ds_rowI_ne, ds_rowI_2, ds_rowI_rowI, ds_setS_1, ds_setS_21, ds_setS_self, ds_setS_ne, pk_us, pk_un, b_Reader_isFull_32, h1, a4]
    by_cases q : 12 ≤ D 0 4
    · rw [decide_eq_true q, if_neg (by omega)]
      rfl
    · rw [decide_eq_false q, if_pos (by omega)]
      rfl
  · simp (disch := first | assumption | omega) only [ds_cI, ds_cV, ds_cL, ds_cR, ds_nn, ds_isK_t, ds_isA_t, ds_chk_t, ds_chkN, ds_nz_t, ds_nzN, ds_isB_t, ds_isB_bo, ↓dl_m1, ↓dl_m2, dl_0, dl_1, dl_2, dl_3, dl_4, dl_5, dl_6, dl_7, dl_8, dl_9, dl_10, dl_11, dl_12, dl_13, dl_14, dl_15, dl_16, dl_20, dl_24, dl_31, dl_50, dl_57, dl_67, dl_68, dl_74, dl_75, dl_79, dl_80, dl_99, dl_100, dl_200, dl_210, dl_224, dl_255, dl_289, dl_900, dl_1000, dl_1728, dl_65536, dl_65537, nI_add, pk_mul, pk_sub, pk_div, pk_rem, ds_rem2, nI_clamp, nI_leI, nI_ltI, nI_eq, ds_m1_eq, ds_eq_m1, ds_m2_eq, ds_eq_m2, ds_m1_le, ds_le_m1, ds_m1_lt, ds_lt_m1, ds_in_N, ds_bo0, ds_bo1, if_pos, if_neg, Nat.not_le, Nat.not_lt, not_true_eq_false, not_false_eq_true, if_true, if_false, ne_eq, Option.some.injEq, Prod.mk.injEq, Value.int.injEq, true_and, and_true, and_self, ite_self, Bool.not_eq_true, Bool.not_eq_false, Bool.true_eq_false, Bool.false_eq_true, reduceCtorEq, Nat.zero_add, Nat.reduceAdd, Nat.reduceMul, Nat.reduceSub, ds_setI_row, ds_setL_row, ds_rowI_self, ds_rowI_ne, ds_rowI_2, ds_rowI_rowI, ds_setS_1, ds_setS_21, ds_setS_self, ds_setS_ne, pk_us, pk_un, b_Reader_isFull_50, h1, a9]
    by_cases q : 10 ≤ D 0 5
    · rw [decide_eq_true q, if_neg (by omega)]
      rfl
    · rw [decide_eq_false q, if_pos (by omega)]
      rfl
  · simp (disch := first | assumption | omega) only [ds_cI, ds_cV, ds_cL, ds_cR, ds_nn, ds_isK_t, ds_isA_t, ds_chk_t, ds_chkN, ds_nz_t, ds_nzN, ds_isB_t, ds_isB_bo, ↓dl_m1, ↓dl_m2, dl_0, dl_1, dl_2, dl_3, dl_4, dl_5, dl_6, dl_7, dl_8, dl_9, dl_10, dl_11, dl_12, dl_13, dl_14, dl_15, dl_16, dl_20, dl_24, dl_31, dl_50, dl_57, dl_67, dl_68, dl_74, dl_75, dl_79, dl_80, dl_99, dl_100, dl_200, dl_210, dl_224, dl_255, dl_289, dl_900, dl_1000, dl_1728, dl_65536, dl_65537, nI_add, pk_mul, pk_sub, pk_div, pk_rem, ds_rem2, nI_clamp, nI_leI, nI_ltI, nI_eq, ds_m1_eq, ds_eq_m1, ds_m2_eq, ds_eq_m2, ds_m1_le, ds_le_m1, ds_m1_lt, ds_lt_m1, ds_in_N, ds_bo0, ds_bo1, if_pos, if_neg, Nat.not_le, Nat.not_lt, not_true_eq_false, not_false_eq_true, if_true, if_false, ne_eq, Option.some.injEq, Prod.mk.injEq, Value.int.injEq, true_and, and_true, and_self, ite_self, Bool.not_eq_true, Bool.not_eq_false, Bool.true_eq_false, Bool.false_eq_true, reduceCtorEq, Nat.zero_add, Nat.reduceAdd, Nat.reduceMul, Nat.reduceSub, ds_setI_row, ds_setL_row, ds_rowI_self, ds_rowI_ne, ds_rowI_2, ds_rowI_rowI, ds_setS_1, ds_setS_21, ds_setS_self, ds_setS_ne, pk_us, pk_un, b_Reader_isFull_68, h1, a11]
    by_cases q : 6 ≤ D 0 6
    · rw [decide_eq_true q, if_neg (by omega)]
      rfl
    · rw [decide_eq_false q, if_pos (by omega)]
      rfl
  · simp (disch := first | assumption | omega) only [ds_cI, ds_cV, ds_cL, ds_cR, ds_nn, ds_isK_t, ds_isA_t, ds_chk_t, ds_chkN, ds_nz_t, ds_nzN, ds_isB_t, ds_isB_bo, ↓dl_m1, ↓dl_m2, dl_0, dl_1, dl_2, dl_3, dl_4, dl_5, dl_6, dl_7, dl_8, dl_9, dl_10, dl_11, dl_12, dl_13, dl_14, dl_15, dl_16, dl_20, dl_24, dl_31, dl_50, dl_57, dl_67, dl_68, dl_74, dl_75, dl_79, dl_80, dl_99, dl_100, dl_200, dl_210, dl_224, dl_255, dl_289, dl_900, dl_1000, dl_1728, dl_65536, dl_65537, nI_add, pk_mul, pk_sub, pk_div, pk_rem, ds_rem2, nI_clamp, nI_leI, nI_ltI, nI_eq, ds_m1_eq, ds_eq_m1, ds_m2_eq, ds_eq_m2, ds_m1_le, ds_le_m1, ds_m1_lt, ds_lt_m1, ds_in_N, ds_bo0, ds_bo1, if_pos, if_neg, Nat.not_le, Nat.not_lt, not_true_eq_false, not_false_eq_true, if_true, if_false, ne_eq, Option.some.injEq, Prod.mk.injEq, Value.int.injEq, true_and, and_true, and_self, ite_self, Bool.not_eq_true, Bool.not_eq_false, Bool.true_eq_false, Bool.false_eq_true, reduceCtorEq, Nat.zero_add, Nat.reduceAdd, Nat.reduceMul, Nat.reduceSub, ds_setI_row, ds_setL_row, ds_rowI_self, ds_rowI_ne, ds_rowI_2, ds_rowI_rowI, ds_setS_1, ds_setS_21, ds_setS_self, ds_setS_ne, pk_us, pk_un, b_Reader_isFull_86, h1, a14]
    by_cases q : 6 ≤ D 0 7
    · rw [decide_eq_true q, if_neg (by omega)]
      rfl
    · rw [decide_eq_false q, if_pos (by omega)]
      rfl
theorem s_checkLine (d k t : Nat) (z z0 : ds_St) (hs : Bool) (B : Nat → Nat) (n e : Nat) (Nm : Nat → List Nat) (D : Nat → Nat → Nat) (hO : dr_O z B n e) (hS : dr_S z0 t hs Nm D D z) (hd : dr_dok hs D) (hk : k < 5) : ds_call (d + 2) j_Reader_checkLine [.ref 1, .int (nI k), .int (ds_bo (!hs))] z = some (none, if dr_ck hs k D = 0 then z else dr_zb z (dr_ck hs k D)) := by
  have fl := s_isFull d k t z hs D hS.1.1 hS.1.2 hS.2.1 hd hk
  have bl := fun v => s_blame d v z hO.1.1
  rw [c_Reader_checkLine, b_Reader_checkLine_0]
  unfold dr_ck
  cases hs
  · by_cases k0 : k = 0
    · subst k0
      have ff : dr_full 0 D = false := rfl
      rw [ff] at fl ⊢
      simp (disch := first | assumption | omega) only [ds_cI, ds_cV, ds_cL, ds_cR, ds_nn, ds_isK_t, ds_isA_t, ds_chk_t, ds_chkN, ds_nz_t, ds_nzN, ds_isB_t, ds_isB_bo, ↓dl_m1, ↓dl_m2, dl_0, dl_1, dl_2, dl_3, dl_4, dl_5, dl_6, dl_7, dl_8, dl_9, dl_10, dl_11, dl_12, dl_13, dl_14, dl_15, dl_16, dl_20, dl_24, dl_31, dl_50, dl_57, dl_67, dl_68, dl_74, dl_75, dl_79, dl_80, dl_99, dl_100, dl_200, dl_210, dl_224, dl_255, dl_289, dl_900, dl_1000, dl_1728, dl_65536, dl_65537, nI_add, pk_mul, pk_sub, pk_div, pk_rem, ds_rem2, nI_clamp, nI_leI, nI_ltI, nI_eq, ds_m1_eq, ds_eq_m1, ds_m2_eq, ds_eq_m2, ds_m1_le, ds_le_m1, ds_m1_lt, ds_lt_m1, ds_in_N, ds_bo0, ds_bo1, if_pos, if_neg, Nat.not_le, Nat.not_lt, not_true_eq_false, not_false_eq_true, if_true, if_false, ne_eq, Option.some.injEq, Prod.mk.injEq, Value.int.injEq, true_and, and_true, and_self, ite_self, Bool.not_eq_true, Bool.not_eq_false, Bool.true_eq_false, Bool.false_eq_true, reduceCtorEq, Nat.zero_add, Nat.reduceAdd, Nat.reduceMul, Nat.reduceSub, ds_setI_row, ds_setL_row, ds_rowI_self, ds_rowI_ne, ds_rowI_2, ds_rowI_rowI, ds_setS_1, ds_setS_21, ds_setS_self, ds_setS_ne, pk_us, pk_un, Bool.not_false, b_Reader_checkLine_30, b_Reader_checkLine_46, fl]
    · simp (disch := first | assumption | omega) only [ds_cI, ds_cV, ds_cL, ds_cR, ds_nn, ds_isK_t, ds_isA_t, ds_chk_t, ds_chkN, ds_nz_t, ds_nzN, ds_isB_t, ds_isB_bo, ↓dl_m1, ↓dl_m2, dl_0, dl_1, dl_2, dl_3, dl_4, dl_5, dl_6, dl_7, dl_8, dl_9, dl_10, dl_11, dl_12, dl_13, dl_14, dl_15, dl_16, dl_20, dl_24, dl_31, dl_50, dl_57, dl_67, dl_68, dl_74, dl_75, dl_79, dl_80, dl_99, dl_100, dl_200, dl_210, dl_224, dl_255, dl_289, dl_900, dl_1000, dl_1728, dl_65536, dl_65537, nI_add, pk_mul, pk_sub, pk_div, pk_rem, ds_rem2, nI_clamp, nI_leI, nI_ltI, nI_eq, ds_m1_eq, ds_eq_m1, ds_m2_eq, ds_eq_m2, ds_m1_le, ds_le_m1, ds_m1_lt, ds_lt_m1, ds_in_N, ds_bo0, ds_bo1, if_pos, if_neg, Nat.not_le, Nat.not_lt, not_true_eq_false, not_false_eq_true, if_true, if_false, ne_eq, Option.some.injEq, Prod.mk.injEq, Value.int.injEq, true_and, and_true, and_self, ite_self, Bool.not_eq_true, Bool.not_eq_false, Bool.true_eq_false, Bool.false_eq_true, reduceCtorEq, Nat.zero_add, Nat.reduceAdd, Nat.reduceMul, Nat.reduceSub, ds_setI_row, ds_setL_row, ds_rowI_self, ds_rowI_ne, ds_rowI_2, ds_rowI_rowI, ds_setS_1, ds_setS_21, ds_setS_self, ds_setS_ne, pk_us, pk_un, Bool.not_false, k0, bl]
  · by_cases k0 : k = 0
    · subst k0
      simp (disch := first | assumption | omega) only [ds_cI, ds_cV, ds_cL, ds_cR, ds_nn, ds_isK_t, ds_isA_t, ds_chk_t, ds_chkN, ds_nz_t, ds_nzN, ds_isB_t, ds_isB_bo, ↓dl_m1, ↓dl_m2, dl_0, dl_1, dl_2, dl_3, dl_4, dl_5, dl_6, dl_7, dl_8, dl_9, dl_10, dl_11, dl_12, dl_13, dl_14, dl_15, dl_16, dl_20, dl_24, dl_31, dl_50, dl_57, dl_67, dl_68, dl_74, dl_75, dl_79, dl_80, dl_99, dl_100, dl_200, dl_210, dl_224, dl_255, dl_289, dl_900, dl_1000, dl_1728, dl_65536, dl_65537, nI_add, pk_mul, pk_sub, pk_div, pk_rem, ds_rem2, nI_clamp, nI_leI, nI_ltI, nI_eq, ds_m1_eq, ds_eq_m1, ds_m2_eq, ds_eq_m2, ds_m1_le, ds_le_m1, ds_m1_lt, ds_lt_m1, ds_in_N, ds_bo0, ds_bo1, if_pos, if_neg, Nat.not_le, Nat.not_lt, not_true_eq_false, not_false_eq_true, if_true, if_false, ne_eq, Option.some.injEq, Prod.mk.injEq, Value.int.injEq, true_and, and_true, and_self, ite_self, Bool.not_eq_true, Bool.not_eq_false, Bool.true_eq_false, Bool.false_eq_true, reduceCtorEq, Nat.zero_add, Nat.reduceAdd, Nat.reduceMul, Nat.reduceSub, ds_setI_row, ds_setL_row, ds_rowI_self, ds_rowI_ne, ds_rowI_2, ds_rowI_rowI, ds_setS_1, ds_setS_21, ds_setS_self, ds_setS_ne, pk_us, pk_un, Bool.not_true, b_Reader_checkLine_30, bl]
    · cases ff : dr_full k D
      · rw [ff] at fl
        simp (disch := first | assumption | omega) only [ds_cI, ds_cV, ds_cL, ds_cR, ds_nn, ds_isK_t, ds_isA_t, ds_chk_t, ds_chkN, ds_nz_t, ds_nzN, ds_isB_t, ds_isB_bo, ↓dl_m1, ↓dl_m2, dl_0, dl_1, dl_2, dl_3, dl_4, dl_5, dl_6, dl_7, dl_8, dl_9, dl_10, dl_11, dl_12, dl_13, dl_14, dl_15, dl_16, dl_20, dl_24, dl_31, dl_50, dl_57, dl_67, dl_68, dl_74, dl_75, dl_79, dl_80, dl_99, dl_100, dl_200, dl_210, dl_224, dl_255, dl_289, dl_900, dl_1000, dl_1728, dl_65536, dl_65537, nI_add, pk_mul, pk_sub, pk_div, pk_rem, ds_rem2, nI_clamp, nI_leI, nI_ltI, nI_eq, ds_m1_eq, ds_eq_m1, ds_m2_eq, ds_eq_m2, ds_m1_le, ds_le_m1, ds_m1_lt, ds_lt_m1, ds_in_N, ds_bo0, ds_bo1, if_pos, if_neg, Nat.not_le, Nat.not_lt, not_true_eq_false, not_false_eq_true, if_true, if_false, ne_eq, Option.some.injEq, Prod.mk.injEq, Value.int.injEq, true_and, and_true, and_self, ite_self, Bool.not_eq_true, Bool.not_eq_false, Bool.true_eq_false, Bool.false_eq_true, reduceCtorEq, Nat.zero_add, Nat.reduceAdd, Nat.reduceMul, Nat.reduceSub, ds_setI_row, ds_setL_row, ds_rowI_self, ds_rowI_ne, ds_rowI_2, ds_rowI_rowI, ds_setS_1, ds_setS_21, ds_setS_self, ds_setS_ne, pk_us, pk_un, Bool.not_true, b_Reader_checkLine_30, b_Reader_checkLine_46, k0, fl]
      · rw [ff] at fl
        simp (disch := first | assumption | omega) only [ds_cI, ds_cV, ds_cL, ds_cR, ds_nn, ds_isK_t, ds_isA_t, ds_chk_t, ds_chkN, ds_nz_t, ds_nzN, ds_isB_t, ds_isB_bo, ↓dl_m1, ↓dl_m2, dl_0, dl_1, dl_2, dl_3, dl_4, dl_5, dl_6, dl_7, dl_8, dl_9, dl_10, dl_11, dl_12, dl_13, dl_14, dl_15, dl_16, dl_20, dl_24, dl_31, dl_50, dl_57, dl_67, dl_68, dl_74, dl_75, dl_79, dl_80, dl_99, dl_100, dl_200, dl_210, dl_224, dl_255, dl_289, dl_900, dl_1000, dl_1728, dl_65536, dl_65537, nI_add, pk_mul, pk_sub, pk_div, pk_rem, ds_rem2, nI_clamp, nI_leI, nI_ltI, nI_eq, ds_m1_eq, ds_eq_m1, ds_m2_eq, ds_eq_m2, ds_m1_le, ds_le_m1, ds_m1_lt, ds_lt_m1, ds_in_N, ds_bo0, ds_bo1, if_pos, if_neg, Nat.not_le, Nat.not_lt, not_true_eq_false, not_false_eq_true, if_true, if_false, ne_eq, Option.some.injEq, Prod.mk.injEq, Value.int.injEq, true_and, and_true, and_self, ite_self, Bool.not_eq_true, Bool.not_eq_false, Bool.true_eq_false, Bool.false_eq_true, reduceCtorEq, Nat.zero_add, Nat.reduceAdd, Nat.reduceMul, Nat.reduceSub, ds_setI_row, ds_setL_row, ds_rowI_self, ds_rowI_ne, ds_rowI_2, ds_rowI_rowI, ds_setS_1, ds_setS_21, ds_setS_self, ds_setS_ne, pk_us, pk_un, Bool.not_true, b_Reader_checkLine_30, b_Reader_checkLine_46, k0, fl, bl]
theorem dr_more_I {D : Nat → Nat → Nat} (h : D 0 4 < 12) (h5 : D 0 5 ≤ 10) : dr_more D (dr_D1 D 0 4 (D 0 4 + 1)) (D 0 4) := by
  have e4 : dr_D1 D 0 4 (D 0 4 + 1) 0 4 = D 0 4 + 1 := by simp [dr_D1]
  have e5 : dr_D1 D 0 4 (D 0 4 + 1) 0 5 = D 0 5 := by simp [dr_D1]
  refine ⟨fun j => ?_, ?_, by omega, by omega, by omega⟩
  · unfold dr_used
    rw [e4, e5]
    apply dk_boolext
    simp
    omega
  · unfold dr_used
    simp
    omega
theorem dr_more_F {D : Nat → Nat → Nat} (h : D 0 4 ≤ 12) (h5 : D 0 5 < 10) : dr_more D (dr_D1 D 0 5 (D 0 5 + 1)) (12 + D 0 5) := by
  have e4 : dr_D1 D 0 5 (D 0 5 + 1) 0 4 = D 0 4 := by simp [dr_D1]
  have e5 : dr_D1 D 0 5 (D 0 5 + 1) 0 5 = D 0 5 + 1 := by simp [dr_D1]
  refine ⟨fun j => ?_, ?_, by omega, by omega, by omega⟩
  · unfold dr_used
    rw [e4, e5]
    apply dk_boolext
    simp
    omega
  · unfold dr_used
    simp
    omega
theorem s_readLine (d t : Nat) (z0 z : ds_St) (hs : Bool) (B : Nat → Nat) (n e : Nat) (Nm : Nat → List Nat) (D : Nat → Nat → Nat) (hO : dr_O z B n e) (hS : dr_S z0 t hs Nm D D z) (hn : dr_nok D Nm) (hd : dr_dok hs D) : ∃ z', ds_call (d + 6) j_Reader_readLine [.ref 1, .int (ds_bo (!hs))] z = some (none, z') ∧ dr_postC z0 t B n (dr_line hs B n e Nm D) z' := by
  have ht := hS.1.2
  have hc : D 0 4 + D 0 5 ≤ 22 := by have := hd.1; have := hd.2.1; omega
  have hw := hd.2.2.1
  have h6 := hO.2.2.2.2.1
  have k4 := dr_kd_le B n e
  have X44 : ∀ (s : Int32) (y : ds_St) (v a : Nat), dr_X z0 t v a y → dr_w (ds_cV (ds_call (d + 5)) j_Reader_advance [.ref 1] y fun z2 => if ¬ (z2.1 1 9) = 0 then ds_Rw ds_c_Reader_readLine ds_u_Reader_readLine (ds_call (d + 5)) 44 [some (.ref 1), none, none] [.int (-1)] z2 else ds_Rw ds_c_Reader_readLine ds_u_Reader_readLine (ds_call (d + 5)) 44 [some (.ref 1), none, none] [.int s] z2) (fun w z' => w = none ∧ dr_X z0 t v a z') := by
    intro s y v a X
    refine dr_wV (s_adv_x (d + 4) _ _ X.1 X.2.1.1 X.2.1.2) ?_
    refine dr_wT (dr_ne0 X.1 X.2.1.1 X.2.1.2) ?_
    rw [b_Reader_readLine_44]
    refine dr_wF (by decide) (dr_wF (by decide) (dr_wF (by decide) (dr_wF (by decide) (dr_wF (by decide) ?_))))
    exact dr_wR ⟨rfl, X⟩
  apply dr_wc (c_Reader_readLine _ _ _ _)
  rw [b_Reader_readLine_0]
  unfold dr_line
  have none21 : dr_on B n e 300 = none → dr_w (ds_Rw ds_c_Reader_readLine ds_u_Reader_readLine (ds_call (d + 5)) 21 [some (.ref 1), some (.int (ds_bo (!hs))), none] [.int ds_m1] z) (fun w z' => w = none ∧ dr_postC z0 t B n (.inl (1, dr_at B n e)) z') := by
    intro _
    have ck : ds_call (d + 5) j_Reader_checkLine [.ref 1, .int ds_m1, .int (ds_bo (!hs))] z = some (none, dr_zb z 1) := by
      have bl := s_blame (d + 3) 1 z hO.1.1
      rw [c_Reader_checkLine, b_Reader_checkLine_0]
      simp (disch := first | assumption | omega) only [ds_cI, ds_cV, ds_cL, ds_cR, ds_nn, ds_isK_t, ds_isA_t, ds_chk_t, ds_chkN, ds_nz_t, ds_nzN, ds_isB_t, ds_isB_bo, ↓dl_m1, ↓dl_m2, dl_0, dl_1, dl_2, dl_3, dl_4, dl_5, dl_6, dl_7, dl_8, dl_9, dl_10, dl_11, dl_12, dl_13, dl_14, dl_15, dl_16, dl_20, dl_24, dl_31, dl_50, dl_57, dl_67, dl_68, dl_74, dl_75, dl_79, dl_80, dl_99, dl_100, dl_200, dl_210, dl_224, dl_255, dl_289, dl_900, dl_1000, dl_1728, dl_65536, dl_65537, nI_add, pk_mul, pk_sub, pk_div, pk_rem, ds_rem2, nI_clamp, nI_leI, nI_ltI, nI_eq, ds_m1_eq, ds_eq_m1, ds_m2_eq, ds_eq_m2, ds_m1_le, ds_le_m1, ds_m1_lt, ds_lt_m1, ds_in_N, ds_bo0, ds_bo1, if_pos, if_neg, Nat.not_le, Nat.not_lt, not_true_eq_false, not_false_eq_true, if_true, if_false, ne_eq, Option.some.injEq, Prod.mk.injEq, Value.int.injEq, true_and, and_true, and_self, ite_self, Bool.not_eq_true, Bool.not_eq_false, Bool.true_eq_false, Bool.false_eq_true, reduceCtorEq, Nat.zero_add, Nat.reduceAdd, Nat.reduceMul, Nat.reduceSub, ds_setI_row, ds_setL_row, ds_rowI_self, ds_rowI_ne, ds_rowI_2, ds_rowI_rowI, ds_setS_1, ds_setS_21, ds_setS_self, ds_setS_ne, pk_us, pk_un, bl]
    rw [b_Reader_readLine_21]
    refine dr_wV ck ?_
    have X := dr_X_zb (v := 1) hO hS hc hw (by decide) (by decide)
    exact X44 _ _ _ _ X
  by_cases k1 : dr_kd B n e = 1
  · have wd := dr_wl_ok hO.2.1 k1
    have lw := hO.2.2.2.2.2.1 k1
    have ch := s_cho (d + 3) 300 (dr_wl B n e) z (by decide) (by decide) wd
    rw [← lw] at ch
    rw [k1] at h6
    refine dr_wF (fun q => q h6) ?_
    refine dr_wI ch ?_
    have eo : dr_on B n e 300 = dr_id (dr_ws 300) (dr_wl B n e) := if_pos k1
    cases hk : dr_on B n e 300 with
    | none =>
      rw [dr_pOne_n hk, dr_ix_n _ _ 0 (by rw [← eo]; exact hk)]
      exact none21 hk
    | some k =>
      rw [dr_pOne_s hk]
      obtain ⟨ix, kl⟩ := dr_ix_s _ _ 0 k (by rw [← eo]; exact hk)
      rw [ix, Nat.zero_add, b_Reader_readLine_21]
      have k5 : k < 5 := kl
      have ck := s_checkLine (d + 3) k t z z0 hs B n e Nm D hO hS hd k5
      refine dr_wV ck ?_
      by_cases c0 : dr_ck hs k D = 0
      · rw [if_pos c0, if_pos c0]
        obtain ⟨z1, w1, O1, f1⟩ := s_next (d + 2) z B n e hO
        have S1 := dr_S_f1 hS f1
        refine dr_wV w1 ?_
        refine dr_wF (fun q => q O1.1.1) ?_
        rw [b_Reader_readLine_44]
        have go : ∀ {j : Nat} {r : dr_Rs}, (∃ z', ds_call (d + 5) j [.ref 1] z1 = some (none, z') ∧ dr_postC z0 t B n r z') → dr_w (ds_cV (ds_call (d + 5)) j [.ref 1] z1 fun z5 => some (none, z5)) (fun w z' => w = none ∧ dr_postC z0 t B n r z') := by
          intro j r h
          obtain ⟨z', a, b⟩ := h
          exact dr_wV a (dr_wR ⟨rfl, b⟩)
        unfold dr_ck at c0
        have hsk : (hs = false ∧ k = 0) ∨ (hs = true ∧ k ≠ 0 ∧ dr_full k D = false) := by
          cases hs
          · left
            refine ⟨rfl, ?_⟩
            by_cases q : k = 0
            · exact q
            · rw [if_pos ⟨rfl, q⟩] at c0; omega
          · right
            rw [if_neg (by simp)] at c0
            by_cases q : k = 0
            · rw [if_pos ⟨rfl, q⟩] at c0; omega
            · rw [if_neg (by simp [q])] at c0
              refine ⟨rfl, q, ?_⟩
              cases qf : dr_full k D
              · rfl
              · rw [qf, if_pos rfl] at c0; omega
        rcases hsk with ⟨h0, h1⟩ | ⟨h0, h1, h2⟩
        · subst h0
          subst h1
          refine dr_wT rfl ?_
          exact go (s_readSea d t z0 z1 B n _ Nm D O1 S1 hc hw)
        · subst h0
          have d4 := hd.1
          have d5 := hd.2.1
          have kk : k = 1 ∨ k = 2 ∨ k = 3 ∨ k = 4 := by omega
          rcases kk with rfl | rfl | rfl | rfl
          · have h2' : ¬ 12 ≤ D 0 4 := by simpa [dr_full] using h2
            have m := dr_more_I (D := D) (by omega) d5
            refine dr_wF (by decide) (dr_wT rfl ?_)
            exact go (s_readIsland d t z0 z1 B n _ Nm D (dr_D1 D 0 4 (D 0 4 + 1)) O1 S1 hn m (by omega) (by have := m.2.2.1; omega) hw ⟨by simp [dr_D1], by simp [dr_D1]⟩)
          · have h2' : ¬ 10 ≤ D 0 5 := by simpa [dr_full] using h2
            have m := dr_more_F (D := D) d4 (by omega)
            refine dr_wF (by decide) (dr_wF (by decide) (dr_wT rfl ?_))
            exact go (s_readFamily d t z0 z1 B n _ Nm D (dr_D1 D 0 5 (D 0 5 + 1)) O1 S1 hn m (by omega) (by have := m.2.2.1; have := m.2.2.2.1; have := m.2.2.2.2; omega) hw ⟨by simp [dr_D1], by simp [dr_D1]⟩)
          · have h2' : ¬ 6 ≤ D 0 6 := by simpa [dr_full] using h2
            refine dr_wF (by decide) (dr_wF (by decide) (dr_wF (by decide) (dr_wT rfl ?_)))
            exact go (s_readWish d t z0 z1 B n _ Nm D O1 S1 hn hd (by omega))
          · have h2' : ¬ 6 ≤ D 0 7 := by simpa [dr_full] using h2
            refine dr_wF (by decide) (dr_wF (by decide) (dr_wF (by decide) (dr_wF (by decide) (dr_wT rfl ?_))))
            exact go (s_readShows d t z0 z1 B n _ Nm D O1 S1 hn hd (by omega))
      · rw [if_neg c0, if_neg c0]
        have c6 : 1 ≤ dr_ck hs k D ∧ dr_ck hs k D ≤ 6 := by
          unfold dr_ck at c0 ⊢
          split
          · omega
          · split
            · omega
            · split
              · omega
              · rename_i a b c
                rw [if_neg a, if_neg b, if_neg c] at c0
                omega
        have X := dr_X_zb hO hS hc hw c6.1 c6.2
        exact X44 _ _ _ _ X
  · refine dr_wT (by rw [h6]; show ¬ nI (dr_kd B n e) = nI 1; rw [nI_eq (by omega) (by decide)]; exact k1) ?_
    have hk : dr_on B n e 300 = none := if_neg k1
    rw [dr_pOne_n hk]
    exact none21 hk
