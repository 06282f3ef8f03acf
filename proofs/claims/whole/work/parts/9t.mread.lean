/-! the model's line -/
theorem dr_on_300 (B : Nat → Nat) (n e : Nat) : dr_on B n e 300 = if dr_is B n e 310 = true then some 0 else if dr_is B n e 321 = true then some 1 else if dr_is B n e 322 = true then some 2 else if dr_is B n e 323 = true then some 3 else if dr_is B n e 324 = true then some 4 else none := by
  unfold dr_on
  by_cases k1 : dr_kd B n e = 1
  · rw [if_pos k1]
    simp only [dr_is_w k1]
    show dr_id [ds_sl 310, ds_sl 321, ds_sl 322, ds_sl 323, ds_sl 324] _ = _
    simp only [dr_id]
    split
    · rfl
    · split
      · rfl
      · split
        · rfl
        · split
          · rfl
          · split <;> rfl
  · simp [if_neg k1, dr_is_n k1]
theorem s_begins (d x : Nat) (z : ds_St) (hs : Bool) (B : Nat → Nat) (n e : Nat) (hO : dr_OM z B n e) (h8 : z.1 94 8 = ds_bo hs) (h1 : 310 ≤ x) (h2 : x < 334) : (dr_is B n e x = false → ∀ c : Int32, ds_call (d + 3) j_Mod_begins [.ref 90, .ref x, .int c] z = some (some (.int (nI 0)), z)) ∧ (dr_is B n e x = true → hs = true → (∃ z', ds_call (d + 3) j_Mod_begins [.ref 90, .ref x, .int (nI 1)] z = some (some (.int (nI 1)), z') ∧ dr_OM z' B n (dr_nx B n e) ∧ dr_g1 z z') ∧ ds_call (d + 3) j_Mod_begins [.ref 90, .ref x, .int (nI 0)] z = some (some (.int (nI 1)), dr_zw z 5 (dr_at B n e))) ∧ (dr_is B n e x = true → hs = false → ds_call (d + 3) j_Mod_begins [.ref 90, .ref x, .int (nI 1)] z = some (some (.int (nI 1)), dr_zw z 6 (dr_at B n e))) := by
  have ia := s_isWord (d + 1) x z B n e hO h1 h2
  have h13 := hO.1.1
  have h4 := hO.2.2.1
  refine ⟨fun q c => ?_, fun q e => ⟨?_, ?_⟩, fun q e => ?_⟩
  · rw [q] at ia
    rw [c_Mod_begins, b_Mod_begins_0]
    simp (disch := first | assumption | omega) only [ds_cI, ds_cV, ds_cL, ds_cR, ds_nn, ds_isK_t, ds_isA_t, ds_chk_t, ds_chkN, ds_nz_t, ds_nzN, ds_isB_t, ds_isB_bo, ↓dl_m1, ↓dl_m2, dl_0, dl_1, dl_2, dl_3, dl_4, dl_5, dl_6, dl_7, dl_8, dl_9, dl_10, dl_11, dl_12, dl_13, dl_14, dl_15, dl_16, dl_20, dl_24, dl_31, dl_50, dl_57, dl_67, dl_68, dl_74, dl_75, dl_79, dl_80, dl_99, dl_100, dl_200, dl_210, dl_224, dl_255, dl_289, dl_900, dl_1000, dl_1728, dl_65536, dl_65537, nI_add, pk_mul, pk_sub, pk_div, pk_rem, ds_rem2, nI_clamp, nI_leI, nI_ltI, nI_eq, ds_m1_eq, ds_eq_m1, ds_m2_eq, ds_eq_m2, ds_m1_le, ds_le_m1, ds_m1_lt, ds_lt_m1, ds_in_N, ds_bo0, ds_bo1, if_pos, if_neg, Nat.not_le, Nat.not_lt, not_true_eq_false, not_false_eq_true, if_true, if_false, ne_eq, Option.some.injEq, Prod.mk.injEq, Value.int.injEq, true_and, and_true, and_self, ite_self, Bool.not_eq_true, Bool.not_eq_false, Bool.true_eq_false, Bool.false_eq_true, reduceCtorEq, Nat.zero_add, Nat.reduceAdd, Nat.reduceMul, Nat.reduceSub, ds_setI_row, ds_setL_row, ds_rowI_self, ds_rowI_ne, ds_rowI_2, ds_rowI_rowI, ds_setS_1, ds_setS_21, ds_setS_self, ds_setS_ne, pk_us, pk_un, ia]
  · subst e
    rw [q] at ia
    obtain ⟨z', w1, w2, w3⟩ := s_mgo d z B n e hO
    refine ⟨z', ?_, w2, w3⟩
    have h8' : z.1 94 8 = nI 1 := h8
    rw [c_Mod_begins, b_Mod_begins_0]
    simp (disch := first | assumption | omega) only [ds_cI, ds_cV, ds_cL, ds_cR, ds_nn, ds_isK_t, ds_isA_t, ds_chk_t, ds_chkN, ds_nz_t, ds_nzN, ds_isB_t, ds_isB_bo, ↓dl_m1, ↓dl_m2, dl_0, dl_1, dl_2, dl_3, dl_4, dl_5, dl_6, dl_7, dl_8, dl_9, dl_10, dl_11, dl_12, dl_13, dl_14, dl_15, dl_16, dl_20, dl_24, dl_31, dl_50, dl_57, dl_67, dl_68, dl_74, dl_75, dl_79, dl_80, dl_99, dl_100, dl_200, dl_210, dl_224, dl_255, dl_289, dl_900, dl_1000, dl_1728, dl_65536, dl_65537, nI_add, pk_mul, pk_sub, pk_div, pk_rem, ds_rem2, nI_clamp, nI_leI, nI_ltI, nI_eq, ds_m1_eq, ds_eq_m1, ds_m2_eq, ds_eq_m2, ds_m1_le, ds_le_m1, ds_m1_lt, ds_lt_m1, ds_in_N, ds_bo0, ds_bo1, if_pos, if_neg, Nat.not_le, Nat.not_lt, not_true_eq_false, not_false_eq_true, if_true, if_false, ne_eq, Option.some.injEq, Prod.mk.injEq, Value.int.injEq, true_and, and_true, and_self, ite_self, Bool.not_eq_true, Bool.not_eq_false, Bool.true_eq_false, Bool.false_eq_true, reduceCtorEq, Nat.zero_add, Nat.reduceAdd, Nat.reduceMul, Nat.reduceSub, ds_setI_row, ds_setL_row, ds_rowI_self, ds_rowI_ne, ds_rowI_2, ds_rowI_rowI, ds_setS_1, ds_setS_21, ds_setS_self, ds_setS_ne, pk_us, pk_un, ia, b_Mod_begins_23, h8', b_Mod_begins_43, h13, w1]
  · subst e
    rw [q] at ia
    have wr := s_wrong (d + 1) 5 (dr_at B n e) z h13
    have x13 := dr_zw_13 z 5 (dr_at B n e)
    have h8' : (dr_zw z 5 (dr_at B n e)).1 94 8 = nI 1 := by rw [dr_zw_p z _ _ (by decide)]; exact h8
    generalize dr_at B n e = at_ at *
    generalize dr_zw z 5 at_ = y at *
    rw [c_Mod_begins, b_Mod_begins_0]
    simp (disch := first | assumption | omega) only [ds_cI, ds_cV, ds_cL, ds_cR, ds_nn, ds_isK_t, ds_isA_t, ds_chk_t, ds_chkN, ds_nz_t, ds_nzN, ds_isB_t, ds_isB_bo, ↓dl_m1, ↓dl_m2, dl_0, dl_1, dl_2, dl_3, dl_4, dl_5, dl_6, dl_7, dl_8, dl_9, dl_10, dl_11, dl_12, dl_13, dl_14, dl_15, dl_16, dl_20, dl_24, dl_31, dl_50, dl_57, dl_67, dl_68, dl_74, dl_75, dl_79, dl_80, dl_99, dl_100, dl_200, dl_210, dl_224, dl_255, dl_289, dl_900, dl_1000, dl_1728, dl_65536, dl_65537, nI_add, pk_mul, pk_sub, pk_div, pk_rem, ds_rem2, nI_clamp, nI_leI, nI_ltI, nI_eq, ds_m1_eq, ds_eq_m1, ds_m2_eq, ds_eq_m2, ds_m1_le, ds_le_m1, ds_m1_lt, ds_lt_m1, ds_in_N, ds_bo0, ds_bo1, if_pos, if_neg, Nat.not_le, Nat.not_lt, not_true_eq_false, not_false_eq_true, if_true, if_false, ne_eq, Option.some.injEq, Prod.mk.injEq, Value.int.injEq, true_and, and_true, and_self, ite_self, Bool.not_eq_true, Bool.not_eq_false, Bool.true_eq_false, Bool.false_eq_true, reduceCtorEq, Nat.zero_add, Nat.reduceAdd, Nat.reduceMul, Nat.reduceSub, ds_setI_row, ds_setL_row, ds_rowI_self, ds_rowI_ne, ds_rowI_2, ds_rowI_rowI, ds_setS_1, ds_setS_21, ds_setS_self, ds_setS_ne, pk_us, pk_un, ia, h4, wr, b_Mod_begins_23, h8', b_Mod_begins_43, x13]
  · subst e
    rw [q] at ia
    have wr := s_wrong (d + 1) 6 (dr_at B n e) z h13
    have x13 := dr_zw_13 z 6 (dr_at B n e)
    have h8' : z.1 94 8 = nI 0 := h8
    generalize dr_at B n e = at_ at *
    generalize dr_zw z 6 at_ = y at *
    rw [c_Mod_begins, b_Mod_begins_0]
    simp (disch := first | assumption | omega) only [ds_cI, ds_cV, ds_cL, ds_cR, ds_nn, ds_isK_t, ds_isA_t, ds_chk_t, ds_chkN, ds_nz_t, ds_nzN, ds_isB_t, ds_isB_bo, ↓dl_m1, ↓dl_m2, dl_0, dl_1, dl_2, dl_3, dl_4, dl_5, dl_6, dl_7, dl_8, dl_9, dl_10, dl_11, dl_12, dl_13, dl_14, dl_15, dl_16, dl_20, dl_24, dl_31, dl_50, dl_57, dl_67, dl_68, dl_74, dl_75, dl_79, dl_80, dl_99, dl_100, dl_200, dl_210, dl_224, dl_255, dl_289, dl_900, dl_1000, dl_1728, dl_65536, dl_65537, nI_add, pk_mul, pk_sub, pk_div, pk_rem, ds_rem2, nI_clamp, nI_leI, nI_ltI, nI_eq, ds_m1_eq, ds_eq_m1, ds_m2_eq, ds_eq_m2, ds_m1_le, ds_le_m1, ds_m1_lt, ds_lt_m1, ds_in_N, ds_bo0, ds_bo1, if_pos, if_neg, Nat.not_le, Nat.not_lt, not_true_eq_false, not_false_eq_true, if_true, if_false, ne_eq, Option.some.injEq, Prod.mk.injEq, Value.int.injEq, true_and, and_true, and_self, ite_self, Bool.not_eq_true, Bool.not_eq_false, Bool.true_eq_false, Bool.false_eq_true, reduceCtorEq, Nat.zero_add, Nat.reduceAdd, Nat.reduceMul, Nat.reduceSub, ds_setI_row, ds_setL_row, ds_rowI_self, ds_rowI_ne, ds_rowI_2, ds_rowI_rowI, ds_setS_1, ds_setS_21, ds_setS_self, ds_setS_ne, pk_us, pk_un, ia, h4, wr, b_Mod_begins_23, h8', b_Mod_begins_43, x13]
theorem s_islandLine_x (d : Nat) (z : ds_St) (h : z.1 90 13 = nI 1) : ds_call (d + 1) j_Mod_islandLine [.ref 90] z = some (none, z) := by
  rw [c_Mod_islandLine, b_Mod_islandLine_0]
  simp (disch := first | assumption | omega) only [ds_cI, ds_cV, ds_cL, ds_cR, ds_nn, ds_isK_t, ds_isA_t, ds_chk_t, ds_chkN, ds_nz_t, ds_nzN, ds_isB_t, ds_isB_bo, ↓dl_m1, ↓dl_m2, dl_0, dl_1, dl_2, dl_3, dl_4, dl_5, dl_6, dl_7, dl_8, dl_9, dl_10, dl_11, dl_12, dl_13, dl_14, dl_15, dl_16, dl_20, dl_24, dl_31, dl_50, dl_57, dl_67, dl_68, dl_74, dl_75, dl_79, dl_80, dl_99, dl_100, dl_200, dl_210, dl_224, dl_255, dl_289, dl_900, dl_1000, dl_1728, dl_65536, dl_65537, nI_add, pk_mul, pk_sub, pk_div, pk_rem, ds_rem2, nI_clamp, nI_leI, nI_ltI, nI_eq, ds_m1_eq, ds_eq_m1, ds_m2_eq, ds_eq_m2, ds_m1_le, ds_le_m1, ds_m1_lt, ds_lt_m1, ds_in_N, ds_bo0, ds_bo1, if_pos, if_neg, Nat.not_le, Nat.not_lt, not_true_eq_false, not_false_eq_true, if_true, if_false, ne_eq, Option.some.injEq, Prod.mk.injEq, Value.int.injEq, true_and, and_true, and_self, ite_self, Bool.not_eq_true, Bool.not_eq_false, Bool.true_eq_false, Bool.false_eq_true, reduceCtorEq, Nat.zero_add, Nat.reduceAdd, Nat.reduceMul, Nat.reduceSub, ds_setI_row, ds_setL_row, ds_rowI_self, ds_rowI_ne, ds_rowI_2, ds_rowI_rowI, ds_setS_1, ds_setS_21, ds_setS_self, ds_setS_ne, pk_us, pk_un, h]
theorem s_familyLine_x (d : Nat) (z : ds_St) (h : z.1 90 13 = nI 1) : ds_call (d + 1) j_Mod_familyLine [.ref 90] z = some (none, z) := by
  rw [c_Mod_familyLine, b_Mod_familyLine_0]
  simp (disch := first | assumption | omega) only [ds_cI, ds_cV, ds_cL, ds_cR, ds_nn, ds_isK_t, ds_isA_t, ds_chk_t, ds_chkN, ds_nz_t, ds_nzN, ds_isB_t, ds_isB_bo, ↓dl_m1, ↓dl_m2, dl_0, dl_1, dl_2, dl_3, dl_4, dl_5, dl_6, dl_7, dl_8, dl_9, dl_10, dl_11, dl_12, dl_13, dl_14, dl_15, dl_16, dl_20, dl_24, dl_31, dl_50, dl_57, dl_67, dl_68, dl_74, dl_75, dl_79, dl_80, dl_99, dl_100, dl_200, dl_210, dl_224, dl_255, dl_289, dl_900, dl_1000, dl_1728, dl_65536, dl_65537, nI_add, pk_mul, pk_sub, pk_div, pk_rem, ds_rem2, nI_clamp, nI_leI, nI_ltI, nI_eq, ds_m1_eq, ds_eq_m1, ds_m2_eq, ds_eq_m2, ds_m1_le, ds_le_m1, ds_m1_lt, ds_lt_m1, ds_in_N, ds_bo0, ds_bo1, if_pos, if_neg, Nat.not_le, Nat.not_lt, not_true_eq_false, not_false_eq_true, if_true, if_false, ne_eq, Option.some.injEq, Prod.mk.injEq, Value.int.injEq, true_and, and_true, and_self, ite_self, Bool.not_eq_true, Bool.not_eq_false, Bool.true_eq_false, Bool.false_eq_true, reduceCtorEq, Nat.zero_add, Nat.reduceAdd, Nat.reduceMul, Nat.reduceSub, ds_setI_row, ds_setL_row, ds_rowI_self, ds_rowI_ne, ds_rowI_2, ds_rowI_rowI, ds_setS_1, ds_setS_21, ds_setS_self, ds_setS_ne, pk_us, pk_un, h]
theorem s_wishLine_x (d : Nat) (z : ds_St) (h : z.1 90 13 = nI 1) : ds_call (d + 1) j_Mod_wishLine [.ref 90] z = some (none, z) := by
  rw [c_Mod_wishLine, b_Mod_wishLine_0]
  simp (disch := first | assumption | omega) only [ds_cI, ds_cV, ds_cL, ds_cR, ds_nn, ds_isK_t, ds_isA_t, ds_chk_t, ds_chkN, ds_nz_t, ds_nzN, ds_isB_t, ds_isB_bo, ↓dl_m1, ↓dl_m2, dl_0, dl_1, dl_2, dl_3, dl_4, dl_5, dl_6, dl_7, dl_8, dl_9, dl_10, dl_11, dl_12, dl_13, dl_14, dl_15, dl_16, dl_20, dl_24, dl_31, dl_50, dl_57, dl_67, dl_68, dl_74, dl_75, dl_79, dl_80, dl_99, dl_100, dl_200, dl_210, dl_224, dl_255, dl_289, dl_900, dl_1000, dl_1728, dl_65536, dl_65537, nI_add, pk_mul, pk_sub, pk_div, pk_rem, ds_rem2, nI_clamp, nI_leI, nI_ltI, nI_eq, ds_m1_eq, ds_eq_m1, ds_m2_eq, ds_eq_m2, ds_m1_le, ds_le_m1, ds_m1_lt, ds_lt_m1, ds_in_N, ds_bo0, ds_bo1, if_pos, if_neg, Nat.not_le, Nat.not_lt, not_true_eq_false, not_false_eq_true, if_true, if_false, ne_eq, Option.some.injEq, Prod.mk.injEq, Value.int.injEq, true_and, and_true, and_self, ite_self, Bool.not_eq_true, Bool.not_eq_false, Bool.true_eq_false, Bool.false_eq_true, reduceCtorEq, Nat.zero_add, Nat.reduceAdd, Nat.reduceMul, Nat.reduceSub, ds_setI_row, ds_setL_row, ds_rowI_self, ds_rowI_ne, ds_rowI_2, ds_rowI_rowI, ds_setS_1, ds_setS_21, ds_setS_self, ds_setS_ne, pk_us, pk_un, h]
theorem s_showsLine_x (d : Nat) (z : ds_St) (h : z.1 90 13 = nI 1) : ds_call (d + 1) j_Mod_showsLine [.ref 90] z = some (none, z) := by
  rw [c_Mod_showsLine, b_Mod_showsLine_0]
  simp (disch := first | assumption | omega) only [ds_cI, ds_cV, ds_cL, ds_cR, ds_nn, ds_isK_t, ds_isA_t, ds_chk_t, ds_chkN, ds_nz_t, ds_nzN, ds_isB_t, ds_isB_bo, ↓dl_m1, ↓dl_m2, dl_0, dl_1, dl_2, dl_3, dl_4, dl_5, dl_6, dl_7, dl_8, dl_9, dl_10, dl_11, dl_12, dl_13, dl_14, dl_15, dl_16, dl_20, dl_24, dl_31, dl_50, dl_57, dl_67, dl_68, dl_74, dl_75, dl_79, dl_80, dl_99, dl_100, dl_200, dl_210, dl_224, dl_255, dl_289, dl_900, dl_1000, dl_1728, dl_65536, dl_65537, nI_add, pk_mul, pk_sub, pk_div, pk_rem, ds_rem2, nI_clamp, nI_leI, nI_ltI, nI_eq, ds_m1_eq, ds_eq_m1, ds_m2_eq, ds_eq_m2, ds_m1_le, ds_le_m1, ds_m1_lt, ds_lt_m1, ds_in_N, ds_bo0, ds_bo1, if_pos, if_neg, Nat.not_le, Nat.not_lt, not_true_eq_false, not_false_eq_true, if_true, if_false, ne_eq, Option.some.injEq, Prod.mk.injEq, Value.int.injEq, true_and, and_true, and_self, ite_self, Bool.not_eq_true, Bool.not_eq_false, Bool.true_eq_false, Bool.false_eq_true, reduceCtorEq, Nat.zero_add, Nat.reduceAdd, Nat.reduceMul, Nat.reduceSub, ds_setI_row, ds_setL_row, ds_rowI_self, ds_rowI_ne, ds_rowI_2, ds_rowI_rowI, ds_setS_1, ds_setS_21, ds_setS_self, ds_setS_ne, pk_us, pk_un, h]
theorem s_seaLine_x (d : Nat) (z0 z : ds_St) (B : Nat → Nat) (n e : Nat) (Nm : Nat → List Nat) (D : Nat → Nat → Nat) (hO : dr_OM z B n e) (hS : dr_SM z0 true Nm D z) : ds_call (d + 2) j_Mod_seaLine [.ref 90] z = some (none, dr_zw z 3 (dr_at B n e)) := by
  have h13 := hO.1.1
  have h4 := hO.2.2.1
  have h8' : z.1 94 8 = nI 1 := hS.1.1
  have wr := s_wrong d 3 (dr_at B n e) z h13
  have x13 := dr_zw_13 z 3 (dr_at B n e)
  generalize dr_at B n e = at_ at *
  generalize dr_zw z 3 at_ = y at *
  rw [c_Mod_seaLine, b_Mod_seaLine_0]
  simp (disch := first | assumption | omega) only [ds_cI, ds_cV, ds_cL, ds_cR, ds_nn, ds_isK_t, ds_isA_t, ds_chk_t, ds_chkN, ds_nz_t, ds_nzN, ds_isB_t, ds_isB_bo, ↓dl_m1, ↓dl_m2, dl_0, dl_1, dl_2, dl_3, dl_4, dl_5, dl_6, dl_7, dl_8, dl_9, dl_10, dl_11, dl_12, dl_13, dl_14, dl_15, dl_16, dl_20, dl_24, dl_31, dl_50, dl_57, dl_67, dl_68, dl_74, dl_75, dl_79, dl_80, dl_99, dl_100, dl_200, dl_210, dl_224, dl_255, dl_289, dl_900, dl_1000, dl_1728, dl_65536, dl_65537, nI_add, pk_mul, pk_sub, pk_div, pk_rem, ds_rem2, nI_clamp, nI_leI, nI_ltI, nI_eq, ds_m1_eq, ds_eq_m1, ds_m2_eq, ds_eq_m2, ds_m1_le, ds_le_m1, ds_m1_lt, ds_lt_m1, ds_in_N, ds_bo0, ds_bo1, if_pos, if_neg, Nat.not_le, Nat.not_lt, not_true_eq_false, not_false_eq_true, if_true, if_false, ne_eq, Option.some.injEq, Prod.mk.injEq, Value.int.injEq, true_and, and_true, and_self, ite_self, Bool.not_eq_true, Bool.not_eq_false, Bool.true_eq_false, Bool.false_eq_true, reduceCtorEq, Nat.zero_add, Nat.reduceAdd, Nat.reduceMul, Nat.reduceSub, ds_setI_row, ds_setL_row, ds_rowI_self, ds_rowI_ne, ds_rowI_2, ds_rowI_rowI, ds_setS_1, ds_setS_21, ds_setS_self, ds_setS_ne, pk_us, pk_un, h8', h4, wr, b_Mod_seaLine_20, x13]
theorem s_mreadLine (d : Nat) (z0 z : ds_St) (hs : Bool) (B : Nat → Nat) (n e : Nat) (Nm : Nat → List Nat) (D : Nat → Nat → Nat) (hO : dr_OM z B n e) (hS : dr_SM z0 hs Nm D z) (hn : dr_nok D Nm) (hd : dr_dok hs D) (hz : hs = false → D 0 4 = 0 ∧ D 0 5 = 0 ∧ D 0 6 = 0 ∧ D 0 7 = 0) : ∃ z', ds_call (d + 7) j_Mod_readLine [.ref 90] z = some (none, z') ∧ dr_postM z0 B n (dr_line hs B n e Nm D) z' := by
  have k90 : ds_K 90 = 9 := rfl
  have hw := hd.2.2.1
  have i0 := s_isWord (d + 5) 310 z B n e hO (by decide) (by decide)
  obtain ⟨c4, c5, c6, c7⟩ := hS.1.2.2.1
  have hdd : hs = true → dr_dok true D := fun q => by rw [q] at hd; exact hd
  obtain ⟨d4, d5, d6, d7, _⟩ := hd
  have on := dr_on_300 B n e
  have hO4 := hO.2.2.1
  unfold dr_line
  cases q0 : dr_is B n e 310
  · rw [q0] at i0 on
    simp only [↓reduceIte, Bool.false_eq_true] at on
    obtain ⟨n1, t1, f1⟩ := s_begins (d + 3) 321 z hs B n e hO hS.1.1 (by decide) (by decide)
    cases q1 : dr_is B n e 321
    · rw [q1] at on
      simp only [↓reduceIte, Bool.false_eq_true] at on
      have g1 := n1 q1
      obtain ⟨n2, t2, f2⟩ := s_begins (d + 3) 322 z hs B n e hO hS.1.1 (by decide) (by decide)
      cases q2 : dr_is B n e 322
      · rw [q2] at on
        simp only [↓reduceIte, Bool.false_eq_true] at on
        have g2 := n2 q2
        obtain ⟨n3, t3, f3⟩ := s_begins (d + 3) 323 z hs B n e hO hS.1.1 (by decide) (by decide)
        cases q3 : dr_is B n e 323
        · rw [q3] at on
          simp only [↓reduceIte, Bool.false_eq_true] at on
          have g3 := n3 q3
          obtain ⟨n4, t4, f4⟩ := s_begins (d + 3) 324 z hs B n e hO hS.1.1 (by decide) (by decide)
          cases q4 : dr_is B n e 324
          · rw [q4] at on
            simp only [↓reduceIte, Bool.false_eq_true] at on
            have g4 := n4 q4
            rw [dr_pOne_n on]
            have wr := s_wrong (d + 5) 1 (dr_at B n e) z hO.1.1
            refine ⟨dr_zw z 1 (dr_at B n e), ?_, dr_XM_zw hS hw⟩
            generalize dr_at B n e = at_ at *
            generalize dr_zw z 1 at_ = y at *
            rw [c_Mod_readLine, b_Mod_readLine_0]
            simp (disch := first | assumption | omega) only [ds_cI, ds_cV, ds_cL, ds_cR, ds_nn, ds_isK_t, ds_isA_t, ds_chk_t, ds_chkN, ds_nz_t, ds_nzN, ds_isB_t, ds_isB_bo, ↓dl_m1, ↓dl_m2, dl_0, dl_1, dl_2, dl_3, dl_4, dl_5, dl_6, dl_7, dl_8, dl_9, dl_10, dl_11, dl_12, dl_13, dl_14, dl_15, dl_16, dl_20, dl_24, dl_31, dl_50, dl_57, dl_67, dl_68, dl_74, dl_75, dl_79, dl_80, dl_99, dl_100, dl_200, dl_210, dl_224, dl_255, dl_289, dl_900, dl_1000, dl_1728, dl_65536, dl_65537, nI_add, pk_mul, pk_sub, pk_div, pk_rem, ds_rem2, nI_clamp, nI_leI, nI_ltI, nI_eq, ds_m1_eq, ds_eq_m1, ds_m2_eq, ds_eq_m2, ds_m1_le, ds_le_m1, ds_m1_lt, ds_lt_m1, ds_in_N, ds_bo0, ds_bo1, if_pos, if_neg, Nat.not_le, Nat.not_lt, not_true_eq_false, not_false_eq_true, if_true, if_false, ne_eq, Option.some.injEq, Prod.mk.injEq, Value.int.injEq, true_and, and_true, and_self, ite_self, Bool.not_eq_true, Bool.not_eq_false, Bool.true_eq_false, Bool.false_eq_true, reduceCtorEq, Nat.zero_add, Nat.reduceAdd, Nat.reduceMul, Nat.reduceSub, ds_setI_row, ds_setL_row, ds_rowI_self, ds_rowI_ne, ds_rowI_2, ds_rowI_rowI, ds_setS_1, ds_setS_21, ds_setS_self, ds_setS_ne, pk_us, pk_un, i0, k90, c4, c5, c6, c7, g1, g2, g3, g4, b_Mod_readLine_35, b_Mod_readLine_67, b_Mod_readLine_100, b_Mod_readLine_133, hO4, wr, ite_self]
          · rw [q4] at on
            simp only [↓reduceIte, Bool.false_eq_true] at on
            rw [dr_pOne_s on]
            cases hs
            · have ck : dr_ck false 4 D = 6 := by simp [dr_ck]
              obtain ⟨e4, e5, e6, e7⟩ := hz rfl
              have g := f4 q4 rfl
              rw [ck, if_neg (by decide)]
              have lx := s_showsLine_x (d + 5) (dr_zw z 6 (dr_at B n e)) (dr_zw_13 _ _ _)
              refine ⟨dr_zw z 6 (dr_at B n e), ?_, dr_XM_zw hS hw⟩
              rw [e4] at c4
              rw [e5] at c5
              rw [e6] at c6
              rw [e7] at c7
              generalize dr_at B n e = at_ at *
              generalize dr_zw z 6 at_ = y at *
              rw [c_Mod_readLine, b_Mod_readLine_0]
              simp (disch := first | assumption | omega) only [ds_cI, ds_cV, ds_cL, ds_cR, ds_nn, ds_isK_t, ds_isA_t, ds_chk_t, ds_chkN, ds_nz_t, ds_nzN, ds_isB_t, ds_isB_bo, ↓dl_m1, ↓dl_m2, dl_0, dl_1, dl_2, dl_3, dl_4, dl_5, dl_6, dl_7, dl_8, dl_9, dl_10, dl_11, dl_12, dl_13, dl_14, dl_15, dl_16, dl_20, dl_24, dl_31, dl_50, dl_57, dl_67, dl_68, dl_74, dl_75, dl_79, dl_80, dl_99, dl_100, dl_200, dl_210, dl_224, dl_255, dl_289, dl_900, dl_1000, dl_1728, dl_65536, dl_65537, nI_add, pk_mul, pk_sub, pk_div, pk_rem, ds_rem2, nI_clamp, nI_leI, nI_ltI, nI_eq, ds_m1_eq, ds_eq_m1, ds_m2_eq, ds_eq_m2, ds_m1_le, ds_le_m1, ds_m1_lt, ds_lt_m1, ds_in_N, ds_bo0, ds_bo1, if_pos, if_neg, Nat.not_le, Nat.not_lt, not_true_eq_false, not_false_eq_true, if_true, if_false, ne_eq, Option.some.injEq, Prod.mk.injEq, Value.int.injEq, true_and, and_true, and_self, ite_self, Bool.not_eq_true, Bool.not_eq_false, Bool.true_eq_false, Bool.false_eq_true, reduceCtorEq, Nat.zero_add, Nat.reduceAdd, Nat.reduceMul, Nat.reduceSub, ds_setI_row, ds_setL_row, ds_rowI_self, ds_rowI_ne, ds_rowI_2, ds_rowI_rowI, ds_setS_1, ds_setS_21, ds_setS_self, ds_setS_ne, pk_us, pk_un, i0, k90, c4, c5, c6, c7, g1, g2, g3, b_Mod_readLine_35, b_Mod_readLine_67, b_Mod_readLine_100, b_Mod_readLine_133, g, lx, ite_self]
            · obtain ⟨t, f⟩ := t4 q4 rfl
              by_cases full : 6 ≤ D 0 7
              · have ck : dr_ck true 4 D = 5 := by simp [dr_ck, dr_full, full]
                rw [ck, if_neg (by decide)]
                have lx := s_showsLine_x (d + 5) (dr_zw z 5 (dr_at B n e)) (dr_zw_13 _ _ _)
                refine ⟨dr_zw z 5 (dr_at B n e), ?_, dr_XM_zw hS hw⟩
                generalize dr_at B n e = at_ at *
                generalize dr_zw z 5 at_ = y at *
                rw [c_Mod_readLine, b_Mod_readLine_0]
                simp (disch := first | assumption | omega) only [ds_cI, ds_cV, ds_cL, ds_cR, ds_nn, ds_isK_t, ds_isA_t, ds_chk_t, ds_chkN, ds_nz_t, ds_nzN, ds_isB_t, ds_isB_bo, ↓dl_m1, ↓dl_m2, dl_0, dl_1, dl_2, dl_3, dl_4, dl_5, dl_6, dl_7, dl_8, dl_9, dl_10, dl_11, dl_12, dl_13, dl_14, dl_15, dl_16, dl_20, dl_24, dl_31, dl_50, dl_57, dl_67, dl_68, dl_74, dl_75, dl_79, dl_80, dl_99, dl_100, dl_200, dl_210, dl_224, dl_255, dl_289, dl_900, dl_1000, dl_1728, dl_65536, dl_65537, nI_add, pk_mul, pk_sub, pk_div, pk_rem, ds_rem2, nI_clamp, nI_leI, nI_ltI, nI_eq, ds_m1_eq, ds_eq_m1, ds_m2_eq, ds_eq_m2, ds_m1_le, ds_le_m1, ds_m1_lt, ds_lt_m1, ds_in_N, ds_bo0, ds_bo1, if_pos, if_neg, Nat.not_le, Nat.not_lt, not_true_eq_false, not_false_eq_true, if_true, if_false, ne_eq, Option.some.injEq, Prod.mk.injEq, Value.int.injEq, true_and, and_true, and_self, ite_self, Bool.not_eq_true, Bool.not_eq_false, Bool.true_eq_false, Bool.false_eq_true, reduceCtorEq, Nat.zero_add, Nat.reduceAdd, Nat.reduceMul, Nat.reduceSub, ds_setI_row, ds_setL_row, ds_rowI_self, ds_rowI_ne, ds_rowI_2, ds_rowI_rowI, ds_setS_1, ds_setS_21, ds_setS_self, ds_setS_ne, pk_us, pk_un, i0, k90, c4, c5, c6, c7, g1, g2, g3, b_Mod_readLine_35, b_Mod_readLine_67, b_Mod_readLine_100, b_Mod_readLine_133, f, lx, full, ite_self]
              · have ck : dr_ck true 4 D = 0 := by simp [dr_ck, dr_full]; omega
                rw [ck, if_pos rfl]
                obtain ⟨z1, w1, O1, f1⟩ := t
                obtain ⟨z2, w2, p2⟩ := s_showsLine d z0 z1 B n (dr_nx B n e) Nm D O1 (dr_SM_g1 hS f1) (hdd rfl) hn (by omega)
                refine ⟨z2, ?_, p2⟩
                rw [c_Mod_readLine, b_Mod_readLine_0]
                simp (disch := first | assumption | omega) only [ds_cI, ds_cV, ds_cL, ds_cR, ds_nn, ds_isK_t, ds_isA_t, ds_chk_t, ds_chkN, ds_nz_t, ds_nzN, ds_isB_t, ds_isB_bo, ↓dl_m1, ↓dl_m2, dl_0, dl_1, dl_2, dl_3, dl_4, dl_5, dl_6, dl_7, dl_8, dl_9, dl_10, dl_11, dl_12, dl_13, dl_14, dl_15, dl_16, dl_20, dl_24, dl_31, dl_50, dl_57, dl_67, dl_68, dl_74, dl_75, dl_79, dl_80, dl_99, dl_100, dl_200, dl_210, dl_224, dl_255, dl_289, dl_900, dl_1000, dl_1728, dl_65536, dl_65537, nI_add, pk_mul, pk_sub, pk_div, pk_rem, ds_rem2, nI_clamp, nI_leI, nI_ltI, nI_eq, ds_m1_eq, ds_eq_m1, ds_m2_eq, ds_eq_m2, ds_m1_le, ds_le_m1, ds_m1_lt, ds_lt_m1, ds_in_N, ds_bo0, ds_bo1, if_pos, if_neg, Nat.not_le, Nat.not_lt, not_true_eq_false, not_false_eq_true, if_true, if_false, ne_eq, Option.some.injEq, Prod.mk.injEq, Value.int.injEq, true_and, and_true, and_self, ite_self, Bool.not_eq_true, Bool.not_eq_false, Bool.true_eq_false, Bool.false_eq_true, reduceCtorEq, Nat.zero_add, Nat.reduceAdd, Nat.reduceMul, Nat.reduceSub, ds_setI_row, ds_setL_row, ds_rowI_self, ds_rowI_ne, ds_rowI_2, ds_rowI_rowI, ds_setS_1, ds_setS_21, ds_setS_self, ds_setS_ne, pk_us, pk_un, i0, k90, c4, c5, c6, c7, g1, g2, g3, b_Mod_readLine_35, b_Mod_readLine_67, b_Mod_readLine_100, b_Mod_readLine_133, w1, w2, full, ite_self]
        · rw [q3] at on
          simp only [↓reduceIte, Bool.false_eq_true] at on
          rw [dr_pOne_s on]
          cases hs
          · have ck : dr_ck false 3 D = 6 := by simp [dr_ck]
            obtain ⟨e4, e5, e6, e7⟩ := hz rfl
            have g := f3 q3 rfl
            rw [ck, if_neg (by decide)]
            have lx := s_wishLine_x (d + 5) (dr_zw z 6 (dr_at B n e)) (dr_zw_13 _ _ _)
            refine ⟨dr_zw z 6 (dr_at B n e), ?_, dr_XM_zw hS hw⟩
            rw [e4] at c4
            rw [e5] at c5
            rw [e6] at c6
            rw [e7] at c7
            generalize dr_at B n e = at_ at *
            generalize dr_zw z 6 at_ = y at *
            rw [c_Mod_readLine, b_Mod_readLine_0]
            simp (disch := first | assumption | omega) only [ds_cI, ds_cV, ds_cL, ds_cR, ds_nn, ds_isK_t, ds_isA_t, ds_chk_t, ds_chkN, ds_nz_t, ds_nzN, ds_isB_t, ds_isB_bo, ↓dl_m1, ↓dl_m2, dl_0, dl_1, dl_2, dl_3, dl_4, dl_5, dl_6, dl_7, dl_8, dl_9, dl_10, dl_11, dl_12, dl_13, dl_14, dl_15, dl_16, dl_20, dl_24, dl_31, dl_50, dl_57, dl_67, dl_68, dl_74, dl_75, dl_79, dl_80, dl_99, dl_100, dl_200, dl_210, dl_224, dl_255, dl_289, dl_900, dl_1000, dl_1728, dl_65536, dl_65537, nI_add, pk_mul, pk_sub, pk_div, pk_rem, ds_rem2, nI_clamp, nI_leI, nI_ltI, nI_eq, ds_m1_eq, ds_eq_m1, ds_m2_eq, ds_eq_m2, ds_m1_le, ds_le_m1, ds_m1_lt, ds_lt_m1, ds_in_N, ds_bo0, ds_bo1, if_pos, if_neg, Nat.not_le, Nat.not_lt, not_true_eq_false, not_false_eq_true, if_true, if_false, ne_eq, Option.some.injEq, Prod.mk.injEq, Value.int.injEq, true_and, and_true, and_self, ite_self, Bool.not_eq_true, Bool.not_eq_false, Bool.true_eq_false, Bool.false_eq_true, reduceCtorEq, Nat.zero_add, Nat.reduceAdd, Nat.reduceMul, Nat.reduceSub, ds_setI_row, ds_setL_row, ds_rowI_self, ds_rowI_ne, ds_rowI_2, ds_rowI_rowI, ds_setS_1, ds_setS_21, ds_setS_self, ds_setS_ne, pk_us, pk_un, i0, k90, c4, c5, c6, c7, g1, g2, b_Mod_readLine_35, b_Mod_readLine_67, b_Mod_readLine_100, g, lx, ite_self]
          · obtain ⟨t, f⟩ := t3 q3 rfl
            by_cases full : 6 ≤ D 0 6
            · have ck : dr_ck true 3 D = 5 := by simp [dr_ck, dr_full, full]
              rw [ck, if_neg (by decide)]
              have lx := s_wishLine_x (d + 5) (dr_zw z 5 (dr_at B n e)) (dr_zw_13 _ _ _)
              refine ⟨dr_zw z 5 (dr_at B n e), ?_, dr_XM_zw hS hw⟩
              generalize dr_at B n e = at_ at *
              generalize dr_zw z 5 at_ = y at *
              rw [c_Mod_readLine, b_Mod_readLine_0]
              simp (disch := first | assumption | omega) only [ds_cI, ds_cV, ds_cL, ds_cR, ds_nn, ds_isK_t, ds_isA_t, ds_chk_t, ds_chkN, ds_nz_t, ds_nzN, ds_isB_t, ds_isB_bo, ↓dl_m1, ↓dl_m2, dl_0, dl_1, dl_2, dl_3, dl_4, dl_5, dl_6, dl_7, dl_8, dl_9, dl_10, dl_11, dl_12, dl_13, dl_14, dl_15, dl_16, dl_20, dl_24, dl_31, dl_50, dl_57, dl_67, dl_68, dl_74, dl_75, dl_79, dl_80, dl_99, dl_100, dl_200, dl_210, dl_224, dl_255, dl_289, dl_900, dl_1000, dl_1728, dl_65536, dl_65537, nI_add, pk_mul, pk_sub, pk_div, pk_rem, ds_rem2, nI_clamp, nI_leI, nI_ltI, nI_eq, ds_m1_eq, ds_eq_m1, ds_m2_eq, ds_eq_m2, ds_m1_le, ds_le_m1, ds_m1_lt, ds_lt_m1, ds_in_N, ds_bo0, ds_bo1, if_pos, if_neg, Nat.not_le, Nat.not_lt, not_true_eq_false, not_false_eq_true, if_true, if_false, ne_eq, Option.some.injEq, Prod.mk.injEq, Value.int.injEq, true_and, and_true, and_self, ite_self, Bool.not_eq_true, Bool.not_eq_false, Bool.true_eq_false, Bool.false_eq_true, reduceCtorEq, Nat.zero_add, Nat.reduceAdd, Nat.reduceMul, Nat.reduceSub, ds_setI_row, ds_setL_row, ds_rowI_self, ds_rowI_ne, ds_rowI_2, ds_rowI_rowI, ds_setS_1, ds_setS_21, ds_setS_self, ds_setS_ne, pk_us, pk_un, i0, k90, c4, c5, c6, c7, g1, g2, b_Mod_readLine_35, b_Mod_readLine_67, b_Mod_readLine_100, f, lx, full, ite_self]
            · have ck : dr_ck true 3 D = 0 := by simp [dr_ck, dr_full]; omega
              rw [ck, if_pos rfl]
              obtain ⟨z1, w1, O1, f1⟩ := t
              obtain ⟨z2, w2, p2⟩ := s_wishLine d z0 z1 B n (dr_nx B n e) Nm D O1 (dr_SM_g1 hS f1) (hdd rfl) hn (by omega)
              refine ⟨z2, ?_, p2⟩
              rw [c_Mod_readLine, b_Mod_readLine_0]
              simp (disch := first | assumption | omega) only [ds_cI, ds_cV, ds_cL, ds_cR, ds_nn, ds_isK_t, ds_isA_t, ds_chk_t, ds_chkN, ds_nz_t, ds_nzN, ds_isB_t, ds_isB_bo, ↓dl_m1, ↓dl_m2, dl_0, dl_1, dl_2, dl_3, dl_4, dl_5, dl_6, dl_7, dl_8, dl_9, dl_10, dl_11, dl_12, dl_13, dl_14, dl_15, dl_16, dl_20, dl_24, dl_31, dl_50, dl_57, dl_67, dl_68, dl_74, dl_75, dl_79, dl_80, dl_99, dl_100, dl_200, dl_210, dl_224, dl_255, dl_289, dl_900, dl_1000, dl_1728, dl_65536, dl_65537, nI_add, pk_mul, pk_sub, pk_div, pk_rem, ds_rem2, nI_clamp, nI_leI, nI_ltI, nI_eq, ds_m1_eq, ds_eq_m1, ds_m2_eq, ds_eq_m2, ds_m1_le, ds_le_m1, ds_m1_lt, ds_lt_m1, ds_in_N, ds_bo0, ds_bo1, if_pos, if_neg, Nat.not_le, Nat.not_lt, not_true_eq_false, not_false_eq_true, if_true, if_false, ne_eq, Option.some.injEq, Prod.mk.injEq, Value.int.injEq, true_and, and_true, and_self, ite_self, Bool.not_eq_true, Bool.not_eq_false, Bool.true_eq_false, Bool.false_eq_true, reduceCtorEq, Nat.zero_add, Nat.reduceAdd, Nat.reduceMul, Nat.reduceSub, ds_setI_row, ds_setL_row, ds_rowI_self, ds_rowI_ne, ds_rowI_2, ds_rowI_rowI, ds_setS_1, ds_setS_21, ds_setS_self, ds_setS_ne, pk_us, pk_un, i0, k90, c4, c5, c6, c7, g1, g2, b_Mod_readLine_35, b_Mod_readLine_67, b_Mod_readLine_100, w1, w2, full, ite_self]
      · rw [q2] at on
        simp only [↓reduceIte, Bool.false_eq_true] at on
        rw [dr_pOne_s on]
        cases hs
        · have ck : dr_ck false 2 D = 6 := by simp [dr_ck]
          obtain ⟨e4, e5, e6, e7⟩ := hz rfl
          have g := f2 q2 rfl
          rw [ck, if_neg (by decide)]
          have lx := s_familyLine_x (d + 5) (dr_zw z 6 (dr_at B n e)) (dr_zw_13 _ _ _)
          refine ⟨dr_zw z 6 (dr_at B n e), ?_, dr_XM_zw hS hw⟩
          rw [e4] at c4
          rw [e5] at c5
          rw [e6] at c6
          rw [e7] at c7
          generalize dr_at B n e = at_ at *
          generalize dr_zw z 6 at_ = y at *
          rw [c_Mod_readLine, b_Mod_readLine_0]
          simp (disch := first | assumption | omega) only [ds_cI, ds_cV, ds_cL, ds_cR, ds_nn, ds_isK_t, ds_isA_t, ds_chk_t, ds_chkN, ds_nz_t, ds_nzN, ds_isB_t, ds_isB_bo, ↓dl_m1, ↓dl_m2, dl_0, dl_1, dl_2, dl_3, dl_4, dl_5, dl_6, dl_7, dl_8, dl_9, dl_10, dl_11, dl_12, dl_13, dl_14, dl_15, dl_16, dl_20, dl_24, dl_31, dl_50, dl_57, dl_67, dl_68, dl_74, dl_75, dl_79, dl_80, dl_99, dl_100, dl_200, dl_210, dl_224, dl_255, dl_289, dl_900, dl_1000, dl_1728, dl_65536, dl_65537, nI_add, pk_mul, pk_sub, pk_div, pk_rem, ds_rem2, nI_clamp, nI_leI, nI_ltI, nI_eq, ds_m1_eq, ds_eq_m1, ds_m2_eq, ds_eq_m2, ds_m1_le, ds_le_m1, ds_m1_lt, ds_lt_m1, ds_in_N, ds_bo0, ds_bo1, if_pos, if_neg, Nat.not_le, Nat.not_lt, not_true_eq_false, not_false_eq_true, if_true, if_false, ne_eq, Option.some.injEq, Prod.mk.injEq, Value.int.injEq, true_and, and_true, and_self, ite_self, Bool.not_eq_true, Bool.not_eq_false, Bool.true_eq_false, Bool.false_eq_true, reduceCtorEq, Nat.zero_add, Nat.reduceAdd, Nat.reduceMul, Nat.reduceSub, ds_setI_row, ds_setL_row, ds_rowI_self, ds_rowI_ne, ds_rowI_2, ds_rowI_rowI, ds_setS_1, ds_setS_21, ds_setS_self, ds_setS_ne, pk_us, pk_un, i0, k90, c4, c5, c6, c7, g1, b_Mod_readLine_35, b_Mod_readLine_67, g, lx, ite_self]
        · obtain ⟨t, f⟩ := t2 q2 rfl
          by_cases full : 10 ≤ D 0 5
          · have ck : dr_ck true 2 D = 5 := by simp [dr_ck, dr_full, full]
            rw [ck, if_neg (by decide)]
            have lx := s_familyLine_x (d + 5) (dr_zw z 5 (dr_at B n e)) (dr_zw_13 _ _ _)
            refine ⟨dr_zw z 5 (dr_at B n e), ?_, dr_XM_zw hS hw⟩
            generalize dr_at B n e = at_ at *
            generalize dr_zw z 5 at_ = y at *
            rw [c_Mod_readLine, b_Mod_readLine_0]
            simp (disch := first | assumption | omega) only [ds_cI, ds_cV, ds_cL, ds_cR, ds_nn, ds_isK_t, ds_isA_t, ds_chk_t, ds_chkN, ds_nz_t, ds_nzN, ds_isB_t, ds_isB_bo, ↓dl_m1, ↓dl_m2, dl_0, dl_1, dl_2, dl_3, dl_4, dl_5, dl_6, dl_7, dl_8, dl_9, dl_10, dl_11, dl_12, dl_13, dl_14, dl_15, dl_16, dl_20, dl_24, dl_31, dl_50, dl_57, dl_67, dl_68, dl_74, dl_75, dl_79, dl_80, dl_99, dl_100, dl_200, dl_210, dl_224, dl_255, dl_289, dl_900, dl_1000, dl_1728, dl_65536, dl_65537, nI_add, pk_mul, pk_sub, pk_div, pk_rem, ds_rem2, nI_clamp, nI_leI, nI_ltI, nI_eq, ds_m1_eq, ds_eq_m1, ds_m2_eq, ds_eq_m2, ds_m1_le, ds_le_m1, ds_m1_lt, ds_lt_m1, ds_in_N, ds_bo0, ds_bo1, if_pos, if_neg, Nat.not_le, Nat.not_lt, not_true_eq_false, not_false_eq_true, if_true, if_false, ne_eq, Option.some.injEq, Prod.mk.injEq, Value.int.injEq, true_and, and_true, and_self, ite_self, Bool.not_eq_true, Bool.not_eq_false, Bool.true_eq_false, Bool.false_eq_true, reduceCtorEq, Nat.zero_add, Nat.reduceAdd, Nat.reduceMul, Nat.reduceSub, ds_setI_row, ds_setL_row, ds_rowI_self, ds_rowI_ne, ds_rowI_2, ds_rowI_rowI, ds_setS_1, ds_setS_21, ds_setS_self, ds_setS_ne, pk_us, pk_un, i0, k90, c4, c5, c6, c7, g1, b_Mod_readLine_35, b_Mod_readLine_67, f, lx, full, ite_self]
          · have ck : dr_ck true 2 D = 0 := by simp [dr_ck, dr_full]; omega
            rw [ck, if_pos rfl]
            obtain ⟨z1, w1, O1, f1⟩ := t
            obtain ⟨z2, w2, p2⟩ := s_familyLine d z0 z1 B n (dr_nx B n e) Nm D O1 (dr_SM_g1 hS f1) (hdd rfl) hn (by omega)
            refine ⟨z2, ?_, p2⟩
            rw [c_Mod_readLine, b_Mod_readLine_0]
            simp (disch := first | assumption | omega) only [ds_cI, ds_cV, ds_cL, ds_cR, ds_nn, ds_isK_t, ds_isA_t, ds_chk_t, ds_chkN, ds_nz_t, ds_nzN, ds_isB_t, ds_isB_bo, ↓dl_m1, ↓dl_m2, dl_0, dl_1, dl_2, dl_3, dl_4, dl_5, dl_6, dl_7, dl_8, dl_9, dl_10, dl_11, dl_12, dl_13, dl_14, dl_15, dl_16, dl_20, dl_24, dl_31, dl_50, dl_57, dl_67, dl_68, dl_74, dl_75, dl_79, dl_80, dl_99, dl_100, dl_200, dl_210, dl_224, dl_255, dl_289, dl_900, dl_1000, dl_1728, dl_65536, dl_65537, nI_add, pk_mul, pk_sub, pk_div, pk_rem, ds_rem2, nI_clamp, nI_leI, nI_ltI, nI_eq, ds_m1_eq, ds_eq_m1, ds_m2_eq, ds_eq_m2, ds_m1_le, ds_le_m1, ds_m1_lt, ds_lt_m1, ds_in_N, ds_bo0, ds_bo1, if_pos, if_neg, Nat.not_le, Nat.not_lt, not_true_eq_false, not_false_eq_true, if_true, if_false, ne_eq, Option.some.injEq, Prod.mk.injEq, Value.int.injEq, true_and, and_true, and_self, ite_self, Bool.not_eq_true, Bool.not_eq_false, Bool.true_eq_false, Bool.false_eq_true, reduceCtorEq, Nat.zero_add, Nat.reduceAdd, Nat.reduceMul, Nat.reduceSub, ds_setI_row, ds_setL_row, ds_rowI_self, ds_rowI_ne, ds_rowI_2, ds_rowI_rowI, ds_setS_1, ds_setS_21, ds_setS_self, ds_setS_ne, pk_us, pk_un, i0, k90, c4, c5, c6, c7, g1, b_Mod_readLine_35, b_Mod_readLine_67, w1, w2, full, ite_self]
    · rw [q1] at on
      simp only [↓reduceIte, Bool.false_eq_true] at on
      rw [dr_pOne_s on]
      cases hs
      · have ck : dr_ck false 1 D = 6 := by simp [dr_ck]
        obtain ⟨e4, e5, e6, e7⟩ := hz rfl
        have g := f1 q1 rfl
        rw [ck, if_neg (by decide)]
        have lx := s_islandLine_x (d + 5) (dr_zw z 6 (dr_at B n e)) (dr_zw_13 _ _ _)
        refine ⟨dr_zw z 6 (dr_at B n e), ?_, dr_XM_zw hS hw⟩
        rw [e4] at c4
        rw [e5] at c5
        rw [e6] at c6
        rw [e7] at c7
        generalize dr_at B n e = at_ at *
        generalize dr_zw z 6 at_ = y at *
        rw [c_Mod_readLine, b_Mod_readLine_0]
        simp (disch := first | assumption | omega) only [ds_cI, ds_cV, ds_cL, ds_cR, ds_nn, ds_isK_t, ds_isA_t, ds_chk_t, ds_chkN, ds_nz_t, ds_nzN, ds_isB_t, ds_isB_bo, ↓dl_m1, ↓dl_m2, dl_0, dl_1, dl_2, dl_3, dl_4, dl_5, dl_6, dl_7, dl_8, dl_9, dl_10, dl_11, dl_12, dl_13, dl_14, dl_15, dl_16, dl_20, dl_24, dl_31, dl_50, dl_57, dl_67, dl_68, dl_74, dl_75, dl_79, dl_80, dl_99, dl_100, dl_200, dl_210, dl_224, dl_255, dl_289, dl_900, dl_1000, dl_1728, dl_65536, dl_65537, nI_add, pk_mul, pk_sub, pk_div, pk_rem, ds_rem2, nI_clamp, nI_leI, nI_ltI, nI_eq, ds_m1_eq, ds_eq_m1, ds_m2_eq, ds_eq_m2, ds_m1_le, ds_le_m1, ds_m1_lt, ds_lt_m1, ds_in_N, ds_bo0, ds_bo1, if_pos, if_neg, Nat.not_le, Nat.not_lt, not_true_eq_false, not_false_eq_true, if_true, if_false, ne_eq, Option.some.injEq, Prod.mk.injEq, Value.int.injEq, true_and, and_true, and_self, ite_self, Bool.not_eq_true, Bool.not_eq_false, Bool.true_eq_false, Bool.false_eq_true, reduceCtorEq, Nat.zero_add, Nat.reduceAdd, Nat.reduceMul, Nat.reduceSub, ds_setI_row, ds_setL_row, ds_rowI_self, ds_rowI_ne, ds_rowI_2, ds_rowI_rowI, ds_setS_1, ds_setS_21, ds_setS_self, ds_setS_ne, pk_us, pk_un, i0, k90, c4, c5, c6, c7, b_Mod_readLine_35, g, lx, ite_self]
      · obtain ⟨t, f⟩ := t1 q1 rfl
        by_cases full : 12 ≤ D 0 4
        · have ck : dr_ck true 1 D = 5 := by simp [dr_ck, dr_full, full]
          rw [ck, if_neg (by decide)]
          have lx := s_islandLine_x (d + 5) (dr_zw z 5 (dr_at B n e)) (dr_zw_13 _ _ _)
          refine ⟨dr_zw z 5 (dr_at B n e), ?_, dr_XM_zw hS hw⟩
          generalize dr_at B n e = at_ at *
          generalize dr_zw z 5 at_ = y at *
          rw [c_Mod_readLine, b_Mod_readLine_0]
          simp (disch := first | assumption | omega) only [ds_cI, ds_cV, ds_cL, ds_cR, ds_nn, ds_isK_t, ds_isA_t, ds_chk_t, ds_chkN, ds_nz_t, ds_nzN, ds_isB_t, ds_isB_bo, ↓dl_m1, ↓dl_m2, dl_0, dl_1, dl_2, dl_3, dl_4, dl_5, dl_6, dl_7, dl_8, dl_9, dl_10, dl_11, dl_12, dl_13, dl_14, dl_15, dl_16, dl_20, dl_24, dl_31, dl_50, dl_57, dl_67, dl_68, dl_74, dl_75, dl_79, dl_80, dl_99, dl_100, dl_200, dl_210, dl_224, dl_255, dl_289, dl_900, dl_1000, dl_1728, dl_65536, dl_65537, nI_add, pk_mul, pk_sub, pk_div, pk_rem, ds_rem2, nI_clamp, nI_leI, nI_ltI, nI_eq, ds_m1_eq, ds_eq_m1, ds_m2_eq, ds_eq_m2, ds_m1_le, ds_le_m1, ds_m1_lt, ds_lt_m1, ds_in_N, ds_bo0, ds_bo1, if_pos, if_neg, Nat.not_le, Nat.not_lt, not_true_eq_false, not_false_eq_true, if_true, if_false, ne_eq, Option.some.injEq, Prod.mk.injEq, Value.int.injEq, true_and, and_true, and_self, ite_self, Bool.not_eq_true, Bool.not_eq_false, Bool.true_eq_false, Bool.false_eq_true, reduceCtorEq, Nat.zero_add, Nat.reduceAdd, Nat.reduceMul, Nat.reduceSub, ds_setI_row, ds_setL_row, ds_rowI_self, ds_rowI_ne, ds_rowI_2, ds_rowI_rowI, ds_setS_1, ds_setS_21, ds_setS_self, ds_setS_ne, pk_us, pk_un, i0, k90, c4, c5, c6, c7, b_Mod_readLine_35, f, lx, full, ite_self]
        · have ck : dr_ck true 1 D = 0 := by simp [dr_ck, dr_full]; omega
          rw [ck, if_pos rfl]
          obtain ⟨z1, w1, O1, f1⟩ := t
          obtain ⟨z2, w2, p2⟩ := s_islandLine d z0 z1 B n (dr_nx B n e) Nm D O1 (dr_SM_g1 hS f1) (hdd rfl) hn (by omega)
          refine ⟨z2, ?_, p2⟩
          rw [c_Mod_readLine, b_Mod_readLine_0]
          simp (disch := first | assumption | omega) only [ds_cI, ds_cV, ds_cL, ds_cR, ds_nn, ds_isK_t, ds_isA_t, ds_chk_t, ds_chkN, ds_nz_t, ds_nzN, ds_isB_t, ds_isB_bo, ↓dl_m1, ↓dl_m2, dl_0, dl_1, dl_2, dl_3, dl_4, dl_5, dl_6, dl_7, dl_8, dl_9, dl_10, dl_11, dl_12, dl_13, dl_14, dl_15, dl_16, dl_20, dl_24, dl_31, dl_50, dl_57, dl_67, dl_68, dl_74, dl_75, dl_79, dl_80, dl_99, dl_100, dl_200, dl_210, dl_224, dl_255, dl_289, dl_900, dl_1000, dl_1728, dl_65536, dl_65537, nI_add, pk_mul, pk_sub, pk_div, pk_rem, ds_rem2, nI_clamp, nI_leI, nI_ltI, nI_eq, ds_m1_eq, ds_eq_m1, ds_m2_eq, ds_eq_m2, ds_m1_le, ds_le_m1, ds_m1_lt, ds_lt_m1, ds_in_N, ds_bo0, ds_bo1, if_pos, if_neg, Nat.not_le, Nat.not_lt, not_true_eq_false, not_false_eq_true, if_true, if_false, ne_eq, Option.some.injEq, Prod.mk.injEq, Value.int.injEq, true_and, and_true, and_self, ite_self, Bool.not_eq_true, Bool.not_eq_false, Bool.true_eq_false, Bool.false_eq_true, reduceCtorEq, Nat.zero_add, Nat.reduceAdd, Nat.reduceMul, Nat.reduceSub, ds_setI_row, ds_setL_row, ds_rowI_self, ds_rowI_ne, ds_rowI_2, ds_rowI_rowI, ds_setS_1, ds_setS_21, ds_setS_self, ds_setS_ne, pk_us, pk_un, i0, k90, c4, c5, c6, c7, b_Mod_readLine_35, w1, w2, full, ite_self]
  · rw [q0] at i0 on
    simp only [↓reduceIte] at on
    rw [dr_pOne_s on]
    cases hs
    · have ck : dr_ck false 0 D = 0 := by simp [dr_ck, dr_full]
      rw [ck, if_pos rfl, if_pos rfl]
      obtain ⟨e4, e5, e6, e7⟩ := hz rfl
      obtain ⟨z2, w2, p2⟩ := s_seaLine d z0 z B n e Nm D hO hS e4 e5 e6 e7
      refine ⟨z2, ?_, p2⟩
      rw [c_Mod_readLine, b_Mod_readLine_0]
      simp (disch := first | assumption | omega) only [ds_cI, ds_cV, ds_cL, ds_cR, ds_nn, ds_isK_t, ds_isA_t, ds_chk_t, ds_chkN, ds_nz_t, ds_nzN, ds_isB_t, ds_isB_bo, ↓dl_m1, ↓dl_m2, dl_0, dl_1, dl_2, dl_3, dl_4, dl_5, dl_6, dl_7, dl_8, dl_9, dl_10, dl_11, dl_12, dl_13, dl_14, dl_15, dl_16, dl_20, dl_24, dl_31, dl_50, dl_57, dl_67, dl_68, dl_74, dl_75, dl_79, dl_80, dl_99, dl_100, dl_200, dl_210, dl_224, dl_255, dl_289, dl_900, dl_1000, dl_1728, dl_65536, dl_65537, nI_add, pk_mul, pk_sub, pk_div, pk_rem, ds_rem2, nI_clamp, nI_leI, nI_ltI, nI_eq, ds_m1_eq, ds_eq_m1, ds_m2_eq, ds_eq_m2, ds_m1_le, ds_le_m1, ds_m1_lt, ds_lt_m1, ds_in_N, ds_bo0, ds_bo1, if_pos, if_neg, Nat.not_le, Nat.not_lt, not_true_eq_false, not_false_eq_true, if_true, if_false, ne_eq, Option.some.injEq, Prod.mk.injEq, Value.int.injEq, true_and, and_true, and_self, ite_self, Bool.not_eq_true, Bool.not_eq_false, Bool.true_eq_false, Bool.false_eq_true, reduceCtorEq, Nat.zero_add, Nat.reduceAdd, Nat.reduceMul, Nat.reduceSub, ds_setI_row, ds_setL_row, ds_rowI_self, ds_rowI_ne, ds_rowI_2, ds_rowI_rowI, ds_setS_1, ds_setS_21, ds_setS_self, ds_setS_ne, pk_us, pk_un, i0, w2]
    · have ck : dr_ck true 0 D = 3 := by simp [dr_ck]
      rw [ck, if_neg (by decide)]
      have lx := s_seaLine_x (d + 4) z0 z B n e Nm D hO hS
      refine ⟨dr_zw z 3 (dr_at B n e), ?_, dr_XM_zw hS hw⟩
      generalize dr_at B n e = at_ at *
      generalize dr_zw z 3 at_ = y at *
      rw [c_Mod_readLine, b_Mod_readLine_0]
      simp (disch := first | assumption | omega) only [ds_cI, ds_cV, ds_cL, ds_cR, ds_nn, ds_isK_t, ds_isA_t, ds_chk_t, ds_chkN, ds_nz_t, ds_nzN, ds_isB_t, ds_isB_bo, ↓dl_m1, ↓dl_m2, dl_0, dl_1, dl_2, dl_3, dl_4, dl_5, dl_6, dl_7, dl_8, dl_9, dl_10, dl_11, dl_12, dl_13, dl_14, dl_15, dl_16, dl_20, dl_24, dl_31, dl_50, dl_57, dl_67, dl_68, dl_74, dl_75, dl_79, dl_80, dl_99, dl_100, dl_200, dl_210, dl_224, dl_255, dl_289, dl_900, dl_1000, dl_1728, dl_65536, dl_65537, nI_add, pk_mul, pk_sub, pk_div, pk_rem, ds_rem2, nI_clamp, nI_leI, nI_ltI, nI_eq, ds_m1_eq, ds_eq_m1, ds_m2_eq, ds_eq_m2, ds_m1_le, ds_le_m1, ds_m1_lt, ds_lt_m1, ds_in_N, ds_bo0, ds_bo1, if_pos, if_neg, Nat.not_le, Nat.not_lt, not_true_eq_false, not_false_eq_true, if_true, if_false, ne_eq, Option.some.injEq, Prod.mk.injEq, Value.int.injEq, true_and, and_true, and_self, ite_self, Bool.not_eq_true, Bool.not_eq_false, Bool.true_eq_false, Bool.false_eq_true, reduceCtorEq, Nat.zero_add, Nat.reduceAdd, Nat.reduceMul, Nat.reduceSub, ds_setI_row, ds_setL_row, ds_rowI_self, ds_rowI_ne, ds_rowI_2, ds_rowI_rowI, ds_setS_1, ds_setS_21, ds_setS_self, ds_setS_ne, pk_us, pk_un, i0, lx]
