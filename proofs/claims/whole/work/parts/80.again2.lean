theorem dk_dk_ext {z : ds_St} {e c n : Nat} {C C' : Nat → Nat} (h : dk_dk z e C c n) (hC : C = C') : dk_dk z e C' c n := hC ▸ h
/-- the class's rounds: F is made once a time -/
theorem s_cycleC (d t a T : Nat) (z : ds_St) (D : Nat → Nat → Nat) (K : Nat → Nat) (hC : dk_HC z t D K) (hD : dk_ok D) (hK : dk_okK D K) (ha : a < 14) (hT1 : 1 ≤ T) (hT : T ≤ 60) (h1 : dk_id (dk_stp (fun C => dk_mk C a (K 12)) T) (K 12) = true) (h2 : ∀ k, 1 ≤ k → k < T → dk_id (dk_stp (fun C => dk_mk C a (K 12)) k) (K 12) = false) : ∀ m k z, k + 1 + m = T → dk_dk z 64 (dk_stp (fun C => dk_mk C a (K 12)) k) (K 12) (D 0 4) → ∃ z', ds_Rw ds_c_Sea_cycle ds_u_Sea_cycle (ds_call (d + 4)) 30 [some (.ref 0), some (.int (nI a)), some (.int (nI ((k + 1))))] [] z = some (some (.int (nI T)), ds_rowI z' 0 (upd (z'.1 0) 10 (nI 0))) ∧ dk_fr 64 80 z z' := by
  have n12 := hD.2.2.2.2.1.2
  intro m
  induction m with
  | zero =>
    intro k z hk hd
    obtain ⟨z1, s1, s2, s3, s4⟩ := s_mkC (d + 1) 64 a (K 12) (D 0 4) z _ ha hd
    have s5 := s_isOrd (d + 2) (K 12) (D 0 4) z1 _ n12 s2
    have e : dk_mk (dk_stp (fun C => dk_mk C a (K 12)) k) a (K 12) = dk_stp (fun C => dk_mk C a (K 12)) (k + 1) := rfl
    have hk' : k + 1 = T := by omega
    rw [e, hk', h1] at s5
    refine ⟨z1, ?_, dk_fr_mono s3 (by decide) (by decide)⟩
    rw [hk', b_Sea_cycle_30]
    simp (disch := first | assumption | omega) only [ds_cI, ds_cV, ds_cL, ds_cR, ds_nn, ds_isK_t, ds_isA_t, ds_chk_t, ds_chkN, ds_nz_t, ds_nzN, ds_isB_t, ds_isB_bo, ↓dl_m1, ↓dl_m2, dl_0, dl_1, dl_2, dl_3, dl_4, dl_5, dl_6, dl_7, dl_8, dl_9, dl_10, dl_11, dl_12, dl_13, dl_14, dl_15, dl_16, dl_20, dl_24, dl_31, dl_50, dl_57, dl_67, dl_68, dl_74, dl_75, dl_79, dl_80, dl_99, dl_100, dl_200, dl_210, dl_224, dl_255, dl_289, dl_900, dl_1000, dl_1728, dl_65536, dl_65537, nI_add, pk_mul, pk_sub, pk_div, pk_rem, ds_rem2, nI_clamp, nI_leI, nI_ltI, nI_eq, ds_m1_eq, ds_eq_m1, ds_m2_eq, ds_eq_m2, ds_m1_le, ds_le_m1, ds_m1_lt, ds_lt_m1, ds_in_N, ds_bo0, ds_bo1, if_pos, if_neg, Nat.not_le, Nat.not_lt, not_true_eq_false, not_false_eq_true, if_true, if_false, ne_eq, Option.some.injEq, Prod.mk.injEq, Value.int.injEq, true_and, and_true, and_self, ite_self, Bool.not_eq_true, Bool.not_eq_false, Bool.true_eq_false, Bool.false_eq_true, reduceCtorEq, Nat.zero_add, Nat.reduceAdd, Nat.reduceMul, Nat.reduceSub, ds_setI_row, ds_setL_row, ds_rowI_self, ds_rowI_ne, ds_rowI_2, ds_rowI_rowI, ds_setS_1, ds_setS_21, ds_setS_self, ds_setS_ne, pk_us, pk_un, s1, s5, s_answer]
  | succ m ih =>
    intro k z hk hd
    obtain ⟨z1, s1, s2, s3, s4⟩ := s_mkC (d + 1) 64 a (K 12) (D 0 4) z _ ha hd
    have s5 := s_isOrd (d + 2) (K 12) (D 0 4) z1 _ n12 s2
    have e : dk_mk (dk_stp (fun C => dk_mk C a (K 12)) k) a (K 12) = dk_stp (fun C => dk_mk C a (K 12)) (k + 1) := rfl
    rw [e, h2 (k + 1) (by omega) (by omega)] at s5
    obtain ⟨z2, q1, q2⟩ := ih (k + 1) z1 (by omega) s2
    refine ⟨z2, ?_, dk_fr_trans (dk_fr_mono s3 (by decide) (by decide)) q2⟩
    rw [← q1, b_Sea_cycle_30]
    simp (disch := first | assumption | omega) only [ds_cI, ds_cV, ds_cL, ds_cR, ds_nn, ds_isK_t, ds_isA_t, ds_chk_t, ds_chkN, ds_nz_t, ds_nzN, ds_isB_t, ds_isB_bo, ↓dl_m1, ↓dl_m2, dl_0, dl_1, dl_2, dl_3, dl_4, dl_5, dl_6, dl_7, dl_8, dl_9, dl_10, dl_11, dl_12, dl_13, dl_14, dl_15, dl_16, dl_20, dl_24, dl_31, dl_50, dl_57, dl_67, dl_68, dl_74, dl_75, dl_79, dl_80, dl_99, dl_100, dl_200, dl_210, dl_224, dl_255, dl_289, dl_900, dl_1000, dl_1728, dl_65536, dl_65537, nI_add, pk_mul, pk_sub, pk_div, pk_rem, ds_rem2, nI_clamp, nI_leI, nI_ltI, nI_eq, ds_m1_eq, ds_eq_m1, ds_m2_eq, ds_eq_m2, ds_m1_le, ds_le_m1, ds_m1_lt, ds_lt_m1, ds_in_N, ds_bo0, ds_bo1, if_pos, if_neg, Nat.not_le, Nat.not_lt, not_true_eq_false, not_false_eq_true, if_true, if_false, ne_eq, Option.some.injEq, Prod.mk.injEq, Value.int.injEq, true_and, and_true, and_self, ite_self, Bool.not_eq_true, Bool.not_eq_false, Bool.true_eq_false, Bool.false_eq_true, reduceCtorEq, Nat.zero_add, Nat.reduceAdd, Nat.reduceMul, Nat.reduceSub, ds_setI_row, ds_setL_row, ds_rowI_self, ds_rowI_ne, ds_rowI_2, ds_rowI_rowI, ds_setS_1, ds_setS_21, ds_setS_self, ds_setS_ne, pk_us, pk_un, s1, s5]
theorem s_againC (d t T : Nat) (D : Nat → Nat → Nat) (K : Nat → Nat) (hD : dk_ok D) (hT1 : 1 ≤ T) (hT : T ≤ 60) (h1 : dk_id (dk_stp (fun C => dk_add D C (D 0 4) (D 0 5)) T) (D 0 4) = true) (h2 : ∀ k, 1 ≤ k → k < T → dk_id (dk_stp (fun C => dk_add D C (D 0 4) (D 0 5)) k) (D 0 4) = false) : ∀ m k z, k + 1 + m = T → dk_HC z t D K → dk_dk z 64 (dk_stp (fun C => dk_add D C (D 0 4) (D 0 5)) k) (D 0 4) (D 0 4) → ∃ z', ds_Rw ds_c_Sea_again ds_u_Sea_again (ds_call (d + 4)) 29 [some (.ref 0), some (.int (nI ((k + 1))))] [] z = some (some (.int (nI T)), ds_rowI z' 0 (upd (z'.1 0) 10 (nI 0))) ∧ dk_fr 64 80 z z' := by
  have n12 := hD.2.2.2.2.1.2
  intro m
  induction m with
  | zero =>
    intro k z hk hC hd
    have r0 := hC.1
    have hKt := ds_Kt hC.2.1.1
    have t9 := hC.2.1.2.1.2.2.2.2.2.1
    obtain ⟨z1, s1, s2, s3⟩ := s_addPlan d t (D 0 5) z D K _ hC hD hd (Nat.le_refl _)
    have s5 := s_isOrd (d + 2) (D 0 4) (D 0 4) z1 _ n12 s2
    have e : dk_add D (dk_stp (fun C => dk_add D C (D 0 4) (D 0 5)) k) (D 0 4) (D 0 5) = dk_stp (fun C => dk_add D C (D 0 4) (D 0 5)) (k + 1) := rfl
    have hk' : k + 1 = T := by omega
    rw [e, hk', h1] at s5
    refine ⟨z1, ?_, dk_fr_mono s3 (by decide) (by decide)⟩
    rw [hk', b_Sea_again_29]
    simp (disch := first | assumption | omega) only [ds_cI, ds_cV, ds_cL, ds_cR, ds_nn, ds_isK_t, ds_isA_t, ds_chk_t, ds_chkN, ds_nz_t, ds_nzN, ds_isB_t, ds_isB_bo, ↓dl_m1, ↓dl_m2, dl_0, dl_1, dl_2, dl_3, dl_4, dl_5, dl_6, dl_7, dl_8, dl_9, dl_10, dl_11, dl_12, dl_13, dl_14, dl_15, dl_16, dl_20, dl_24, dl_31, dl_50, dl_57, dl_67, dl_68, dl_74, dl_75, dl_79, dl_80, dl_99, dl_100, dl_200, dl_210, dl_224, dl_255, dl_289, dl_900, dl_1000, dl_1728, dl_65536, dl_65537, nI_add, pk_mul, pk_sub, pk_div, pk_rem, ds_rem2, nI_clamp, nI_leI, nI_ltI, nI_eq, ds_m1_eq, ds_eq_m1, ds_m2_eq, ds_eq_m2, ds_m1_le, ds_le_m1, ds_m1_lt, ds_lt_m1, ds_in_N, ds_bo0, ds_bo1, if_pos, if_neg, Nat.not_le, Nat.not_lt, not_true_eq_false, not_false_eq_true, if_true, if_false, ne_eq, Option.some.injEq, Prod.mk.injEq, Value.int.injEq, true_and, and_true, and_self, ite_self, Bool.not_eq_true, Bool.not_eq_false, Bool.true_eq_false, Bool.false_eq_true, reduceCtorEq, Nat.zero_add, Nat.reduceAdd, Nat.reduceMul, Nat.reduceSub, ds_setI_row, ds_setL_row, ds_rowI_self, ds_rowI_ne, ds_rowI_2, ds_rowI_rowI, ds_setS_1, ds_setS_21, ds_setS_self, ds_setS_ne, pk_us, pk_un, r0, t9, s1, s5, s_answer]
  | succ m ih =>
    intro k z hk hC hd
    have r0 := hC.1
    have hKt := ds_Kt hC.2.1.1
    have t9 := hC.2.1.2.1.2.2.2.2.2.1
    obtain ⟨z1, s1, s2, s3⟩ := s_addPlan d t (D 0 5) z D K _ hC hD hd (Nat.le_refl _)
    have s5 := s_isOrd (d + 2) (D 0 4) (D 0 4) z1 _ n12 s2
    have e : dk_add D (dk_stp (fun C => dk_add D C (D 0 4) (D 0 5)) k) (D 0 4) (D 0 5) = dk_stp (fun C => dk_add D C (D 0 4) (D 0 5)) (k + 1) := rfl
    rw [e, h2 (k + 1) (by omega) (by omega)] at s5
    have f1 := dk_fr_mono (a' := 64) (b' := 80) s3 (by decide) (by decide)
    obtain ⟨z2, q1, q2⟩ := ih (k + 1) z1 (by omega) (dk_HC_fr hC f1) s2
    refine ⟨z2, ?_, dk_fr_trans f1 q2⟩
    rw [← q1, b_Sea_again_29]
    simp (disch := first | assumption | omega) only [ds_cI, ds_cV, ds_cL, ds_cR, ds_nn, ds_isK_t, ds_isA_t, ds_chk_t, ds_chkN, ds_nz_t, ds_nzN, ds_isB_t, ds_isB_bo, ↓dl_m1, ↓dl_m2, dl_0, dl_1, dl_2, dl_3, dl_4, dl_5, dl_6, dl_7, dl_8, dl_9, dl_10, dl_11, dl_12, dl_13, dl_14, dl_15, dl_16, dl_20, dl_24, dl_31, dl_50, dl_57, dl_67, dl_68, dl_74, dl_75, dl_79, dl_80, dl_99, dl_100, dl_200, dl_210, dl_224, dl_255, dl_289, dl_900, dl_1000, dl_1728, dl_65536, dl_65537, nI_add, pk_mul, pk_sub, pk_div, pk_rem, ds_rem2, nI_clamp, nI_leI, nI_ltI, nI_eq, ds_m1_eq, ds_eq_m1, ds_m2_eq, ds_eq_m2, ds_m1_le, ds_le_m1, ds_m1_lt, ds_lt_m1, ds_in_N, ds_bo0, ds_bo1, if_pos, if_neg, Nat.not_le, Nat.not_lt, not_true_eq_false, not_false_eq_true, if_true, if_false, ne_eq, Option.some.injEq, Prod.mk.injEq, Value.int.injEq, true_and, and_true, and_self, ite_self, Bool.not_eq_true, Bool.not_eq_false, Bool.true_eq_false, Bool.false_eq_true, reduceCtorEq, Nat.zero_add, Nat.reduceAdd, Nat.reduceMul, Nat.reduceSub, ds_setI_row, ds_setL_row, ds_rowI_self, ds_rowI_ne, ds_rowI_2, ds_rowI_rowI, ds_setS_1, ds_setS_21, ds_setS_self, ds_setS_ne, pk_us, pk_un, r0, t9, s1, s5]
theorem s_sameM (d a T c : Nat) (D : Nat → Nat → Nat) (hn : D 0 4 ≤ 12) (ha : a < 14) (hT1 : 1 ≤ T) (hT : T ≤ 60) (h1 : dk_id (dk_stp (fun C => dk_mk C a c) T) c = true) (h2 : ∀ k, 1 ≤ k → k < T → dk_id (dk_stp (fun C => dk_mk C a c) k) c = false) : ∀ m k z, k + 1 + m = T → dk_dm z 101 (dk_stp (fun C => dk_mk C a c) k) c (D 0 4) → ∃ z', ds_Rw ds_c_Mod_same ds_u_Mod_same (ds_call (d + 2)) 31 [some (.ref 90), some (.int (nI a)), some (.int (nI 0)), some (.int (nI k)), some (.int (nI 0)), none] [] z = some (some (.int (nI T)), z') ∧ dk_fm z z' := by
  intro m
  induction m with
  | zero =>
    intro k z hk hd
    obtain ⟨z1, s1, s2, s3, s4, s5⟩ := s_mkM d 101 a c (D 0 4) z _ ha hd
    have s6 := s_same99 d c (D 0 4) (nI a) (nI 0) (nI (k + 1)) z1 _ hn s2
    have e : dk_mk (dk_stp (fun C => dk_mk C a c) k) a c = dk_stp (fun C => dk_mk C a c) (k + 1) := rfl
    have hk' : k + 1 = T := by omega
    rw [e, hk', h1] at s6
    refine ⟨z1, ?_, dk_fm_of (by decide) s3 s5⟩
    rw [b_Mod_same_31]
    simp (disch := first | assumption | omega) only [ds_cI, ds_cV, ds_cL, ds_cR, ds_nn, ds_isK_t, ds_isA_t, ds_chk_t, ds_chkN, ds_nz_t, ds_nzN, ds_isB_t, ds_isB_bo, ↓dl_m1, ↓dl_m2, dl_0, dl_1, dl_2, dl_3, dl_4, dl_5, dl_6, dl_7, dl_8, dl_9, dl_10, dl_11, dl_12, dl_13, dl_14, dl_15, dl_16, dl_20, dl_24, dl_31, dl_50, dl_57, dl_67, dl_68, dl_74, dl_75, dl_79, dl_80, dl_99, dl_100, dl_200, dl_210, dl_224, dl_255, dl_289, dl_900, dl_1000, dl_1728, dl_65536, dl_65537, nI_add, pk_mul, pk_sub, pk_div, pk_rem, ds_rem2, nI_clamp, nI_leI, nI_ltI, nI_eq, ds_m1_eq, ds_eq_m1, ds_m2_eq, ds_eq_m2, ds_m1_le, ds_le_m1, ds_m1_lt, ds_lt_m1, ds_in_N, ds_bo0, ds_bo1, if_pos, if_neg, Nat.not_le, Nat.not_lt, not_true_eq_false, not_false_eq_true, if_true, if_false, ne_eq, Option.some.injEq, Prod.mk.injEq, Value.int.injEq, true_and, and_true, and_self, ite_self, Bool.not_eq_true, Bool.not_eq_false, Bool.true_eq_false, Bool.false_eq_true, reduceCtorEq, Nat.zero_add, Nat.reduceAdd, Nat.reduceMul, Nat.reduceSub, ds_setI_row, ds_setL_row, ds_rowI_self, ds_rowI_ne, ds_rowI_2, ds_rowI_rowI, ds_setS_1, ds_setS_21, ds_setS_self, ds_setS_ne, pk_us, pk_un, s1, hk', s6]
    rw [b_Mod_same_31]
    simp (disch := first | assumption | omega) only [ds_cI, ds_cV, ds_cL, ds_cR, ds_nn, ds_isK_t, ds_isA_t, ds_chk_t, ds_chkN, ds_nz_t, ds_nzN, ds_isB_t, ds_isB_bo, ↓dl_m1, ↓dl_m2, dl_0, dl_1, dl_2, dl_3, dl_4, dl_5, dl_6, dl_7, dl_8, dl_9, dl_10, dl_11, dl_12, dl_13, dl_14, dl_15, dl_16, dl_20, dl_24, dl_31, dl_50, dl_57, dl_67, dl_68, dl_74, dl_75, dl_79, dl_80, dl_99, dl_100, dl_200, dl_210, dl_224, dl_255, dl_289, dl_900, dl_1000, dl_1728, dl_65536, dl_65537, nI_add, pk_mul, pk_sub, pk_div, pk_rem, ds_rem2, nI_clamp, nI_leI, nI_ltI, nI_eq, ds_m1_eq, ds_eq_m1, ds_m2_eq, ds_eq_m2, ds_m1_le, ds_le_m1, ds_m1_lt, ds_lt_m1, ds_in_N, ds_bo0, ds_bo1, if_pos, if_neg, Nat.not_le, Nat.not_lt, not_true_eq_false, not_false_eq_true, if_true, if_false, ne_eq, Option.some.injEq, Prod.mk.injEq, Value.int.injEq, true_and, and_true, and_self, ite_self, Bool.not_eq_true, Bool.not_eq_false, Bool.true_eq_false, Bool.false_eq_true, reduceCtorEq, Nat.zero_add, Nat.reduceAdd, Nat.reduceMul, Nat.reduceSub, ds_setI_row, ds_setL_row, ds_rowI_self, ds_rowI_ne, ds_rowI_2, ds_rowI_rowI, ds_setS_1, ds_setS_21, ds_setS_self, ds_setS_ne, pk_us, pk_un]
  | succ m ih =>
    intro k z hk hd
    obtain ⟨z1, s1, s2, s3, s4, s5⟩ := s_mkM d 101 a c (D 0 4) z _ ha hd
    have s6 := s_same99 d c (D 0 4) (nI a) (nI 0) (nI (k + 1)) z1 _ hn s2
    have e : dk_mk (dk_stp (fun C => dk_mk C a c) k) a c = dk_stp (fun C => dk_mk C a c) (k + 1) := rfl
    rw [e, h2 (k + 1) (by omega) (by omega)] at s6
    obtain ⟨z2, q1, q2⟩ := ih (k + 1) z1 (by omega) s2
    refine ⟨z2, ?_, dk_fm_trans (dk_fm_of (by decide) s3 s5) q2⟩
    rw [← q1, b_Mod_same_31]
    simp (disch := first | assumption | omega) only [ds_cI, ds_cV, ds_cL, ds_cR, ds_nn, ds_isK_t, ds_isA_t, ds_chk_t, ds_chkN, ds_nz_t, ds_nzN, ds_isB_t, ds_isB_bo, ↓dl_m1, ↓dl_m2, dl_0, dl_1, dl_2, dl_3, dl_4, dl_5, dl_6, dl_7, dl_8, dl_9, dl_10, dl_11, dl_12, dl_13, dl_14, dl_15, dl_16, dl_20, dl_24, dl_31, dl_50, dl_57, dl_67, dl_68, dl_74, dl_75, dl_79, dl_80, dl_99, dl_100, dl_200, dl_210, dl_224, dl_255, dl_289, dl_900, dl_1000, dl_1728, dl_65536, dl_65537, nI_add, pk_mul, pk_sub, pk_div, pk_rem, ds_rem2, nI_clamp, nI_leI, nI_ltI, nI_eq, ds_m1_eq, ds_eq_m1, ds_m2_eq, ds_eq_m2, ds_m1_le, ds_le_m1, ds_m1_lt, ds_lt_m1, ds_in_N, ds_bo0, ds_bo1, if_pos, if_neg, Nat.not_le, Nat.not_lt, not_true_eq_false, not_false_eq_true, if_true, if_false, ne_eq, Option.some.injEq, Prod.mk.injEq, Value.int.injEq, true_and, and_true, and_self, ite_self, Bool.not_eq_true, Bool.not_eq_false, Bool.true_eq_false, Bool.false_eq_true, reduceCtorEq, Nat.zero_add, Nat.reduceAdd, Nat.reduceMul, Nat.reduceSub, ds_setI_row, ds_setL_row, ds_rowI_self, ds_rowI_ne, ds_rowI_2, ds_rowI_rowI, ds_setS_1, ds_setS_21, ds_setS_self, ds_setS_ne, pk_us, pk_un, s1, s6]
    rfl
theorem s_sameP (d T : Nat) (D : Nat → Nat → Nat) (K : Nat → Nat) (hD : dk_ok D) (hT1 : 1 ≤ T) (hT : T ≤ 60) (h1 : dk_id (dk_stp (fun C => dk_add D C (D 0 4) (D 0 5)) T) (D 0 4) = true) (h2 : ∀ k, 1 ≤ k → k < T → dk_id (dk_stp (fun C => dk_add D C (D 0 4) (D 0 5)) k) (D 0 4) = false) : ∀ m k z, k + 1 + m = T → dk_HM z D K → dk_dm z 101 (dk_stp (fun C => dk_add D C (D 0 4) (D 0 5)) k) (D 0 4) (D 0 4) → ∃ z', ds_Rw ds_c_Mod_same ds_u_Mod_same (ds_call (d + 2)) 31 [some (.ref 90), some (.int (nI 0)), some (.int (nI 1)), some (.int (nI k)), some (.int (nI 0)), none] [] z = some (some (.int (nI T)), z') ∧ dk_fm z z' := by
  have n12 := hD.2.2.2.2.1.2
  have o5 := hD.2.2.2.2.2.1
  have in43 : ∀ m j (C : Nat → Nat) z (k : Nat), j + m = D 0 5 → dk_HM z D K → dk_dm z 101 (dk_add D C (D 0 4) j) (D 0 4) (D 0 4) → ∃ z', ds_Rw ds_c_Mod_same ds_u_Mod_same (ds_call (d + 2)) 43 [some (.ref 90), some (.int (nI 0)), some (.int (nI 1)), some (.int (nI k)), none, some (.int (nI j))] [] z = ds_Rw ds_c_Mod_same ds_u_Mod_same (ds_call (d + 2)) 99 [some (.ref 90), some (.int (nI 0)), some (.int (nI 1)), some (.int (nI ((k + 1)))), some (.int (nI 1)), some (.int (nI 0))] [] z' ∧ dk_fm z z' ∧ dk_dm z' 101 (dk_add D C (D 0 4) (D 0 5)) (D 0 4) (D 0 4) := by
    intro m
    induction m with
    | zero =>
      intro j C z k hj hM hd
      have : j = D 0 5 := by omega
      subst this
      have m5 := hM.1.1.2.2.2.2.2.1
      refine ⟨z, ?_, dk_fm_refl _, hd⟩
      rw [b_Mod_same_43]
      simp (disch := first | assumption | omega) only [ds_cI, ds_cV, ds_cL, ds_cR, ds_nn, ds_isK_t, ds_isA_t, ds_chk_t, ds_chkN, ds_nz_t, ds_nzN, ds_isB_t, ds_isB_bo, ↓dl_m1, ↓dl_m2, dl_0, dl_1, dl_2, dl_3, dl_4, dl_5, dl_6, dl_7, dl_8, dl_9, dl_10, dl_11, dl_12, dl_13, dl_14, dl_15, dl_16, dl_20, dl_24, dl_31, dl_50, dl_57, dl_67, dl_68, dl_74, dl_75, dl_79, dl_80, dl_99, dl_100, dl_200, dl_210, dl_224, dl_255, dl_289, dl_900, dl_1000, dl_1728, dl_65536, dl_65537, nI_add, pk_mul, pk_sub, pk_div, pk_rem, ds_rem2, nI_clamp, nI_leI, nI_ltI, nI_eq, ds_m1_eq, ds_eq_m1, ds_m2_eq, ds_eq_m2, ds_m1_le, ds_le_m1, ds_m1_lt, ds_lt_m1, ds_in_N, ds_bo0, ds_bo1, if_pos, if_neg, Nat.not_le, Nat.not_lt, not_true_eq_false, not_false_eq_true, if_true, if_false, ne_eq, Option.some.injEq, Prod.mk.injEq, Value.int.injEq, true_and, and_true, and_self, ite_self, Bool.not_eq_true, Bool.not_eq_false, Bool.true_eq_false, Bool.false_eq_true, reduceCtorEq, Nat.zero_add, Nat.reduceAdd, Nat.reduceMul, Nat.reduceSub, ds_setI_row, ds_setL_row, ds_rowI_self, ds_rowI_ne, ds_rowI_2, ds_rowI_rowI, ds_setS_1, ds_setS_21, ds_setS_self, ds_setS_ne, pk_us, pk_un, m5]
    | succ m ih =>
      intro j C z k hj hM hd
      have m5 := hM.1.1.2.2.2.2.2.1
      have pj := hM.1.2.2.1 j (by omega)
      have aj := hD.2.2.2.2.2.2.2.2.2.1 j (by omega)
      obtain ⟨z1, s1, s2, s3, s4, s5⟩ := s_mkM d 101 (D 5 j) (D 0 4) (D 0 4) z _ aj hd
      have f1 := dk_fm_of (by decide) s3 s5
      obtain ⟨z2, q1, q2, q3⟩ := ih (j + 1) C z1 k (by omega) (dk_HM_fm hM f1) s2
      refine ⟨z2, ?_, dk_fm_trans f1 q2, q3⟩
      rw [← q1, b_Mod_same_43]
      simp (disch := first | assumption | omega) only [ds_cI, ds_cV, ds_cL, ds_cR, ds_nn, ds_isK_t, ds_isA_t, ds_chk_t, ds_chkN, ds_nz_t, ds_nzN, ds_isB_t, ds_isB_bo, ↓dl_m1, ↓dl_m2, dl_0, dl_1, dl_2, dl_3, dl_4, dl_5, dl_6, dl_7, dl_8, dl_9, dl_10, dl_11, dl_12, dl_13, dl_14, dl_15, dl_16, dl_20, dl_24, dl_31, dl_50, dl_57, dl_67, dl_68, dl_74, dl_75, dl_79, dl_80, dl_99, dl_100, dl_200, dl_210, dl_224, dl_255, dl_289, dl_900, dl_1000, dl_1728, dl_65536, dl_65537, nI_add, pk_mul, pk_sub, pk_div, pk_rem, ds_rem2, nI_clamp, nI_leI, nI_ltI, nI_eq, ds_m1_eq, ds_eq_m1, ds_m2_eq, ds_eq_m2, ds_m1_le, ds_le_m1, ds_m1_lt, ds_lt_m1, ds_in_N, ds_bo0, ds_bo1, if_pos, if_neg, Nat.not_le, Nat.not_lt, not_true_eq_false, not_false_eq_true, if_true, if_false, ne_eq, Option.some.injEq, Prod.mk.injEq, Value.int.injEq, true_and, and_true, and_self, ite_self, Bool.not_eq_true, Bool.not_eq_false, Bool.true_eq_false, Bool.false_eq_true, reduceCtorEq, Nat.zero_add, Nat.reduceAdd, Nat.reduceMul, Nat.reduceSub, ds_setI_row, ds_setL_row, ds_rowI_self, ds_rowI_ne, ds_rowI_2, ds_rowI_rowI, ds_setS_1, ds_setS_21, ds_setS_self, ds_setS_ne, pk_us, pk_un, m5, pj, s1]
  intro m
  induction m with
  | zero =>
    intro k z hk hM hd
    obtain ⟨z1, s1, s2, s3⟩ := in43 (D 0 5) 0 _ z k (by omega) hM hd
    have s6 := s_same99 d (D 0 4) (D 0 4) (nI 0) (nI 1) (nI (k + 1)) z1 _ n12 s3
    have e : dk_add D (dk_stp (fun C => dk_add D C (D 0 4) (D 0 5)) k) (D 0 4) (D 0 5) = dk_stp (fun C => dk_add D C (D 0 4) (D 0 5)) (k + 1) := rfl
    have hk' : k + 1 = T := by omega
    rw [e, hk', h1] at s6
    rw [hk'] at s1
    refine ⟨z1, ?_, s2⟩
    rw [b_Mod_same_31]
    simp (disch := first | assumption | omega) only [ds_cI, ds_cV, ds_cL, ds_cR, ds_nn, ds_isK_t, ds_isA_t, ds_chk_t, ds_chkN, ds_nz_t, ds_nzN, ds_isB_t, ds_isB_bo, ↓dl_m1, ↓dl_m2, dl_0, dl_1, dl_2, dl_3, dl_4, dl_5, dl_6, dl_7, dl_8, dl_9, dl_10, dl_11, dl_12, dl_13, dl_14, dl_15, dl_16, dl_20, dl_24, dl_31, dl_50, dl_57, dl_67, dl_68, dl_74, dl_75, dl_79, dl_80, dl_99, dl_100, dl_200, dl_210, dl_224, dl_255, dl_289, dl_900, dl_1000, dl_1728, dl_65536, dl_65537, nI_add, pk_mul, pk_sub, pk_div, pk_rem, ds_rem2, nI_clamp, nI_leI, nI_ltI, nI_eq, ds_m1_eq, ds_eq_m1, ds_m2_eq, ds_eq_m2, ds_m1_le, ds_le_m1, ds_m1_lt, ds_lt_m1, ds_in_N, ds_bo0, ds_bo1, if_pos, if_neg, Nat.not_le, Nat.not_lt, not_true_eq_false, not_false_eq_true, if_true, if_false, ne_eq, Option.some.injEq, Prod.mk.injEq, Value.int.injEq, true_and, and_true, and_self, ite_self, Bool.not_eq_true, Bool.not_eq_false, Bool.true_eq_false, Bool.false_eq_true, reduceCtorEq, Nat.zero_add, Nat.reduceAdd, Nat.reduceMul, Nat.reduceSub, ds_setI_row, ds_setL_row, ds_rowI_self, ds_rowI_ne, ds_rowI_2, ds_rowI_rowI, ds_setS_1, ds_setS_21, ds_setS_self, ds_setS_ne, pk_us, pk_un, s1, s6]
    rw [b_Mod_same_31]
    simp (disch := first | assumption | omega) only [ds_cI, ds_cV, ds_cL, ds_cR, ds_nn, ds_isK_t, ds_isA_t, ds_chk_t, ds_chkN, ds_nz_t, ds_nzN, ds_isB_t, ds_isB_bo, ↓dl_m1, ↓dl_m2, dl_0, dl_1, dl_2, dl_3, dl_4, dl_5, dl_6, dl_7, dl_8, dl_9, dl_10, dl_11, dl_12, dl_13, dl_14, dl_15, dl_16, dl_20, dl_24, dl_31, dl_50, dl_57, dl_67, dl_68, dl_74, dl_75, dl_79, dl_80, dl_99, dl_100, dl_200, dl_210, dl_224, dl_255, dl_289, dl_900, dl_1000, dl_1728, dl_65536, dl_65537, nI_add, pk_mul, pk_sub, pk_div, pk_rem, ds_rem2, nI_clamp, nI_leI, nI_ltI, nI_eq, ds_m1_eq, ds_eq_m1, ds_m2_eq, ds_eq_m2, ds_m1_le, ds_le_m1, ds_m1_lt, ds_lt_m1, ds_in_N, ds_bo0, ds_bo1, if_pos, if_neg, Nat.not_le, Nat.not_lt, not_true_eq_false, not_false_eq_true, if_true, if_false, ne_eq, Option.some.injEq, Prod.mk.injEq, Value.int.injEq, true_and, and_true, and_self, ite_self, Bool.not_eq_true, Bool.not_eq_false, Bool.true_eq_false, Bool.false_eq_true, reduceCtorEq, Nat.zero_add, Nat.reduceAdd, Nat.reduceMul, Nat.reduceSub, ds_setI_row, ds_setL_row, ds_rowI_self, ds_rowI_ne, ds_rowI_2, ds_rowI_rowI, ds_setS_1, ds_setS_21, ds_setS_self, ds_setS_ne, pk_us, pk_un]
  | succ m ih =>
    intro k z hk hM hd
    obtain ⟨z1, s1, s2, s3⟩ := in43 (D 0 5) 0 _ z k (by omega) hM hd
    have s6 := s_same99 d (D 0 4) (D 0 4) (nI 0) (nI 1) (nI (k + 1)) z1 _ n12 s3
    have e : dk_add D (dk_stp (fun C => dk_add D C (D 0 4) (D 0 5)) k) (D 0 4) (D 0 5) = dk_stp (fun C => dk_add D C (D 0 4) (D 0 5)) (k + 1) := rfl
    rw [e, h2 (k + 1) (by omega) (by omega)] at s6
    obtain ⟨z2, q1, q2⟩ := ih (k + 1) z1 (by omega) (dk_HM_fm hM s2) s3
    refine ⟨z2, ?_, dk_fm_trans s2 q2⟩
    rw [← q1, b_Mod_same_31]
    simp (disch := first | assumption | omega) only [ds_cI, ds_cV, ds_cL, ds_cR, ds_nn, ds_isK_t, ds_isA_t, ds_chk_t, ds_chkN, ds_nz_t, ds_nzN, ds_isB_t, ds_isB_bo, ↓dl_m1, ↓dl_m2, dl_0, dl_1, dl_2, dl_3, dl_4, dl_5, dl_6, dl_7, dl_8, dl_9, dl_10, dl_11, dl_12, dl_13, dl_14, dl_15, dl_16, dl_20, dl_24, dl_31, dl_50, dl_57, dl_67, dl_68, dl_74, dl_75, dl_79, dl_80, dl_99, dl_100, dl_200, dl_210, dl_224, dl_255, dl_289, dl_900, dl_1000, dl_1728, dl_65536, dl_65537, nI_add, pk_mul, pk_sub, pk_div, pk_rem, ds_rem2, nI_clamp, nI_leI, nI_ltI, nI_eq, ds_m1_eq, ds_eq_m1, ds_m2_eq, ds_eq_m2, ds_m1_le, ds_le_m1, ds_m1_lt, ds_lt_m1, ds_in_N, ds_bo0, ds_bo1, if_pos, if_neg, Nat.not_le, Nat.not_lt, not_true_eq_false, not_false_eq_true, if_true, if_false, ne_eq, Option.some.injEq, Prod.mk.injEq, Value.int.injEq, true_and, and_true, and_self, ite_self, Bool.not_eq_true, Bool.not_eq_false, Bool.true_eq_false, Bool.false_eq_true, reduceCtorEq, Nat.zero_add, Nat.reduceAdd, Nat.reduceMul, Nat.reduceSub, ds_setI_row, ds_setL_row, ds_rowI_self, ds_rowI_ne, ds_rowI_2, ds_rowI_rowI, ds_setS_1, ds_setS_21, ds_setS_self, ds_setS_ne, pk_us, pk_un, s1, s6]
    rfl
theorem s_lay101 (d c : Nat) (b : Bool) (z : ds_St) (D : Nat → Nat → Nat) (K : Nat → Nat) (hM : dk_HM z D K) (hD : dk_ok D) (hK : dk_okK D K) : ∃ z1, ds_call (d + 1) j_Mod_layDeck [.ref 90, .ref 101] z = some (none, z1) ∧ dk_dm z1 101 (fun q => q) (D 0 4) (D 0 4) ∧ dk_fm z z1 ∧ dk_dm (ds_rowI z1 101 (upd (z1.1 101) 12 (nI (K 12)))) 101 (fun q => q) (K 12) (D 0 4) := by
  have n12 := hD.2.2.2.2.1.2
  have m4 := hM.1.1.2.2.2.2.1
  have kn : K 12 ≤ D 0 4 := by rcases hK.2.2 with h | h <;> omega
  refine ⟨_, s_layDeck d (D 0 4) 101 z rfl rfl (by decide) n12 m4, ⟨.inr (.inr rfl), by rw [ds_rowI_self, pk_un (by decide), pk_us], n12, fun p hp => by rw [ds_rowI_self, pk_un (by omega), pk_un (by omega), if_pos (by omega), if_pos hp], dk_id_inj _⟩, dk_fm_row _ (dk_fm_refl z) (by decide), ⟨.inr (.inr rfl), by rw [ds_rowI_self, pk_us], hK.1, fun p hp => ?_, ⟨fun p hp => Nat.lt_of_lt_of_le hp kn, fun p q _ _ e => e⟩⟩⟩
  have := hK.1
  rw [ds_rowI_self, pk_un (by omega), ds_rowI_self, pk_un (by omega), pk_un (by omega), if_pos (by omega), if_pos (by omega)]
theorem k_cycle (d : Nat) (x : Int32) (z : ds_St) (h : dk_Inv z) : ∃ v z1 z2, ds_call (d + 20) j_Sea_cycle [.ref 0, .int x] z = some (some v, z1) ∧ ds_call (d + 20) j_Mod_cycle [.ref 90, .int x] z1 = some (some v, z2) ∧ dk_Inv z2 := by
  apply dk_both h
  intro t D K hC hM hz
  have g2 := s_isMove (d + 17) t x z D K hC hz
  have m2 := fun z hM => s_misMove (d + 17) x z D K hM hz
  have k12 := (dk_n12 hz).2
  have n12 := (dk_n12 hz).1
  have mo14 : dk_mo (K 12) ≤ 14 := by unfold dk_mo; split <;> omega
  rcases Bool.eq_false_or_eq_true (dk_rng x (dk_mo (K 12))) with hr | hr
  · obtain ⟨a, ha, rfl⟩ := (dk_rng_iff (by omega)).mp hr
    rcases hz with ⟨hD, hK⟩ | ⟨h0, hc0, hp0⟩
    · have kn : K 12 ≤ D 0 4 := by rcases hK.2.2 with h | h <;> omega
      obtain ⟨T, t1, t2, t3, t4⟩ := dk_first (F := fun C => dk_mk C a (K 12)) (dk_inv_inj (a := a) (c := K 12) (by omega) (by omega)) k12 (fun C q hq => by show dk_mk C a (K 12) q = _; unfold dk_mk; rw [if_pos hq])
      have c1 := hC.2.2.1
      obtain ⟨z1, s1, s2, s3⟩ := s_order (d + 18) (K 12) (D 0 4) z kn n12
      obtain ⟨z2, q1, q2⟩ := s_cycleC (d + 15) t a T z D K hC hD hK (by omega) t1 t2 t3 t4 (T - 1) 0 z1 (by omega) s2
      refine ⟨.int (nI T), nI 0, ds_rowI z2 0 (upd (z2.1 0) 10 (nI 0)), ?_, dk_qC_row _ (dk_fr_trans (dk_fr_mono s3 (by decide) (by decide)) q2), fun z0 hM0 => ?_⟩
      · rw [c_Sea_cycle, b_Sea_cycle_0]
        simp (disch := first | assumption | omega) only [ds_cI, ds_cV, ds_cL, ds_cR, ds_nn, ds_isK_t, ds_isA_t, ds_chk_t, ds_chkN, ds_nz_t, ds_nzN, ds_isB_t, ds_isB_bo, ↓dl_m1, ↓dl_m2, dl_0, dl_1, dl_2, dl_3, dl_4, dl_5, dl_6, dl_7, dl_8, dl_9, dl_10, dl_11, dl_12, dl_13, dl_14, dl_15, dl_16, dl_20, dl_24, dl_31, dl_50, dl_57, dl_67, dl_68, dl_74, dl_75, dl_79, dl_80, dl_99, dl_100, dl_200, dl_210, dl_224, dl_255, dl_289, dl_900, dl_1000, dl_1728, dl_65536, dl_65537, nI_add, pk_mul, pk_sub, pk_div, pk_rem, ds_rem2, nI_clamp, nI_leI, nI_ltI, nI_eq, ds_m1_eq, ds_eq_m1, ds_m2_eq, ds_eq_m2, ds_m1_le, ds_le_m1, ds_m1_lt, ds_lt_m1, ds_in_N, ds_bo0, ds_bo1, if_pos, if_neg, Nat.not_le, Nat.not_lt, not_true_eq_false, not_false_eq_true, if_true, if_false, ne_eq, Option.some.injEq, Prod.mk.injEq, Value.int.injEq, true_and, and_true, and_self, ite_self, Bool.not_eq_true, Bool.not_eq_false, Bool.true_eq_false, Bool.false_eq_true, reduceCtorEq, Nat.zero_add, Nat.reduceAdd, Nat.reduceMul, Nat.reduceSub, ds_setI_row, ds_setL_row, ds_rowI_self, ds_rowI_ne, ds_rowI_2, ds_rowI_rowI, ds_setS_1, ds_setS_21, ds_setS_self, ds_setS_ne, pk_us, pk_un, g2, hr, c1, s1, q1]
      · have hMg := dk_zg_HM hM0
        have a2 := m2 _ hMg
        obtain ⟨y1, p1, p2, p3, p4⟩ := s_lay101 (d + 17) (K 12) true (dk_zg z0) D K hMg hD hK
        have f2 : dk_fm (dk_zg z0) (ds_rowI y1 101 (upd (y1.1 101) 12 (nI (K 12)))) := dk_fm_row _ p3 (by decide)
        have e95 : y1.1 95 12 = nI (K 12) := by rw [p3.1 95 (by decide) (by decide)]; exact (dk_HM_dm hMg hK).2.1
        obtain ⟨y2, w1, w2⟩ := s_sameM (d + 16) a T (K 12) D n12 (by omega) t1 t2 t3 t4 (T - 1) 0 _ (by omega) p4
        refine ⟨y2, ?_, dk_qM_ok (dk_fm_trans f2 w2)⟩
        have sm : ds_call (d + 19) j_Mod_same [.ref 90, .int (nI a), .int (nI 0)] (dk_zg z0) = some (some (.int (nI T)), y2) := by
          rw [c_Mod_same, b_Mod_same_0]
          simp (disch := first | assumption | omega) only [ds_cI, ds_cV, ds_cL, ds_cR, ds_nn, ds_isK_t, ds_isA_t, ds_chk_t, ds_chkN, ds_nz_t, ds_nzN, ds_isB_t, ds_isB_bo, ↓dl_m1, ↓dl_m2, dl_0, dl_1, dl_2, dl_3, dl_4, dl_5, dl_6, dl_7, dl_8, dl_9, dl_10, dl_11, dl_12, dl_13, dl_14, dl_15, dl_16, dl_20, dl_24, dl_31, dl_50, dl_57, dl_67, dl_68, dl_74, dl_75, dl_79, dl_80, dl_99, dl_100, dl_200, dl_210, dl_224, dl_255, dl_289, dl_900, dl_1000, dl_1728, dl_65536, dl_65537, nI_add, pk_mul, pk_sub, pk_div, pk_rem, ds_rem2, nI_clamp, nI_leI, nI_ltI, nI_eq, ds_m1_eq, ds_eq_m1, ds_m2_eq, ds_eq_m2, ds_m1_le, ds_le_m1, ds_m1_lt, ds_lt_m1, ds_in_N, ds_bo0, ds_bo1, if_pos, if_neg, Nat.not_le, Nat.not_lt, not_true_eq_false, not_false_eq_true, if_true, if_false, ne_eq, Option.some.injEq, Prod.mk.injEq, Value.int.injEq, true_and, and_true, and_self, ite_self, Bool.not_eq_true, Bool.not_eq_false, Bool.true_eq_false, Bool.false_eq_true, reduceCtorEq, Nat.zero_add, Nat.reduceAdd, Nat.reduceMul, Nat.reduceSub, ds_setI_row, ds_setL_row, ds_rowI_self, ds_rowI_ne, ds_rowI_2, ds_rowI_rowI, ds_setS_1, ds_setS_21, ds_setS_self, ds_setS_ne, pk_us, pk_un, p1, e95, w1]
        rw [c_Mod_cycle, b_Mod_cycle_0]
        simp (disch := first | assumption | omega) only [ds_cI, ds_cV, ds_cL, ds_cR, ds_nn, ds_isK_t, ds_isA_t, ds_chk_t, ds_chkN, ds_nz_t, ds_nzN, ds_isB_t, ds_isB_bo, ↓dl_m1, ↓dl_m2, dl_0, dl_1, dl_2, dl_3, dl_4, dl_5, dl_6, dl_7, dl_8, dl_9, dl_10, dl_11, dl_12, dl_13, dl_14, dl_15, dl_16, dl_20, dl_24, dl_31, dl_50, dl_57, dl_67, dl_68, dl_74, dl_75, dl_79, dl_80, dl_99, dl_100, dl_200, dl_210, dl_224, dl_255, dl_289, dl_900, dl_1000, dl_1728, dl_65536, dl_65537, nI_add, pk_mul, pk_sub, pk_div, pk_rem, ds_rem2, nI_clamp, nI_leI, nI_ltI, nI_eq, ds_m1_eq, ds_eq_m1, ds_m2_eq, ds_eq_m2, ds_m1_le, ds_le_m1, ds_m1_lt, ds_lt_m1, ds_in_N, ds_bo0, ds_bo1, if_pos, if_neg, Nat.not_le, Nat.not_lt, not_true_eq_false, not_false_eq_true, if_true, if_false, ne_eq, Option.some.injEq, Prod.mk.injEq, Value.int.injEq, true_and, and_true, and_self, ite_self, Bool.not_eq_true, Bool.not_eq_false, Bool.true_eq_false, Bool.false_eq_true, reduceCtorEq, Nat.zero_add, Nat.reduceAdd, Nat.reduceMul, Nat.reduceSub, ds_setI_row, ds_setL_row, ds_rowI_self, ds_rowI_ne, ds_rowI_2, ds_rowI_rowI, ds_setS_1, ds_setS_21, ds_setS_self, ds_setS_ne, pk_us, pk_un, s_good, a2, hr, sm]
    · rw [hc0] at ha
      exact absurd ha (by unfold dk_mo; simp)
  · refine ⟨.int ds_m1, nI 1, ds_rowI z 0 (upd (z.1 0) 10 (nI 1)), ?_, dk_qC_no z _, fun z0 hM0 => ⟨ds_rowI (dk_zg z0) 90 (upd ((dk_zg z0).1 90) 11 (nI 1)), ?_, dk_qM_no z0 _⟩⟩
    · rw [c_Sea_cycle, b_Sea_cycle_0]
      simp (disch := first | assumption | omega | rfl | decide) only [ds_cI, ds_cV, ds_cL, ds_cR, ds_nn, ds_isK_t, ds_isA_t, ds_chk_t, ds_chkN, ds_nz_t, ds_nzN, ds_isB_t, ds_isB_bo, ↓dl_m1, ↓dl_m2, dl_0, dl_1, dl_2, dl_3, dl_4, dl_5, dl_6, dl_7, dl_8, dl_9, dl_10, dl_11, dl_12, dl_13, dl_14, dl_15, dl_16, dl_20, dl_24, dl_31, dl_50, dl_57, dl_67, dl_68, dl_74, dl_75, dl_79, dl_80, dl_99, dl_100, dl_200, dl_210, dl_224, dl_255, dl_289, dl_900, dl_1000, dl_1728, dl_65536, dl_65537, nI_add, pk_mul, pk_sub, pk_div, pk_rem, ds_rem2, nI_clamp, nI_leI, nI_ltI, nI_eq, ds_m1_eq, ds_eq_m1, ds_m2_eq, ds_eq_m2, ds_m1_le, ds_le_m1, ds_m1_lt, ds_lt_m1, ds_in_N, ds_bo0, ds_bo1, if_pos, if_neg, Nat.not_le, Nat.not_lt, not_true_eq_false, not_false_eq_true, if_true, if_false, ne_eq, Option.some.injEq, Prod.mk.injEq, Value.int.injEq, true_and, and_true, and_self, ite_self, Bool.not_eq_true, Bool.not_eq_false, Bool.true_eq_false, Bool.false_eq_true, reduceCtorEq, Nat.zero_add, Nat.reduceAdd, Nat.reduceMul, Nat.reduceSub, ds_setI_row, ds_setL_row, ds_rowI_self, ds_rowI_ne, ds_rowI_2, ds_rowI_rowI, ds_setS_1, ds_setS_21, ds_setS_self, ds_setS_ne, pk_us, pk_un, s_refuse, g2, hr]
    · have hMg := dk_zg_HM hM0
      have hsg := hMg.2.1
      rw [c_Mod_cycle, b_Mod_cycle_0]
      simp (disch := first | assumption | omega | rfl | decide) only [ds_cI, ds_cV, ds_cL, ds_cR, ds_nn, ds_isK_t, ds_isA_t, ds_chk_t, ds_chkN, ds_nz_t, ds_nzN, ds_isB_t, ds_isB_bo, ↓dl_m1, ↓dl_m2, dl_0, dl_1, dl_2, dl_3, dl_4, dl_5, dl_6, dl_7, dl_8, dl_9, dl_10, dl_11, dl_12, dl_13, dl_14, dl_15, dl_16, dl_20, dl_24, dl_31, dl_50, dl_57, dl_67, dl_68, dl_74, dl_75, dl_79, dl_80, dl_99, dl_100, dl_200, dl_210, dl_224, dl_255, dl_289, dl_900, dl_1000, dl_1728, dl_65536, dl_65537, nI_add, pk_mul, pk_sub, pk_div, pk_rem, ds_rem2, nI_clamp, nI_leI, nI_ltI, nI_eq, ds_m1_eq, ds_eq_m1, ds_m2_eq, ds_eq_m2, ds_m1_le, ds_le_m1, ds_m1_lt, ds_lt_m1, ds_in_N, ds_bo0, ds_bo1, if_pos, if_neg, Nat.not_le, Nat.not_lt, not_true_eq_false, not_false_eq_true, if_true, if_false, ne_eq, Option.some.injEq, Prod.mk.injEq, Value.int.injEq, true_and, and_true, and_self, ite_self, Bool.not_eq_true, Bool.not_eq_false, Bool.true_eq_false, Bool.false_eq_true, reduceCtorEq, Nat.zero_add, Nat.reduceAdd, Nat.reduceMul, Nat.reduceSub, ds_setI_row, ds_setL_row, ds_rowI_self, ds_rowI_ne, ds_rowI_2, ds_rowI_rowI, ds_setS_1, ds_setS_21, ds_setS_self, ds_setS_ne, pk_us, pk_un, s_good, s_no, hsg, m2 _ hMg, hr]
theorem k_again (d : Nat) (z : ds_St) (h : dk_Inv z) : ∃ v z1 z2, ds_call (d + 20) j_Sea_again [.ref 0] z = some (some v, z1) ∧ ds_call (d + 20) j_Mod_again [.ref 90] z1 = some (some v, z2) ∧ dk_Inv z2 := by
  apply dk_both h
  intro t D K hC hM hz
  have hs := s_hasSea (d + 18) t z D K hC hz
  rcases hz with ⟨hD, hK⟩ | ⟨h0, hc0, hp0⟩
  · have hn : 0 < D 0 4 := by have := hD.2.2.2.2.1.1; omega
    have n12 := hD.2.2.2.2.1.2
    obtain ⟨ti, tf⟩ := dk_tau_ok (D := D) (n := D 0 4) (by omega) (D 0 5) (fun j hj => hD.2.2.2.2.2.2.2.2.2.1 j hj)
    obtain ⟨T, t1, t2, t3, t4⟩ := dk_first (F := fun C => dk_add D C (D 0 4) (D 0 5)) ti n12 tf
    have r0 := hC.1
    have hKt := ds_Kt hC.2.1.1
    have t4' := hC.2.1.2.1.2.2.2.2.1
    obtain ⟨z1, s1, s2, s3⟩ := s_order (d + 18) (D 0 4) (D 0 4) z (Nat.le_refl _) n12
    have f1 := dk_fr_mono (a' := 64) (b' := 80) s3 (by decide) (by decide)
    obtain ⟨z2, q1, q2⟩ := s_againC (d + 15) t T D K hD t1 t2 t3 t4 (T - 1) 0 z1 (by omega) (dk_HC_fr hC f1) s2
    refine ⟨.int (nI T), nI 0, ds_rowI z2 0 (upd (z2.1 0) 10 (nI 0)), ?_, dk_qC_row _ (dk_fr_trans f1 q2), fun z0 hM0 => ?_⟩
    · rw [c_Sea_again, b_Sea_again_0]
      simp (disch := first | assumption | omega) only [ds_cI, ds_cV, ds_cL, ds_cR, ds_nn, ds_isK_t, ds_isA_t, ds_chk_t, ds_chkN, ds_nz_t, ds_nzN, ds_isB_t, ds_isB_bo, ↓dl_m1, ↓dl_m2, dl_0, dl_1, dl_2, dl_3, dl_4, dl_5, dl_6, dl_7, dl_8, dl_9, dl_10, dl_11, dl_12, dl_13, dl_14, dl_15, dl_16, dl_20, dl_24, dl_31, dl_50, dl_57, dl_67, dl_68, dl_74, dl_75, dl_79, dl_80, dl_99, dl_100, dl_200, dl_210, dl_224, dl_255, dl_289, dl_900, dl_1000, dl_1728, dl_65536, dl_65537, nI_add, pk_mul, pk_sub, pk_div, pk_rem, ds_rem2, nI_clamp, nI_leI, nI_ltI, nI_eq, ds_m1_eq, ds_eq_m1, ds_m2_eq, ds_eq_m2, ds_m1_le, ds_le_m1, ds_m1_lt, ds_lt_m1, ds_in_N, ds_bo0, ds_bo1, if_pos, if_neg, Nat.not_le, Nat.not_lt, not_true_eq_false, not_false_eq_true, if_true, if_false, ne_eq, Option.some.injEq, Prod.mk.injEq, Value.int.injEq, true_and, and_true, and_self, ite_self, Bool.not_eq_true, Bool.not_eq_false, Bool.true_eq_false, Bool.false_eq_true, reduceCtorEq, Nat.zero_add, Nat.reduceAdd, Nat.reduceMul, Nat.reduceSub, ds_setI_row, ds_setL_row, ds_rowI_self, ds_rowI_ne, ds_rowI_2, ds_rowI_rowI, ds_setS_1, ds_setS_21, ds_setS_self, ds_setS_ne, pk_us, pk_un, hs, hn, decide_true, r0, t4', s1, q1]
    · have hMg := dk_zg_HM hM0
      have hsg := hMg.2.1
      obtain ⟨y1, p1, p2, p3, p4⟩ := s_lay101 (d + 17) (K 12) true (dk_zg z0) D K hMg hD hK
      obtain ⟨y2, w1, w2⟩ := s_sameP (d + 16) T D K hD t1 t2 t3 t4 (T - 1) 0 y1 (by omega) (dk_HM_fm hMg p3) p2
      refine ⟨y2, ?_, dk_qM_ok (dk_fm_trans p3 w2)⟩
      have sm : ds_call (d + 19) j_Mod_same [.ref 90, .int (nI 0), .int (nI 1)] (dk_zg z0) = some (some (.int (nI T)), y2) := by
        rw [c_Mod_same, b_Mod_same_0]
        simp (disch := first | assumption | omega) only [ds_cI, ds_cV, ds_cL, ds_cR, ds_nn, ds_isK_t, ds_isA_t, ds_chk_t, ds_chkN, ds_nz_t, ds_nzN, ds_isB_t, ds_isB_bo, ↓dl_m1, ↓dl_m2, dl_0, dl_1, dl_2, dl_3, dl_4, dl_5, dl_6, dl_7, dl_8, dl_9, dl_10, dl_11, dl_12, dl_13, dl_14, dl_15, dl_16, dl_20, dl_24, dl_31, dl_50, dl_57, dl_67, dl_68, dl_74, dl_75, dl_79, dl_80, dl_99, dl_100, dl_200, dl_210, dl_224, dl_255, dl_289, dl_900, dl_1000, dl_1728, dl_65536, dl_65537, nI_add, pk_mul, pk_sub, pk_div, pk_rem, ds_rem2, nI_clamp, nI_leI, nI_ltI, nI_eq, ds_m1_eq, ds_eq_m1, ds_m2_eq, ds_eq_m2, ds_m1_le, ds_le_m1, ds_m1_lt, ds_lt_m1, ds_in_N, ds_bo0, ds_bo1, if_pos, if_neg, Nat.not_le, Nat.not_lt, not_true_eq_false, not_false_eq_true, if_true, if_false, ne_eq, Option.some.injEq, Prod.mk.injEq, Value.int.injEq, true_and, and_true, and_self, ite_self, Bool.not_eq_true, Bool.not_eq_false, Bool.true_eq_false, Bool.false_eq_true, reduceCtorEq, Nat.zero_add, Nat.reduceAdd, Nat.reduceMul, Nat.reduceSub, ds_setI_row, ds_setL_row, ds_rowI_self, ds_rowI_ne, ds_rowI_2, ds_rowI_rowI, ds_setS_1, ds_setS_21, ds_setS_self, ds_setS_ne, pk_us, pk_un, p1, w1]
      rw [c_Mod_again, b_Mod_again_0]
      simp (disch := first | assumption | omega) only [ds_cI, ds_cV, ds_cL, ds_cR, ds_nn, ds_isK_t, ds_isA_t, ds_chk_t, ds_chkN, ds_nz_t, ds_nzN, ds_isB_t, ds_isB_bo, ↓dl_m1, ↓dl_m2, dl_0, dl_1, dl_2, dl_3, dl_4, dl_5, dl_6, dl_7, dl_8, dl_9, dl_10, dl_11, dl_12, dl_13, dl_14, dl_15, dl_16, dl_20, dl_24, dl_31, dl_50, dl_57, dl_67, dl_68, dl_74, dl_75, dl_79, dl_80, dl_99, dl_100, dl_200, dl_210, dl_224, dl_255, dl_289, dl_900, dl_1000, dl_1728, dl_65536, dl_65537, nI_add, pk_mul, pk_sub, pk_div, pk_rem, ds_rem2, nI_clamp, nI_leI, nI_ltI, nI_eq, ds_m1_eq, ds_eq_m1, ds_m2_eq, ds_eq_m2, ds_m1_le, ds_le_m1, ds_m1_lt, ds_lt_m1, ds_in_N, ds_bo0, ds_bo1, if_pos, if_neg, Nat.not_le, Nat.not_lt, not_true_eq_false, not_false_eq_true, if_true, if_false, ne_eq, Option.some.injEq, Prod.mk.injEq, Value.int.injEq, true_and, and_true, and_self, ite_self, Bool.not_eq_true, Bool.not_eq_false, Bool.true_eq_false, Bool.false_eq_true, reduceCtorEq, Nat.zero_add, Nat.reduceAdd, Nat.reduceMul, Nat.reduceSub, ds_setI_row, ds_setL_row, ds_rowI_self, ds_rowI_ne, ds_rowI_2, ds_rowI_rowI, ds_setS_1, ds_setS_21, ds_setS_self, ds_setS_ne, pk_us, pk_un, s_good, hsg, hn, decide_true, sm]
  · have h4 := h0 4 (by decide)
    refine ⟨.int ds_m1, nI 1, ds_rowI z 0 (upd (z.1 0) 10 (nI 1)), ?_, dk_qC_no z _, fun z0 hM0 => ⟨ds_rowI (dk_zg z0) 90 (upd ((dk_zg z0).1 90) 11 (nI 1)), ?_, dk_qM_no z0 _⟩⟩
    · rw [c_Sea_again, b_Sea_again_0]
      simp (disch := first | assumption | omega | rfl | decide) only [ds_cI, ds_cV, ds_cL, ds_cR, ds_nn, ds_isK_t, ds_isA_t, ds_chk_t, ds_chkN, ds_nz_t, ds_nzN, ds_isB_t, ds_isB_bo, ↓dl_m1, ↓dl_m2, dl_0, dl_1, dl_2, dl_3, dl_4, dl_5, dl_6, dl_7, dl_8, dl_9, dl_10, dl_11, dl_12, dl_13, dl_14, dl_15, dl_16, dl_20, dl_24, dl_31, dl_50, dl_57, dl_67, dl_68, dl_74, dl_75, dl_79, dl_80, dl_99, dl_100, dl_200, dl_210, dl_224, dl_255, dl_289, dl_900, dl_1000, dl_1728, dl_65536, dl_65537, nI_add, pk_mul, pk_sub, pk_div, pk_rem, ds_rem2, nI_clamp, nI_leI, nI_ltI, nI_eq, ds_m1_eq, ds_eq_m1, ds_m2_eq, ds_eq_m2, ds_m1_le, ds_le_m1, ds_m1_lt, ds_lt_m1, ds_in_N, ds_bo0, ds_bo1, if_pos, if_neg, Nat.not_le, Nat.not_lt, not_true_eq_false, not_false_eq_true, if_true, if_false, ne_eq, Option.some.injEq, Prod.mk.injEq, Value.int.injEq, true_and, and_true, and_self, ite_self, Bool.not_eq_true, Bool.not_eq_false, Bool.true_eq_false, Bool.false_eq_true, reduceCtorEq, Nat.zero_add, Nat.reduceAdd, Nat.reduceMul, Nat.reduceSub, ds_setI_row, ds_setL_row, ds_rowI_self, ds_rowI_ne, ds_rowI_2, ds_rowI_rowI, ds_setS_1, ds_setS_21, ds_setS_self, ds_setS_ne, pk_us, pk_un, s_refuse, hs, h4, Nat.lt_irrefl, decide_false]
    · have hMg := dk_zg_HM hM0
      have hsg := hMg.2.1
      rw [c_Mod_again, b_Mod_again_0]
      simp (disch := first | assumption | omega | rfl | decide) only [ds_cI, ds_cV, ds_cL, ds_cR, ds_nn, ds_isK_t, ds_isA_t, ds_chk_t, ds_chkN, ds_nz_t, ds_nzN, ds_isB_t, ds_isB_bo, ↓dl_m1, ↓dl_m2, dl_0, dl_1, dl_2, dl_3, dl_4, dl_5, dl_6, dl_7, dl_8, dl_9, dl_10, dl_11, dl_12, dl_13, dl_14, dl_15, dl_16, dl_20, dl_24, dl_31, dl_50, dl_57, dl_67, dl_68, dl_74, dl_75, dl_79, dl_80, dl_99, dl_100, dl_200, dl_210, dl_224, dl_255, dl_289, dl_900, dl_1000, dl_1728, dl_65536, dl_65537, nI_add, pk_mul, pk_sub, pk_div, pk_rem, ds_rem2, nI_clamp, nI_leI, nI_ltI, nI_eq, ds_m1_eq, ds_eq_m1, ds_m2_eq, ds_eq_m2, ds_m1_le, ds_le_m1, ds_m1_lt, ds_lt_m1, ds_in_N, ds_bo0, ds_bo1, if_pos, if_neg, Nat.not_le, Nat.not_lt, not_true_eq_false, not_false_eq_true, if_true, if_false, ne_eq, Option.some.injEq, Prod.mk.injEq, Value.int.injEq, true_and, and_true, and_self, ite_self, Bool.not_eq_true, Bool.not_eq_false, Bool.true_eq_false, Bool.false_eq_true, reduceCtorEq, Nat.zero_add, Nat.reduceAdd, Nat.reduceMul, Nat.reduceSub, ds_setI_row, ds_setL_row, ds_rowI_self, ds_rowI_ne, ds_rowI_2, ds_rowI_rowI, ds_setS_1, ds_setS_21, ds_setS_self, ds_setS_ne, pk_us, pk_un, s_good, s_no, hsg, h4, Nat.lt_irrefl, decide_false]
