theorem s_mbestMove0 (d : Nat) (z : ds_St) (D : Nat → Nat → Nat) (K : Nat → Nat) (T : Nat → Nat) (hT : ∀ a z, a < 14 → dk_HM z D K → ∃ z', ds_call (d + 6) j_Mod_tradesBy [.ref 90, .int (nI a), .int ds_m1] z = some (some (.int (nI (T a))), z') ∧ dk_fm z z') (hb : ∀ a, T a < 2 ^ 30) (hM : dk_HM z D K) (hD : dk_ok D) (hK : dk_okK D K) : ∃ z', ds_call (d + 7) j_Mod_bestMove [.ref 90] z = some (some (.int (nI (dk_arg T (K 12 + 2)))), z') ∧ dk_fm z z' := by
  obtain ⟨k2, k12, km, ki⟩ := dk_mo_K hD hK
  have n12 := hD.2.2.2.2.1.2
  have go : ∀ m k z, 1 ≤ k → k + m = K 12 + 2 → dk_HM z D K → ∃ z', ds_Rw ds_c_Mod_bestMove ds_u_Mod_bestMove (ds_call (d + 6)) 4 [some (.ref 90), some (.int (nI (dk_arg T k))), some (.int (nI k))] [] z = some (some (.int (nI (dk_arg T (K 12 + 2)))), z') ∧ dk_fm z z' := by
    intro m
    induction m with
    | zero =>
      intro k z h1 hk hM
      have : k = K 12 + 2 := by omega
      subst this
      have mv := s_mmovesOf (d + 5) (K 12) 95 z rfl rfl (dk_HM_dm hM hK).2.1
      refine ⟨z, ?_, dk_fm_refl _⟩
      rw [b_Mod_bestMove_4]
      simp (disch := first | assumption | omega) only [ds_cI, ds_cV, ds_cL, ds_cR, ds_nn, ds_isK_t, ds_isA_t, ds_chk_t, ds_chkN, ds_nz_t, ds_nzN, ds_isB_t, ds_isB_bo, ↓dl_m1, ↓dl_m2, dl_0, dl_1, dl_2, dl_3, dl_4, dl_5, dl_6, dl_7, dl_8, dl_9, dl_10, dl_11, dl_12, dl_13, dl_14, dl_15, dl_16, dl_20, dl_24, dl_31, dl_50, dl_57, dl_67, dl_68, dl_74, dl_75, dl_79, dl_80, dl_99, dl_100, dl_200, dl_210, dl_224, dl_255, dl_289, dl_900, dl_1000, dl_1728, dl_65536, dl_65537, nI_add, pk_mul, pk_sub, pk_div, pk_rem, ds_rem2, nI_clamp, nI_leI, nI_ltI, nI_eq, ds_m1_eq, ds_eq_m1, ds_m2_eq, ds_eq_m2, ds_m1_le, ds_le_m1, ds_m1_lt, ds_lt_m1, ds_in_N, ds_bo0, ds_bo1, if_pos, if_neg, Nat.not_le, Nat.not_lt, not_true_eq_false, not_false_eq_true, if_true, if_false, ne_eq, Option.some.injEq, Prod.mk.injEq, Value.int.injEq, true_and, and_true, and_self, ite_self, Bool.not_eq_true, Bool.not_eq_false, Bool.true_eq_false, Bool.false_eq_true, reduceCtorEq, Nat.zero_add, Nat.reduceAdd, Nat.reduceMul, Nat.reduceSub, ds_setI_row, ds_setL_row, ds_rowI_self, ds_rowI_ne, ds_rowI_2, ds_rowI_rowI, ds_setS_1, ds_setS_21, ds_setS_self, ds_setS_ne, pk_us, pk_un, mv]
    | succ m ih =>
      intro k z h1 hk hM
      have mv := s_mmovesOf (d + 5) (K 12) 95 z rfl rfl (dk_HM_dm hM hK).2.1
      have hl := dk_arg_lt T k (by omega)
      obtain ⟨z1, s1, s2⟩ := hT k z (by omega) hM
      obtain ⟨z2, s3, s4⟩ := hT (dk_arg T k) z1 (by omega) (dk_HM_fm hM s2)
      have f2 := dk_fm_trans s2 s4
      obtain ⟨z3, q1, q2⟩ := ih (k + 1) z2 (by omega) (by omega) (dk_HM_fm hM f2)
      refine ⟨z3, ?_, dk_fm_trans f2 q2⟩
      have b1 : T k < 2 ^ 30 := hb _
      have b2 : T (dk_arg T k) < 2 ^ 30 := hb _
      rw [← q1]
      rw [b_Mod_bestMove_4]
      simp only [dk_arg]
      by_cases h1 : T (dk_arg T k) < T k
      · simp (disch := first | assumption | omega) only [ds_cI, ds_cV, ds_cL, ds_cR, ds_nn, ds_isK_t, ds_isA_t, ds_chk_t, ds_chkN, ds_nz_t, ds_nzN, ds_isB_t, ds_isB_bo, ↓dl_m1, ↓dl_m2, dl_0, dl_1, dl_2, dl_3, dl_4, dl_5, dl_6, dl_7, dl_8, dl_9, dl_10, dl_11, dl_12, dl_13, dl_14, dl_15, dl_16, dl_20, dl_24, dl_31, dl_50, dl_57, dl_67, dl_68, dl_74, dl_75, dl_79, dl_80, dl_99, dl_100, dl_200, dl_210, dl_224, dl_255, dl_289, dl_900, dl_1000, dl_1728, dl_65536, dl_65537, nI_add, pk_mul, pk_sub, pk_div, pk_rem, ds_rem2, nI_clamp, nI_leI, nI_ltI, nI_eq, ds_m1_eq, ds_eq_m1, ds_m2_eq, ds_eq_m2, ds_m1_le, ds_le_m1, ds_m1_lt, ds_lt_m1, ds_in_N, ds_bo0, ds_bo1, if_pos, if_neg, Nat.not_le, Nat.not_lt, not_true_eq_false, not_false_eq_true, if_true, if_false, ne_eq, Option.some.injEq, Prod.mk.injEq, Value.int.injEq, true_and, and_true, and_self, ite_self, Bool.not_eq_true, Bool.not_eq_false, Bool.true_eq_false, Bool.false_eq_true, reduceCtorEq, Nat.zero_add, Nat.reduceAdd, Nat.reduceMul, Nat.reduceSub, ds_setI_row, ds_setL_row, ds_rowI_self, ds_rowI_ne, ds_rowI_2, ds_rowI_rowI, ds_setS_1, ds_setS_21, ds_setS_self, ds_setS_ne, pk_us, pk_un, mv, s1, s3, h1]
      · simp (disch := first | assumption | omega) only [ds_cI, ds_cV, ds_cL, ds_cR, ds_nn, ds_isK_t, ds_isA_t, ds_chk_t, ds_chkN, ds_nz_t, ds_nzN, ds_isB_t, ds_isB_bo, ↓dl_m1, ↓dl_m2, dl_0, dl_1, dl_2, dl_3, dl_4, dl_5, dl_6, dl_7, dl_8, dl_9, dl_10, dl_11, dl_12, dl_13, dl_14, dl_15, dl_16, dl_20, dl_24, dl_31, dl_50, dl_57, dl_67, dl_68, dl_74, dl_75, dl_79, dl_80, dl_99, dl_100, dl_200, dl_210, dl_224, dl_255, dl_289, dl_900, dl_1000, dl_1728, dl_65536, dl_65537, nI_add, pk_mul, pk_sub, pk_div, pk_rem, ds_rem2, nI_clamp, nI_leI, nI_ltI, nI_eq, ds_m1_eq, ds_eq_m1, ds_m2_eq, ds_eq_m2, ds_m1_le, ds_le_m1, ds_m1_lt, ds_lt_m1, ds_in_N, ds_bo0, ds_bo1, if_pos, if_neg, Nat.not_le, Nat.not_lt, not_true_eq_false, not_false_eq_true, if_true, if_false, ne_eq, Option.some.injEq, Prod.mk.injEq, Value.int.injEq, true_and, and_true, and_self, ite_self, Bool.not_eq_true, Bool.not_eq_false, Bool.true_eq_false, Bool.false_eq_true, reduceCtorEq, Nat.zero_add, Nat.reduceAdd, Nat.reduceMul, Nat.reduceSub, ds_setI_row, ds_setL_row, ds_rowI_self, ds_rowI_ne, ds_rowI_2, ds_rowI_rowI, ds_setS_1, ds_setS_21, ds_setS_self, ds_setS_ne, pk_us, pk_un, mv, s1, s3, h1]
  obtain ⟨z', q1, q2⟩ := go (K 12 + 1) 1 z (by omega) (by omega) hM
  refine ⟨z', ?_, q2⟩
  rw [show dk_arg T 1 = 0 from by simp [dk_arg]] at q1
  rw [c_Mod_bestMove, b_Mod_bestMove_0]
  simp (disch := first | assumption | omega) only [ds_cI, ds_cV, ds_cL, ds_cR, ds_nn, ds_isK_t, ds_isA_t, ds_chk_t, ds_chkN, ds_nz_t, ds_nzN, ds_isB_t, ds_isB_bo, ↓dl_m1, ↓dl_m2, dl_0, dl_1, dl_2, dl_3, dl_4, dl_5, dl_6, dl_7, dl_8, dl_9, dl_10, dl_11, dl_12, dl_13, dl_14, dl_15, dl_16, dl_20, dl_24, dl_31, dl_50, dl_57, dl_67, dl_68, dl_74, dl_75, dl_79, dl_80, dl_99, dl_100, dl_200, dl_210, dl_224, dl_255, dl_289, dl_900, dl_1000, dl_1728, dl_65536, dl_65537, nI_add, pk_mul, pk_sub, pk_div, pk_rem, ds_rem2, nI_clamp, nI_leI, nI_ltI, nI_eq, ds_m1_eq, ds_eq_m1, ds_m2_eq, ds_eq_m2, ds_m1_le, ds_le_m1, ds_m1_lt, ds_lt_m1, ds_in_N, ds_bo0, ds_bo1, if_pos, if_neg, Nat.not_le, Nat.not_lt, not_true_eq_false, not_false_eq_true, if_true, if_false, ne_eq, Option.some.injEq, Prod.mk.injEq, Value.int.injEq, true_and, and_true, and_self, ite_self, Bool.not_eq_true, Bool.not_eq_false, Bool.true_eq_false, Bool.false_eq_true, reduceCtorEq, Nat.zero_add, Nat.reduceAdd, Nat.reduceMul, Nat.reduceSub, ds_setI_row, ds_setL_row, ds_rowI_self, ds_rowI_ne, ds_rowI_2, ds_rowI_rowI, ds_setS_1, ds_setS_21, ds_setS_self, ds_setS_ne, pk_us, pk_un, q1]
theorem s_mbestMove (d : Nat) (z : ds_St) (D : Nat → Nat → Nat) (K : Nat → Nat) (hM : dk_HM z D K) (hD : dk_ok D) (hK : dk_okK D K) : ∃ z', ds_call (d + 7) j_Mod_bestMove [.ref 90] z = some (some (.int (nI (dk_arg (dk_T1 D K) (K 12 + 2)))), z') ∧ dk_fm z z' := s_mbestMove0 d z D K (dk_T1 D K) (fun a z ha hM => s_mtradesBy1 d a z D K hM hD hK ha) (fun a => dk_trm_lt hD.2.2.2.2.1.2) hM hD hK
