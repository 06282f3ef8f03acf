/-- the most so far and its pair, a row of b pairs with a ahead -/
def dk_st (v : Int32) (w : Int32) (s : Int32 × Int32) : Int32 × Int32 := if v ≤ s.1 then s else (v, w)
def dk_b2 (T : Nat → Nat → Nat) (a b0 : Nat) (s : Int32 × Int32) : Nat → Int32 × Int32
  | 0 => s
  | m + 1 => dk_st (nI (T a (b0 + m))) (nI (100 * a + (b0 + m))) (dk_b2 T a b0 s m)
def dk_b1 (T : Nat → Nat → Nat) (n : Nat) : Nat → Int32 × Int32
  | 0 => (ds_m1, nI 0)
  | m + 1 => dk_b2 T m 0 (dk_b1 T n m) n
theorem dk_nle {x y : Int32} : ¬ x ≤ y ↔ y < x := by
  rw [Int32.le_iff_toInt_le, Int32.lt_iff_toInt_lt]
  omega
theorem s_bestTwoC (d t : Nat) (z : ds_St) (D : Nat → Nat → Nat) (K : Nat → Nat) (hC : dk_HC z t D K) (hD : dk_ok D) (hK : dk_okK D K) : ∃ z', ds_Rw ds_c_Sea_bestTwo ds_u_Sea_bestTwo (ds_call (d + 6)) 19 [some (.ref 0), some (.int ds_m1), some (.int (nI 0)), some (.int (nI 0)), none, none] [] z = some (some (.int (dk_b1 (dk_T2 D K) (K 12 + 2) (K 12 + 2)).2), ds_rowI z' 0 (upd (z'.1 0) 10 (nI 0))) ∧ dk_fr 64 80 z z' := by
  obtain ⟨k2, k12, km, ki⟩ := dk_mo_K hD hK
  have inner : ∀ m b a s z, b + m = K 12 + 2 → a < K 12 + 2 → dk_HC z t D K → ∃ z', ds_Rw ds_c_Sea_bestTwo ds_u_Sea_bestTwo (ds_call (d + 6)) 36 [some (.ref 0), some (.int ((dk_b2 (dk_T2 D K) a 0 s b).1)), some (.int ((dk_b2 (dk_T2 D K) a 0 s b).2)), some (.int (nI a)), some (.int (nI b)), none] [] z = ds_Rw ds_c_Sea_bestTwo ds_u_Sea_bestTwo (ds_call (d + 6)) 19 [some (.ref 0), some (.int ((dk_b2 (dk_T2 D K) a 0 s (K 12 + 2)).1)), some (.int ((dk_b2 (dk_T2 D K) a 0 s (K 12 + 2)).2)), some (.int (nI ((a + 1)))), none, none] [] z' ∧ dk_fr 64 80 z z' := by
    intro m
    induction m with
    | zero =>
      intro b a s z hb ha hC
      have : b = K 12 + 2 := by omega
      subst this
      have c1 := hC.2.2.1
      have mv := s_movesOf (d + 5) (K 12) z (by omega)
      rw [ki] at mv
      refine ⟨z, ?_, dk_fr_refl _ _ _⟩
      rw [b_Sea_bestTwo_36]
      simp (disch := first | assumption | omega) only [ds_cI, ds_cV, ds_cL, ds_cR, ds_nn, ds_isK_t, ds_isA_t, ds_chk_t, ds_chkN, ds_nz_t, ds_nzN, ds_isB_t, ds_isB_bo, ↓dl_m1, ↓dl_m2, dl_0, dl_1, dl_2, dl_3, dl_4, dl_5, dl_6, dl_7, dl_8, dl_9, dl_10, dl_11, dl_12, dl_13, dl_14, dl_15, dl_16, dl_20, dl_24, dl_31, dl_50, dl_57, dl_67, dl_68, dl_74, dl_75, dl_79, dl_80, dl_99, dl_100, dl_200, dl_210, dl_224, dl_255, dl_289, dl_900, dl_1000, dl_1728, dl_65536, dl_65537, nI_add, pk_mul, pk_sub, pk_div, pk_rem, ds_rem2, nI_clamp, nI_leI, nI_ltI, nI_eq, ds_m1_eq, ds_eq_m1, ds_m2_eq, ds_eq_m2, ds_m1_le, ds_le_m1, ds_m1_lt, ds_lt_m1, ds_in_N, ds_bo0, ds_bo1, if_pos, if_neg, Nat.not_le, Nat.not_lt, not_true_eq_false, not_false_eq_true, if_true, if_false, ne_eq, Option.some.injEq, Prod.mk.injEq, Value.int.injEq, true_and, and_true, and_self, ite_self, Bool.not_eq_true, Bool.not_eq_false, Bool.true_eq_false, Bool.false_eq_true, reduceCtorEq, Nat.zero_add, Nat.reduceAdd, Nat.reduceMul, Nat.reduceSub, ds_setI_row, ds_setL_row, ds_rowI_self, ds_rowI_ne, ds_rowI_2, ds_rowI_rowI, ds_setS_1, ds_setS_21, ds_setS_self, ds_setS_ne, pk_us, pk_un, c1, mv]
    | succ m ih =>
      intro b a s z hb ha hC
      have c1 := hC.2.2.1
      have mv := s_movesOf (d + 5) (K 12) z (by omega)
      rw [ki] at mv
      obtain ⟨z1, s1, s2, s3, _⟩ := s_makeTwo (d + 2) t a b z D K hC hD hK (by omega) (by omega)
      have hC' := dk_HC_fr hC s3
      obtain ⟨z2, s4, s5, s6, s7⟩ := s_trTrial (d + 1) t (K 12) z1 D _ hC'.1 hC'.2.1 hD s2
      have f2 := dk_fr_trans s3 (dk_fr_mono (a' := 64) (b' := 80) s6 (by decide) (by decide))
      obtain ⟨z3, q1, q2⟩ := ih (b + 1) a s z2 (by omega) ha (dk_HC_fr hC f2)
      refine ⟨z3, ?_, dk_fr_trans f2 q2⟩
      rw [← q1, b_Sea_bestTwo_36]
      have e : dk_b2 (dk_T2 D K) a 0 s (b + 1) = dk_st (nI (dk_T2 D K a b)) (nI (100 * a + b)) (dk_b2 (dk_T2 D K) a 0 s b) := by
        simp only [dk_b2, Nat.zero_add]
      rw [e]
      have e2 : dk_trm D (dk_two K a b) (K 12) (fun _ => true) = dk_T2 D K a b := rfl
      rw [e2] at s5
      have i67 : ds_K 67 = 1 := rfl
      clear q1 q2 e e2 ih hC hC' s2 s3 s6 s7 f2 hD hK
      generalize dk_b2 (dk_T2 D K) a 0 s b = s'
      generalize dk_T2 D K a b = v at *
      unfold dk_st
      by_cases h : nI v ≤ s'.1
      · simp (disch := first | assumption | omega) only [ds_cI, ds_cV, ds_cL, ds_cR, ds_nn, ds_isK_t, ds_isA_t, ds_chk_t, ds_chkN, ds_nz_t, ds_nzN, ds_isB_t, ds_isB_bo, ↓dl_m1, ↓dl_m2, dl_0, dl_1, dl_2, dl_3, dl_4, dl_5, dl_6, dl_7, dl_8, dl_9, dl_10, dl_11, dl_12, dl_13, dl_14, dl_15, dl_16, dl_20, dl_24, dl_31, dl_50, dl_57, dl_67, dl_68, dl_74, dl_75, dl_79, dl_80, dl_99, dl_100, dl_200, dl_210, dl_224, dl_255, dl_289, dl_900, dl_1000, dl_1728, dl_65536, dl_65537, nI_add, pk_mul, pk_sub, pk_div, pk_rem, ds_rem2, nI_clamp, nI_leI, nI_ltI, nI_eq, ds_m1_eq, ds_eq_m1, ds_m2_eq, ds_eq_m2, ds_m1_le, ds_le_m1, ds_m1_lt, ds_lt_m1, ds_in_N, ds_bo0, ds_bo1, if_pos, if_neg, Nat.not_le, Nat.not_lt, not_true_eq_false, not_false_eq_true, if_true, if_false, ne_eq, Option.some.injEq, Prod.mk.injEq, Value.int.injEq, true_and, and_true, and_self, ite_self, Bool.not_eq_true, Bool.not_eq_false, Bool.true_eq_false, Bool.false_eq_true, reduceCtorEq, Nat.zero_add, Nat.reduceAdd, Nat.reduceMul, Nat.reduceSub, ds_setI_row, ds_setL_row, ds_rowI_self, ds_rowI_ne, ds_rowI_2, ds_rowI_rowI, ds_setS_1, ds_setS_21, ds_setS_self, ds_setS_ne, pk_us, pk_un, c1, mv, s1, s4, s5, h]
      · simp (disch := first | assumption | omega) only [ds_cI, ds_cV, ds_cL, ds_cR, ds_nn, ds_isK_t, ds_isA_t, ds_chk_t, ds_chkN, ds_nz_t, ds_nzN, ds_isB_t, ds_isB_bo, ↓dl_m1, ↓dl_m2, dl_0, dl_1, dl_2, dl_3, dl_4, dl_5, dl_6, dl_7, dl_8, dl_9, dl_10, dl_11, dl_12, dl_13, dl_14, dl_15, dl_16, dl_20, dl_24, dl_31, dl_50, dl_57, dl_67, dl_68, dl_74, dl_75, dl_79, dl_80, dl_99, dl_100, dl_200, dl_210, dl_224, dl_255, dl_289, dl_900, dl_1000, dl_1728, dl_65536, dl_65537, nI_add, pk_mul, pk_sub, pk_div, pk_rem, ds_rem2, nI_clamp, nI_leI, nI_ltI, nI_eq, ds_m1_eq, ds_eq_m1, ds_m2_eq, ds_eq_m2, ds_m1_le, ds_le_m1, ds_m1_lt, ds_lt_m1, ds_in_N, ds_bo0, ds_bo1, if_pos, if_neg, Nat.not_le, Nat.not_lt, not_true_eq_false, not_false_eq_true, if_true, if_false, ne_eq, Option.some.injEq, Prod.mk.injEq, Value.int.injEq, true_and, and_true, and_self, ite_self, Bool.not_eq_true, Bool.not_eq_false, Bool.true_eq_false, Bool.false_eq_true, reduceCtorEq, Nat.zero_add, Nat.reduceAdd, Nat.reduceMul, Nat.reduceSub, ds_setI_row, ds_setL_row, ds_rowI_self, ds_rowI_ne, ds_rowI_2, ds_rowI_rowI, ds_setS_1, ds_setS_21, ds_setS_self, ds_setS_ne, pk_us, pk_un, c1, mv, s1, s4, s5, h]
  have outer : ∀ m a z, a + m = K 12 + 2 → dk_HC z t D K → ∃ z', ds_Rw ds_c_Sea_bestTwo ds_u_Sea_bestTwo (ds_call (d + 6)) 19 [some (.ref 0), some (.int ((dk_b1 (dk_T2 D K) (K 12 + 2) a).1)), some (.int ((dk_b1 (dk_T2 D K) (K 12 + 2) a).2)), some (.int (nI a)), none, none] [] z = some (some (.int (dk_b1 (dk_T2 D K) (K 12 + 2) (K 12 + 2)).2), ds_rowI z' 0 (upd (z'.1 0) 10 (nI 0))) ∧ dk_fr 64 80 z z' := by
    intro m
    induction m with
    | zero =>
      intro a z ha hC
      have : a = K 12 + 2 := by omega
      subst this
      have c1 := hC.2.2.1
      have mv := s_movesOf (d + 5) (K 12) z (by omega)
      rw [ki] at mv
      refine ⟨z, ?_, dk_fr_refl _ _ _⟩
      rw [b_Sea_bestTwo_19]
      simp (disch := first | assumption | omega) only [ds_cI, ds_cV, ds_cL, ds_cR, ds_nn, ds_isK_t, ds_isA_t, ds_chk_t, ds_chkN, ds_nz_t, ds_nzN, ds_isB_t, ds_isB_bo, ↓dl_m1, ↓dl_m2, dl_0, dl_1, dl_2, dl_3, dl_4, dl_5, dl_6, dl_7, dl_8, dl_9, dl_10, dl_11, dl_12, dl_13, dl_14, dl_15, dl_16, dl_20, dl_24, dl_31, dl_50, dl_57, dl_67, dl_68, dl_74, dl_75, dl_79, dl_80, dl_99, dl_100, dl_200, dl_210, dl_224, dl_255, dl_289, dl_900, dl_1000, dl_1728, dl_65536, dl_65537, nI_add, pk_mul, pk_sub, pk_div, pk_rem, ds_rem2, nI_clamp, nI_leI, nI_ltI, nI_eq, ds_m1_eq, ds_eq_m1, ds_m2_eq, ds_eq_m2, ds_m1_le, ds_le_m1, ds_m1_lt, ds_lt_m1, ds_in_N, ds_bo0, ds_bo1, if_pos, if_neg, Nat.not_le, Nat.not_lt, not_true_eq_false, not_false_eq_true, if_true, if_false, ne_eq, Option.some.injEq, Prod.mk.injEq, Value.int.injEq, true_and, and_true, and_self, ite_self, Bool.not_eq_true, Bool.not_eq_false, Bool.true_eq_false, Bool.false_eq_true, reduceCtorEq, Nat.zero_add, Nat.reduceAdd, Nat.reduceMul, Nat.reduceSub, ds_setI_row, ds_setL_row, ds_rowI_self, ds_rowI_ne, ds_rowI_2, ds_rowI_rowI, ds_setS_1, ds_setS_21, ds_setS_self, ds_setS_ne, pk_us, pk_un, c1, mv, s_answer]
    | succ m ih =>
      intro a z ha hC
      have c1 := hC.2.2.1
      have mv := s_movesOf (d + 5) (K 12) z (by omega)
      rw [ki] at mv
      obtain ⟨z1, s1, s2⟩ := inner (K 12 + 2) 0 a (dk_b1 (dk_T2 D K) (K 12 + 2) a) z (by omega) (by omega) hC
      obtain ⟨z2, q1, q2⟩ := ih (a + 1) z1 (by omega) (dk_HC_fr hC s2)
      refine ⟨z2, ?_, dk_fr_trans s2 q2⟩
      rw [← q1, b_Sea_bestTwo_19]
      have e : dk_b1 (dk_T2 D K) (K 12 + 2) (a + 1) = dk_b2 (dk_T2 D K) a 0 (dk_b1 (dk_T2 D K) (K 12 + 2) a) (K 12 + 2) := rfl
      have e0 : dk_b2 (dk_T2 D K) a 0 (dk_b1 (dk_T2 D K) (K 12 + 2) a) 0 = dk_b1 (dk_T2 D K) (K 12 + 2) a := rfl
      rw [e0] at s1
      rw [e]
      simp (disch := first | assumption | omega) only [ds_cI, ds_cV, ds_cL, ds_cR, ds_nn, ds_isK_t, ds_isA_t, ds_chk_t, ds_chkN, ds_nz_t, ds_nzN, ds_isB_t, ds_isB_bo, ↓dl_m1, ↓dl_m2, dl_0, dl_1, dl_2, dl_3, dl_4, dl_5, dl_6, dl_7, dl_8, dl_9, dl_10, dl_11, dl_12, dl_13, dl_14, dl_15, dl_16, dl_20, dl_24, dl_31, dl_50, dl_57, dl_67, dl_68, dl_74, dl_75, dl_79, dl_80, dl_99, dl_100, dl_200, dl_210, dl_224, dl_255, dl_289, dl_900, dl_1000, dl_1728, dl_65536, dl_65537, nI_add, pk_mul, pk_sub, pk_div, pk_rem, ds_rem2, nI_clamp, nI_leI, nI_ltI, nI_eq, ds_m1_eq, ds_eq_m1, ds_m2_eq, ds_eq_m2, ds_m1_le, ds_le_m1, ds_m1_lt, ds_lt_m1, ds_in_N, ds_bo0, ds_bo1, if_pos, if_neg, Nat.not_le, Nat.not_lt, not_true_eq_false, not_false_eq_true, if_true, if_false, ne_eq, Option.some.injEq, Prod.mk.injEq, Value.int.injEq, true_and, and_true, and_self, ite_self, Bool.not_eq_true, Bool.not_eq_false, Bool.true_eq_false, Bool.false_eq_true, reduceCtorEq, Nat.zero_add, Nat.reduceAdd, Nat.reduceMul, Nat.reduceSub, ds_setI_row, ds_setL_row, ds_rowI_self, ds_rowI_ne, ds_rowI_2, ds_rowI_rowI, ds_setS_1, ds_setS_21, ds_setS_self, ds_setS_ne, pk_us, pk_un, c1, mv, s1]
  obtain ⟨z', q1, q2⟩ := outer (K 12 + 2) 0 z (by omega) hC
  exact ⟨z', q1, q2⟩
theorem s_bestTwoM (d : Nat) (z : ds_St) (D : Nat → Nat → Nat) (K : Nat → Nat) (hM : dk_HM z D K) (hD : dk_ok D) (hK : dk_okK D K) : ∃ z', ds_Rw ds_c_Mod_bestTwo ds_u_Mod_bestTwo (ds_call (d + 6)) 23 [some (.ref 90), some (.int (nI 0)), some (.int ds_m1), some (.int (nI 0)), none, none] [] z = some (some (.int (dk_b1 (dk_T2 D K) (K 12 + 2) (K 12 + 2)).2), z') ∧ dk_fm z z' := by
  obtain ⟨k2, k12, km, ki⟩ := dk_mo_K hD hK
  have inner : ∀ m b a s z, b + m = K 12 + 2 → a < K 12 + 2 → dk_HM z D K → ∃ z', ds_Rw ds_c_Mod_bestTwo ds_u_Mod_bestTwo (ds_call (d + 6)) 38 [some (.ref 90), some (.int ((dk_b2 (dk_T2 D K) a 0 s b).2)), some (.int ((dk_b2 (dk_T2 D K) a 0 s b).1)), some (.int (nI a)), some (.int (nI b)), none] [] z = ds_Rw ds_c_Mod_bestTwo ds_u_Mod_bestTwo (ds_call (d + 6)) 23 [some (.ref 90), some (.int ((dk_b2 (dk_T2 D K) a 0 s (K 12 + 2)).2)), some (.int ((dk_b2 (dk_T2 D K) a 0 s (K 12 + 2)).1)), some (.int (nI ((a + 1)))), none, none] [] z' ∧ dk_fm z z' := by
    intro m
    induction m with
    | zero =>
      intro b a s z hb ha hM
      have : b = K 12 + 2 := by omega
      subst this
      have mv := s_mmovesOf (d + 5) (K 12) 95 z rfl rfl (dk_HM_dm hM hK).2.1
      refine ⟨z, ?_, dk_fm_refl _⟩
      rw [b_Mod_bestTwo_38]
      simp (disch := first | assumption | omega) only [ds_cI, ds_cV, ds_cL, ds_cR, ds_nn, ds_isK_t, ds_isA_t, ds_chk_t, ds_chkN, ds_nz_t, ds_nzN, ds_isB_t, ds_isB_bo, ↓dl_m1, ↓dl_m2, dl_0, dl_1, dl_2, dl_3, dl_4, dl_5, dl_6, dl_7, dl_8, dl_9, dl_10, dl_11, dl_12, dl_13, dl_14, dl_15, dl_16, dl_20, dl_24, dl_31, dl_50, dl_57, dl_67, dl_68, dl_74, dl_75, dl_79, dl_80, dl_99, dl_100, dl_200, dl_210, dl_224, dl_255, dl_289, dl_900, dl_1000, dl_1728, dl_65536, dl_65537, nI_add, pk_mul, pk_sub, pk_div, pk_rem, ds_rem2, nI_clamp, nI_leI, nI_ltI, nI_eq, ds_m1_eq, ds_eq_m1, ds_m2_eq, ds_eq_m2, ds_m1_le, ds_le_m1, ds_m1_lt, ds_lt_m1, ds_in_N, ds_bo0, ds_bo1, if_pos, if_neg, Nat.not_le, Nat.not_lt, not_true_eq_false, not_false_eq_true, if_true, if_false, ne_eq, Option.some.injEq, Prod.mk.injEq, Value.int.injEq, true_and, and_true, and_self, ite_self, Bool.not_eq_true, Bool.not_eq_false, Bool.true_eq_false, Bool.false_eq_true, reduceCtorEq, Nat.zero_add, Nat.reduceAdd, Nat.reduceMul, Nat.reduceSub, ds_setI_row, ds_setL_row, ds_rowI_self, ds_rowI_ne, ds_rowI_2, ds_rowI_rowI, ds_setS_1, ds_setS_21, ds_setS_self, ds_setS_ne, pk_us, pk_un, mv]
    | succ m ih =>
      intro b a s z hb ha hM
      have mv := s_mmovesOf (d + 5) (K 12) 95 z rfl rfl (dk_HM_dm hM hK).2.1
      obtain ⟨z1, s1, s2⟩ := s_mtradesBy2 d a b z D K hM hD hK (by omega) (by omega)
      obtain ⟨z3, q1, q2⟩ := ih (b + 1) a s z1 (by omega) ha (dk_HM_fm hM s2)
      refine ⟨z3, ?_, dk_fm_trans s2 q2⟩
      rw [← q1, b_Mod_bestTwo_38]
      have e : dk_b2 (dk_T2 D K) a 0 s (b + 1) = dk_st (nI (dk_T2 D K a b)) (nI (100 * a + b)) (dk_b2 (dk_T2 D K) a 0 s b) := by
        simp only [dk_b2, Nat.zero_add]
      rw [e]
      clear q1 q2 e ih hM s2 hD hK
      generalize dk_b2 (dk_T2 D K) a 0 s b = s'
      generalize dk_T2 D K a b = v at *
      unfold dk_st
      by_cases h : nI v ≤ s'.1
      · have h' : ¬ s'.1 < nI v := fun q => dk_nle.mpr q h
        simp (disch := first | assumption | omega) only [ds_cI, ds_cV, ds_cL, ds_cR, ds_nn, ds_isK_t, ds_isA_t, ds_chk_t, ds_chkN, ds_nz_t, ds_nzN, ds_isB_t, ds_isB_bo, ↓dl_m1, ↓dl_m2, dl_0, dl_1, dl_2, dl_3, dl_4, dl_5, dl_6, dl_7, dl_8, dl_9, dl_10, dl_11, dl_12, dl_13, dl_14, dl_15, dl_16, dl_20, dl_24, dl_31, dl_50, dl_57, dl_67, dl_68, dl_74, dl_75, dl_79, dl_80, dl_99, dl_100, dl_200, dl_210, dl_224, dl_255, dl_289, dl_900, dl_1000, dl_1728, dl_65536, dl_65537, nI_add, pk_mul, pk_sub, pk_div, pk_rem, ds_rem2, nI_clamp, nI_leI, nI_ltI, nI_eq, ds_m1_eq, ds_eq_m1, ds_m2_eq, ds_eq_m2, ds_m1_le, ds_le_m1, ds_m1_lt, ds_lt_m1, ds_in_N, ds_bo0, ds_bo1, if_pos, if_neg, Nat.not_le, Nat.not_lt, not_true_eq_false, not_false_eq_true, if_true, if_false, ne_eq, Option.some.injEq, Prod.mk.injEq, Value.int.injEq, true_and, and_true, and_self, ite_self, Bool.not_eq_true, Bool.not_eq_false, Bool.true_eq_false, Bool.false_eq_true, reduceCtorEq, Nat.zero_add, Nat.reduceAdd, Nat.reduceMul, Nat.reduceSub, ds_setI_row, ds_setL_row, ds_rowI_self, ds_rowI_ne, ds_rowI_2, ds_rowI_rowI, ds_setS_1, ds_setS_21, ds_setS_self, ds_setS_ne, pk_us, pk_un, mv, s1, h, h']
      · have h' : s'.1 < nI v := dk_nle.mp h
        simp (disch := first | assumption | omega) only [ds_cI, ds_cV, ds_cL, ds_cR, ds_nn, ds_isK_t, ds_isA_t, ds_chk_t, ds_chkN, ds_nz_t, ds_nzN, ds_isB_t, ds_isB_bo, ↓dl_m1, ↓dl_m2, dl_0, dl_1, dl_2, dl_3, dl_4, dl_5, dl_6, dl_7, dl_8, dl_9, dl_10, dl_11, dl_12, dl_13, dl_14, dl_15, dl_16, dl_20, dl_24, dl_31, dl_50, dl_57, dl_67, dl_68, dl_74, dl_75, dl_79, dl_80, dl_99, dl_100, dl_200, dl_210, dl_224, dl_255, dl_289, dl_900, dl_1000, dl_1728, dl_65536, dl_65537, nI_add, pk_mul, pk_sub, pk_div, pk_rem, ds_rem2, nI_clamp, nI_leI, nI_ltI, nI_eq, ds_m1_eq, ds_eq_m1, ds_m2_eq, ds_eq_m2, ds_m1_le, ds_le_m1, ds_m1_lt, ds_lt_m1, ds_in_N, ds_bo0, ds_bo1, if_pos, if_neg, Nat.not_le, Nat.not_lt, not_true_eq_false, not_false_eq_true, if_true, if_false, ne_eq, Option.some.injEq, Prod.mk.injEq, Value.int.injEq, true_and, and_true, and_self, ite_self, Bool.not_eq_true, Bool.not_eq_false, Bool.true_eq_false, Bool.false_eq_true, reduceCtorEq, Nat.zero_add, Nat.reduceAdd, Nat.reduceMul, Nat.reduceSub, ds_setI_row, ds_setL_row, ds_rowI_self, ds_rowI_ne, ds_rowI_2, ds_rowI_rowI, ds_setS_1, ds_setS_21, ds_setS_self, ds_setS_ne, pk_us, pk_un, mv, s1, h, h']
  have outer : ∀ m a z, a + m = K 12 + 2 → dk_HM z D K → ∃ z', ds_Rw ds_c_Mod_bestTwo ds_u_Mod_bestTwo (ds_call (d + 6)) 23 [some (.ref 90), some (.int ((dk_b1 (dk_T2 D K) (K 12 + 2) a).2)), some (.int ((dk_b1 (dk_T2 D K) (K 12 + 2) a).1)), some (.int (nI a)), none, none] [] z = some (some (.int (dk_b1 (dk_T2 D K) (K 12 + 2) (K 12 + 2)).2), z') ∧ dk_fm z z' := by
    intro m
    induction m with
    | zero =>
      intro a z ha hM
      have : a = K 12 + 2 := by omega
      subst this
      have mv := s_mmovesOf (d + 5) (K 12) 95 z rfl rfl (dk_HM_dm hM hK).2.1
      refine ⟨z, ?_, dk_fm_refl _⟩
      rw [b_Mod_bestTwo_23]
      simp (disch := first | assumption | omega) only [ds_cI, ds_cV, ds_cL, ds_cR, ds_nn, ds_isK_t, ds_isA_t, ds_chk_t, ds_chkN, ds_nz_t, ds_nzN, ds_isB_t, ds_isB_bo, ↓dl_m1, ↓dl_m2, dl_0, dl_1, dl_2, dl_3, dl_4, dl_5, dl_6, dl_7, dl_8, dl_9, dl_10, dl_11, dl_12, dl_13, dl_14, dl_15, dl_16, dl_20, dl_24, dl_31, dl_50, dl_57, dl_67, dl_68, dl_74, dl_75, dl_79, dl_80, dl_99, dl_100, dl_200, dl_210, dl_224, dl_255, dl_289, dl_900, dl_1000, dl_1728, dl_65536, dl_65537, nI_add, pk_mul, pk_sub, pk_div, pk_rem, ds_rem2, nI_clamp, nI_leI, nI_ltI, nI_eq, ds_m1_eq, ds_eq_m1, ds_m2_eq, ds_eq_m2, ds_m1_le, ds_le_m1, ds_m1_lt, ds_lt_m1, ds_in_N, ds_bo0, ds_bo1, if_pos, if_neg, Nat.not_le, Nat.not_lt, not_true_eq_false, not_false_eq_true, if_true, if_false, ne_eq, Option.some.injEq, Prod.mk.injEq, Value.int.injEq, true_and, and_true, and_self, ite_self, Bool.not_eq_true, Bool.not_eq_false, Bool.true_eq_false, Bool.false_eq_true, reduceCtorEq, Nat.zero_add, Nat.reduceAdd, Nat.reduceMul, Nat.reduceSub, ds_setI_row, ds_setL_row, ds_rowI_self, ds_rowI_ne, ds_rowI_2, ds_rowI_rowI, ds_setS_1, ds_setS_21, ds_setS_self, ds_setS_ne, pk_us, pk_un, mv]
    | succ m ih =>
      intro a z ha hM
      have mv := s_mmovesOf (d + 5) (K 12) 95 z rfl rfl (dk_HM_dm hM hK).2.1
      obtain ⟨z1, s1, s2⟩ := inner (K 12 + 2) 0 a (dk_b1 (dk_T2 D K) (K 12 + 2) a) z (by omega) (by omega) hM
      obtain ⟨z2, q1, q2⟩ := ih (a + 1) z1 (by omega) (dk_HM_fm hM s2)
      refine ⟨z2, ?_, dk_fm_trans s2 q2⟩
      rw [← q1, b_Mod_bestTwo_23]
      have e : dk_b1 (dk_T2 D K) (K 12 + 2) (a + 1) = dk_b2 (dk_T2 D K) a 0 (dk_b1 (dk_T2 D K) (K 12 + 2) a) (K 12 + 2) := rfl
      have e0 : dk_b2 (dk_T2 D K) a 0 (dk_b1 (dk_T2 D K) (K 12 + 2) a) 0 = dk_b1 (dk_T2 D K) (K 12 + 2) a := rfl
      rw [e0] at s1
      rw [e]
      simp (disch := first | assumption | omega) only [ds_cI, ds_cV, ds_cL, ds_cR, ds_nn, ds_isK_t, ds_isA_t, ds_chk_t, ds_chkN, ds_nz_t, ds_nzN, ds_isB_t, ds_isB_bo, ↓dl_m1, ↓dl_m2, dl_0, dl_1, dl_2, dl_3, dl_4, dl_5, dl_6, dl_7, dl_8, dl_9, dl_10, dl_11, dl_12, dl_13, dl_14, dl_15, dl_16, dl_20, dl_24, dl_31, dl_50, dl_57, dl_67, dl_68, dl_74, dl_75, dl_79, dl_80, dl_99, dl_100, dl_200, dl_210, dl_224, dl_255, dl_289, dl_900, dl_1000, dl_1728, dl_65536, dl_65537, nI_add, pk_mul, pk_sub, pk_div, pk_rem, ds_rem2, nI_clamp, nI_leI, nI_ltI, nI_eq, ds_m1_eq, ds_eq_m1, ds_m2_eq, ds_eq_m2, ds_m1_le, ds_le_m1, ds_m1_lt, ds_lt_m1, ds_in_N, ds_bo0, ds_bo1, if_pos, if_neg, Nat.not_le, Nat.not_lt, not_true_eq_false, not_false_eq_true, if_true, if_false, ne_eq, Option.some.injEq, Prod.mk.injEq, Value.int.injEq, true_and, and_true, and_self, ite_self, Bool.not_eq_true, Bool.not_eq_false, Bool.true_eq_false, Bool.false_eq_true, reduceCtorEq, Nat.zero_add, Nat.reduceAdd, Nat.reduceMul, Nat.reduceSub, ds_setI_row, ds_setL_row, ds_rowI_self, ds_rowI_ne, ds_rowI_2, ds_rowI_rowI, ds_setS_1, ds_setS_21, ds_setS_self, ds_setS_ne, pk_us, pk_un, mv, s1]
  obtain ⟨z', q1, q2⟩ := outer (K 12 + 2) 0 z (by omega) hM
  exact ⟨z', q1, q2⟩
theorem k_bestTwo (d : Nat) (z : ds_St) (h : dk_Inv z) : ∃ v z1 z2, ds_call (d + 20) j_Sea_bestTwo [.ref 0] z = some (some v, z1) ∧ ds_call (d + 20) j_Mod_bestTwo [.ref 90] z1 = some (some v, z2) ∧ dk_Inv z2 := by
  apply dk_both h
  intro t D K hC hM hz
  have hs := s_hasSea (d + 18) t z D K hC hz
  rcases hz with ⟨hD, hK⟩ | ⟨h0, hc0, hp0⟩
  · have hn : 0 < D 0 4 := by have := hD.2.2.2.2.1.1; omega
    obtain ⟨z', s1, s2⟩ := s_bestTwoC (d + 13) t z D K hC hD hK
    refine ⟨.int (dk_b1 (dk_T2 D K) (K 12 + 2) (K 12 + 2)).2, nI 0, ds_rowI z' 0 (upd (z'.1 0) 10 (nI 0)), ?_, dk_qC_row _ s2, fun z0 hM0 => ?_⟩
    · rw [c_Sea_bestTwo, b_Sea_bestTwo_0]
      simp (disch := first | assumption | omega) only [ds_cI, ds_cV, ds_cL, ds_cR, ds_nn, ds_isK_t, ds_isA_t, ds_chk_t, ds_chkN, ds_nz_t, ds_nzN, ds_isB_t, ds_isB_bo, ↓dl_m1, ↓dl_m2, dl_0, dl_1, dl_2, dl_3, dl_4, dl_5, dl_6, dl_7, dl_8, dl_9, dl_10, dl_11, dl_12, dl_13, dl_14, dl_15, dl_16, dl_20, dl_24, dl_31, dl_50, dl_57, dl_67, dl_68, dl_74, dl_75, dl_79, dl_80, dl_99, dl_100, dl_200, dl_210, dl_224, dl_255, dl_289, dl_900, dl_1000, dl_1728, dl_65536, dl_65537, nI_add, pk_mul, pk_sub, pk_div, pk_rem, ds_rem2, nI_clamp, nI_leI, nI_ltI, nI_eq, ds_m1_eq, ds_eq_m1, ds_m2_eq, ds_eq_m2, ds_m1_le, ds_le_m1, ds_m1_lt, ds_lt_m1, ds_in_N, ds_bo0, ds_bo1, if_pos, if_neg, Nat.not_le, Nat.not_lt, not_true_eq_false, not_false_eq_true, if_true, if_false, ne_eq, Option.some.injEq, Prod.mk.injEq, Value.int.injEq, true_and, and_true, and_self, ite_self, Bool.not_eq_true, Bool.not_eq_false, Bool.true_eq_false, Bool.false_eq_true, reduceCtorEq, Nat.zero_add, Nat.reduceAdd, Nat.reduceMul, Nat.reduceSub, ds_setI_row, ds_setL_row, ds_rowI_self, ds_rowI_ne, ds_rowI_2, ds_rowI_rowI, ds_setS_1, ds_setS_21, ds_setS_self, ds_setS_ne, pk_us, pk_un, s_answer, hs, hn, decide_true, s1]
    · have hMg := dk_zg_HM hM0
      have hsg := hMg.2.1
      obtain ⟨z2, q1, q2⟩ := s_bestTwoM (d + 13) (dk_zg z0) D K hMg hD hK
      refine ⟨z2, ?_, dk_qM_ok q2⟩
      rw [c_Mod_bestTwo, b_Mod_bestTwo_0]
      simp (disch := first | assumption | omega) only [ds_cI, ds_cV, ds_cL, ds_cR, ds_nn, ds_isK_t, ds_isA_t, ds_chk_t, ds_chkN, ds_nz_t, ds_nzN, ds_isB_t, ds_isB_bo, ↓dl_m1, ↓dl_m2, dl_0, dl_1, dl_2, dl_3, dl_4, dl_5, dl_6, dl_7, dl_8, dl_9, dl_10, dl_11, dl_12, dl_13, dl_14, dl_15, dl_16, dl_20, dl_24, dl_31, dl_50, dl_57, dl_67, dl_68, dl_74, dl_75, dl_79, dl_80, dl_99, dl_100, dl_200, dl_210, dl_224, dl_255, dl_289, dl_900, dl_1000, dl_1728, dl_65536, dl_65537, nI_add, pk_mul, pk_sub, pk_div, pk_rem, ds_rem2, nI_clamp, nI_leI, nI_ltI, nI_eq, ds_m1_eq, ds_eq_m1, ds_m2_eq, ds_eq_m2, ds_m1_le, ds_le_m1, ds_m1_lt, ds_lt_m1, ds_in_N, ds_bo0, ds_bo1, if_pos, if_neg, Nat.not_le, Nat.not_lt, not_true_eq_false, not_false_eq_true, if_true, if_false, ne_eq, Option.some.injEq, Prod.mk.injEq, Value.int.injEq, true_and, and_true, and_self, ite_self, Bool.not_eq_true, Bool.not_eq_false, Bool.true_eq_false, Bool.false_eq_true, reduceCtorEq, Nat.zero_add, Nat.reduceAdd, Nat.reduceMul, Nat.reduceSub, ds_setI_row, ds_setL_row, ds_rowI_self, ds_rowI_ne, ds_rowI_2, ds_rowI_rowI, ds_setS_1, ds_setS_21, ds_setS_self, ds_setS_ne, pk_us, pk_un, s_good, hsg, hn, decide_true, q1]
  · have h4 := h0 4 (by decide)
    refine ⟨.int ds_m1, nI 1, ds_rowI z 0 (upd (z.1 0) 10 (nI 1)), ?_, dk_qC_no z _, fun z0 hM0 => ⟨ds_rowI (dk_zg z0) 90 (upd ((dk_zg z0).1 90) 11 (nI 1)), ?_, dk_qM_no z0 _⟩⟩
    · rw [c_Sea_bestTwo, b_Sea_bestTwo_0]
      simp (disch := first | assumption | omega | rfl | decide) only [ds_cI, ds_cV, ds_cL, ds_cR, ds_nn, ds_isK_t, ds_isA_t, ds_chk_t, ds_chkN, ds_nz_t, ds_nzN, ds_isB_t, ds_isB_bo, ↓dl_m1, ↓dl_m2, dl_0, dl_1, dl_2, dl_3, dl_4, dl_5, dl_6, dl_7, dl_8, dl_9, dl_10, dl_11, dl_12, dl_13, dl_14, dl_15, dl_16, dl_20, dl_24, dl_31, dl_50, dl_57, dl_67, dl_68, dl_74, dl_75, dl_79, dl_80, dl_99, dl_100, dl_200, dl_210, dl_224, dl_255, dl_289, dl_900, dl_1000, dl_1728, dl_65536, dl_65537, nI_add, pk_mul, pk_sub, pk_div, pk_rem, ds_rem2, nI_clamp, nI_leI, nI_ltI, nI_eq, ds_m1_eq, ds_eq_m1, ds_m2_eq, ds_eq_m2, ds_m1_le, ds_le_m1, ds_m1_lt, ds_lt_m1, ds_in_N, ds_bo0, ds_bo1, if_pos, if_neg, Nat.not_le, Nat.not_lt, not_true_eq_false, not_false_eq_true, if_true, if_false, ne_eq, Option.some.injEq, Prod.mk.injEq, Value.int.injEq, true_and, and_true, and_self, ite_self, Bool.not_eq_true, Bool.not_eq_false, Bool.true_eq_false, Bool.false_eq_true, reduceCtorEq, Nat.zero_add, Nat.reduceAdd, Nat.reduceMul, Nat.reduceSub, ds_setI_row, ds_setL_row, ds_rowI_self, ds_rowI_ne, ds_rowI_2, ds_rowI_rowI, ds_setS_1, ds_setS_21, ds_setS_self, ds_setS_ne, pk_us, pk_un, s_refuse, hs, h4, Nat.lt_irrefl, decide_false]
    · have hMg := dk_zg_HM hM0
      have hsg := hMg.2.1
      rw [c_Mod_bestTwo, b_Mod_bestTwo_0]
      simp (disch := first | assumption | omega | rfl | decide) only [ds_cI, ds_cV, ds_cL, ds_cR, ds_nn, ds_isK_t, ds_isA_t, ds_chk_t, ds_chkN, ds_nz_t, ds_nzN, ds_isB_t, ds_isB_bo, ↓dl_m1, ↓dl_m2, dl_0, dl_1, dl_2, dl_3, dl_4, dl_5, dl_6, dl_7, dl_8, dl_9, dl_10, dl_11, dl_12, dl_13, dl_14, dl_15, dl_16, dl_20, dl_24, dl_31, dl_50, dl_57, dl_67, dl_68, dl_74, dl_75, dl_79, dl_80, dl_99, dl_100, dl_200, dl_210, dl_224, dl_255, dl_289, dl_900, dl_1000, dl_1728, dl_65536, dl_65537, nI_add, pk_mul, pk_sub, pk_div, pk_rem, ds_rem2, nI_clamp, nI_leI, nI_ltI, nI_eq, ds_m1_eq, ds_eq_m1, ds_m2_eq, ds_eq_m2, ds_m1_le, ds_le_m1, ds_m1_lt, ds_lt_m1, ds_in_N, ds_bo0, ds_bo1, if_pos, if_neg, Nat.not_le, Nat.not_lt, not_true_eq_false, not_false_eq_true, if_true, if_false, ne_eq, Option.some.injEq, Prod.mk.injEq, Value.int.injEq, true_and, and_true, and_self, ite_self, Bool.not_eq_true, Bool.not_eq_false, Bool.true_eq_false, Bool.false_eq_true, reduceCtorEq, Nat.zero_add, Nat.reduceAdd, Nat.reduceMul, Nat.reduceSub, ds_setI_row, ds_setL_row, ds_rowI_self, ds_rowI_ne, ds_rowI_2, ds_rowI_rowI, ds_setS_1, ds_setS_21, ds_setS_self, ds_setS_ne, pk_us, pk_un, s_good, s_no, hsg, h4, Nat.lt_irrefl, decide_false]
