/-! led once more: the model's state may differ where led's answer is kept -/
theorem k_led2 (d : Nat) (x : Int32) (z y : ds_St) (h : dk_Inv z) (h' : dk_Inv y) (hy : ∀ D K, dk_HM z D K → dk_HM y D K) : (∃ i z2, ds_call (d + 20) j_Sea_led [.ref 0, .int x] z = some (some (.int (nI i)), z) ∧ ds_call (d + 20) j_Mod_led [.ref 90, .int x] y = some (some (.int (nI i)), z2) ∧ dk_Inv z2 ∧ z2 = ds_rowI y 90 (upd (y.1 90) 0 (nI 0))) ∨ (∃ z2, ds_Rw ds_c_Sea_led ds_u_Sea_led (ds_call (d + 19)) 0 [some (.ref 0), some (.int x), none, none] [] z = some (some .null, z) ∧ ds_call (d + 20) j_Mod_led [.ref 90, .int x] y = some (some (.int (nI 0)), z2) ∧ dk_Inv z2 ∧ z2 = ds_rowI y 90 (upd (y.1 90) 0 (nI 1))) := by
  have h0 := h
  obtain ⟨t, t', D, K, U, u, M, m, f, B, hc, hm, ho, e1, e2, e3⟩ := h0
  have hC := dk_IC_HC hc
  have hM := hy D K (dk_IM_HM hm)
  have hz := dk_OK_Hz ho
  have n12 := (dk_n12 hz).1
  have r0 := hC.1
  have ht := hC.2.1.1
  have hKt := ds_Kt ht
  have t4 := hC.2.1.2.1.2.2.2.2.1
  have hsg := hM.2.1
  have m4 := hM.1.1.2.2.2.2.1
  suffices hh : (∃ i, (ds_Rw ds_c_Sea_led ds_u_Sea_led (ds_call (d + 19)) 4 [some (.ref 0), some (.int x), some (.int (nI 0)), some (.int (nI 0))] [] z = some (some (.int (nI i)), z)) ∧ (ds_Rw ds_c_Mod_led ds_u_Mod_led (ds_call (d + 19)) 4 [some (.ref 90), some (.int x), some (.int (nI 0)), some (.int (nI 0))] [] y = some (some (.int (nI i)), ds_rowI y 90 (upd (y.1 90) 0 (nI 0))))) ∨ ((ds_Rw ds_c_Sea_led ds_u_Sea_led (ds_call (d + 19)) 4 [some (.ref 0), some (.int x), some (.int (nI 0)), some (.int (nI 0))] [] z = some (some .null, z)) ∧ (ds_Rw ds_c_Mod_led ds_u_Mod_led (ds_call (d + 19)) 4 [some (.ref 90), some (.int x), some (.int (nI 0)), some (.int (nI 0))] [] y = some (some (.int (nI 0)), ds_rowI y 90 (upd (y.1 90) 0 (nI 1))))) by
    rcases hh with ⟨i, a1, a2⟩ | ⟨a1, a2⟩
    · refine .inl ⟨i, _, ?_, ?_, dk_Inv_t (nI 0) h', rfl⟩
      · rw [c_Sea_led, b_Sea_led_0]
        simp (disch := first | assumption | omega) only [ds_cI, ds_cV, ds_cL, ds_cR, ds_nn, ds_isK_t, ds_isA_t, ds_chk_t, ds_chkN, ds_nz_t, ds_nzN, ds_isB_t, ds_isB_bo, ↓dl_m1, ↓dl_m2, dl_0, dl_1, dl_2, dl_3, dl_4, dl_5, dl_6, dl_7, dl_8, dl_9, dl_10, dl_11, dl_12, dl_13, dl_14, dl_15, dl_16, dl_20, dl_24, dl_31, dl_50, dl_57, dl_67, dl_68, dl_74, dl_75, dl_79, dl_80, dl_99, dl_100, dl_200, dl_210, dl_224, dl_255, dl_289, dl_900, dl_1000, dl_1728, dl_65536, dl_65537, nI_add, pk_mul, pk_sub, pk_div, pk_rem, ds_rem2, nI_clamp, nI_leI, nI_ltI, nI_eq, ds_m1_eq, ds_eq_m1, ds_m2_eq, ds_eq_m2, ds_m1_le, ds_le_m1, ds_m1_lt, ds_lt_m1, ds_in_N, ds_bo0, ds_bo1, if_pos, if_neg, Nat.not_le, Nat.not_lt, not_true_eq_false, not_false_eq_true, if_true, if_false, ne_eq, Option.some.injEq, Prod.mk.injEq, Value.int.injEq, true_and, and_true, and_self, ite_self, Bool.not_eq_true, Bool.not_eq_false, Bool.true_eq_false, Bool.false_eq_true, reduceCtorEq, Nat.zero_add, Nat.reduceAdd, Nat.reduceMul, Nat.reduceSub, ds_setI_row, ds_setL_row, ds_rowI_self, ds_rowI_ne, ds_rowI_2, ds_rowI_rowI, ds_setS_1, ds_setS_21, ds_setS_self, ds_setS_ne, pk_us, pk_un, a1]
      · rw [c_Mod_led, b_Mod_led_0]
        simp (disch := first | assumption | omega) only [ds_cI, ds_cV, ds_cL, ds_cR, ds_nn, ds_isK_t, ds_isA_t, ds_chk_t, ds_chkN, ds_nz_t, ds_nzN, ds_isB_t, ds_isB_bo, ↓dl_m1, ↓dl_m2, dl_0, dl_1, dl_2, dl_3, dl_4, dl_5, dl_6, dl_7, dl_8, dl_9, dl_10, dl_11, dl_12, dl_13, dl_14, dl_15, dl_16, dl_20, dl_24, dl_31, dl_50, dl_57, dl_67, dl_68, dl_74, dl_75, dl_79, dl_80, dl_99, dl_100, dl_200, dl_210, dl_224, dl_255, dl_289, dl_900, dl_1000, dl_1728, dl_65536, dl_65537, nI_add, pk_mul, pk_sub, pk_div, pk_rem, ds_rem2, nI_clamp, nI_leI, nI_ltI, nI_eq, ds_m1_eq, ds_eq_m1, ds_m2_eq, ds_eq_m2, ds_m1_le, ds_le_m1, ds_m1_lt, ds_lt_m1, ds_in_N, ds_bo0, ds_bo1, if_pos, if_neg, Nat.not_le, Nat.not_lt, not_true_eq_false, not_false_eq_true, if_true, if_false, ne_eq, Option.some.injEq, Prod.mk.injEq, Value.int.injEq, true_and, and_true, and_self, ite_self, Bool.not_eq_true, Bool.not_eq_false, Bool.true_eq_false, Bool.false_eq_true, reduceCtorEq, Nat.zero_add, Nat.reduceAdd, Nat.reduceMul, Nat.reduceSub, ds_setI_row, ds_setL_row, ds_rowI_self, ds_rowI_ne, ds_rowI_2, ds_rowI_rowI, ds_setS_1, ds_setS_21, ds_setS_self, ds_setS_ne, pk_us, pk_un, a2]
    · refine .inr ⟨_, ?_, ?_, dk_Inv_t (nI 1) h', rfl⟩
      · rw [b_Sea_led_0]
        simp (disch := first | assumption | omega) only [ds_cI, ds_cV, ds_cL, ds_cR, ds_nn, ds_isK_t, ds_isA_t, ds_chk_t, ds_chkN, ds_nz_t, ds_nzN, ds_isB_t, ds_isB_bo, ↓dl_m1, ↓dl_m2, dl_0, dl_1, dl_2, dl_3, dl_4, dl_5, dl_6, dl_7, dl_8, dl_9, dl_10, dl_11, dl_12, dl_13, dl_14, dl_15, dl_16, dl_20, dl_24, dl_31, dl_50, dl_57, dl_67, dl_68, dl_74, dl_75, dl_79, dl_80, dl_99, dl_100, dl_200, dl_210, dl_224, dl_255, dl_289, dl_900, dl_1000, dl_1728, dl_65536, dl_65537, nI_add, pk_mul, pk_sub, pk_div, pk_rem, ds_rem2, nI_clamp, nI_leI, nI_ltI, nI_eq, ds_m1_eq, ds_eq_m1, ds_m2_eq, ds_eq_m2, ds_m1_le, ds_le_m1, ds_m1_lt, ds_lt_m1, ds_in_N, ds_bo0, ds_bo1, if_pos, if_neg, Nat.not_le, Nat.not_lt, not_true_eq_false, not_false_eq_true, if_true, if_false, ne_eq, Option.some.injEq, Prod.mk.injEq, Value.int.injEq, true_and, and_true, and_self, ite_self, Bool.not_eq_true, Bool.not_eq_false, Bool.true_eq_false, Bool.false_eq_true, reduceCtorEq, Nat.zero_add, Nat.reduceAdd, Nat.reduceMul, Nat.reduceSub, ds_setI_row, ds_setL_row, ds_rowI_self, ds_rowI_ne, ds_rowI_2, ds_rowI_rowI, ds_setS_1, ds_setS_21, ds_setS_self, ds_setS_ne, pk_us, pk_un, a1]
      · rw [c_Mod_led, b_Mod_led_0]
        simp (disch := first | assumption | omega) only [ds_cI, ds_cV, ds_cL, ds_cR, ds_nn, ds_isK_t, ds_isA_t, ds_chk_t, ds_chkN, ds_nz_t, ds_nzN, ds_isB_t, ds_isB_bo, ↓dl_m1, ↓dl_m2, dl_0, dl_1, dl_2, dl_3, dl_4, dl_5, dl_6, dl_7, dl_8, dl_9, dl_10, dl_11, dl_12, dl_13, dl_14, dl_15, dl_16, dl_20, dl_24, dl_31, dl_50, dl_57, dl_67, dl_68, dl_74, dl_75, dl_79, dl_80, dl_99, dl_100, dl_200, dl_210, dl_224, dl_255, dl_289, dl_900, dl_1000, dl_1728, dl_65536, dl_65537, nI_add, pk_mul, pk_sub, pk_div, pk_rem, ds_rem2, nI_clamp, nI_leI, nI_ltI, nI_eq, ds_m1_eq, ds_eq_m1, ds_m2_eq, ds_eq_m2, ds_m1_le, ds_le_m1, ds_m1_lt, ds_lt_m1, ds_in_N, ds_bo0, ds_bo1, if_pos, if_neg, Nat.not_le, Nat.not_lt, not_true_eq_false, not_false_eq_true, if_true, if_false, ne_eq, Option.some.injEq, Prod.mk.injEq, Value.int.injEq, true_and, and_true, and_self, ite_self, Bool.not_eq_true, Bool.not_eq_false, Bool.true_eq_false, Bool.false_eq_true, reduceCtorEq, Nat.zero_add, Nat.reduceAdd, Nat.reduceMul, Nat.reduceSub, ds_setI_row, ds_setL_row, ds_rowI_self, ds_rowI_ne, ds_rowI_2, ds_rowI_rowI, ds_setS_1, ds_setS_21, ds_setS_self, ds_setS_ne, pk_us, pk_un, a2]
  rcases hz with ⟨hD, hK⟩ | ⟨h0, hc0, hp0⟩
  · have hn : 0 < D 0 4 := by have := hD.2.2.2.2.1.1; omega
    have hR : D 0 0 * D 0 1 ≤ 12 := Nat.mul_le_mul hD.1.2 hD.2.1.2
    have rm := s_room (d + 18) t z ht
    rw [hC.2.1.2.1.1, hC.2.1.2.1.2.1, pk_mul] at rm
    have mrm := s_mroom (d + 18) y D hM.1
    have go : ∀ m k j, k + m = D 0 4 → j ≤ k → (∃ i, (ds_Rw ds_c_Sea_led ds_u_Sea_led (ds_call (d + 19)) 4 [some (.ref 0), some (.int x), some (.int (nI j)), some (.int (nI k))] [] z = some (some (.int (nI i)), z)) ∧ (ds_Rw ds_c_Mod_led ds_u_Mod_led (ds_call (d + 19)) 4 [some (.ref 90), some (.int x), some (.int (nI j)), some (.int (nI k))] [] y = some (some (.int (nI i)), ds_rowI y 90 (upd (y.1 90) 0 (nI 0))))) ∨ ((ds_Rw ds_c_Sea_led ds_u_Sea_led (ds_call (d + 19)) 4 [some (.ref 0), some (.int x), some (.int (nI j)), some (.int (nI k))] [] z = some (some .null, z)) ∧ (ds_Rw ds_c_Mod_led ds_u_Mod_led (ds_call (d + 19)) 4 [some (.ref 90), some (.int x), some (.int (nI j)), some (.int (nI k))] [] y = some (some (.int (nI 0)), ds_rowI y 90 (upd (y.1 90) 0 (nI 1))))) := by
      intro m
      induction m with
      | zero =>
        intro k j hk hj
        refine .inr ⟨?_, ?_⟩
        · rw [b_Sea_led_4]
          simp (disch := first | assumption | omega) only [ds_cI, ds_cV, ds_cL, ds_cR, ds_nn, ds_isK_t, ds_isA_t, ds_chk_t, ds_chkN, ds_nz_t, ds_nzN, ds_isB_t, ds_isB_bo, ↓dl_m1, ↓dl_m2, dl_0, dl_1, dl_2, dl_3, dl_4, dl_5, dl_6, dl_7, dl_8, dl_9, dl_10, dl_11, dl_12, dl_13, dl_14, dl_15, dl_16, dl_20, dl_24, dl_31, dl_50, dl_57, dl_67, dl_68, dl_74, dl_75, dl_79, dl_80, dl_99, dl_100, dl_200, dl_210, dl_224, dl_255, dl_289, dl_900, dl_1000, dl_1728, dl_65536, dl_65537, nI_add, pk_mul, pk_sub, pk_div, pk_rem, ds_rem2, nI_clamp, nI_leI, nI_ltI, nI_eq, ds_m1_eq, ds_eq_m1, ds_m2_eq, ds_eq_m2, ds_m1_le, ds_le_m1, ds_m1_lt, ds_lt_m1, ds_in_N, ds_bo0, ds_bo1, if_pos, if_neg, Nat.not_le, Nat.not_lt, not_true_eq_false, not_false_eq_true, if_true, if_false, ne_eq, Option.some.injEq, Prod.mk.injEq, Value.int.injEq, true_and, and_true, and_self, ite_self, Bool.not_eq_true, Bool.not_eq_false, Bool.true_eq_false, Bool.false_eq_true, reduceCtorEq, Nat.zero_add, Nat.reduceAdd, Nat.reduceMul, Nat.reduceSub, ds_setI_row, ds_setL_row, ds_rowI_self, ds_rowI_ne, ds_rowI_2, ds_rowI_rowI, ds_setS_1, ds_setS_21, ds_setS_self, ds_setS_ne, pk_us, pk_un, r0, t4]
        · rw [b_Mod_led_4]
          simp (disch := first | assumption | omega) only [ds_cI, ds_cV, ds_cL, ds_cR, ds_nn, ds_isK_t, ds_isA_t, ds_chk_t, ds_chkN, ds_nz_t, ds_nzN, ds_isB_t, ds_isB_bo, ↓dl_m1, ↓dl_m2, dl_0, dl_1, dl_2, dl_3, dl_4, dl_5, dl_6, dl_7, dl_8, dl_9, dl_10, dl_11, dl_12, dl_13, dl_14, dl_15, dl_16, dl_20, dl_24, dl_31, dl_50, dl_57, dl_67, dl_68, dl_74, dl_75, dl_79, dl_80, dl_99, dl_100, dl_200, dl_210, dl_224, dl_255, dl_289, dl_900, dl_1000, dl_1728, dl_65536, dl_65537, nI_add, pk_mul, pk_sub, pk_div, pk_rem, ds_rem2, nI_clamp, nI_leI, nI_ltI, nI_eq, ds_m1_eq, ds_eq_m1, ds_m2_eq, ds_eq_m2, ds_m1_le, ds_le_m1, ds_m1_lt, ds_lt_m1, ds_in_N, ds_bo0, ds_bo1, if_pos, if_neg, Nat.not_le, Nat.not_lt, not_true_eq_false, not_false_eq_true, if_true, if_false, ne_eq, Option.some.injEq, Prod.mk.injEq, Value.int.injEq, true_and, and_true, and_self, ite_self, Bool.not_eq_true, Bool.not_eq_false, Bool.true_eq_false, Bool.false_eq_true, reduceCtorEq, Nat.zero_add, Nat.reduceAdd, Nat.reduceMul, Nat.reduceSub, ds_setI_row, ds_setL_row, ds_rowI_self, ds_rowI_ne, ds_rowI_2, ds_rowI_rowI, ds_setS_1, ds_setS_21, ds_setS_self, ds_setS_ne, pk_us, pk_un, hsg, hn, decide_true, m4]
      | succ m ih =>
        intro k j hk hj
        rcases dk_has K (K 12) k with ⟨p, hp, hpk⟩ | hno
        · have s1 := s_placeOf_y (d + 17) 61 (K 12) (D 0 4) p z K (dk_HC_dk hC hK) n12 hp
          have s2 := s_placeIn_y (d + 18) 95 (K 12) (D 0 4) p y K (dk_HM_dm hM hK) n12 hp
          rw [hpk] at s1 s2
          have k12 := hK.1
          by_cases q : p < D 0 0 * D 0 1
          · have i := ih (k + 1) j (by omega) (by omega)
            rw [b_Sea_led_4, b_Mod_led_4]
            generalize D 0 0 * D 0 1 = R at *
            simp (disch := first | assumption | omega) only [ds_cI, ds_cV, ds_cL, ds_cR, ds_nn, ds_isK_t, ds_isA_t, ds_chk_t, ds_chkN, ds_nz_t, ds_nzN, ds_isB_t, ds_isB_bo, ↓dl_m1, ↓dl_m2, dl_0, dl_1, dl_2, dl_3, dl_4, dl_5, dl_6, dl_7, dl_8, dl_9, dl_10, dl_11, dl_12, dl_13, dl_14, dl_15, dl_16, dl_20, dl_24, dl_31, dl_50, dl_57, dl_67, dl_68, dl_74, dl_75, dl_79, dl_80, dl_99, dl_100, dl_200, dl_210, dl_224, dl_255, dl_289, dl_900, dl_1000, dl_1728, dl_65536, dl_65537, nI_add, pk_mul, pk_sub, pk_div, pk_rem, ds_rem2, nI_clamp, nI_leI, nI_ltI, nI_eq, ds_m1_eq, ds_eq_m1, ds_m2_eq, ds_eq_m2, ds_m1_le, ds_le_m1, ds_m1_lt, ds_lt_m1, ds_in_N, ds_bo0, ds_bo1, if_pos, if_neg, Nat.not_le, Nat.not_lt, not_true_eq_false, not_false_eq_true, if_true, if_false, ne_eq, Option.some.injEq, Prod.mk.injEq, Value.int.injEq, true_and, and_true, and_self, ite_self, Bool.not_eq_true, Bool.not_eq_false, Bool.true_eq_false, Bool.false_eq_true, reduceCtorEq, Nat.zero_add, Nat.reduceAdd, Nat.reduceMul, Nat.reduceSub, ds_setI_row, ds_setL_row, ds_rowI_self, ds_rowI_ne, ds_rowI_2, ds_rowI_rowI, ds_setS_1, ds_setS_21, ds_setS_self, ds_setS_ne, pk_us, pk_un, r0, t4, s1, rm, hsg, hn, decide_true, m4, s2, mrm, q]
            exact i
          · by_cases q2 : nI j = x
            · refine .inl ⟨k, ?_, ?_⟩
              · rw [b_Sea_led_4]
                generalize D 0 0 * D 0 1 = R at *
                simp (disch := first | assumption | omega) only [ds_cI, ds_cV, ds_cL, ds_cR, ds_nn, ds_isK_t, ds_isA_t, ds_chk_t, ds_chkN, ds_nz_t, ds_nzN, ds_isB_t, ds_isB_bo, ↓dl_m1, ↓dl_m2, dl_0, dl_1, dl_2, dl_3, dl_4, dl_5, dl_6, dl_7, dl_8, dl_9, dl_10, dl_11, dl_12, dl_13, dl_14, dl_15, dl_16, dl_20, dl_24, dl_31, dl_50, dl_57, dl_67, dl_68, dl_74, dl_75, dl_79, dl_80, dl_99, dl_100, dl_200, dl_210, dl_224, dl_255, dl_289, dl_900, dl_1000, dl_1728, dl_65536, dl_65537, nI_add, pk_mul, pk_sub, pk_div, pk_rem, ds_rem2, nI_clamp, nI_leI, nI_ltI, nI_eq, ds_m1_eq, ds_eq_m1, ds_m2_eq, ds_eq_m2, ds_m1_le, ds_le_m1, ds_m1_lt, ds_lt_m1, ds_in_N, ds_bo0, ds_bo1, if_pos, if_neg, Nat.not_le, Nat.not_lt, not_true_eq_false, not_false_eq_true, if_true, if_false, ne_eq, Option.some.injEq, Prod.mk.injEq, Value.int.injEq, true_and, and_true, and_self, ite_self, Bool.not_eq_true, Bool.not_eq_false, Bool.true_eq_false, Bool.false_eq_true, reduceCtorEq, Nat.zero_add, Nat.reduceAdd, Nat.reduceMul, Nat.reduceSub, ds_setI_row, ds_setL_row, ds_rowI_self, ds_rowI_ne, ds_rowI_2, ds_rowI_rowI, ds_setS_1, ds_setS_21, ds_setS_self, ds_setS_ne, pk_us, pk_un, r0, t4, s1, rm, q, q2]
              · rw [b_Mod_led_4]
                generalize D 0 0 * D 0 1 = R at *
                simp (disch := first | assumption | omega) only [ds_cI, ds_cV, ds_cL, ds_cR, ds_nn, ds_isK_t, ds_isA_t, ds_chk_t, ds_chkN, ds_nz_t, ds_nzN, ds_isB_t, ds_isB_bo, ↓dl_m1, ↓dl_m2, dl_0, dl_1, dl_2, dl_3, dl_4, dl_5, dl_6, dl_7, dl_8, dl_9, dl_10, dl_11, dl_12, dl_13, dl_14, dl_15, dl_16, dl_20, dl_24, dl_31, dl_50, dl_57, dl_67, dl_68, dl_74, dl_75, dl_79, dl_80, dl_99, dl_100, dl_200, dl_210, dl_224, dl_255, dl_289, dl_900, dl_1000, dl_1728, dl_65536, dl_65537, nI_add, pk_mul, pk_sub, pk_div, pk_rem, ds_rem2, nI_clamp, nI_leI, nI_ltI, nI_eq, ds_m1_eq, ds_eq_m1, ds_m2_eq, ds_eq_m2, ds_m1_le, ds_le_m1, ds_m1_lt, ds_lt_m1, ds_in_N, ds_bo0, ds_bo1, if_pos, if_neg, Nat.not_le, Nat.not_lt, not_true_eq_false, not_false_eq_true, if_true, if_false, ne_eq, Option.some.injEq, Prod.mk.injEq, Value.int.injEq, true_and, and_true, and_self, ite_self, Bool.not_eq_true, Bool.not_eq_false, Bool.true_eq_false, Bool.false_eq_true, reduceCtorEq, Nat.zero_add, Nat.reduceAdd, Nat.reduceMul, Nat.reduceSub, ds_setI_row, ds_setL_row, ds_rowI_self, ds_rowI_ne, ds_rowI_2, ds_rowI_rowI, ds_setS_1, ds_setS_21, ds_setS_self, ds_setS_ne, pk_us, pk_un, hsg, hn, decide_true, m4, s2, mrm, q, q2]
            · have i := ih (k + 1) (j + 1) (by omega) (by omega)
              rw [b_Sea_led_4, b_Mod_led_4]
              generalize D 0 0 * D 0 1 = R at *
              simp (disch := first | assumption | omega) only [ds_cI, ds_cV, ds_cL, ds_cR, ds_nn, ds_isK_t, ds_isA_t, ds_chk_t, ds_chkN, ds_nz_t, ds_nzN, ds_isB_t, ds_isB_bo, ↓dl_m1, ↓dl_m2, dl_0, dl_1, dl_2, dl_3, dl_4, dl_5, dl_6, dl_7, dl_8, dl_9, dl_10, dl_11, dl_12, dl_13, dl_14, dl_15, dl_16, dl_20, dl_24, dl_31, dl_50, dl_57, dl_67, dl_68, dl_74, dl_75, dl_79, dl_80, dl_99, dl_100, dl_200, dl_210, dl_224, dl_255, dl_289, dl_900, dl_1000, dl_1728, dl_65536, dl_65537, nI_add, pk_mul, pk_sub, pk_div, pk_rem, ds_rem2, nI_clamp, nI_leI, nI_ltI, nI_eq, ds_m1_eq, ds_eq_m1, ds_m2_eq, ds_eq_m2, ds_m1_le, ds_le_m1, ds_m1_lt, ds_lt_m1, ds_in_N, ds_bo0, ds_bo1, if_pos, if_neg, Nat.not_le, Nat.not_lt, not_true_eq_false, not_false_eq_true, if_true, if_false, ne_eq, Option.some.injEq, Prod.mk.injEq, Value.int.injEq, true_and, and_true, and_self, ite_self, Bool.not_eq_true, Bool.not_eq_false, Bool.true_eq_false, Bool.false_eq_true, reduceCtorEq, Nat.zero_add, Nat.reduceAdd, Nat.reduceMul, Nat.reduceSub, ds_setI_row, ds_setL_row, ds_rowI_self, ds_rowI_ne, ds_rowI_2, ds_rowI_rowI, ds_setS_1, ds_setS_21, ds_setS_self, ds_setS_ne, pk_us, pk_un, r0, t4, s1, rm, hsg, hn, decide_true, m4, s2, mrm, q, q2]
              exact i
        · have s1 := s_placeOf_n (d + 17) 61 (K 12) (D 0 4) k z K (dk_HC_dk hC hK) n12 (by omega) hno
          have s2 := s_placeIn_n (d + 18) 95 (K 12) (D 0 4) k y K (dk_HM_dm hM hK) n12 (by omega) hno
          have i := ih (k + 1) j (by omega) (by omega)
          rw [b_Sea_led_4, b_Mod_led_4]
          generalize D 0 0 * D 0 1 = R at *
          simp (disch := first | assumption | omega) only [ds_cI, ds_cV, ds_cL, ds_cR, ds_nn, ds_isK_t, ds_isA_t, ds_chk_t, ds_chkN, ds_nz_t, ds_nzN, ds_isB_t, ds_isB_bo, ↓dl_m1, ↓dl_m2, dl_0, dl_1, dl_2, dl_3, dl_4, dl_5, dl_6, dl_7, dl_8, dl_9, dl_10, dl_11, dl_12, dl_13, dl_14, dl_15, dl_16, dl_20, dl_24, dl_31, dl_50, dl_57, dl_67, dl_68, dl_74, dl_75, dl_79, dl_80, dl_99, dl_100, dl_200, dl_210, dl_224, dl_255, dl_289, dl_900, dl_1000, dl_1728, dl_65536, dl_65537, nI_add, pk_mul, pk_sub, pk_div, pk_rem, ds_rem2, nI_clamp, nI_leI, nI_ltI, nI_eq, ds_m1_eq, ds_eq_m1, ds_m2_eq, ds_eq_m2, ds_m1_le, ds_le_m1, ds_m1_lt, ds_lt_m1, ds_in_N, ds_bo0, ds_bo1, if_pos, if_neg, Nat.not_le, Nat.not_lt, not_true_eq_false, not_false_eq_true, if_true, if_false, ne_eq, Option.some.injEq, Prod.mk.injEq, Value.int.injEq, true_and, and_true, and_self, ite_self, Bool.not_eq_true, Bool.not_eq_false, Bool.true_eq_false, Bool.false_eq_true, reduceCtorEq, Nat.zero_add, Nat.reduceAdd, Nat.reduceMul, Nat.reduceSub, ds_setI_row, ds_setL_row, ds_rowI_self, ds_rowI_ne, ds_rowI_2, ds_rowI_rowI, ds_setS_1, ds_setS_21, ds_setS_self, ds_setS_ne, pk_us, pk_un, r0, t4, s1, rm, hsg, hn, decide_true, m4, s2, mrm, ds_le_m2, ds_m1_lt]
          exact i
    exact go (D 0 4) 0 0 (by omega) (by omega)
  · have h4 := h0 4 (by decide)
    rw [h4] at t4 hsg
    refine .inr ⟨?_, ?_⟩
    · rw [b_Sea_led_4]
      simp (disch := first | assumption | omega) only [ds_cI, ds_cV, ds_cL, ds_cR, ds_nn, ds_isK_t, ds_isA_t, ds_chk_t, ds_chkN, ds_nz_t, ds_nzN, ds_isB_t, ds_isB_bo, ↓dl_m1, ↓dl_m2, dl_0, dl_1, dl_2, dl_3, dl_4, dl_5, dl_6, dl_7, dl_8, dl_9, dl_10, dl_11, dl_12, dl_13, dl_14, dl_15, dl_16, dl_20, dl_24, dl_31, dl_50, dl_57, dl_67, dl_68, dl_74, dl_75, dl_79, dl_80, dl_99, dl_100, dl_200, dl_210, dl_224, dl_255, dl_289, dl_900, dl_1000, dl_1728, dl_65536, dl_65537, nI_add, pk_mul, pk_sub, pk_div, pk_rem, ds_rem2, nI_clamp, nI_leI, nI_ltI, nI_eq, ds_m1_eq, ds_eq_m1, ds_m2_eq, ds_eq_m2, ds_m1_le, ds_le_m1, ds_m1_lt, ds_lt_m1, ds_in_N, ds_bo0, ds_bo1, if_pos, if_neg, Nat.not_le, Nat.not_lt, not_true_eq_false, not_false_eq_true, if_true, if_false, ne_eq, Option.some.injEq, Prod.mk.injEq, Value.int.injEq, true_and, and_true, and_self, ite_self, Bool.not_eq_true, Bool.not_eq_false, Bool.true_eq_false, Bool.false_eq_true, reduceCtorEq, Nat.zero_add, Nat.reduceAdd, Nat.reduceMul, Nat.reduceSub, ds_setI_row, ds_setL_row, ds_rowI_self, ds_rowI_ne, ds_rowI_2, ds_rowI_rowI, ds_setS_1, ds_setS_21, ds_setS_self, ds_setS_ne, pk_us, pk_un, r0, t4]
    · rw [b_Mod_led_4]
      simp (disch := first | assumption | omega) only [ds_cI, ds_cV, ds_cL, ds_cR, ds_nn, ds_isK_t, ds_isA_t, ds_chk_t, ds_chkN, ds_nz_t, ds_nzN, ds_isB_t, ds_isB_bo, ↓dl_m1, ↓dl_m2, dl_0, dl_1, dl_2, dl_3, dl_4, dl_5, dl_6, dl_7, dl_8, dl_9, dl_10, dl_11, dl_12, dl_13, dl_14, dl_15, dl_16, dl_20, dl_24, dl_31, dl_50, dl_57, dl_67, dl_68, dl_74, dl_75, dl_79, dl_80, dl_99, dl_100, dl_200, dl_210, dl_224, dl_255, dl_289, dl_900, dl_1000, dl_1728, dl_65536, dl_65537, nI_add, pk_mul, pk_sub, pk_div, pk_rem, ds_rem2, nI_clamp, nI_leI, nI_ltI, nI_eq, ds_m1_eq, ds_eq_m1, ds_m2_eq, ds_eq_m2, ds_m1_le, ds_le_m1, ds_m1_lt, ds_lt_m1, ds_in_N, ds_bo0, ds_bo1, if_pos, if_neg, Nat.not_le, Nat.not_lt, not_true_eq_false, not_false_eq_true, if_true, if_false, ne_eq, Option.some.injEq, Prod.mk.injEq, Value.int.injEq, true_and, and_true, and_self, ite_self, Bool.not_eq_true, Bool.not_eq_false, Bool.true_eq_false, Bool.false_eq_true, reduceCtorEq, Nat.zero_add, Nat.reduceAdd, Nat.reduceMul, Nat.reduceSub, ds_setI_row, ds_setL_row, ds_rowI_self, ds_rowI_ne, ds_rowI_2, ds_rowI_rowI, ds_setS_1, ds_setS_21, ds_setS_self, ds_setS_ne, pk_us, pk_un, hsg, Nat.lt_irrefl, decide_false]

theorem dw_InvL {z : ds_St} (p k : Nat) (v : Int64) (h : dk_Inv z) : dk_Inv (ds_setL z p k v) := h
theorem dw_HML {z : ds_St} (p k : Nat) (v : Int64) {D : Nat → Nat → Nat} {K : Nat → Nat} (h : dk_HM z D K) : dk_HM (ds_setL z p k v) D K := h
/-- the pure side of what follows led's answer -/
theorem l_led (L i : Nat) (xs : Nat → Int32) (z : ds_St) (hL : L ≤ 3072) (hi : i + 6 ≤ L) (h : dk_Inv z) : (∃ j z', ds_call 20 j_Sea_led [.ref 0, .int (xs (i + 1))] z = some (some (.int (nI j)), z) ∧ ds_Rw ds_c_LawL [] (dw_cl L xs 0) 1750 (dw_lv (nI i)) [.int (nI 0)] (ds_setL z 111 0 (nI j).toInt64) = some (some (.int (nI i)), z') ∧ dk_Inv z') ∨ (∃ z', ds_Rw ds_c_Sea_led ds_u_Sea_led (ds_call 19) 0 [some (.ref 0), some (.int (xs (i + 1))), none, none] [] z = some (some .null, z) ∧ ds_Rw ds_c_LawL [] (dw_cl L xs 0) 1750 (dw_lv (nI i)) [.int (nI 1)] z = some (some (.int (nI i)), z') ∧ dk_Inv z') := by
  rcases k_led 0 (xs (i + 1)) z h with ⟨j, z2, a1, a2, a3, a4⟩ | ⟨z2, a1, a2, a3, a4⟩
  · refine .inl ⟨j, ?_⟩
    rcases k_led2 0 (xs (i + 1)) z (ds_setL z 111 0 (nI j).toInt64) h (dw_InvL 111 0 _ h) (fun D K hh => dw_HML 111 0 _ hh) with ⟨j2, y2, b1, b2, b3, b4⟩ | ⟨y2, b1, b2, b3, b4⟩
    · have e : nI j2 = nI j := by
        have := b1.symm.trans a1
        simpa using this
      rw [e] at b2
      refine ⟨y2, a1, ?_, b3⟩
      unfold dw_lv
      rw [b_LawL_1750]
      simp only [dl_1, nI_add]
      refine dw_cI (dw_99 L xs 0 (i + 1) _ (by omega) (by omega)) ?_
      refine dw_cI ((dw_co L xs 0 _ _ _ (by decide)).trans b2) ?_
      refine dw_cI ((dw_co L xs 0 _ _ _ (by decide)).trans (s_thrown 19 y2)) ?_
      have t0 : y2.1 90 0 = nI 0 := by rw [b4, ds_rowI_self, pk_us]
      have t1 : y2.2.1 111 0 = (nI j).toInt64 := by
        rw [b4]
        show (ds_setL z 111 0 (nI j).toInt64).2.1 111 0 = _
        simp [ds_setL, vp_updL]
      refine (if_pos t0).trans ?_
      refine (if_neg (fun q => q rfl)).trans ?_
      exact if_pos (by rw [t1]; exact dw_cmp _)
    · exfalso
      have c1 : ds_call 20 j_Sea_led [.ref 0, .int (xs (i + 1))] z = none := by
        rw [c_Sea_led, b1]
        rfl
      rw [c1] at a1
      cases a1
  · refine .inr ⟨z2, a1, ?_, a3⟩
    unfold dw_lv
    rw [b_LawL_1750]
    simp only [dl_1, nI_add]
    refine dw_cI (dw_99 L xs 0 (i + 1) _ (by omega) (by omega)) ?_
    refine dw_cI ((dw_co L xs 0 _ _ _ (by decide)).trans a2) ?_
    refine dw_cI ((dw_co L xs 0 _ _ _ (by decide)).trans (s_thrown 19 z2)) ?_
    have t0 : z2.1 90 0 = nI 1 := by rw [a4, ds_rowI_self, pk_us]
    refine (if_pos t0).trans ?_
    exact if_pos (by decide)
