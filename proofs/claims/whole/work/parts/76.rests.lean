theorem s_restsOf (d g o n : Nat) (G : Nat → Nat → Int32) (z : ds_St) (D : Nat → Nat → Nat) (K : Nat → Nat) (hM : dk_HM z D K) (hD : dk_ok D) (hK : dk_okK D K) (hn : n = K 12 + 2) (hG : ∀ a b z, a < n → b < n → dk_HM z D K → ∃ z', ds_call (d + 6) j_Mod_gainOf [.ref 90, .int (nI g), .int (nI o), .int (nI a), .int (nI b)] z = some (some (.int (G a b)), z') ∧ dk_fm z z' ∧ z'.1 110 = z.1 110 ∧ z'.1 90 = z.1 90) : ∃ z', ds_call (d + 7) j_Mod_restsOf [.ref 90, .int (nI g), .int (nI o)] z = some (some (.int (nI (dk_r1 (dk_rs G n) n n).1)), z') ∧ dk_fm z z' ∧ z'.1 90 41 = (dk_r1 (dk_rs G n) n n).2 := by
  obtain ⟨k2, k12, km, ki⟩ := dk_mo_K hD hK
  have mvz : ∀ z, dk_HM z D K → ds_call (d + 6) j_Mod_movesOf [.ref 90, .ref 95] z = some (some (.int (nI n)), z) := by
    intro z hM
    have mv := s_mmovesOf (d + 5) (K 12) 95 z rfl rfl (dk_HM_dm hM hK).2.1
    rw [← hn] at mv
    exact mv
  have inner : ∀ m b a z, b + m = n → a < n → dk_HM z D K → (∀ a' b', a' < n → b' < n → a' < a ∨ (a' = a ∧ b' < b) → z.1 110 (14 * a' + b') = G a' b') → ∃ z', ds_Rw ds_c_Mod_restsOf ds_u_Mod_restsOf (ds_call (d + 6)) 17 [some (.ref 90), some (.int (nI g)), some (.int (nI o)), some (.int (nI a)), some (.int (nI b)), none] [] z = ds_Rw ds_c_Mod_restsOf ds_u_Mod_restsOf (ds_call (d + 6)) 2 [some (.ref 90), some (.int (nI g)), some (.int (nI o)), some (.int (nI ((a + 1)))), none, none] [] z' ∧ dk_fm z z' ∧ (∀ a' b', a' < n → b' < n → a' < a + 1 → z'.1 110 (14 * a' + b') = G a' b') := by
    intro m
    induction m with
    | zero =>
      intro b a z hb ha hM hg
      have mv := mvz z hM
      refine ⟨z, ?_, dk_fm_refl _, fun a' b' h1 h2 h3 => hg a' b' h1 h2 (by omega)⟩
      rw [b_Mod_restsOf_17]
      simp (disch := first | assumption | omega) only [ds_cI, ds_cV, ds_cL, ds_cR, ds_nn, ds_isK_t, ds_isA_t, ds_chk_t, ds_chkN, ds_nz_t, ds_nzN, ds_isB_t, ds_isB_bo, ↓dl_m1, ↓dl_m2, dl_0, dl_1, dl_2, dl_3, dl_4, dl_5, dl_6, dl_7, dl_8, dl_9, dl_10, dl_11, dl_12, dl_13, dl_14, dl_15, dl_16, dl_20, dl_24, dl_31, dl_50, dl_57, dl_67, dl_68, dl_74, dl_75, dl_79, dl_80, dl_99, dl_100, dl_200, dl_210, dl_224, dl_255, dl_289, dl_900, dl_1000, dl_1728, dl_65536, dl_65537, nI_add, pk_mul, pk_sub, pk_div, pk_rem, ds_rem2, nI_clamp, nI_leI, nI_ltI, nI_eq, ds_m1_eq, ds_eq_m1, ds_m2_eq, ds_eq_m2, ds_m1_le, ds_le_m1, ds_m1_lt, ds_lt_m1, ds_in_N, ds_bo0, ds_bo1, if_pos, if_neg, Nat.not_le, Nat.not_lt, not_true_eq_false, not_false_eq_true, if_true, if_false, ne_eq, Option.some.injEq, Prod.mk.injEq, Value.int.injEq, true_and, and_true, and_self, ite_self, Bool.not_eq_true, Bool.not_eq_false, Bool.true_eq_false, Bool.false_eq_true, reduceCtorEq, Nat.zero_add, Nat.reduceAdd, Nat.reduceMul, Nat.reduceSub, ds_setI_row, ds_setL_row, ds_rowI_self, ds_rowI_ne, ds_rowI_2, ds_rowI_rowI, ds_setS_1, ds_setS_21, ds_setS_self, ds_setS_ne, pk_us, pk_un, mv]
    | succ m ih =>
      intro b a z hb ha hM hg
      have mv := mvz z hM
      obtain ⟨z1, s1, s2, s3, s4⟩ := hG a b z ha (by omega) hM
      let z2 := ds_rowI z1 110 (upd (z1.1 110) (14 * a + b) (G a b))
      have f2 : dk_fm z z2 := dk_fm_row _ s2 (by decide)
      have hg2 : ∀ a' b', a' < n → b' < n → a' < a ∨ (a' = a ∧ b' < b + 1) → z2.1 110 (14 * a' + b') = G a' b' := by
        intro a' b' h1 h2 h3
        simp only [z2]
        rw [ds_rowI_self]
        by_cases h : a' = a ∧ b' = b
        · rw [h.1, h.2, pk_us]
        · rw [pk_un (by omega), s3]
          exact hg a' b' h1 h2 (by omega)
      obtain ⟨z3, q1, q2, q3⟩ := ih (b + 1) a z2 (by omega) ha (dk_HM_fm hM f2) hg2
      refine ⟨z3, ?_, dk_fm_trans f2 q2, q3⟩
      have ez : ds_rowI z1 110 (upd (z1.1 110) (14 * a + b) (G a b)) = z2 := rfl
      clear_value z2
      rw [← q1, b_Mod_restsOf_17]
      simp (disch := first | assumption | omega) only [ds_cI, ds_cV, ds_cL, ds_cR, ds_nn, ds_isK_t, ds_isA_t, ds_chk_t, ds_chkN, ds_nz_t, ds_nzN, ds_isB_t, ds_isB_bo, ↓dl_m1, ↓dl_m2, dl_0, dl_1, dl_2, dl_3, dl_4, dl_5, dl_6, dl_7, dl_8, dl_9, dl_10, dl_11, dl_12, dl_13, dl_14, dl_15, dl_16, dl_20, dl_24, dl_31, dl_50, dl_57, dl_67, dl_68, dl_74, dl_75, dl_79, dl_80, dl_99, dl_100, dl_200, dl_210, dl_224, dl_255, dl_289, dl_900, dl_1000, dl_1728, dl_65536, dl_65537, nI_add, pk_mul, pk_sub, pk_div, pk_rem, ds_rem2, nI_clamp, nI_leI, nI_ltI, nI_eq, ds_m1_eq, ds_eq_m1, ds_m2_eq, ds_eq_m2, ds_m1_le, ds_le_m1, ds_m1_lt, ds_lt_m1, ds_in_N, ds_bo0, ds_bo1, if_pos, if_neg, Nat.not_le, Nat.not_lt, not_true_eq_false, not_false_eq_true, if_true, if_false, ne_eq, Option.some.injEq, Prod.mk.injEq, Value.int.injEq, true_and, and_true, and_self, ite_self, Bool.not_eq_true, Bool.not_eq_false, Bool.true_eq_false, Bool.false_eq_true, reduceCtorEq, Nat.zero_add, Nat.reduceAdd, Nat.reduceMul, Nat.reduceSub, ds_setI_row, ds_setL_row, ds_rowI_self, ds_rowI_ne, ds_rowI_2, ds_rowI_rowI, ds_setS_1, ds_setS_21, ds_setS_self, ds_setS_ne, pk_us, pk_un, mv, s1, ez]
  have outer : ∀ m a z, a + m = n → dk_HM z D K → (∀ a' b', a' < n → b' < n → a' < a → z.1 110 (14 * a' + b') = G a' b') → ∃ z', ds_Rw ds_c_Mod_restsOf ds_u_Mod_restsOf (ds_call (d + 6)) 2 [some (.ref 90), some (.int (nI g)), some (.int (nI o)), some (.int (nI a)), none, none] [] z = ds_Rw ds_c_Mod_restsOf ds_u_Mod_restsOf (ds_call (d + 6)) 74 [some (.ref 90), none, none, some (.int (nI 0)), some (.int (nI 0)), none] [] (ds_rowI z' 90 (upd (z'.1 90) 41 ds_m2)) ∧ dk_fm z z' ∧ ∀ a b, a < n → b < n → z'.1 110 (14 * a + b) = G a b := by
    intro m
    induction m with
    | zero =>
      intro a z ha hM hg
      have mv := mvz z hM
      refine ⟨z, ?_, dk_fm_refl _, fun a' b' h1 h2 => hg a' b' h1 h2 (by omega)⟩
      rw [b_Mod_restsOf_2]
      simp (disch := first | assumption | omega) only [ds_cI, ds_cV, ds_cL, ds_cR, ds_nn, ds_isK_t, ds_isA_t, ds_chk_t, ds_chkN, ds_nz_t, ds_nzN, ds_isB_t, ds_isB_bo, ↓dl_m1, ↓dl_m2, dl_0, dl_1, dl_2, dl_3, dl_4, dl_5, dl_6, dl_7, dl_8, dl_9, dl_10, dl_11, dl_12, dl_13, dl_14, dl_15, dl_16, dl_20, dl_24, dl_31, dl_50, dl_57, dl_67, dl_68, dl_74, dl_75, dl_79, dl_80, dl_99, dl_100, dl_200, dl_210, dl_224, dl_255, dl_289, dl_900, dl_1000, dl_1728, dl_65536, dl_65537, nI_add, pk_mul, pk_sub, pk_div, pk_rem, ds_rem2, nI_clamp, nI_leI, nI_ltI, nI_eq, ds_m1_eq, ds_eq_m1, ds_m2_eq, ds_eq_m2, ds_m1_le, ds_le_m1, ds_m1_lt, ds_lt_m1, ds_in_N, ds_bo0, ds_bo1, if_pos, if_neg, Nat.not_le, Nat.not_lt, not_true_eq_false, not_false_eq_true, if_true, if_false, ne_eq, Option.some.injEq, Prod.mk.injEq, Value.int.injEq, true_and, and_true, and_self, ite_self, Bool.not_eq_true, Bool.not_eq_false, Bool.true_eq_false, Bool.false_eq_true, reduceCtorEq, Nat.zero_add, Nat.reduceAdd, Nat.reduceMul, Nat.reduceSub, ds_setI_row, ds_setL_row, ds_rowI_self, ds_rowI_ne, ds_rowI_2, ds_rowI_rowI, ds_setS_1, ds_setS_21, ds_setS_self, ds_setS_ne, pk_us, pk_un, mv]
    | succ m ih =>
      intro a z ha hM hg
      have mv := mvz z hM
      obtain ⟨z1, s1, s2, s3⟩ := inner n 0 a z (by omega) (by omega) hM (fun a' b' h1 h2 h3 => hg a' b' h1 h2 (by omega))
      obtain ⟨z2, q1, q2, q3⟩ := ih (a + 1) z1 (by omega) (dk_HM_fm hM s2) s3
      refine ⟨z2, ?_, dk_fm_trans s2 q2, q3⟩
      rw [← q1, b_Mod_restsOf_2]
      simp (disch := first | assumption | omega) only [ds_cI, ds_cV, ds_cL, ds_cR, ds_nn, ds_isK_t, ds_isA_t, ds_chk_t, ds_chkN, ds_nz_t, ds_nzN, ds_isB_t, ds_isB_bo, ↓dl_m1, ↓dl_m2, dl_0, dl_1, dl_2, dl_3, dl_4, dl_5, dl_6, dl_7, dl_8, dl_9, dl_10, dl_11, dl_12, dl_13, dl_14, dl_15, dl_16, dl_20, dl_24, dl_31, dl_50, dl_57, dl_67, dl_68, dl_74, dl_75, dl_79, dl_80, dl_99, dl_100, dl_200, dl_210, dl_224, dl_255, dl_289, dl_900, dl_1000, dl_1728, dl_65536, dl_65537, nI_add, pk_mul, pk_sub, pk_div, pk_rem, ds_rem2, nI_clamp, nI_leI, nI_ltI, nI_eq, ds_m1_eq, ds_eq_m1, ds_m2_eq, ds_eq_m2, ds_m1_le, ds_le_m1, ds_m1_lt, ds_lt_m1, ds_in_N, ds_bo0, ds_bo1, if_pos, if_neg, Nat.not_le, Nat.not_lt, not_true_eq_false, not_false_eq_true, if_true, if_false, ne_eq, Option.some.injEq, Prod.mk.injEq, Value.int.injEq, true_and, and_true, and_self, ite_self, Bool.not_eq_true, Bool.not_eq_false, Bool.true_eq_false, Bool.false_eq_true, reduceCtorEq, Nat.zero_add, Nat.reduceAdd, Nat.reduceMul, Nat.reduceSub, ds_setI_row, ds_setL_row, ds_rowI_self, ds_rowI_ne, ds_rowI_2, ds_rowI_rowI, ds_setS_1, ds_setS_21, ds_setS_self, ds_setS_ne, pk_us, pk_un, mv, s1]
  have in2 : ∀ m b a z, b + m = n → a < n → dk_HM z D K → (∀ a b, a < n → b < n → z.1 110 (14 * a + b) = G a b) → z.1 90 41 = (dk_r2 (dk_rs G n) a (dk_r1 (dk_rs G n) n a) b).2 → (dk_r2 (dk_rs G n) a (dk_r1 (dk_rs G n) n a) b).1 ≤ 1000 + b → ∃ z', ds_Rw ds_c_Mod_restsOf ds_u_Mod_restsOf (ds_call (d + 6)) 90 [some (.ref 90), none, none, some (.int (nI ((dk_r2 (dk_rs G n) a (dk_r1 (dk_rs G n) n a) b).1))), some (.int (nI a)), some (.int (nI b))] [] z = ds_Rw ds_c_Mod_restsOf ds_u_Mod_restsOf (ds_call (d + 6)) 74 [some (.ref 90), none, none, some (.int (nI ((dk_r1 (dk_rs G n) n (a + 1)).1))), some (.int (nI ((a + 1)))), none] [] z' ∧ dk_fm z z' ∧ z'.1 110 = z.1 110 ∧ z'.1 90 41 = (dk_r1 (dk_rs G n) n (a + 1)).2 := by
    intro m
    induction m with
    | zero =>
      intro b a z hb ha hM hg e1 hl
      have : b = n := by omega
      subst this
      have mv := mvz z hM
      refine ⟨z, ?_, dk_fm_refl _, rfl, e1⟩
      have e : dk_r1 (dk_rs G b) b (a + 1) = dk_r2 (dk_rs G b) a (dk_r1 (dk_rs G b) b a) b := rfl
      rw [b_Mod_restsOf_90, e]
      generalize (dk_r2 (dk_rs G b) a (dk_r1 (dk_rs G b) b a) b) = s at *
      simp (disch := first | assumption | omega) only [ds_cI, ds_cV, ds_cL, ds_cR, ds_nn, ds_isK_t, ds_isA_t, ds_chk_t, ds_chkN, ds_nz_t, ds_nzN, ds_isB_t, ds_isB_bo, ↓dl_m1, ↓dl_m2, dl_0, dl_1, dl_2, dl_3, dl_4, dl_5, dl_6, dl_7, dl_8, dl_9, dl_10, dl_11, dl_12, dl_13, dl_14, dl_15, dl_16, dl_20, dl_24, dl_31, dl_50, dl_57, dl_67, dl_68, dl_74, dl_75, dl_79, dl_80, dl_99, dl_100, dl_200, dl_210, dl_224, dl_255, dl_289, dl_900, dl_1000, dl_1728, dl_65536, dl_65537, nI_add, pk_mul, pk_sub, pk_div, pk_rem, ds_rem2, nI_clamp, nI_leI, nI_ltI, nI_eq, ds_m1_eq, ds_eq_m1, ds_m2_eq, ds_eq_m2, ds_m1_le, ds_le_m1, ds_m1_lt, ds_lt_m1, ds_in_N, ds_bo0, ds_bo1, if_pos, if_neg, Nat.not_le, Nat.not_lt, not_true_eq_false, not_false_eq_true, if_true, if_false, ne_eq, Option.some.injEq, Prod.mk.injEq, Value.int.injEq, true_and, and_true, and_self, ite_self, Bool.not_eq_true, Bool.not_eq_false, Bool.true_eq_false, Bool.false_eq_true, reduceCtorEq, Nat.zero_add, Nat.reduceAdd, Nat.reduceMul, Nat.reduceSub, ds_setI_row, ds_setL_row, ds_rowI_self, ds_rowI_ne, ds_rowI_2, ds_rowI_rowI, ds_setS_1, ds_setS_21, ds_setS_self, ds_setS_ne, pk_us, pk_un, mv]
    | succ m ih =>
      intro b a z hb ha hM hg e1 hl
      have mv := mvz z hM
      have sR := s_isRestM (d + 4) n a b G z (by omega) (by omega) ha (by omega) (by rw [(dk_HM_dm hM hK).2.1]; congr 1; omega) hg
      have e : dk_r2 (dk_rs G n) a (dk_r1 (dk_rs G n) n a) (b + 1) = dk_r0 (dk_rs G n) a b (dk_r2 (dk_rs G n) a (dk_r1 (dk_rs G n) n a) b) := rfl
      have hl2 : (dk_r2 (dk_rs G n) a (dk_r1 (dk_rs G n) n a) (b + 1)).1 ≤ 1000 + (b + 1) := by
        rw [e]
        unfold dk_r0
        split
        · show _ + 1 ≤ _
          omega
        · omega
      cases q : dk_rs G n a b
      · have e2 : dk_r2 (dk_rs G n) a (dk_r1 (dk_rs G n) n a) (b + 1) = dk_r2 (dk_rs G n) a (dk_r1 (dk_rs G n) n a) b := by rw [e]; unfold dk_r0; rw [q]; rfl
        obtain ⟨z3, q1, q2, q3, q4⟩ := ih (b + 1) a z (by omega) ha hM hg (by rw [e2]; exact e1) hl2
        refine ⟨z3, ?_, q2, q3, q4⟩
        rw [← q1, e2, b_Mod_restsOf_90]
        rw [q] at sR
        simp (disch := first | assumption | omega) only [ds_cI, ds_cV, ds_cL, ds_cR, ds_nn, ds_isK_t, ds_isA_t, ds_chk_t, ds_chkN, ds_nz_t, ds_nzN, ds_isB_t, ds_isB_bo, ↓dl_m1, ↓dl_m2, dl_0, dl_1, dl_2, dl_3, dl_4, dl_5, dl_6, dl_7, dl_8, dl_9, dl_10, dl_11, dl_12, dl_13, dl_14, dl_15, dl_16, dl_20, dl_24, dl_31, dl_50, dl_57, dl_67, dl_68, dl_74, dl_75, dl_79, dl_80, dl_99, dl_100, dl_200, dl_210, dl_224, dl_255, dl_289, dl_900, dl_1000, dl_1728, dl_65536, dl_65537, nI_add, pk_mul, pk_sub, pk_div, pk_rem, ds_rem2, nI_clamp, nI_leI, nI_ltI, nI_eq, ds_m1_eq, ds_eq_m1, ds_m2_eq, ds_eq_m2, ds_m1_le, ds_le_m1, ds_m1_lt, ds_lt_m1, ds_in_N, ds_bo0, ds_bo1, if_pos, if_neg, Nat.not_le, Nat.not_lt, not_true_eq_false, not_false_eq_true, if_true, if_false, ne_eq, Option.some.injEq, Prod.mk.injEq, Value.int.injEq, true_and, and_true, and_self, ite_self, Bool.not_eq_true, Bool.not_eq_false, Bool.true_eq_false, Bool.false_eq_true, reduceCtorEq, Nat.zero_add, Nat.reduceAdd, Nat.reduceMul, Nat.reduceSub, ds_setI_row, ds_setL_row, ds_rowI_self, ds_rowI_ne, ds_rowI_2, ds_rowI_rowI, ds_setS_1, ds_setS_21, ds_setS_self, ds_setS_ne, pk_us, pk_un, mv, sR]
      · by_cases h0 : (dk_r2 (dk_rs G n) a (dk_r1 (dk_rs G n) n a) b).1 = 0
        · have e2 : dk_r2 (dk_rs G n) a (dk_r1 (dk_rs G n) n a) (b + 1) = (1, nI (100 * a + b)) := by rw [e]; unfold dk_r0; rw [q, h0]; rfl
          let z2 := ds_rowI z 90 (upd (z.1 90) 41 (nI (100 * a + b)))
          have f2 : dk_fm z z2 := dk_fm_fld _ (dk_fm_refl z) (by decide)
          have g110 : z2.1 110 = z.1 110 := ds_rowI_ne _ _ (by decide)
          obtain ⟨z3, q1, q2, q3, q4⟩ := ih (b + 1) a z2 (by omega) ha (dk_HM_fm hM f2) (by rw [g110]; exact hg) (by rw [e2]; simp only [z2]; rw [ds_rowI_self, pk_us]) hl2
          refine ⟨z3, ?_, dk_fm_trans f2 q2, q3.trans g110, q4⟩
          have ez : ds_rowI z 90 (upd (z.1 90) 41 (nI (100 * a + b))) = z2 := rfl
          clear_value z2
          rw [← q1, e2, h0, b_Mod_restsOf_90]
          rw [q] at sR
          simp (disch := first | assumption | omega) only [ds_cI, ds_cV, ds_cL, ds_cR, ds_nn, ds_isK_t, ds_isA_t, ds_chk_t, ds_chkN, ds_nz_t, ds_nzN, ds_isB_t, ds_isB_bo, ↓dl_m1, ↓dl_m2, dl_0, dl_1, dl_2, dl_3, dl_4, dl_5, dl_6, dl_7, dl_8, dl_9, dl_10, dl_11, dl_12, dl_13, dl_14, dl_15, dl_16, dl_20, dl_24, dl_31, dl_50, dl_57, dl_67, dl_68, dl_74, dl_75, dl_79, dl_80, dl_99, dl_100, dl_200, dl_210, dl_224, dl_255, dl_289, dl_900, dl_1000, dl_1728, dl_65536, dl_65537, nI_add, pk_mul, pk_sub, pk_div, pk_rem, ds_rem2, nI_clamp, nI_leI, nI_ltI, nI_eq, ds_m1_eq, ds_eq_m1, ds_m2_eq, ds_eq_m2, ds_m1_le, ds_le_m1, ds_m1_lt, ds_lt_m1, ds_in_N, ds_bo0, ds_bo1, if_pos, if_neg, Nat.not_le, Nat.not_lt, not_true_eq_false, not_false_eq_true, if_true, if_false, ne_eq, Option.some.injEq, Prod.mk.injEq, Value.int.injEq, true_and, and_true, and_self, ite_self, Bool.not_eq_true, Bool.not_eq_false, Bool.true_eq_false, Bool.false_eq_true, reduceCtorEq, Nat.zero_add, Nat.reduceAdd, Nat.reduceMul, Nat.reduceSub, ds_setI_row, ds_setL_row, ds_rowI_self, ds_rowI_ne, ds_rowI_2, ds_rowI_rowI, ds_setS_1, ds_setS_21, ds_setS_self, ds_setS_ne, pk_us, pk_un, mv, sR, ez]
        · have e2 : dk_r2 (dk_rs G n) a (dk_r1 (dk_rs G n) n a) (b + 1) = ((dk_r2 (dk_rs G n) a (dk_r1 (dk_rs G n) n a) b).1 + 1, (dk_r2 (dk_rs G n) a (dk_r1 (dk_rs G n) n a) b).2) := by rw [e]; unfold dk_r0; rw [q, if_pos rfl, if_neg h0]
          obtain ⟨z3, q1, q2, q3, q4⟩ := ih (b + 1) a z (by omega) ha hM hg (by rw [e2]; exact e1) hl2
          refine ⟨z3, ?_, q2, q3, q4⟩
          rw [← q1, e2, b_Mod_restsOf_90]
          rw [q] at sR
          clear q1 q2 q3 q4 ih e2 e hl2
          generalize dk_r2 (dk_rs G n) a (dk_r1 (dk_rs G n) n a) b = s at *
          simp (disch := first | assumption | omega) only [ds_cI, ds_cV, ds_cL, ds_cR, ds_nn, ds_isK_t, ds_isA_t, ds_chk_t, ds_chkN, ds_nz_t, ds_nzN, ds_isB_t, ds_isB_bo, ↓dl_m1, ↓dl_m2, dl_0, dl_1, dl_2, dl_3, dl_4, dl_5, dl_6, dl_7, dl_8, dl_9, dl_10, dl_11, dl_12, dl_13, dl_14, dl_15, dl_16, dl_20, dl_24, dl_31, dl_50, dl_57, dl_67, dl_68, dl_74, dl_75, dl_79, dl_80, dl_99, dl_100, dl_200, dl_210, dl_224, dl_255, dl_289, dl_900, dl_1000, dl_1728, dl_65536, dl_65537, nI_add, pk_mul, pk_sub, pk_div, pk_rem, ds_rem2, nI_clamp, nI_leI, nI_ltI, nI_eq, ds_m1_eq, ds_eq_m1, ds_m2_eq, ds_eq_m2, ds_m1_le, ds_le_m1, ds_m1_lt, ds_lt_m1, ds_in_N, ds_bo0, ds_bo1, if_pos, if_neg, Nat.not_le, Nat.not_lt, not_true_eq_false, not_false_eq_true, if_true, if_false, ne_eq, Option.some.injEq, Prod.mk.injEq, Value.int.injEq, true_and, and_true, and_self, ite_self, Bool.not_eq_true, Bool.not_eq_false, Bool.true_eq_false, Bool.false_eq_true, reduceCtorEq, Nat.zero_add, Nat.reduceAdd, Nat.reduceMul, Nat.reduceSub, ds_setI_row, ds_setL_row, ds_rowI_self, ds_rowI_ne, ds_rowI_2, ds_rowI_rowI, ds_setS_1, ds_setS_21, ds_setS_self, ds_setS_ne, pk_us, pk_un, mv, sR, h0]
  have out2 : ∀ m a z, a + m = n → dk_HM z D K → (∀ a b, a < n → b < n → z.1 110 (14 * a + b) = G a b) → z.1 90 41 = (dk_r1 (dk_rs G n) n a).2 → (dk_r1 (dk_rs G n) n a).1 ≤ 14 * a → ∃ z', ds_Rw ds_c_Mod_restsOf ds_u_Mod_restsOf (ds_call (d + 6)) 74 [some (.ref 90), none, none, some (.int (nI ((dk_r1 (dk_rs G n) n a).1))), some (.int (nI a)), none] [] z = some (some (.int (nI (dk_r1 (dk_rs G n) n n).1)), z') ∧ dk_fm z z' ∧ z'.1 90 41 = (dk_r1 (dk_rs G n) n n).2 := by
    intro m
    induction m with
    | zero =>
      intro a z ha hM hg e1 hl
      have : a = n := by omega
      subst this
      have mv := mvz z hM
      refine ⟨z, ?_, dk_fm_refl _, e1⟩
      rw [b_Mod_restsOf_74]
      simp (disch := first | assumption | omega) only [ds_cI, ds_cV, ds_cL, ds_cR, ds_nn, ds_isK_t, ds_isA_t, ds_chk_t, ds_chkN, ds_nz_t, ds_nzN, ds_isB_t, ds_isB_bo, ↓dl_m1, ↓dl_m2, dl_0, dl_1, dl_2, dl_3, dl_4, dl_5, dl_6, dl_7, dl_8, dl_9, dl_10, dl_11, dl_12, dl_13, dl_14, dl_15, dl_16, dl_20, dl_24, dl_31, dl_50, dl_57, dl_67, dl_68, dl_74, dl_75, dl_79, dl_80, dl_99, dl_100, dl_200, dl_210, dl_224, dl_255, dl_289, dl_900, dl_1000, dl_1728, dl_65536, dl_65537, nI_add, pk_mul, pk_sub, pk_div, pk_rem, ds_rem2, nI_clamp, nI_leI, nI_ltI, nI_eq, ds_m1_eq, ds_eq_m1, ds_m2_eq, ds_eq_m2, ds_m1_le, ds_le_m1, ds_m1_lt, ds_lt_m1, ds_in_N, ds_bo0, ds_bo1, if_pos, if_neg, Nat.not_le, Nat.not_lt, not_true_eq_false, not_false_eq_true, if_true, if_false, ne_eq, Option.some.injEq, Prod.mk.injEq, Value.int.injEq, true_and, and_true, and_self, ite_self, Bool.not_eq_true, Bool.not_eq_false, Bool.true_eq_false, Bool.false_eq_true, reduceCtorEq, Nat.zero_add, Nat.reduceAdd, Nat.reduceMul, Nat.reduceSub, ds_setI_row, ds_setL_row, ds_rowI_self, ds_rowI_ne, ds_rowI_2, ds_rowI_rowI, ds_setS_1, ds_setS_21, ds_setS_self, ds_setS_ne, pk_us, pk_un, mv]
    | succ m ih =>
      intro a z ha hM hg e1 hl
      have mv := mvz z hM
      have e0 : dk_r2 (dk_rs G n) a (dk_r1 (dk_rs G n) n a) 0 = dk_r1 (dk_rs G n) n a := rfl
      obtain ⟨z1, s1, s2, s3, s4⟩ := in2 n 0 a z (by omega) (by omega) hM hg (by rw [e0]; exact e1) (by rw [e0]; omega)
      have hl2 : (dk_r1 (dk_rs G n) n (a + 1)).1 ≤ 14 * (a + 1) := by
        have : ∀ b, (dk_r2 (dk_rs G n) a (dk_r1 (dk_rs G n) n a) b).1 ≤ 14 * a + b := by
          intro b
          induction b with
          | zero => rw [e0]; omega
          | succ b ihb =>
            simp only [dk_r2, dk_r0]
            split
            · show _ + 1 ≤ _
              omega
            · omega
        have h9 := this n
        show (dk_r2 (dk_rs G n) a (dk_r1 (dk_rs G n) n a) n).1 ≤ _
        omega
      obtain ⟨z2, q1, q2, q3⟩ := ih (a + 1) z1 (by omega) (dk_HM_fm hM s2) (by rw [s3]; exact hg) s4 hl2
      refine ⟨z2, ?_, dk_fm_trans s2 q2, q3⟩
      rw [e0] at s1
      rw [← q1, b_Mod_restsOf_74]
      simp (disch := first | assumption | omega) only [ds_cI, ds_cV, ds_cL, ds_cR, ds_nn, ds_isK_t, ds_isA_t, ds_chk_t, ds_chkN, ds_nz_t, ds_nzN, ds_isB_t, ds_isB_bo, ↓dl_m1, ↓dl_m2, dl_0, dl_1, dl_2, dl_3, dl_4, dl_5, dl_6, dl_7, dl_8, dl_9, dl_10, dl_11, dl_12, dl_13, dl_14, dl_15, dl_16, dl_20, dl_24, dl_31, dl_50, dl_57, dl_67, dl_68, dl_74, dl_75, dl_79, dl_80, dl_99, dl_100, dl_200, dl_210, dl_224, dl_255, dl_289, dl_900, dl_1000, dl_1728, dl_65536, dl_65537, nI_add, pk_mul, pk_sub, pk_div, pk_rem, ds_rem2, nI_clamp, nI_leI, nI_ltI, nI_eq, ds_m1_eq, ds_eq_m1, ds_m2_eq, ds_eq_m2, ds_m1_le, ds_le_m1, ds_m1_lt, ds_lt_m1, ds_in_N, ds_bo0, ds_bo1, if_pos, if_neg, Nat.not_le, Nat.not_lt, not_true_eq_false, not_false_eq_true, if_true, if_false, ne_eq, Option.some.injEq, Prod.mk.injEq, Value.int.injEq, true_and, and_true, and_self, ite_self, Bool.not_eq_true, Bool.not_eq_false, Bool.true_eq_false, Bool.false_eq_true, reduceCtorEq, Nat.zero_add, Nat.reduceAdd, Nat.reduceMul, Nat.reduceSub, ds_setI_row, ds_setL_row, ds_rowI_self, ds_rowI_ne, ds_rowI_2, ds_rowI_rowI, ds_setS_1, ds_setS_21, ds_setS_self, ds_setS_ne, pk_us, pk_un, mv, s1]
  obtain ⟨z1, q1, q2, q3⟩ := outer n 0 z (by omega) hM (fun a' b' h1 h2 h3 => by omega)
  have f2 : dk_fm z (ds_rowI z1 90 (upd (z1.1 90) 41 ds_m2)) := dk_fm_fld _ q2 (by decide)
  obtain ⟨z2, p1, p2, p3⟩ := out2 n 0 _ (by omega) (dk_HM_fm hM f2) (by rw [ds_rowI_ne _ _ (by decide)]; exact q3) (by rw [ds_rowI_self, pk_us]; rfl) (Nat.le_refl _)
  refine ⟨z2, ?_, dk_fm_trans f2 p2, p3⟩
  have p1' : ds_Rw ds_c_Mod_restsOf ds_u_Mod_restsOf (ds_call (d + 6)) 74 [some (.ref 90), none, none, some (.int (nI 0)), some (.int (nI 0)), none] [] (ds_rowI z1 90 (upd (z1.1 90) 41 ds_m2)) = some (some (.int (nI (dk_r1 (dk_rs G n) n n).1)), z2) := p1
  rw [c_Mod_restsOf, b_Mod_restsOf_0]
  simp (disch := first | assumption | omega) only [ds_cI, ds_cV, ds_cL, ds_cR, ds_nn, ds_isK_t, ds_isA_t, ds_chk_t, ds_chkN, ds_nz_t, ds_nzN, ds_isB_t, ds_isB_bo, ↓dl_m1, ↓dl_m2, dl_0, dl_1, dl_2, dl_3, dl_4, dl_5, dl_6, dl_7, dl_8, dl_9, dl_10, dl_11, dl_12, dl_13, dl_14, dl_15, dl_16, dl_20, dl_24, dl_31, dl_50, dl_57, dl_67, dl_68, dl_74, dl_75, dl_79, dl_80, dl_99, dl_100, dl_200, dl_210, dl_224, dl_255, dl_289, dl_900, dl_1000, dl_1728, dl_65536, dl_65537, nI_add, pk_mul, pk_sub, pk_div, pk_rem, ds_rem2, nI_clamp, nI_leI, nI_ltI, nI_eq, ds_m1_eq, ds_eq_m1, ds_m2_eq, ds_eq_m2, ds_m1_le, ds_le_m1, ds_m1_lt, ds_lt_m1, ds_in_N, ds_bo0, ds_bo1, if_pos, if_neg, Nat.not_le, Nat.not_lt, not_true_eq_false, not_false_eq_true, if_true, if_false, ne_eq, Option.some.injEq, Prod.mk.injEq, Value.int.injEq, true_and, and_true, and_self, ite_self, Bool.not_eq_true, Bool.not_eq_false, Bool.true_eq_false, Bool.false_eq_true, reduceCtorEq, Nat.zero_add, Nat.reduceAdd, Nat.reduceMul, Nat.reduceSub, ds_setI_row, ds_setL_row, ds_rowI_self, ds_rowI_ne, ds_rowI_2, ds_rowI_rowI, ds_setS_1, ds_setS_21, ds_setS_self, ds_setS_ne, pk_us, pk_un, q1, p1']
theorem k_rests (d : Nat) (x y : Int32) (z : ds_St) (h : dk_Inv z) : ∃ v z1 z2, ds_call (d + 20) j_Sea_rests [.ref 0, .int x, .int y] z = some (some v, z1) ∧ ds_call (d + 20) j_Mod_rests [.ref 90, .int x, .int y] z1 = some (some v, z2) ∧ dk_Inv z2 := by
  apply dk_both h
  intro t D K hC hM hz
  have hs := s_hasSea (d + 18) t z D K hC hz
  have g1 := fun x => s_isGood (d + 18) x z
  have m1 := fun z hM => s_areGoods (d + 17) x y z D K hM
  rcases hz with ⟨hD, hK⟩ | ⟨h0, hc0, hp0⟩
  · have hn : 0 < D 0 4 := by have := hD.2.2.2.2.1.1; omega
    obtain ⟨k2, k12, km, ki⟩ := dk_mo_K hD hK
    rcases Bool.eq_false_or_eq_true (dk_rng x 4) with hx | hx
    · rcases Bool.eq_false_or_eq_true (dk_rng y 4) with hy | hy
      · obtain ⟨g, hg, rfl⟩ := (dk_rng_iff (by decide)).mp hx
        obtain ⟨o, ho, rfl⟩ := (dk_rng_iff (by decide)).mp hy
        obtain ⟨z', s1, s2, s3, s4⟩ := s_playGame (d + 12) t g o (K 12 + 2) (dk_gv D K g o) z D K hC hD hK rfl (fun a b z ha hb hC => s_gainBy (d + 12) t g o a b z D K hC hD hK hg ho (by omega) (by omega))
        have s5 := s_countRests (d + 15) (K 12 + 2) (dk_rs (dk_gv D K g o) (K 12 + 2)) z' (by omega) s3 (fun a b ha hb => s_isRestC (d + 15) (K 12 + 2) a b _ z' (by omega) ha hb s3 s4)
        refine ⟨.int (nI (dk_r1 (dk_rs (dk_gv D K g o) (K 12 + 2)) (K 12 + 2) (K 12 + 2)).1), nI 0, ds_rowI z' 0 (upd (z'.1 0) 10 (nI 0)), ?_, dk_qC_row _ s2, fun z0 hM0 => ?_⟩
        · rw [c_Sea_rests, b_Sea_rests_0]
          simp (disch := first | assumption | omega) only [ds_cI, ds_cV, ds_cL, ds_cR, ds_nn, ds_isK_t, ds_isA_t, ds_chk_t, ds_chkN, ds_nz_t, ds_nzN, ds_isB_t, ds_isB_bo, ↓dl_m1, ↓dl_m2, dl_0, dl_1, dl_2, dl_3, dl_4, dl_5, dl_6, dl_7, dl_8, dl_9, dl_10, dl_11, dl_12, dl_13, dl_14, dl_15, dl_16, dl_20, dl_24, dl_31, dl_50, dl_57, dl_67, dl_68, dl_74, dl_75, dl_79, dl_80, dl_99, dl_100, dl_200, dl_210, dl_224, dl_255, dl_289, dl_900, dl_1000, dl_1728, dl_65536, dl_65537, nI_add, pk_mul, pk_sub, pk_div, pk_rem, ds_rem2, nI_clamp, nI_leI, nI_ltI, nI_eq, ds_m1_eq, ds_eq_m1, ds_m2_eq, ds_eq_m2, ds_m1_le, ds_le_m1, ds_m1_lt, ds_lt_m1, ds_in_N, ds_bo0, ds_bo1, if_pos, if_neg, Nat.not_le, Nat.not_lt, not_true_eq_false, not_false_eq_true, if_true, if_false, ne_eq, Option.some.injEq, Prod.mk.injEq, Value.int.injEq, true_and, and_true, and_self, ite_self, Bool.not_eq_true, Bool.not_eq_false, Bool.true_eq_false, Bool.false_eq_true, reduceCtorEq, Nat.zero_add, Nat.reduceAdd, Nat.reduceMul, Nat.reduceSub, ds_setI_row, ds_setL_row, ds_rowI_self, ds_rowI_ne, ds_rowI_2, ds_rowI_rowI, ds_setS_1, ds_setS_21, ds_setS_self, ds_setS_ne, pk_us, pk_un, s_answer, hs, hn, decide_true, g1, hx, hy, s1, s5]
        · have hMg := dk_zg_HM hM0
          have a1 := m1 _ hMg
          obtain ⟨z2, q1, q2, q3⟩ := s_restsOf (d + 12) g o (K 12 + 2) (dk_gv D K g o) (dk_zg z0) D K hMg hD hK rfl (fun a b z ha hb hM => s_gainOf (d + 12) g o a b z D K hM hD hK hg ho (by omega) (by omega))
          refine ⟨z2, ?_, dk_qM_ok q2⟩
          rw [c_Mod_rests, b_Mod_rests_0]
          simp (disch := first | assumption | omega) only [ds_cI, ds_cV, ds_cL, ds_cR, ds_nn, ds_isK_t, ds_isA_t, ds_chk_t, ds_chkN, ds_nz_t, ds_nzN, ds_isB_t, ds_isB_bo, ↓dl_m1, ↓dl_m2, dl_0, dl_1, dl_2, dl_3, dl_4, dl_5, dl_6, dl_7, dl_8, dl_9, dl_10, dl_11, dl_12, dl_13, dl_14, dl_15, dl_16, dl_20, dl_24, dl_31, dl_50, dl_57, dl_67, dl_68, dl_74, dl_75, dl_79, dl_80, dl_99, dl_100, dl_200, dl_210, dl_224, dl_255, dl_289, dl_900, dl_1000, dl_1728, dl_65536, dl_65537, nI_add, pk_mul, pk_sub, pk_div, pk_rem, ds_rem2, nI_clamp, nI_leI, nI_ltI, nI_eq, ds_m1_eq, ds_eq_m1, ds_m2_eq, ds_eq_m2, ds_m1_le, ds_le_m1, ds_m1_lt, ds_lt_m1, ds_in_N, ds_bo0, ds_bo1, if_pos, if_neg, Nat.not_le, Nat.not_lt, not_true_eq_false, not_false_eq_true, if_true, if_false, ne_eq, Option.some.injEq, Prod.mk.injEq, Value.int.injEq, true_and, and_true, and_self, ite_self, Bool.not_eq_true, Bool.not_eq_false, Bool.true_eq_false, Bool.false_eq_true, reduceCtorEq, Nat.zero_add, Nat.reduceAdd, Nat.reduceMul, Nat.reduceSub, ds_setI_row, ds_setL_row, ds_rowI_self, ds_rowI_ne, ds_rowI_2, ds_rowI_rowI, ds_setS_1, ds_setS_21, ds_setS_self, ds_setS_ne, pk_us, pk_un, s_good, a1, hn, decide_true, hx, hy, Bool.true_and, Bool.and_true, q1]
      · refine ⟨.int ds_m1, nI 1, ds_rowI z 0 (upd (z.1 0) 10 (nI 1)), ?_, dk_qC_no z _, fun z0 hM0 => ⟨ds_rowI (dk_zg z0) 90 (upd ((dk_zg z0).1 90) 11 (nI 1)), ?_, dk_qM_no z0 _⟩⟩
        · rw [c_Sea_rests, b_Sea_rests_0]
          simp (disch := first | assumption | omega | rfl | decide) only [ds_cI, ds_cV, ds_cL, ds_cR, ds_nn, ds_isK_t, ds_isA_t, ds_chk_t, ds_chkN, ds_nz_t, ds_nzN, ds_isB_t, ds_isB_bo, ↓dl_m1, ↓dl_m2, dl_0, dl_1, dl_2, dl_3, dl_4, dl_5, dl_6, dl_7, dl_8, dl_9, dl_10, dl_11, dl_12, dl_13, dl_14, dl_15, dl_16, dl_20, dl_24, dl_31, dl_50, dl_57, dl_67, dl_68, dl_74, dl_75, dl_79, dl_80, dl_99, dl_100, dl_200, dl_210, dl_224, dl_255, dl_289, dl_900, dl_1000, dl_1728, dl_65536, dl_65537, nI_add, pk_mul, pk_sub, pk_div, pk_rem, ds_rem2, nI_clamp, nI_leI, nI_ltI, nI_eq, ds_m1_eq, ds_eq_m1, ds_m2_eq, ds_eq_m2, ds_m1_le, ds_le_m1, ds_m1_lt, ds_lt_m1, ds_in_N, ds_bo0, ds_bo1, if_pos, if_neg, Nat.not_le, Nat.not_lt, not_true_eq_false, not_false_eq_true, if_true, if_false, ne_eq, Option.some.injEq, Prod.mk.injEq, Value.int.injEq, true_and, and_true, and_self, ite_self, Bool.not_eq_true, Bool.not_eq_false, Bool.true_eq_false, Bool.false_eq_true, reduceCtorEq, Nat.zero_add, Nat.reduceAdd, Nat.reduceMul, Nat.reduceSub, ds_setI_row, ds_setL_row, ds_rowI_self, ds_rowI_ne, ds_rowI_2, ds_rowI_rowI, ds_setS_1, ds_setS_21, ds_setS_self, ds_setS_ne, pk_us, pk_un, s_refuse, hs, hn, decide_true, g1, hx, hy]
        · have hMg := dk_zg_HM hM0
          have hsg := hMg.2.1
          rw [c_Mod_rests, b_Mod_rests_0]
          simp (disch := first | assumption | omega | rfl | decide) only [ds_cI, ds_cV, ds_cL, ds_cR, ds_nn, ds_isK_t, ds_isA_t, ds_chk_t, ds_chkN, ds_nz_t, ds_nzN, ds_isB_t, ds_isB_bo, ↓dl_m1, ↓dl_m2, dl_0, dl_1, dl_2, dl_3, dl_4, dl_5, dl_6, dl_7, dl_8, dl_9, dl_10, dl_11, dl_12, dl_13, dl_14, dl_15, dl_16, dl_20, dl_24, dl_31, dl_50, dl_57, dl_67, dl_68, dl_74, dl_75, dl_79, dl_80, dl_99, dl_100, dl_200, dl_210, dl_224, dl_255, dl_289, dl_900, dl_1000, dl_1728, dl_65536, dl_65537, nI_add, pk_mul, pk_sub, pk_div, pk_rem, ds_rem2, nI_clamp, nI_leI, nI_ltI, nI_eq, ds_m1_eq, ds_eq_m1, ds_m2_eq, ds_eq_m2, ds_m1_le, ds_le_m1, ds_m1_lt, ds_lt_m1, ds_in_N, ds_bo0, ds_bo1, if_pos, if_neg, Nat.not_le, Nat.not_lt, not_true_eq_false, not_false_eq_true, if_true, if_false, ne_eq, Option.some.injEq, Prod.mk.injEq, Value.int.injEq, true_and, and_true, and_self, ite_self, Bool.not_eq_true, Bool.not_eq_false, Bool.true_eq_false, Bool.false_eq_true, reduceCtorEq, Nat.zero_add, Nat.reduceAdd, Nat.reduceMul, Nat.reduceSub, ds_setI_row, ds_setL_row, ds_rowI_self, ds_rowI_ne, ds_rowI_2, ds_rowI_rowI, ds_setS_1, ds_setS_21, ds_setS_self, ds_setS_ne, pk_us, pk_un, s_good, s_no, hsg, m1 _ hMg, hn, decide_true, hx, hy, Bool.true_and, Bool.and_false]
    · refine ⟨.int ds_m1, nI 1, ds_rowI z 0 (upd (z.1 0) 10 (nI 1)), ?_, dk_qC_no z _, fun z0 hM0 => ⟨ds_rowI (dk_zg z0) 90 (upd ((dk_zg z0).1 90) 11 (nI 1)), ?_, dk_qM_no z0 _⟩⟩
      · rw [c_Sea_rests, b_Sea_rests_0]
        simp (disch := first | assumption | omega | rfl | decide) only [ds_cI, ds_cV, ds_cL, ds_cR, ds_nn, ds_isK_t, ds_isA_t, ds_chk_t, ds_chkN, ds_nz_t, ds_nzN, ds_isB_t, ds_isB_bo, ↓dl_m1, ↓dl_m2, dl_0, dl_1, dl_2, dl_3, dl_4, dl_5, dl_6, dl_7, dl_8, dl_9, dl_10, dl_11, dl_12, dl_13, dl_14, dl_15, dl_16, dl_20, dl_24, dl_31, dl_50, dl_57, dl_67, dl_68, dl_74, dl_75, dl_79, dl_80, dl_99, dl_100, dl_200, dl_210, dl_224, dl_255, dl_289, dl_900, dl_1000, dl_1728, dl_65536, dl_65537, nI_add, pk_mul, pk_sub, pk_div, pk_rem, ds_rem2, nI_clamp, nI_leI, nI_ltI, nI_eq, ds_m1_eq, ds_eq_m1, ds_m2_eq, ds_eq_m2, ds_m1_le, ds_le_m1, ds_m1_lt, ds_lt_m1, ds_in_N, ds_bo0, ds_bo1, if_pos, if_neg, Nat.not_le, Nat.not_lt, not_true_eq_false, not_false_eq_true, if_true, if_false, ne_eq, Option.some.injEq, Prod.mk.injEq, Value.int.injEq, true_and, and_true, and_self, ite_self, Bool.not_eq_true, Bool.not_eq_false, Bool.true_eq_false, Bool.false_eq_true, reduceCtorEq, Nat.zero_add, Nat.reduceAdd, Nat.reduceMul, Nat.reduceSub, ds_setI_row, ds_setL_row, ds_rowI_self, ds_rowI_ne, ds_rowI_2, ds_rowI_rowI, ds_setS_1, ds_setS_21, ds_setS_self, ds_setS_ne, pk_us, pk_un, s_refuse, hs, hn, decide_true, g1, hx]
      · have hMg := dk_zg_HM hM0
        have hsg := hMg.2.1
        rw [c_Mod_rests, b_Mod_rests_0]
        simp (disch := first | assumption | omega | rfl | decide) only [ds_cI, ds_cV, ds_cL, ds_cR, ds_nn, ds_isK_t, ds_isA_t, ds_chk_t, ds_chkN, ds_nz_t, ds_nzN, ds_isB_t, ds_isB_bo, ↓dl_m1, ↓dl_m2, dl_0, dl_1, dl_2, dl_3, dl_4, dl_5, dl_6, dl_7, dl_8, dl_9, dl_10, dl_11, dl_12, dl_13, dl_14, dl_15, dl_16, dl_20, dl_24, dl_31, dl_50, dl_57, dl_67, dl_68, dl_74, dl_75, dl_79, dl_80, dl_99, dl_100, dl_200, dl_210, dl_224, dl_255, dl_289, dl_900, dl_1000, dl_1728, dl_65536, dl_65537, nI_add, pk_mul, pk_sub, pk_div, pk_rem, ds_rem2, nI_clamp, nI_leI, nI_ltI, nI_eq, ds_m1_eq, ds_eq_m1, ds_m2_eq, ds_eq_m2, ds_m1_le, ds_le_m1, ds_m1_lt, ds_lt_m1, ds_in_N, ds_bo0, ds_bo1, if_pos, if_neg, Nat.not_le, Nat.not_lt, not_true_eq_false, not_false_eq_true, if_true, if_false, ne_eq, Option.some.injEq, Prod.mk.injEq, Value.int.injEq, true_and, and_true, and_self, ite_self, Bool.not_eq_true, Bool.not_eq_false, Bool.true_eq_false, Bool.false_eq_true, reduceCtorEq, Nat.zero_add, Nat.reduceAdd, Nat.reduceMul, Nat.reduceSub, ds_setI_row, ds_setL_row, ds_rowI_self, ds_rowI_ne, ds_rowI_2, ds_rowI_rowI, ds_setS_1, ds_setS_21, ds_setS_self, ds_setS_ne, pk_us, pk_un, s_good, s_no, hsg, m1 _ hMg, hn, decide_true, hx, Bool.true_and, Bool.and_false, Bool.false_and]
  · have h4 := h0 4 (by decide)
    refine ⟨.int ds_m1, nI 1, ds_rowI z 0 (upd (z.1 0) 10 (nI 1)), ?_, dk_qC_no z _, fun z0 hM0 => ⟨ds_rowI (dk_zg z0) 90 (upd ((dk_zg z0).1 90) 11 (nI 1)), ?_, dk_qM_no z0 _⟩⟩
    · rw [c_Sea_rests, b_Sea_rests_0]
      simp (disch := first | assumption | omega | rfl | decide) only [ds_cI, ds_cV, ds_cL, ds_cR, ds_nn, ds_isK_t, ds_isA_t, ds_chk_t, ds_chkN, ds_nz_t, ds_nzN, ds_isB_t, ds_isB_bo, ↓dl_m1, ↓dl_m2, dl_0, dl_1, dl_2, dl_3, dl_4, dl_5, dl_6, dl_7, dl_8, dl_9, dl_10, dl_11, dl_12, dl_13, dl_14, dl_15, dl_16, dl_20, dl_24, dl_31, dl_50, dl_57, dl_67, dl_68, dl_74, dl_75, dl_79, dl_80, dl_99, dl_100, dl_200, dl_210, dl_224, dl_255, dl_289, dl_900, dl_1000, dl_1728, dl_65536, dl_65537, nI_add, pk_mul, pk_sub, pk_div, pk_rem, ds_rem2, nI_clamp, nI_leI, nI_ltI, nI_eq, ds_m1_eq, ds_eq_m1, ds_m2_eq, ds_eq_m2, ds_m1_le, ds_le_m1, ds_m1_lt, ds_lt_m1, ds_in_N, ds_bo0, ds_bo1, if_pos, if_neg, Nat.not_le, Nat.not_lt, not_true_eq_false, not_false_eq_true, if_true, if_false, ne_eq, Option.some.injEq, Prod.mk.injEq, Value.int.injEq, true_and, and_true, and_self, ite_self, Bool.not_eq_true, Bool.not_eq_false, Bool.true_eq_false, Bool.false_eq_true, reduceCtorEq, Nat.zero_add, Nat.reduceAdd, Nat.reduceMul, Nat.reduceSub, ds_setI_row, ds_setL_row, ds_rowI_self, ds_rowI_ne, ds_rowI_2, ds_rowI_rowI, ds_setS_1, ds_setS_21, ds_setS_self, ds_setS_ne, pk_us, pk_un, s_refuse, hs, h4, Nat.lt_irrefl, decide_false]
    · have hMg := dk_zg_HM hM0
      have hsg := hMg.2.1
      rw [c_Mod_rests, b_Mod_rests_0]
      simp (disch := first | assumption | omega | rfl | decide) only [ds_cI, ds_cV, ds_cL, ds_cR, ds_nn, ds_isK_t, ds_isA_t, ds_chk_t, ds_chkN, ds_nz_t, ds_nzN, ds_isB_t, ds_isB_bo, ↓dl_m1, ↓dl_m2, dl_0, dl_1, dl_2, dl_3, dl_4, dl_5, dl_6, dl_7, dl_8, dl_9, dl_10, dl_11, dl_12, dl_13, dl_14, dl_15, dl_16, dl_20, dl_24, dl_31, dl_50, dl_57, dl_67, dl_68, dl_74, dl_75, dl_79, dl_80, dl_99, dl_100, dl_200, dl_210, dl_224, dl_255, dl_289, dl_900, dl_1000, dl_1728, dl_65536, dl_65537, nI_add, pk_mul, pk_sub, pk_div, pk_rem, ds_rem2, nI_clamp, nI_leI, nI_ltI, nI_eq, ds_m1_eq, ds_eq_m1, ds_m2_eq, ds_eq_m2, ds_m1_le, ds_le_m1, ds_m1_lt, ds_lt_m1, ds_in_N, ds_bo0, ds_bo1, if_pos, if_neg, Nat.not_le, Nat.not_lt, not_true_eq_false, not_false_eq_true, if_true, if_false, ne_eq, Option.some.injEq, Prod.mk.injEq, Value.int.injEq, true_and, and_true, and_self, ite_self, Bool.not_eq_true, Bool.not_eq_false, Bool.true_eq_false, Bool.false_eq_true, reduceCtorEq, Nat.zero_add, Nat.reduceAdd, Nat.reduceMul, Nat.reduceSub, ds_setI_row, ds_setL_row, ds_rowI_self, ds_rowI_ne, ds_rowI_2, ds_rowI_rowI, ds_setS_1, ds_setS_21, ds_setS_self, ds_setS_ne, pk_us, pk_un, s_good, s_no, hsg, m1 _ hMg, h4, Nat.lt_irrefl, decide_false, Bool.false_and]
theorem k_rest (d : Nat) (x y : Int32) (z : ds_St) (h : dk_Inv z) : ∃ v z1 z2, ds_call (d + 20) j_Sea_rest [.ref 0, .int x, .int y] z = some (some v, z1) ∧ ds_call (d + 20) j_Mod_rest [.ref 90, .int x, .int y] z1 = some (some v, z2) ∧ dk_Inv z2 := by
  apply dk_both h
  intro t D K hC hM hz
  have hs := s_hasSea (d + 18) t z D K hC hz
  have g1 := fun x => s_isGood (d + 18) x z
  have m1 := fun z hM => s_areGoods (d + 17) x y z D K hM
  rcases hz with ⟨hD, hK⟩ | ⟨h0, hc0, hp0⟩
  · have hn : 0 < D 0 4 := by have := hD.2.2.2.2.1.1; omega
    obtain ⟨k2, k12, km, ki⟩ := dk_mo_K hD hK
    rcases Bool.eq_false_or_eq_true (dk_rng x 4) with hx | hx
    · rcases Bool.eq_false_or_eq_true (dk_rng y 4) with hy | hy
      · obtain ⟨g, hg, rfl⟩ := (dk_rng_iff (by decide)).mp hx
        obtain ⟨o, ho, rfl⟩ := (dk_rng_iff (by decide)).mp hy
        obtain ⟨z', s1, s2, s3, s4⟩ := s_playGame (d + 12) t g o (K 12 + 2) (dk_gv D K g o) z D K hC hD hK rfl (fun a b z ha hb hC => s_gainBy (d + 12) t g o a b z D K hC hD hK hg ho (by omega) (by omega))
        have s5 := s_firstRest (d + 15) (K 12 + 2) (dk_rs (dk_gv D K g o) (K 12 + 2)) z' (by omega) s3 (fun a b ha hb => s_isRestC (d + 15) (K 12 + 2) a b _ z' (by omega) ha hb s3 s4)
        refine ⟨.int (dk_r1 (dk_rs (dk_gv D K g o) (K 12 + 2)) (K 12 + 2) (K 12 + 2)).2, nI 0, ds_rowI z' 0 (upd (z'.1 0) 10 (nI 0)), ?_, dk_qC_row _ s2, fun z0 hM0 => ?_⟩
        · rw [c_Sea_rest, b_Sea_rest_0]
          simp (disch := first | assumption | omega) only [ds_cI, ds_cV, ds_cL, ds_cR, ds_nn, ds_isK_t, ds_isA_t, ds_chk_t, ds_chkN, ds_nz_t, ds_nzN, ds_isB_t, ds_isB_bo, ↓dl_m1, ↓dl_m2, dl_0, dl_1, dl_2, dl_3, dl_4, dl_5, dl_6, dl_7, dl_8, dl_9, dl_10, dl_11, dl_12, dl_13, dl_14, dl_15, dl_16, dl_20, dl_24, dl_31, dl_50, dl_57, dl_67, dl_68, dl_74, dl_75, dl_79, dl_80, dl_99, dl_100, dl_200, dl_210, dl_224, dl_255, dl_289, dl_900, dl_1000, dl_1728, dl_65536, dl_65537, nI_add, pk_mul, pk_sub, pk_div, pk_rem, ds_rem2, nI_clamp, nI_leI, nI_ltI, nI_eq, ds_m1_eq, ds_eq_m1, ds_m2_eq, ds_eq_m2, ds_m1_le, ds_le_m1, ds_m1_lt, ds_lt_m1, ds_in_N, ds_bo0, ds_bo1, if_pos, if_neg, Nat.not_le, Nat.not_lt, not_true_eq_false, not_false_eq_true, if_true, if_false, ne_eq, Option.some.injEq, Prod.mk.injEq, Value.int.injEq, true_and, and_true, and_self, ite_self, Bool.not_eq_true, Bool.not_eq_false, Bool.true_eq_false, Bool.false_eq_true, reduceCtorEq, Nat.zero_add, Nat.reduceAdd, Nat.reduceMul, Nat.reduceSub, ds_setI_row, ds_setL_row, ds_rowI_self, ds_rowI_ne, ds_rowI_2, ds_rowI_rowI, ds_setS_1, ds_setS_21, ds_setS_self, ds_setS_ne, pk_us, pk_un, s_answer, hs, hn, decide_true, g1, hx, hy, s1, s5]
        · have hMg := dk_zg_HM hM0
          have a1 := m1 _ hMg
          obtain ⟨z2, q1, q2, q3⟩ := s_restsOf (d + 12) g o (K 12 + 2) (dk_gv D K g o) (dk_zg z0) D K hMg hD hK rfl (fun a b z ha hb hM => s_gainOf (d + 12) g o a b z D K hM hD hK hg ho (by omega) (by omega))
          refine ⟨z2, ?_, dk_qM_ok q2⟩
          rw [c_Mod_rest, b_Mod_rest_0]
          simp (disch := first | assumption | omega) only [ds_cI, ds_cV, ds_cL, ds_cR, ds_nn, ds_isK_t, ds_isA_t, ds_chk_t, ds_chkN, ds_nz_t, ds_nzN, ds_isB_t, ds_isB_bo, ↓dl_m1, ↓dl_m2, dl_0, dl_1, dl_2, dl_3, dl_4, dl_5, dl_6, dl_7, dl_8, dl_9, dl_10, dl_11, dl_12, dl_13, dl_14, dl_15, dl_16, dl_20, dl_24, dl_31, dl_50, dl_57, dl_67, dl_68, dl_74, dl_75, dl_79, dl_80, dl_99, dl_100, dl_200, dl_210, dl_224, dl_255, dl_289, dl_900, dl_1000, dl_1728, dl_65536, dl_65537, nI_add, pk_mul, pk_sub, pk_div, pk_rem, ds_rem2, nI_clamp, nI_leI, nI_ltI, nI_eq, ds_m1_eq, ds_eq_m1, ds_m2_eq, ds_eq_m2, ds_m1_le, ds_le_m1, ds_m1_lt, ds_lt_m1, ds_in_N, ds_bo0, ds_bo1, if_pos, if_neg, Nat.not_le, Nat.not_lt, not_true_eq_false, not_false_eq_true, if_true, if_false, ne_eq, Option.some.injEq, Prod.mk.injEq, Value.int.injEq, true_and, and_true, and_self, ite_self, Bool.not_eq_true, Bool.not_eq_false, Bool.true_eq_false, Bool.false_eq_true, reduceCtorEq, Nat.zero_add, Nat.reduceAdd, Nat.reduceMul, Nat.reduceSub, ds_setI_row, ds_setL_row, ds_rowI_self, ds_rowI_ne, ds_rowI_2, ds_rowI_rowI, ds_setS_1, ds_setS_21, ds_setS_self, ds_setS_ne, pk_us, pk_un, s_good, a1, hn, decide_true, hx, hy, Bool.true_and, Bool.and_true, q1, q3]
      · refine ⟨.int ds_m1, nI 1, ds_rowI z 0 (upd (z.1 0) 10 (nI 1)), ?_, dk_qC_no z _, fun z0 hM0 => ⟨ds_rowI (dk_zg z0) 90 (upd ((dk_zg z0).1 90) 11 (nI 1)), ?_, dk_qM_no z0 _⟩⟩
        · rw [c_Sea_rest, b_Sea_rest_0]
          simp (disch := first | assumption | omega | rfl | decide) only [ds_cI, ds_cV, ds_cL, ds_cR, ds_nn, ds_isK_t, ds_isA_t, ds_chk_t, ds_chkN, ds_nz_t, ds_nzN, ds_isB_t, ds_isB_bo, ↓dl_m1, ↓dl_m2, dl_0, dl_1, dl_2, dl_3, dl_4, dl_5, dl_6, dl_7, dl_8, dl_9, dl_10, dl_11, dl_12, dl_13, dl_14, dl_15, dl_16, dl_20, dl_24, dl_31, dl_50, dl_57, dl_67, dl_68, dl_74, dl_75, dl_79, dl_80, dl_99, dl_100, dl_200, dl_210, dl_224, dl_255, dl_289, dl_900, dl_1000, dl_1728, dl_65536, dl_65537, nI_add, pk_mul, pk_sub, pk_div, pk_rem, ds_rem2, nI_clamp, nI_leI, nI_ltI, nI_eq, ds_m1_eq, ds_eq_m1, ds_m2_eq, ds_eq_m2, ds_m1_le, ds_le_m1, ds_m1_lt, ds_lt_m1, ds_in_N, ds_bo0, ds_bo1, if_pos, if_neg, Nat.not_le, Nat.not_lt, not_true_eq_false, not_false_eq_true, if_true, if_false, ne_eq, Option.some.injEq, Prod.mk.injEq, Value.int.injEq, true_and, and_true, and_self, ite_self, Bool.not_eq_true, Bool.not_eq_false, Bool.true_eq_false, Bool.false_eq_true, reduceCtorEq, Nat.zero_add, Nat.reduceAdd, Nat.reduceMul, Nat.reduceSub, ds_setI_row, ds_setL_row, ds_rowI_self, ds_rowI_ne, ds_rowI_2, ds_rowI_rowI, ds_setS_1, ds_setS_21, ds_setS_self, ds_setS_ne, pk_us, pk_un, s_refuse, hs, hn, decide_true, g1, hx, hy]
        · have hMg := dk_zg_HM hM0
          have hsg := hMg.2.1
          rw [c_Mod_rest, b_Mod_rest_0]
          simp (disch := first | assumption | omega | rfl | decide) only [ds_cI, ds_cV, ds_cL, ds_cR, ds_nn, ds_isK_t, ds_isA_t, ds_chk_t, ds_chkN, ds_nz_t, ds_nzN, ds_isB_t, ds_isB_bo, ↓dl_m1, ↓dl_m2, dl_0, dl_1, dl_2, dl_3, dl_4, dl_5, dl_6, dl_7, dl_8, dl_9, dl_10, dl_11, dl_12, dl_13, dl_14, dl_15, dl_16, dl_20, dl_24, dl_31, dl_50, dl_57, dl_67, dl_68, dl_74, dl_75, dl_79, dl_80, dl_99, dl_100, dl_200, dl_210, dl_224, dl_255, dl_289, dl_900, dl_1000, dl_1728, dl_65536, dl_65537, nI_add, pk_mul, pk_sub, pk_div, pk_rem, ds_rem2, nI_clamp, nI_leI, nI_ltI, nI_eq, ds_m1_eq, ds_eq_m1, ds_m2_eq, ds_eq_m2, ds_m1_le, ds_le_m1, ds_m1_lt, ds_lt_m1, ds_in_N, ds_bo0, ds_bo1, if_pos, if_neg, Nat.not_le, Nat.not_lt, not_true_eq_false, not_false_eq_true, if_true, if_false, ne_eq, Option.some.injEq, Prod.mk.injEq, Value.int.injEq, true_and, and_true, and_self, ite_self, Bool.not_eq_true, Bool.not_eq_false, Bool.true_eq_false, Bool.false_eq_true, reduceCtorEq, Nat.zero_add, Nat.reduceAdd, Nat.reduceMul, Nat.reduceSub, ds_setI_row, ds_setL_row, ds_rowI_self, ds_rowI_ne, ds_rowI_2, ds_rowI_rowI, ds_setS_1, ds_setS_21, ds_setS_self, ds_setS_ne, pk_us, pk_un, s_good, s_no, hsg, m1 _ hMg, hn, decide_true, hx, hy, Bool.true_and, Bool.and_false]
    · refine ⟨.int ds_m1, nI 1, ds_rowI z 0 (upd (z.1 0) 10 (nI 1)), ?_, dk_qC_no z _, fun z0 hM0 => ⟨ds_rowI (dk_zg z0) 90 (upd ((dk_zg z0).1 90) 11 (nI 1)), ?_, dk_qM_no z0 _⟩⟩
      · rw [c_Sea_rest, b_Sea_rest_0]
        simp (disch := first | assumption | omega | rfl | decide) only [ds_cI, ds_cV, ds_cL, ds_cR, ds_nn, ds_isK_t, ds_isA_t, ds_chk_t, ds_chkN, ds_nz_t, ds_nzN, ds_isB_t, ds_isB_bo, ↓dl_m1, ↓dl_m2, dl_0, dl_1, dl_2, dl_3, dl_4, dl_5, dl_6, dl_7, dl_8, dl_9, dl_10, dl_11, dl_12, dl_13, dl_14, dl_15, dl_16, dl_20, dl_24, dl_31, dl_50, dl_57, dl_67, dl_68, dl_74, dl_75, dl_79, dl_80, dl_99, dl_100, dl_200, dl_210, dl_224, dl_255, dl_289, dl_900, dl_1000, dl_1728, dl_65536, dl_65537, nI_add, pk_mul, pk_sub, pk_div, pk_rem, ds_rem2, nI_clamp, nI_leI, nI_ltI, nI_eq, ds_m1_eq, ds_eq_m1, ds_m2_eq, ds_eq_m2, ds_m1_le, ds_le_m1, ds_m1_lt, ds_lt_m1, ds_in_N, ds_bo0, ds_bo1, if_pos, if_neg, Nat.not_le, Nat.not_lt, not_true_eq_false, not_false_eq_true, if_true, if_false, ne_eq, Option.some.injEq, Prod.mk.injEq, Value.int.injEq, true_and, and_true, and_self, ite_self, Bool.not_eq_true, Bool.not_eq_false, Bool.true_eq_false, Bool.false_eq_true, reduceCtorEq, Nat.zero_add, Nat.reduceAdd, Nat.reduceMul, Nat.reduceSub, ds_setI_row, ds_setL_row, ds_rowI_self, ds_rowI_ne, ds_rowI_2, ds_rowI_rowI, ds_setS_1, ds_setS_21, ds_setS_self, ds_setS_ne, pk_us, pk_un, s_refuse, hs, hn, decide_true, g1, hx]
      · have hMg := dk_zg_HM hM0
        have hsg := hMg.2.1
        rw [c_Mod_rest, b_Mod_rest_0]
        simp (disch := first | assumption | omega | rfl | decide) only [ds_cI, ds_cV, ds_cL, ds_cR, ds_nn, ds_isK_t, ds_isA_t, ds_chk_t, ds_chkN, ds_nz_t, ds_nzN, ds_isB_t, ds_isB_bo, ↓dl_m1, ↓dl_m2, dl_0, dl_1, dl_2, dl_3, dl_4, dl_5, dl_6, dl_7, dl_8, dl_9, dl_10, dl_11, dl_12, dl_13, dl_14, dl_15, dl_16, dl_20, dl_24, dl_31, dl_50, dl_57, dl_67, dl_68, dl_74, dl_75, dl_79, dl_80, dl_99, dl_100, dl_200, dl_210, dl_224, dl_255, dl_289, dl_900, dl_1000, dl_1728, dl_65536, dl_65537, nI_add, pk_mul, pk_sub, pk_div, pk_rem, ds_rem2, nI_clamp, nI_leI, nI_ltI, nI_eq, ds_m1_eq, ds_eq_m1, ds_m2_eq, ds_eq_m2, ds_m1_le, ds_le_m1, ds_m1_lt, ds_lt_m1, ds_in_N, ds_bo0, ds_bo1, if_pos, if_neg, Nat.not_le, Nat.not_lt, not_true_eq_false, not_false_eq_true, if_true, if_false, ne_eq, Option.some.injEq, Prod.mk.injEq, Value.int.injEq, true_and, and_true, and_self, ite_self, Bool.not_eq_true, Bool.not_eq_false, Bool.true_eq_false, Bool.false_eq_true, reduceCtorEq, Nat.zero_add, Nat.reduceAdd, Nat.reduceMul, Nat.reduceSub, ds_setI_row, ds_setL_row, ds_rowI_self, ds_rowI_ne, ds_rowI_2, ds_rowI_rowI, ds_setS_1, ds_setS_21, ds_setS_self, ds_setS_ne, pk_us, pk_un, s_good, s_no, hsg, m1 _ hMg, hn, decide_true, hx, Bool.true_and, Bool.and_false, Bool.false_and]
  · have h4 := h0 4 (by decide)
    refine ⟨.int ds_m1, nI 1, ds_rowI z 0 (upd (z.1 0) 10 (nI 1)), ?_, dk_qC_no z _, fun z0 hM0 => ⟨ds_rowI (dk_zg z0) 90 (upd ((dk_zg z0).1 90) 11 (nI 1)), ?_, dk_qM_no z0 _⟩⟩
    · rw [c_Sea_rest, b_Sea_rest_0]
      simp (disch := first | assumption | omega | rfl | decide) only [ds_cI, ds_cV, ds_cL, ds_cR, ds_nn, ds_isK_t, ds_isA_t, ds_chk_t, ds_chkN, ds_nz_t, ds_nzN, ds_isB_t, ds_isB_bo, ↓dl_m1, ↓dl_m2, dl_0, dl_1, dl_2, dl_3, dl_4, dl_5, dl_6, dl_7, dl_8, dl_9, dl_10, dl_11, dl_12, dl_13, dl_14, dl_15, dl_16, dl_20, dl_24, dl_31, dl_50, dl_57, dl_67, dl_68, dl_74, dl_75, dl_79, dl_80, dl_99, dl_100, dl_200, dl_210, dl_224, dl_255, dl_289, dl_900, dl_1000, dl_1728, dl_65536, dl_65537, nI_add, pk_mul, pk_sub, pk_div, pk_rem, ds_rem2, nI_clamp, nI_leI, nI_ltI, nI_eq, ds_m1_eq, ds_eq_m1, ds_m2_eq, ds_eq_m2, ds_m1_le, ds_le_m1, ds_m1_lt, ds_lt_m1, ds_in_N, ds_bo0, ds_bo1, if_pos, if_neg, Nat.not_le, Nat.not_lt, not_true_eq_false, not_false_eq_true, if_true, if_false, ne_eq, Option.some.injEq, Prod.mk.injEq, Value.int.injEq, true_and, and_true, and_self, ite_self, Bool.not_eq_true, Bool.not_eq_false, Bool.true_eq_false, Bool.false_eq_true, reduceCtorEq, Nat.zero_add, Nat.reduceAdd, Nat.reduceMul, Nat.reduceSub, ds_setI_row, ds_setL_row, ds_rowI_self, ds_rowI_ne, ds_rowI_2, ds_rowI_rowI, ds_setS_1, ds_setS_21, ds_setS_self, ds_setS_ne, pk_us, pk_un, s_refuse, hs, h4, Nat.lt_irrefl, decide_false]
    · have hMg := dk_zg_HM hM0
      have hsg := hMg.2.1
      rw [c_Mod_rest, b_Mod_rest_0]
      simp (disch := first | assumption | omega | rfl | decide) only [ds_cI, ds_cV, ds_cL, ds_cR, ds_nn, ds_isK_t, ds_isA_t, ds_chk_t, ds_chkN, ds_nz_t, ds_nzN, ds_isB_t, ds_isB_bo, ↓dl_m1, ↓dl_m2, dl_0, dl_1, dl_2, dl_3, dl_4, dl_5, dl_6, dl_7, dl_8, dl_9, dl_10, dl_11, dl_12, dl_13, dl_14, dl_15, dl_16, dl_20, dl_24, dl_31, dl_50, dl_57, dl_67, dl_68, dl_74, dl_75, dl_79, dl_80, dl_99, dl_100, dl_200, dl_210, dl_224, dl_255, dl_289, dl_900, dl_1000, dl_1728, dl_65536, dl_65537, nI_add, pk_mul, pk_sub, pk_div, pk_rem, ds_rem2, nI_clamp, nI_leI, nI_ltI, nI_eq, ds_m1_eq, ds_eq_m1, ds_m2_eq, ds_eq_m2, ds_m1_le, ds_le_m1, ds_m1_lt, ds_lt_m1, ds_in_N, ds_bo0, ds_bo1, if_pos, if_neg, Nat.not_le, Nat.not_lt, not_true_eq_false, not_false_eq_true, if_true, if_false, ne_eq, Option.some.injEq, Prod.mk.injEq, Value.int.injEq, true_and, and_true, and_self, ite_self, Bool.not_eq_true, Bool.not_eq_false, Bool.true_eq_false, Bool.false_eq_true, reduceCtorEq, Nat.zero_add, Nat.reduceAdd, Nat.reduceMul, Nat.reduceSub, ds_setI_row, ds_setL_row, ds_rowI_self, ds_rowI_ne, ds_rowI_2, ds_rowI_rowI, ds_setS_1, ds_setS_21, ds_setS_self, ds_setS_ne, pk_us, pk_un, s_good, s_no, hsg, m1 _ hMg, h4, Nat.lt_irrefl, decide_false, Bool.false_and]
