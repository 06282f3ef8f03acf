/-! rows of moves that fit: the model -/
def dk_TI (F : Nat → Bool) (k M : Nat) (z : ds_St) (X : Nat) : Prop := z.1 90 29 = nI (dk_sum (fun y => dk_n (F y)) X) ∧ (dk_any F X = true → ∀ j, j < k → z.1 104 j = nI (dk_lst F X / M ^ (k - 1 - j) % M))
/-- what tryFits at a level leaves as it was -/
def dk_TF (lev : Nat) (z z' : ds_St) : Prop := dk_fm z z' ∧ (∀ q, q < 14 * lev + 14 → z'.1 102 q = z.1 102 q) ∧ (∀ j, j < lev → z'.1 103 j = z.1 103 j) ∧ z'.1 90 30 = z.1 90 30
theorem dk_TF_refl (lev : Nat) (z : ds_St) : dk_TF lev z z := ⟨dk_fm_refl z, fun _ _ => rfl, fun _ _ => rfl, rfl⟩
theorem dk_TF_trans {lev : Nat} {z z1 z2 : ds_St} (h : dk_TF lev z z1) (h2 : dk_TF lev z1 z2) : dk_TF lev z z2 := ⟨dk_fm_trans h.1 h2.1, fun q a => (h2.2.1 q a).trans (h.2.1 q a), fun j a => (h2.2.2.1 j a).trans (h.2.2.1 j a), h2.2.2.2.trans h.2.2.2⟩
theorem s_leaf (d k : Nat) (z : ds_St) (D : Nat → Nat → Nat) (K C : Nat → Nat) (hM : dk_HM z D K) (hD : dk_ok D) (hm : dk_dm z 101 C (D 0 4) (D 0 4)) : ds_Rw ds_c_Mod_tryFits ds_u_Mod_tryFits (ds_call (d + 2)) 30 [some (.ref 90), some (.int (nI k)), some (.int (nI 1)), some (.int (nI 0))] [] z = ds_Rw ds_c_Mod_tryFits ds_u_Mod_tryFits (ds_call (d + 2)) 30 [some (.ref 90), some (.int (nI k)), some (.int ((ds_bo (dk_ft D C (D 0 7))))), some (.int (nI ((D 0 7))))] [] z := by
  have m7 := hM.1.1.2.2.2.2.2.2.2
  have o7 := hD.2.2.2.2.2.2.2.1
  have sh := fun s => s_isShown (d + 1) 101 (D 0 4) s z D C hM.1 hD hm
  have up := ds_up (F := fun s => ds_Rw ds_c_Mod_tryFits ds_u_Mod_tryFits (ds_call (d + 2)) 30 [some (.ref 90), some (.int (nI k)), some (.int ((ds_bo (dk_ft D C s)))), some (.int (nI s))] [] z) (n := D 0 7) 0 (by
    intro s _ hs
    have shs := sh s hs
    have e : dk_ft D C (s + 1) = (dk_ft D C s && dk_sw D C (D 0 4) s) := by
      unfold dk_ft
      simp only [dk_any]
      cases dk_any (fun s => !(dk_sw D C (D 0 4) s)) s <;> cases dk_sw D C (D 0 4) s <;> rfl
    rw [b_Mod_tryFits_30, e]
    cases h1 : dk_ft D C s
    · simp (disch := first | assumption | omega) only [ds_cI, ds_cV, ds_cL, ds_cR, ds_nn, ds_isK_t, ds_isA_t, ds_chk_t, ds_chkN, ds_nz_t, ds_nzN, ds_isB_t, ds_isB_bo, ↓dl_m1, ↓dl_m2, dl_0, dl_1, dl_2, dl_3, dl_4, dl_5, dl_6, dl_7, dl_8, dl_9, dl_10, dl_11, dl_12, dl_13, dl_14, dl_15, dl_16, dl_20, dl_24, dl_31, dl_50, dl_57, dl_67, dl_68, dl_74, dl_75, dl_79, dl_80, dl_99, dl_100, dl_200, dl_210, dl_224, dl_255, dl_289, dl_900, dl_1000, dl_1728, dl_65536, dl_65537, nI_add, pk_mul, pk_sub, pk_div, pk_rem, ds_rem2, nI_clamp, nI_leI, nI_ltI, nI_eq, ds_m1_eq, ds_eq_m1, ds_m2_eq, ds_eq_m2, ds_m1_le, ds_le_m1, ds_m1_lt, ds_lt_m1, ds_in_N, ds_bo0, ds_bo1, if_pos, if_neg, Nat.not_le, Nat.not_lt, not_true_eq_false, not_false_eq_true, if_true, if_false, ne_eq, Option.some.injEq, Prod.mk.injEq, Value.int.injEq, true_and, and_true, and_self, ite_self, Bool.not_eq_true, Bool.not_eq_false, Bool.true_eq_false, Bool.false_eq_true, reduceCtorEq, Nat.zero_add, Nat.reduceAdd, Nat.reduceMul, Nat.reduceSub, ds_setI_row, ds_setL_row, ds_rowI_self, ds_rowI_ne, ds_rowI_2, ds_rowI_rowI, ds_setS_1, ds_setS_21, ds_setS_self, ds_setS_ne, pk_us, pk_un, m7, Bool.false_and, ds_bo_f]
    · cases h2 : dk_sw D C (D 0 4) s
      · rw [h2] at shs
        simp (disch := first | assumption | omega) only [ds_cI, ds_cV, ds_cL, ds_cR, ds_nn, ds_isK_t, ds_isA_t, ds_chk_t, ds_chkN, ds_nz_t, ds_nzN, ds_isB_t, ds_isB_bo, ↓dl_m1, ↓dl_m2, dl_0, dl_1, dl_2, dl_3, dl_4, dl_5, dl_6, dl_7, dl_8, dl_9, dl_10, dl_11, dl_12, dl_13, dl_14, dl_15, dl_16, dl_20, dl_24, dl_31, dl_50, dl_57, dl_67, dl_68, dl_74, dl_75, dl_79, dl_80, dl_99, dl_100, dl_200, dl_210, dl_224, dl_255, dl_289, dl_900, dl_1000, dl_1728, dl_65536, dl_65537, nI_add, pk_mul, pk_sub, pk_div, pk_rem, ds_rem2, nI_clamp, nI_leI, nI_ltI, nI_eq, ds_m1_eq, ds_eq_m1, ds_m2_eq, ds_eq_m2, ds_m1_le, ds_le_m1, ds_m1_lt, ds_lt_m1, ds_in_N, ds_bo0, ds_bo1, if_pos, if_neg, Nat.not_le, Nat.not_lt, not_true_eq_false, not_false_eq_true, if_true, if_false, ne_eq, Option.some.injEq, Prod.mk.injEq, Value.int.injEq, true_and, and_true, and_self, ite_self, Bool.not_eq_true, Bool.not_eq_false, Bool.true_eq_false, Bool.false_eq_true, reduceCtorEq, Nat.zero_add, Nat.reduceAdd, Nat.reduceMul, Nat.reduceSub, ds_setI_row, ds_setL_row, ds_rowI_self, ds_rowI_ne, ds_rowI_2, ds_rowI_rowI, ds_setS_1, ds_setS_21, ds_setS_self, ds_setS_ne, pk_us, pk_un, m7, Bool.true_and, ds_bo_f, ds_bo_t, shs]
      · rw [h2] at shs
        simp (disch := first | assumption | omega) only [ds_cI, ds_cV, ds_cL, ds_cR, ds_nn, ds_isK_t, ds_isA_t, ds_chk_t, ds_chkN, ds_nz_t, ds_nzN, ds_isB_t, ds_isB_bo, ↓dl_m1, ↓dl_m2, dl_0, dl_1, dl_2, dl_3, dl_4, dl_5, dl_6, dl_7, dl_8, dl_9, dl_10, dl_11, dl_12, dl_13, dl_14, dl_15, dl_16, dl_20, dl_24, dl_31, dl_50, dl_57, dl_67, dl_68, dl_74, dl_75, dl_79, dl_80, dl_99, dl_100, dl_200, dl_210, dl_224, dl_255, dl_289, dl_900, dl_1000, dl_1728, dl_65536, dl_65537, nI_add, pk_mul, pk_sub, pk_div, pk_rem, ds_rem2, nI_clamp, nI_leI, nI_ltI, nI_eq, ds_m1_eq, ds_eq_m1, ds_m2_eq, ds_eq_m2, ds_m1_le, ds_le_m1, ds_m1_lt, ds_lt_m1, ds_in_N, ds_bo0, ds_bo1, if_pos, if_neg, Nat.not_le, Nat.not_lt, not_true_eq_false, not_false_eq_true, if_true, if_false, ne_eq, Option.some.injEq, Prod.mk.injEq, Value.int.injEq, true_and, and_true, and_self, ite_self, Bool.not_eq_true, Bool.not_eq_false, Bool.true_eq_false, Bool.false_eq_true, reduceCtorEq, Nat.zero_add, Nat.reduceAdd, Nat.reduceMul, Nat.reduceSub, ds_setI_row, ds_setL_row, ds_rowI_self, ds_rowI_ne, ds_rowI_2, ds_rowI_rowI, ds_setS_1, ds_setS_21, ds_setS_self, ds_setS_ne, pk_us, pk_un, m7, Bool.true_and, ds_bo_f, ds_bo_t, shs]) (Nat.zero_le _)
  exact up
theorem s_tryFits (d k : Nat) (D : Nat → Nat → Nat) (K : Nat → Nat) (F : Nat → Bool) (hD : dk_ok D) (hk : k ≤ 3) : ∀ r lev X C z, lev + r = k → (X + 1) * (D 0 4 + 2) ^ r ≤ 2744 → dk_HM z D K → dk_inj C (D 0 4) (D 0 4) → (∀ p, p < D 0 4 → z.1 102 (14 * lev + p) = nI (C p)) → z.1 102 (14 * lev + 12) = nI (D 0 4) → z.1 90 30 = nI k → (∀ j, j < lev → z.1 103 j = nI (X / (D 0 4 + 2) ^ (lev - 1 - j) % (D 0 4 + 2))) → (∀ y, y < (D 0 4 + 2) ^ r → F (X * (D 0 4 + 2) ^ r + y) = dk_ft D (dk_dg (D 0 4) r C y) (D 0 7)) → dk_TI F k (D 0 4 + 2) z (X * (D 0 4 + 2) ^ r) → ∃ z', ds_call (d + r + 3) j_Mod_tryFits [.ref 90, .int (nI lev)] z = some (none, z') ∧ dk_TI F k (D 0 4 + 2) z' ((X + 1) * (D 0 4 + 2) ^ r) ∧ dk_TF lev z z' := by
  have n12 := hD.2.2.2.2.1.2
  intro r
  induction r with
  | zero =>
    intro lev X C z hl hB hM hin hrow hrow12 h30 htr hF hI
    have : lev = k := by omega
    subst this
    rw [Nat.pow_zero, Nat.mul_one] at hB hI ⊢
    have hFX : F X = dk_ft D C (D 0 7) := by
      have := hF 0 (by rw [Nat.pow_zero]; decide)
      rw [Nat.pow_zero, Nat.mul_one, Nat.add_zero] at this
      exact this
    have cp := s_copy (d + 1) 102 101 (14 * lev) 0 14 z rfl rfl (by decide) (show 14 * lev + 14 ≤ 56 by omega) (by decide) (by decide)
    let z1 := ds_rowI z 101 (ds_cpF (z.1 102) (z.1 101) (14 * lev) 0 0 14)
    have z1n : ∀ p, p ≠ 101 → z1.1 p = z.1 p := fun p hp => ds_rowI_ne _ _ hp
    have z1a : ∀ j, j < 14 → z1.1 101 j = z.1 102 (14 * lev + j) := by
      intro j hj
      show (ds_rowI z 101 (ds_cpF (z.1 102) (z.1 101) (14 * lev) 0 0 14)).1 101 j = _
      rw [ds_rowI_self, ds_cpF_at, if_pos (by omega)]
      rfl
    have z1r : z1.2 = z.2 := rfl
    have cp' : ds_call (d + 2) j_Mod_copy [.ref 102, .int (nI (14 * lev)), .ref 101, .int (nI 0), .int (nI 14)] z = some (none, z1) := cp
    clear_value z1
    have f1 : dk_TF lev z z1 := ⟨⟨fun p a b => z1n p (by omega), fun k a => by rw [z1n 90 (by decide)], fun j a => by rw [z1r]⟩, fun q a => by rw [z1n 102 (by decide)], fun j a => by rw [z1n 103 (by decide)], by rw [z1n 90 (by decide)]⟩
    have hM1 : dk_HM z1 D K := dk_HM_fm hM f1.1
    have hm1 : dk_dm z1 101 C (D 0 4) (D 0 4) := ⟨.inr (.inr rfl), by rw [z1a 12 (by decide)]; exact hrow12, n12, fun p hp => by rw [z1a p (by omega)]; exact hrow p hp, hin⟩
    have lf := s_leaf d lev z1 D K C hM1 hD hm1
    have m7 := hM1.1.1.2.2.2.2.2.2.2
    have o7 := hD.2.2.2.2.2.2.2.1
    have c29 : z1.1 90 29 = nI (dk_sum (fun y => dk_n (F y)) X) := by rw [z1n 90 (by decide)]; exact hI.1
    have cl := dk_cnt_le F X
    have h30' : z.1 90 30 = nI lev := h30
    cases hft : dk_ft D C (D 0 7)
    · rw [hft] at lf hFX
      refine ⟨z1, ?_, ?_, f1⟩
      · show ds_call (d + 2 + 1) _ _ _ = _
        rw [c_Mod_tryFits, b_Mod_tryFits_0]
        simp (disch := first | assumption | omega) only [ds_cI, ds_cV, ds_cL, ds_cR, ds_nn, ds_isK_t, ds_isA_t, ds_chk_t, ds_chkN, ds_nz_t, ds_nzN, ds_isB_t, ds_isB_bo, ↓dl_m1, ↓dl_m2, dl_0, dl_1, dl_2, dl_3, dl_4, dl_5, dl_6, dl_7, dl_8, dl_9, dl_10, dl_11, dl_12, dl_13, dl_14, dl_15, dl_16, dl_20, dl_24, dl_31, dl_50, dl_57, dl_67, dl_68, dl_74, dl_75, dl_79, dl_80, dl_99, dl_100, dl_200, dl_210, dl_224, dl_255, dl_289, dl_900, dl_1000, dl_1728, dl_65536, dl_65537, nI_add, pk_mul, pk_sub, pk_div, pk_rem, ds_rem2, nI_clamp, nI_leI, nI_ltI, nI_eq, ds_m1_eq, ds_eq_m1, ds_m2_eq, ds_eq_m2, ds_m1_le, ds_le_m1, ds_m1_lt, ds_lt_m1, ds_in_N, ds_bo0, ds_bo1, if_pos, if_neg, Nat.not_le, Nat.not_lt, not_true_eq_false, not_false_eq_true, if_true, if_false, ne_eq, Option.some.injEq, Prod.mk.injEq, Value.int.injEq, true_and, and_true, and_self, ite_self, Bool.not_eq_true, Bool.not_eq_false, Bool.true_eq_false, Bool.false_eq_true, reduceCtorEq, Nat.zero_add, Nat.reduceAdd, Nat.reduceMul, Nat.reduceSub, ds_setI_row, ds_setL_row, ds_rowI_self, ds_rowI_ne, ds_rowI_2, ds_rowI_rowI, ds_setS_1, ds_setS_21, ds_setS_self, ds_setS_ne, pk_us, pk_un, h30', cp']
        rw [lf, b_Mod_tryFits_30]
        simp (disch := first | assumption | omega) only [ds_cI, ds_cV, ds_cL, ds_cR, ds_nn, ds_isK_t, ds_isA_t, ds_chk_t, ds_chkN, ds_nz_t, ds_nzN, ds_isB_t, ds_isB_bo, ↓dl_m1, ↓dl_m2, dl_0, dl_1, dl_2, dl_3, dl_4, dl_5, dl_6, dl_7, dl_8, dl_9, dl_10, dl_11, dl_12, dl_13, dl_14, dl_15, dl_16, dl_20, dl_24, dl_31, dl_50, dl_57, dl_67, dl_68, dl_74, dl_75, dl_79, dl_80, dl_99, dl_100, dl_200, dl_210, dl_224, dl_255, dl_289, dl_900, dl_1000, dl_1728, dl_65536, dl_65537, nI_add, pk_mul, pk_sub, pk_div, pk_rem, ds_rem2, nI_clamp, nI_leI, nI_ltI, nI_eq, ds_m1_eq, ds_eq_m1, ds_m2_eq, ds_eq_m2, ds_m1_le, ds_le_m1, ds_m1_lt, ds_lt_m1, ds_in_N, ds_bo0, ds_bo1, if_pos, if_neg, Nat.not_le, Nat.not_lt, not_true_eq_false, not_false_eq_true, if_true, if_false, ne_eq, Option.some.injEq, Prod.mk.injEq, Value.int.injEq, true_and, and_true, and_self, ite_self, Bool.not_eq_true, Bool.not_eq_false, Bool.true_eq_false, Bool.false_eq_true, reduceCtorEq, Nat.zero_add, Nat.reduceAdd, Nat.reduceMul, Nat.reduceSub, ds_setI_row, ds_setL_row, ds_rowI_self, ds_rowI_ne, ds_rowI_2, ds_rowI_rowI, ds_setS_1, ds_setS_21, ds_setS_self, ds_setS_ne, pk_us, pk_un, m7, ds_bo_f]
      · refine ⟨?_, fun ha j hj => ?_⟩
        · rw [c29]
          simp only [dk_sum]
          rw [hFX]
          rfl
        · simp only [dk_any] at ha
          rw [hFX, Bool.or_false] at ha
          simp only [dk_lst]
          rw [if_pos ha, z1n 104 (by decide)]
          exact hI.2 ha j hj
    · rw [hft] at lf hFX
      cases ha : dk_any F X
      · have c0 : dk_sum (fun y => dk_n (F y)) X = 0 := (dk_cnt_0 F X).mpr ha
        rw [c0] at c29
        have cp2 := s_copy (d + 1) 103 104 0 0 lev z1 rfl rfl (by decide) (show 0 + lev ≤ 3 by omega) (show 0 + lev ≤ 3 by omega) (by decide)
        let z2 := ds_rowI z1 104 (ds_cpF (z1.1 103) (z1.1 104) 0 0 0 lev)
        have z2n : ∀ p, p ≠ 104 → z2.1 p = z1.1 p := fun p hp => ds_rowI_ne _ _ hp
        have z2a : ∀ j, j < lev → z2.1 104 j = z1.1 103 j := by
          intro j hj
          show (ds_rowI z1 104 (ds_cpF (z1.1 103) (z1.1 104) 0 0 0 lev)).1 104 j = _
          rw [ds_rowI_self, ds_cpF_at, if_pos (by omega), show 0 + (j - 0) = j by omega]
        have z2r : z2.2 = z1.2 := rfl
        have cp2' : ds_call (d + 2) j_Mod_copy [.ref 103, .int (nI 0), .ref 104, .int (nI 0), .int (nI lev)] z1 = some (none, z2) := cp2
        clear_value z2
        have c29' : z2.1 90 29 = nI 0 := by rw [z2n 90 (by decide)]; exact c29
        let z3 := ds_rowI z2 90 (upd (z2.1 90) 29 (nI (0 + 1)))
        have f2 : dk_TF lev z z3 := by
          have fa : dk_TF lev z z2 := ⟨⟨fun p a b => by rw [z2n p (by omega)]; exact f1.1.1 p a b, fun k a => by rw [z2n 90 (by decide)]; exact f1.1.2.1 k a, fun j a => by rw [z2r]; exact f1.1.2.2 j a⟩, fun q a => by rw [z2n 102 (by decide)]; exact f1.2.1 q a, fun j a => by rw [z2n 103 (by decide)]; exact f1.2.2.1 j a, by rw [z2n 90 (by decide)]; exact f1.2.2.2⟩
          refine ⟨dk_fm_fld _ fa.1 (by decide), fun q a => ?_, fun j a => ?_, ?_⟩
          · show (ds_rowI z2 90 _).1 102 q = _
            rw [ds_rowI_ne _ _ (by decide)]; exact fa.2.1 q a
          · show (ds_rowI z2 90 _).1 103 j = _
            rw [ds_rowI_ne _ _ (by decide)]; exact fa.2.2.1 j a
          · show (ds_rowI z2 90 _).1 90 30 = _
            rw [ds_rowI_self, pk_un (by decide)]; exact fa.2.2.2
        refine ⟨z3, ?_, ?_, f2⟩
        · show ds_call (d + 2 + 1) _ _ _ = _
          rw [c_Mod_tryFits, b_Mod_tryFits_0]
          simp (disch := first | assumption | omega) only [ds_cI, ds_cV, ds_cL, ds_cR, ds_nn, ds_isK_t, ds_isA_t, ds_chk_t, ds_chkN, ds_nz_t, ds_nzN, ds_isB_t, ds_isB_bo, ↓dl_m1, ↓dl_m2, dl_0, dl_1, dl_2, dl_3, dl_4, dl_5, dl_6, dl_7, dl_8, dl_9, dl_10, dl_11, dl_12, dl_13, dl_14, dl_15, dl_16, dl_20, dl_24, dl_31, dl_50, dl_57, dl_67, dl_68, dl_74, dl_75, dl_79, dl_80, dl_99, dl_100, dl_200, dl_210, dl_224, dl_255, dl_289, dl_900, dl_1000, dl_1728, dl_65536, dl_65537, nI_add, pk_mul, pk_sub, pk_div, pk_rem, ds_rem2, nI_clamp, nI_leI, nI_ltI, nI_eq, ds_m1_eq, ds_eq_m1, ds_m2_eq, ds_eq_m2, ds_m1_le, ds_le_m1, ds_m1_lt, ds_lt_m1, ds_in_N, ds_bo0, ds_bo1, if_pos, if_neg, Nat.not_le, Nat.not_lt, not_true_eq_false, not_false_eq_true, if_true, if_false, ne_eq, Option.some.injEq, Prod.mk.injEq, Value.int.injEq, true_and, and_true, and_self, ite_self, Bool.not_eq_true, Bool.not_eq_false, Bool.true_eq_false, Bool.false_eq_true, reduceCtorEq, Nat.zero_add, Nat.reduceAdd, Nat.reduceMul, Nat.reduceSub, ds_setI_row, ds_setL_row, ds_rowI_self, ds_rowI_ne, ds_rowI_2, ds_rowI_rowI, ds_setS_1, ds_setS_21, ds_setS_self, ds_setS_ne, pk_us, pk_un, h30', cp']
          rw [lf, b_Mod_tryFits_30]
          simp (disch := first | assumption | omega) only [ds_cI, ds_cV, ds_cL, ds_cR, ds_nn, ds_isK_t, ds_isA_t, ds_chk_t, ds_chkN, ds_nz_t, ds_nzN, ds_isB_t, ds_isB_bo, ↓dl_m1, ↓dl_m2, dl_0, dl_1, dl_2, dl_3, dl_4, dl_5, dl_6, dl_7, dl_8, dl_9, dl_10, dl_11, dl_12, dl_13, dl_14, dl_15, dl_16, dl_20, dl_24, dl_31, dl_50, dl_57, dl_67, dl_68, dl_74, dl_75, dl_79, dl_80, dl_99, dl_100, dl_200, dl_210, dl_224, dl_255, dl_289, dl_900, dl_1000, dl_1728, dl_65536, dl_65537, nI_add, pk_mul, pk_sub, pk_div, pk_rem, ds_rem2, nI_clamp, nI_leI, nI_ltI, nI_eq, ds_m1_eq, ds_eq_m1, ds_m2_eq, ds_eq_m2, ds_m1_le, ds_le_m1, ds_m1_lt, ds_lt_m1, ds_in_N, ds_bo0, ds_bo1, if_pos, if_neg, Nat.not_le, Nat.not_lt, not_true_eq_false, not_false_eq_true, if_true, if_false, ne_eq, Option.some.injEq, Prod.mk.injEq, Value.int.injEq, true_and, and_true, and_self, ite_self, Bool.not_eq_true, Bool.not_eq_false, Bool.true_eq_false, Bool.false_eq_true, reduceCtorEq, Nat.zero_add, Nat.reduceAdd, Nat.reduceMul, Nat.reduceSub, ds_setI_row, ds_setL_row, ds_rowI_self, ds_rowI_ne, ds_rowI_2, ds_rowI_rowI, ds_setS_1, ds_setS_21, ds_setS_self, ds_setS_ne, pk_us, pk_un, m7, ds_bo_t, c29, cp2']
          rw [b_Mod_tryFits_95]
          simp (disch := first | assumption | omega) only [ds_cI, ds_cV, ds_cL, ds_cR, ds_nn, ds_isK_t, ds_isA_t, ds_chk_t, ds_chkN, ds_nz_t, ds_nzN, ds_isB_t, ds_isB_bo, ↓dl_m1, ↓dl_m2, dl_0, dl_1, dl_2, dl_3, dl_4, dl_5, dl_6, dl_7, dl_8, dl_9, dl_10, dl_11, dl_12, dl_13, dl_14, dl_15, dl_16, dl_20, dl_24, dl_31, dl_50, dl_57, dl_67, dl_68, dl_74, dl_75, dl_79, dl_80, dl_99, dl_100, dl_200, dl_210, dl_224, dl_255, dl_289, dl_900, dl_1000, dl_1728, dl_65536, dl_65537, nI_add, pk_mul, pk_sub, pk_div, pk_rem, ds_rem2, nI_clamp, nI_leI, nI_ltI, nI_eq, ds_m1_eq, ds_eq_m1, ds_m2_eq, ds_eq_m2, ds_m1_le, ds_le_m1, ds_m1_lt, ds_lt_m1, ds_in_N, ds_bo0, ds_bo1, if_pos, if_neg, Nat.not_le, Nat.not_lt, not_true_eq_false, not_false_eq_true, if_true, if_false, ne_eq, Option.some.injEq, Prod.mk.injEq, Value.int.injEq, true_and, and_true, and_self, ite_self, Bool.not_eq_true, Bool.not_eq_false, Bool.true_eq_false, Bool.false_eq_true, reduceCtorEq, Nat.zero_add, Nat.reduceAdd, Nat.reduceMul, Nat.reduceSub, ds_setI_row, ds_setL_row, ds_rowI_self, ds_rowI_ne, ds_rowI_2, ds_rowI_rowI, ds_setS_1, ds_setS_21, ds_setS_self, ds_setS_ne, pk_us, pk_un, c29']
          rfl
        · refine ⟨?_, fun _ j hj => ?_⟩
          · show (ds_rowI z2 90 _).1 90 29 = _
            rw [ds_rowI_self, pk_us]
            simp only [dk_sum]
            rw [c0, hFX]
            rfl
          · simp only [dk_lst]
            rw [ha, if_neg (by decide)]
            show (ds_rowI z2 90 _).1 104 j = _
            rw [ds_rowI_ne _ _ (by decide), z2a j hj, z1n 103 (by decide)]
            exact htr j hj
      · have c0 : ¬ dk_sum (fun y => dk_n (F y)) X = 0 := fun q => by
          rw [(dk_cnt_0 F X).mp q] at ha
          exact absurd ha (by decide)
        let z3 := ds_rowI z1 90 (upd (z1.1 90) 29 (nI (dk_sum (fun y => dk_n (F y)) X + 1)))
        have f2 : dk_TF lev z z3 := by
          refine ⟨dk_fm_fld _ f1.1 (by decide), fun q a => ?_, fun j a => ?_, ?_⟩
          · show (ds_rowI z1 90 _).1 102 q = _
            rw [ds_rowI_ne _ _ (by decide)]; exact f1.2.1 q a
          · show (ds_rowI z1 90 _).1 103 j = _
            rw [ds_rowI_ne _ _ (by decide)]; exact f1.2.2.1 j a
          · show (ds_rowI z1 90 _).1 90 30 = _
            rw [ds_rowI_self, pk_un (by decide)]; exact f1.2.2.2
        refine ⟨z3, ?_, ?_, f2⟩
        · show ds_call (d + 2 + 1) _ _ _ = _
          rw [c_Mod_tryFits, b_Mod_tryFits_0]
          simp (disch := first | assumption | omega) only [ds_cI, ds_cV, ds_cL, ds_cR, ds_nn, ds_isK_t, ds_isA_t, ds_chk_t, ds_chkN, ds_nz_t, ds_nzN, ds_isB_t, ds_isB_bo, ↓dl_m1, ↓dl_m2, dl_0, dl_1, dl_2, dl_3, dl_4, dl_5, dl_6, dl_7, dl_8, dl_9, dl_10, dl_11, dl_12, dl_13, dl_14, dl_15, dl_16, dl_20, dl_24, dl_31, dl_50, dl_57, dl_67, dl_68, dl_74, dl_75, dl_79, dl_80, dl_99, dl_100, dl_200, dl_210, dl_224, dl_255, dl_289, dl_900, dl_1000, dl_1728, dl_65536, dl_65537, nI_add, pk_mul, pk_sub, pk_div, pk_rem, ds_rem2, nI_clamp, nI_leI, nI_ltI, nI_eq, ds_m1_eq, ds_eq_m1, ds_m2_eq, ds_eq_m2, ds_m1_le, ds_le_m1, ds_m1_lt, ds_lt_m1, ds_in_N, ds_bo0, ds_bo1, if_pos, if_neg, Nat.not_le, Nat.not_lt, not_true_eq_false, not_false_eq_true, if_true, if_false, ne_eq, Option.some.injEq, Prod.mk.injEq, Value.int.injEq, true_and, and_true, and_self, ite_self, Bool.not_eq_true, Bool.not_eq_false, Bool.true_eq_false, Bool.false_eq_true, reduceCtorEq, Nat.zero_add, Nat.reduceAdd, Nat.reduceMul, Nat.reduceSub, ds_setI_row, ds_setL_row, ds_rowI_self, ds_rowI_ne, ds_rowI_2, ds_rowI_rowI, ds_setS_1, ds_setS_21, ds_setS_self, ds_setS_ne, pk_us, pk_un, h30', cp']
          rw [lf, b_Mod_tryFits_30]
          simp only [z3]
          generalize dk_sum (fun y => dk_n (F y)) X = S at *
          simp (disch := first | assumption | omega) only [ds_cI, ds_cV, ds_cL, ds_cR, ds_nn, ds_isK_t, ds_isA_t, ds_chk_t, ds_chkN, ds_nz_t, ds_nzN, ds_isB_t, ds_isB_bo, ↓dl_m1, ↓dl_m2, dl_0, dl_1, dl_2, dl_3, dl_4, dl_5, dl_6, dl_7, dl_8, dl_9, dl_10, dl_11, dl_12, dl_13, dl_14, dl_15, dl_16, dl_20, dl_24, dl_31, dl_50, dl_57, dl_67, dl_68, dl_74, dl_75, dl_79, dl_80, dl_99, dl_100, dl_200, dl_210, dl_224, dl_255, dl_289, dl_900, dl_1000, dl_1728, dl_65536, dl_65537, nI_add, pk_mul, pk_sub, pk_div, pk_rem, ds_rem2, nI_clamp, nI_leI, nI_ltI, nI_eq, ds_m1_eq, ds_eq_m1, ds_m2_eq, ds_eq_m2, ds_m1_le, ds_le_m1, ds_m1_lt, ds_lt_m1, ds_in_N, ds_bo0, ds_bo1, if_pos, if_neg, Nat.not_le, Nat.not_lt, not_true_eq_false, not_false_eq_true, if_true, if_false, ne_eq, Option.some.injEq, Prod.mk.injEq, Value.int.injEq, true_and, and_true, and_self, ite_self, Bool.not_eq_true, Bool.not_eq_false, Bool.true_eq_false, Bool.false_eq_true, reduceCtorEq, Nat.zero_add, Nat.reduceAdd, Nat.reduceMul, Nat.reduceSub, ds_setI_row, ds_setL_row, ds_rowI_self, ds_rowI_ne, ds_rowI_2, ds_rowI_rowI, ds_setS_1, ds_setS_21, ds_setS_self, ds_setS_ne, pk_us, pk_un, m7, ds_bo_t, c29]
          rw [b_Mod_tryFits_95]
          simp (disch := first | assumption | omega) only [ds_cI, ds_cV, ds_cL, ds_cR, ds_nn, ds_isK_t, ds_isA_t, ds_chk_t, ds_chkN, ds_nz_t, ds_nzN, ds_isB_t, ds_isB_bo, ↓dl_m1, ↓dl_m2, dl_0, dl_1, dl_2, dl_3, dl_4, dl_5, dl_6, dl_7, dl_8, dl_9, dl_10, dl_11, dl_12, dl_13, dl_14, dl_15, dl_16, dl_20, dl_24, dl_31, dl_50, dl_57, dl_67, dl_68, dl_74, dl_75, dl_79, dl_80, dl_99, dl_100, dl_200, dl_210, dl_224, dl_255, dl_289, dl_900, dl_1000, dl_1728, dl_65536, dl_65537, nI_add, pk_mul, pk_sub, pk_div, pk_rem, ds_rem2, nI_clamp, nI_leI, nI_ltI, nI_eq, ds_m1_eq, ds_eq_m1, ds_m2_eq, ds_eq_m2, ds_m1_le, ds_le_m1, ds_m1_lt, ds_lt_m1, ds_in_N, ds_bo0, ds_bo1, if_pos, if_neg, Nat.not_le, Nat.not_lt, not_true_eq_false, not_false_eq_true, if_true, if_false, ne_eq, Option.some.injEq, Prod.mk.injEq, Value.int.injEq, true_and, and_true, and_self, ite_self, Bool.not_eq_true, Bool.not_eq_false, Bool.true_eq_false, Bool.false_eq_true, reduceCtorEq, Nat.zero_add, Nat.reduceAdd, Nat.reduceMul, Nat.reduceSub, ds_setI_row, ds_setL_row, ds_rowI_self, ds_rowI_ne, ds_rowI_2, ds_rowI_rowI, ds_setS_1, ds_setS_21, ds_setS_self, ds_setS_ne, pk_us, pk_un, c29]
        · refine ⟨?_, fun _ j hj => ?_⟩
          · show (ds_rowI z1 90 _).1 90 29 = _
            rw [ds_rowI_self, pk_us]
            simp only [dk_sum]
            rw [hFX]
            rfl
          · simp only [dk_lst]
            rw [if_pos ha]
            show (ds_rowI z1 90 _).1 104 j = _
            rw [ds_rowI_ne _ _ (by decide), z1n 104 (by decide)]
            exact hI.2 ha j hj
  | succ r ih =>
    intro lev X C z hl hB hM hin hrow hrow12 h30 htr hF hI
    have hMp : 0 < (D 0 4 + 2) ^ r := Nat.pow_pos (by omega)
    have ep : ∀ a, (X * (D 0 4 + 2) + a) * (D 0 4 + 2) ^ r = X * (D 0 4 + 2) ^ (r + 1) + a * (D 0 4 + 2) ^ r := by
      intro a
      rw [Nat.add_mul, Nat.pow_succ, Nat.mul_assoc, Nat.mul_comm (D 0 4 + 2) ((D 0 4 + 2) ^ r)]
    have eend : (X * (D 0 4 + 2) + (D 0 4 + 2)) * (D 0 4 + 2) ^ r = (X + 1) * (D 0 4 + 2) ^ (r + 1) := by
      rw [ep, Nat.pow_succ, Nat.add_mul X 1, Nat.one_mul, Nat.mul_comm (D 0 4 + 2) ((D 0 4 + 2) ^ r)]
    have go : ∀ m a y, a + m = D 0 4 + 2 → dk_TF lev z y → dk_TI F k (D 0 4 + 2) y ((X * (D 0 4 + 2) + a) * (D 0 4 + 2) ^ r) → ∃ z', ds_Rw ds_c_Mod_tryFits ds_u_Mod_tryFits (ds_call (d + r + 3)) 108 [some (.ref 90), some (.int (nI lev)), some (.int (nI a)), none] [] y = some (none, z') ∧ dk_TI F k (D 0 4 + 2) z' ((X + 1) * (D 0 4 + 2) ^ (r + 1)) ∧ dk_TF lev z z' := by
      intro m
      induction m with
      | zero =>
        intro a y ha hf hIy
        have : a = D 0 4 + 2 := by omega
        subst this
        have m4 := (dk_HM_fm hM hf.1).1.1.2.2.2.2.1
        rw [eend] at hIy
        refine ⟨y, ?_, hIy, hf⟩
        rw [b_Mod_tryFits_108]
        simp (disch := first | assumption | omega) only [ds_cI, ds_cV, ds_cL, ds_cR, ds_nn, ds_isK_t, ds_isA_t, ds_chk_t, ds_chkN, ds_nz_t, ds_nzN, ds_isB_t, ds_isB_bo, ↓dl_m1, ↓dl_m2, dl_0, dl_1, dl_2, dl_3, dl_4, dl_5, dl_6, dl_7, dl_8, dl_9, dl_10, dl_11, dl_12, dl_13, dl_14, dl_15, dl_16, dl_20, dl_24, dl_31, dl_50, dl_57, dl_67, dl_68, dl_74, dl_75, dl_79, dl_80, dl_99, dl_100, dl_200, dl_210, dl_224, dl_255, dl_289, dl_900, dl_1000, dl_1728, dl_65536, dl_65537, nI_add, pk_mul, pk_sub, pk_div, pk_rem, ds_rem2, nI_clamp, nI_leI, nI_ltI, nI_eq, ds_m1_eq, ds_eq_m1, ds_m2_eq, ds_eq_m2, ds_m1_le, ds_le_m1, ds_m1_lt, ds_lt_m1, ds_in_N, ds_bo0, ds_bo1, if_pos, if_neg, Nat.not_le, Nat.not_lt, not_true_eq_false, not_false_eq_true, if_true, if_false, ne_eq, Option.some.injEq, Prod.mk.injEq, Value.int.injEq, true_and, and_true, and_self, ite_self, Bool.not_eq_true, Bool.not_eq_false, Bool.true_eq_false, Bool.false_eq_true, reduceCtorEq, Nat.zero_add, Nat.reduceAdd, Nat.reduceMul, Nat.reduceSub, ds_setI_row, ds_setL_row, ds_rowI_self, ds_rowI_ne, ds_rowI_2, ds_rowI_rowI, ds_setS_1, ds_setS_21, ds_setS_self, ds_setS_ne, pk_us, pk_un, m4]
      | succ m ihm =>
        intro a y ha hf hIy
        have hMy := dk_HM_fm hM hf.1
        have m4 := hMy.1.1.2.2.2.2.1
        have cp := s_copy (d + r + 2) 102 101 (14 * lev) 0 14 y rfl rfl (by decide) (show 14 * lev + 14 ≤ 56 by omega) (by decide) (by decide)
        let y1 := ds_rowI y 101 (ds_cpF (y.1 102) (y.1 101) (14 * lev) 0 0 14)
        have y1n : ∀ p, p ≠ 101 → y1.1 p = y.1 p := fun p hp => ds_rowI_ne _ _ hp
        have y1a : ∀ j, j < 14 → y1.1 101 j = z.1 102 (14 * lev + j) := by
          intro j hj
          show (ds_rowI y 101 (ds_cpF (y.1 102) (y.1 101) (14 * lev) 0 0 14)).1 101 j = _
          rw [ds_rowI_self, ds_cpF_at, if_pos (by omega)]
          exact hf.2.1 (14 * lev + j) (by omega)
        have y1r : y1.2 = y.2 := rfl
        have cp' : ds_call (d + r + 3) j_Mod_copy [.ref 102, .int (nI (14 * lev)), .ref 101, .int (nI 0), .int (nI 14)] y = some (none, y1) := cp
        clear_value y1
        have hm1 : dk_dm y1 101 C (D 0 4) (D 0 4) := ⟨.inr (.inr rfl), by rw [y1a 12 (by decide)]; exact hrow12, n12, fun p hp => by rw [y1a p (by omega)]; exact hrow p hp, hin⟩
        obtain ⟨y2, s1, s2, s3, s4, s5⟩ := s_mkM (d + r + 1) 101 a (D 0 4) (D 0 4) y1 C (by omega) hm1
        have cp2 := s_copy (d + r + 2) 101 102 0 (14 * (lev + 1)) 14 y2 rfl rfl (by decide) (by decide) (show 14 * (lev + 1) + 14 ≤ 56 by omega) (by decide)
        let y3 := ds_rowI y2 102 (ds_cpF (y2.1 101) (y2.1 102) 0 (14 * (lev + 1)) 0 14)
        have y3n : ∀ p, p ≠ 102 → y3.1 p = y2.1 p := fun p hp => ds_rowI_ne _ _ hp
        have y3a : ∀ j, j < 14 → y3.1 102 (14 * (lev + 1) + j) = y2.1 101 j := by
          intro j hj
          show (ds_rowI y2 102 (ds_cpF (y2.1 101) (y2.1 102) 0 (14 * (lev + 1)) 0 14)).1 102 (14 * (lev + 1) + j) = _
          rw [ds_rowI_self, ds_cpF_at, if_pos (by omega), show 0 + (14 * (lev + 1) + j - 14 * (lev + 1)) = j by omega]
        have y3b : ∀ q, q < 14 * lev + 14 → y3.1 102 q = y2.1 102 q := by
          intro q hq
          show (ds_rowI y2 102 (ds_cpF (y2.1 101) (y2.1 102) 0 (14 * (lev + 1)) 0 14)).1 102 q = _
          rw [ds_rowI_self, ds_cpF_at, if_neg (by omega)]
        have y3r : y3.2 = y2.2 := rfl
        have cp2' : ds_call (d + r + 3) j_Mod_copy [.ref 101, .int (nI 0), .ref 102, .int (nI (14 * (lev + 1))), .int (nI 14)] y2 = some (none, y3) := cp2
        clear_value y3
        let y4 := ds_rowI y3 103 (upd (y3.1 103) lev (nI a))
        have y4n : ∀ p, p ≠ 103 → y4.1 p = y3.1 p := fun p hp => ds_rowI_ne _ _ hp
        have y4a : y4.1 103 lev = nI a := by
          show (ds_rowI y3 103 (upd (y3.1 103) lev (nI a))).1 103 lev = _
          rw [ds_rowI_self, pk_us]
        have y4b : ∀ j, j < lev → y4.1 103 j = y.1 103 j := by
          intro j hj
          show (ds_rowI y3 103 (upd (y3.1 103) lev (nI a))).1 103 j = _
          rw [ds_rowI_self, pk_un (by omega), y3n 103 (by decide), s3 103 (by decide) (by decide), y1n 103 (by decide)]
        have y4r : y4.2 = y.2 := by
          show y3.2 = _
          rw [y3r, s5, y1r]
        have y4e : ds_setI y3 103 lev (nI a) = y4 := ds_setI_row _ _ _ _
        clear_value y4
        have nn : ∀ p, p ≠ 98 → p ≠ 101 → p ≠ 102 → p ≠ 103 → y4.1 p = y.1 p := fun p h1 h2 h3 h4 => by rw [y4n p h4, y3n p h3, s3 p h2 h1, y1n p h2]
        have f4 : dk_TF lev y y4 := ⟨⟨fun p a b => nn p (by omega) (by omega) (by omega) (by omega), fun k a => by rw [nn 90 (by decide) (by decide) (by decide) (by decide)], fun j a => by rw [y4r]⟩, fun q hq => by rw [y4n 102 (by decide), y3b q hq, s3 102 (by decide) (by decide), y1n 102 (by decide)], y4b, by rw [nn 90 (by decide) (by decide) (by decide) (by decide)]⟩
        have hf4 := dk_TF_trans hf f4
        have bnd : (X * (D 0 4 + 2) + a + 1) * (D 0 4 + 2) ^ r ≤ 2744 := by
          have h1 : (X * (D 0 4 + 2) + a + 1) * (D 0 4 + 2) ^ r ≤ (X * (D 0 4 + 2) + (D 0 4 + 2)) * (D 0 4 + 2) ^ r := Nat.mul_le_mul_right _ (by omega)
          rw [eend] at h1
          omega
        obtain ⟨y5, w1, w2, w3⟩ := ih (lev + 1) (X * (D 0 4 + 2) + a) (dk_mk C a (D 0 4)) y4 (by omega) bnd (dk_HM_fm hM hf4.1) (dk_mk_inj (by omega) (by omega) hin) (fun p hp => by rw [y4n 102 (by decide), y3a p (by omega)]; exact s2.2.2.2.1 p hp) (by rw [y4n 102 (by decide), y3a 12 (by decide)]; exact s2.2.1) (by rw [hf4.2.2.2]; exact h30) (fun j hj => by
          rcases Nat.lt_or_ge j lev with hjl | hjl
          · rw [y4b j hjl, hf.2.2.1 j hjl, htr j hjl]
            have e1 : lev + 1 - 1 - j = lev - 1 - j + 1 := by omega
            rw [e1, Nat.pow_succ, Nat.mul_comm ((D 0 4 + 2) ^ (lev - 1 - j)), ← Nat.div_div_eq_div_mul, Nat.mul_comm X (D 0 4 + 2), Nat.mul_add_div (by omega), Nat.div_eq_of_lt (show a < D 0 4 + 2 by omega), Nat.add_zero X]
          · have : j = lev := by omega
            subst this
            have e1 : j + 1 - 1 - j = 0 := by omega
            rw [y4a, e1, Nat.pow_zero, Nat.div_one, Nat.mul_comm X (D 0 4 + 2), Nat.mul_add_mod, Nat.mod_eq_of_lt (by omega)]) (fun q hq => by
          have hlt : a * (D 0 4 + 2) ^ r + q < (D 0 4 + 2) ^ (r + 1) := by
            have h1 : (a + 1) * (D 0 4 + 2) ^ r ≤ (D 0 4 + 2) * (D 0 4 + 2) ^ r := Nat.mul_le_mul_right _ (by omega)
            rw [Nat.pow_succ, Nat.mul_comm ((D 0 4 + 2) ^ r)]
            rw [Nat.add_mul, Nat.one_mul] at h1
            omega
          have h2 := hF (a * (D 0 4 + 2) ^ r + q) hlt
          rw [dk_dg_top C (by omega) hq] at h2
          rw [ep, Nat.add_assoc]
          exact h2) ⟨by rw [nn 90 (by decide) (by decide) (by decide) (by decide)]; exact hIy.1, fun h j hj => by rw [nn 104 (by decide) (by decide) (by decide) (by decide)]; exact hIy.2 h j hj⟩
        have w3' : dk_TF lev y4 y5 := ⟨w3.1, fun q hq => w3.2.1 q (by omega), fun j hj => w3.2.2.1 j (by omega), w3.2.2.2⟩
        obtain ⟨z', v1, v2, v3⟩ := ihm (a + 1) y5 (by omega) (dk_TF_trans hf4 w3') (by
          have e : X * (D 0 4 + 2) + (a + 1) = X * (D 0 4 + 2) + a + 1 := by omega
          rw [e]
          exact w2)
        refine ⟨z', ?_, v2, v3⟩
        rw [b_Mod_tryFits_108]
        have lev3 : lev < 3 := by omega
        have e14 : nI 14 * (nI lev + nI 1) = nI (14 * (lev + 1)) := by rw [nI_add, pk_mul]
        simp (disch := first | assumption | omega) only [dl_14, dl_0, dl_1, dl_2, m4, nI_add, pk_mul, nI_leI, if_neg, Nat.not_le, ds_cV_t cp', ds_cV_t s1, ds_cV_t cp2', ds_chkN, nI_clamp, y4e, ds_cV_t w1, v1]
    have hf0 := dk_TF_refl lev z
    obtain ⟨z', v1, v2, v3⟩ := go (D 0 4 + 2) 0 z (by omega) hf0 (by
      have e := ep 0
      rw [Nat.zero_mul] at e
      rw [e]
      exact hI)
    refine ⟨z', ?_, v2, v3⟩
    have ed : d + (r + 1) + 3 = (d + r + 3) + 1 := by omega
    rw [ed, c_Mod_tryFits, b_Mod_tryFits_0]
    have ne : ¬ lev = k := by omega
    simp (disch := first | assumption | omega) only [ds_cI, ds_cV, ds_cL, ds_cR, ds_nn, ds_isK_t, ds_isA_t, ds_chk_t, ds_chkN, ds_nz_t, ds_nzN, ds_isB_t, ds_isB_bo, ↓dl_m1, ↓dl_m2, dl_0, dl_1, dl_2, dl_3, dl_4, dl_5, dl_6, dl_7, dl_8, dl_9, dl_10, dl_11, dl_12, dl_13, dl_14, dl_15, dl_16, dl_20, dl_24, dl_31, dl_50, dl_57, dl_67, dl_68, dl_74, dl_75, dl_79, dl_80, dl_99, dl_100, dl_200, dl_210, dl_224, dl_255, dl_289, dl_900, dl_1000, dl_1728, dl_65536, dl_65537, nI_add, pk_mul, pk_sub, pk_div, pk_rem, ds_rem2, nI_clamp, nI_leI, nI_ltI, nI_eq, ds_m1_eq, ds_eq_m1, ds_m2_eq, ds_eq_m2, ds_m1_le, ds_le_m1, ds_m1_lt, ds_lt_m1, ds_in_N, ds_bo0, ds_bo1, if_pos, if_neg, Nat.not_le, Nat.not_lt, not_true_eq_false, not_false_eq_true, if_true, if_false, ne_eq, Option.some.injEq, Prod.mk.injEq, Value.int.injEq, true_and, and_true, and_self, ite_self, Bool.not_eq_true, Bool.not_eq_false, Bool.true_eq_false, Bool.false_eq_true, reduceCtorEq, Nat.zero_add, Nat.reduceAdd, Nat.reduceMul, Nat.reduceSub, ds_setI_row, ds_setL_row, ds_rowI_self, ds_rowI_ne, ds_rowI_2, ds_rowI_rowI, ds_setS_1, ds_setS_21, ds_setS_self, ds_setS_ne, pk_us, pk_un, h30, ne, v1]
theorem s_seekFits (d k : Nat) (z : ds_St) (D : Nat → Nat → Nat) (K : Nat → Nat) (hM : dk_HM z D K) (hD : dk_ok D) (hk : k ≤ 3) : ∃ z', ds_call (d + 7) j_Mod_seekFits [.ref 90, .int (nI k)] z = some (none, z') ∧ dk_TI (dk_F D k) k (D 0 4 + 2) z' ((D 0 4 + 2) ^ k) ∧ dk_fm z z' := by
  have n12 := hD.2.2.2.2.1.2
  have m5 := hM.1.1.2.2.2.2.2.1
  obtain ⟨z1, p1, p2, p3⟩ := s_layPlan (d + 3) (D 0 5) z D K hM hD (Nat.le_refl _)
  have cp := s_copy (d + 5) 100 102 0 0 14 z1 rfl rfl (by decide) (by decide) (by decide) (by decide)
  let z2 := ds_rowI z1 102 (ds_cpF (z1.1 100) (z1.1 102) 0 0 0 14)
  have z2n : ∀ p, p ≠ 102 → z2.1 p = z1.1 p := fun p hp => ds_rowI_ne _ _ hp
  have z2a : ∀ j, j < 14 → z2.1 102 j = z1.1 100 j := by
    intro j hj
    show (ds_rowI z1 102 (ds_cpF (z1.1 100) (z1.1 102) 0 0 0 14)).1 102 j = _
    rw [ds_rowI_self, ds_cpF_at, if_pos (by omega), show 0 + (j - 0) = j by omega]
  have f2 : dk_fm z z2 := dk_fm_row _ p3 (by decide)
  have cp' : ds_call (d + 6) j_Mod_copy [.ref 100, .int (nI 0), .ref 102, .int (nI 0), .int (nI 14)] z1 = some (none, z2) := cp
  clear_value z2
  let z3 := ds_rowI (ds_rowI z2 90 (upd (z2.1 90) 29 (nI 0))) 90 (upd ((ds_rowI z2 90 (upd (z2.1 90) 29 (nI 0))).1 90) 30 (nI k))
  have f3 : dk_fm z z3 := dk_fm_fld _ (dk_fm_fld _ f2 (by decide)) (by decide)
  have z3n : ∀ p, p ≠ 90 → z3.1 p = z2.1 p := fun p hp => by
    show (ds_rowI (ds_rowI z2 90 _) 90 _).1 p = _
    rw [ds_rowI_ne _ _ hp, ds_rowI_ne _ _ hp]
  have z29 : z3.1 90 29 = nI 0 := by
    show (ds_rowI (ds_rowI z2 90 _) 90 _).1 90 29 = _
    rw [ds_rowI_self, pk_un (by decide), ds_rowI_self, pk_us]
  have z30 : z3.1 90 30 = nI k := by
    show (ds_rowI (ds_rowI z2 90 _) 90 _).1 90 30 = _
    rw [ds_rowI_self, pk_us]
  have z3e : ds_setI (ds_setI z2 90 29 (nI 0)) 90 30 (nI k) = z3 := by rw [ds_setI_row, ds_setI_row]
  clear_value z3
  have pl := dk_powle n12 hk
  have et : ∀ r, r = k → ds_call (d + 6) j_Mod_tryFits [.ref 90, .int (nI 0)] z3 = ds_call (d + (3 - r) + r + 3) j_Mod_tryFits [.ref 90, .int (nI 0)] z3 := by
    intro r hr
    congr 1
    omega
  obtain ⟨z', w1, w2, w3⟩ := s_tryFits (d + (3 - k)) k D K (dk_F D k) hD hk k 0 0 (dk_pl D (D 0 5)) z3 (by omega) (by omega) (dk_HM_fm hM f3) p2.2.2.2.2 (fun p hp => by
    rw [z3n 102 (by decide), show 14 * 0 + p = p by omega, z2a p (by omega)]
    exact p2.2.2.2.1 p hp) (by rw [z3n 102 (by decide), show 14 * 0 + 12 = 12 by omega, z2a 12 (by decide)]; exact p2.2.1) z30 (fun j hj => by omega) (fun y hy => by
    rw [Nat.zero_mul, Nat.zero_add]
    rfl) ⟨by rw [Nat.zero_mul, z29]; rfl, fun h => by
    rw [Nat.zero_mul] at h
    exact absurd h (by simp [dk_any])⟩
  rw [← et k rfl] at w1
  rw [Nat.zero_add, Nat.one_mul] at w2
  refine ⟨z', ?_, w2, dk_fm_trans f3 w3.1⟩
  rw [c_Mod_seekFits, b_Mod_seekFits_0]
  have p1' : ds_call (d + 6) j_Mod_layPlan [.ref 90, .int (nI (D 0 5))] z = some (none, z1) := p1
  simp only [dl_14, dl_0, m5]
  rw [ds_cV_t p1', ds_cV_t cp', z3e, ds_cV_t w1]
  rfl
theorem k_fits (d : Nat) (x : Int32) (z : ds_St) (h : dk_Inv z) : ∃ v z1 z2, ds_call (d + 20) j_Sea_fits [.ref 0, .int x] z = some (some v, z1) ∧ ds_call (d + 20) j_Mod_fits [.ref 90, .int x] z1 = some (some v, z2) ∧ dk_Inv z2 := by
  apply dk_both h
  intro t D K hC hM hz
  have hs := s_hasSea (d + 18) t z D K hC hz
  have g2 := fun z => s_in_rng' (d + 18) 3 x z (by decide)
  rcases hz with ⟨hD, hK⟩ | ⟨h0, hc0, hp0⟩
  · have hn : 0 < D 0 4 := by have := hD.2.2.2.2.1.1; omega
    have n12 := hD.2.2.2.2.1.2
    have o5 := hD.2.2.2.2.2.1
    have r0 := hC.1
    have hKt := ds_Kt hC.2.1.1
    have t9 := hC.2.1.2.1.2.2.2.2.2.1
    rcases Bool.eq_false_or_eq_true (dk_rng x 4) with hq | hq
    · obtain ⟨k, hk, rfl⟩ := (dk_rng_iff (by decide)).mp hq
      obtain ⟨z', s1, s2, s3⟩ := s_makePlan (d + 14) t (D 0 5) z D K hC hD (Nat.le_refl _)
      have hC' := dk_HC_fr hC (dk_fr_mono s3 (by decide) (by decide))
      have rm := s_rowsOfMoves (d + 17) t k z' D hC'.2.1 hD hC'.1 (by omega)
      have pl := dk_powle n12 (show k ≤ 3 by omega)
      have rw_ := fun y => s_rowFits (d + 15) t k y z' D (dk_pl D (D 0 5)) hC'.2.1 hD hC'.1 s2 (by omega)
      have sk : ∀ z, dk_HM z D K → _ := fun z hM => s_seekFits (d + 12) k z D K hM hD (by omega)
      have up := ds_up (F := fun y => ds_Rw ds_c_Sea_fits ds_u_Sea_fits (ds_call (d + 19)) 50 [some (.ref 0), some (.int (nI k)), some (.int (nI (((D 0 4 + 2) ^ k)))), some (.int (nI ((dk_sum (fun y => dk_n (dk_F D k y)) y)))), some (.int (nI y))] [] z') (n := (D 0 4 + 2) ^ k) 0 (by
        intro y _ hy
        have r := rw_ y hy
        have r' : ds_call (d + 19) j_Sea_rowFits [.ref 0, .int (nI y), .int (nI k)] z' = some (some (.int (ds_bo (dk_F D k y))), z') := r
        rw [b_Sea_fits_50]
        simp only [dk_sum]
        generalize (D 0 4 + 2) ^ k = P at *
        generalize dk_sum (fun y => dk_n (dk_F D k y)) y = S at *
        cases hF : dk_F D k y
        · rw [hF] at r'
          have e : S + dk_n false = S := rfl
          simp (disch := first | assumption | omega) only [ds_cI, ds_cV, ds_cL, ds_cR, ds_nn, ds_isK_t, ds_isA_t, ds_chk_t, ds_chkN, ds_nz_t, ds_nzN, ds_isB_t, ds_isB_bo, ↓dl_m1, ↓dl_m2, dl_0, dl_1, dl_2, dl_3, dl_4, dl_5, dl_6, dl_7, dl_8, dl_9, dl_10, dl_11, dl_12, dl_13, dl_14, dl_15, dl_16, dl_20, dl_24, dl_31, dl_50, dl_57, dl_67, dl_68, dl_74, dl_75, dl_79, dl_80, dl_99, dl_100, dl_200, dl_210, dl_224, dl_255, dl_289, dl_900, dl_1000, dl_1728, dl_65536, dl_65537, nI_add, pk_mul, pk_sub, pk_div, pk_rem, ds_rem2, nI_clamp, nI_leI, nI_ltI, nI_eq, ds_m1_eq, ds_eq_m1, ds_m2_eq, ds_eq_m2, ds_m1_le, ds_le_m1, ds_m1_lt, ds_lt_m1, ds_in_N, ds_bo0, ds_bo1, if_pos, if_neg, Nat.not_le, Nat.not_lt, not_true_eq_false, not_false_eq_true, if_true, if_false, ne_eq, Option.some.injEq, Prod.mk.injEq, Value.int.injEq, true_and, and_true, and_self, ite_self, Bool.not_eq_true, Bool.not_eq_false, Bool.true_eq_false, Bool.false_eq_true, reduceCtorEq, Nat.zero_add, Nat.reduceAdd, Nat.reduceMul, Nat.reduceSub, ds_setI_row, ds_setL_row, ds_rowI_self, ds_rowI_ne, ds_rowI_2, ds_rowI_rowI, ds_setS_1, ds_setS_21, ds_setS_self, ds_setS_ne, pk_us, pk_un, r', e]
        · rw [hF] at r'
          have e : S + dk_n true = S + 1 := rfl
          simp (disch := first | assumption | omega) only [ds_cI, ds_cV, ds_cL, ds_cR, ds_nn, ds_isK_t, ds_isA_t, ds_chk_t, ds_chkN, ds_nz_t, ds_nzN, ds_isB_t, ds_isB_bo, ↓dl_m1, ↓dl_m2, dl_0, dl_1, dl_2, dl_3, dl_4, dl_5, dl_6, dl_7, dl_8, dl_9, dl_10, dl_11, dl_12, dl_13, dl_14, dl_15, dl_16, dl_20, dl_24, dl_31, dl_50, dl_57, dl_67, dl_68, dl_74, dl_75, dl_79, dl_80, dl_99, dl_100, dl_200, dl_210, dl_224, dl_255, dl_289, dl_900, dl_1000, dl_1728, dl_65536, dl_65537, nI_add, pk_mul, pk_sub, pk_div, pk_rem, ds_rem2, nI_clamp, nI_leI, nI_ltI, nI_eq, ds_m1_eq, ds_eq_m1, ds_m2_eq, ds_eq_m2, ds_m1_le, ds_le_m1, ds_m1_lt, ds_lt_m1, ds_in_N, ds_bo0, ds_bo1, if_pos, if_neg, Nat.not_le, Nat.not_lt, not_true_eq_false, not_false_eq_true, if_true, if_false, ne_eq, Option.some.injEq, Prod.mk.injEq, Value.int.injEq, true_and, and_true, and_self, ite_self, Bool.not_eq_true, Bool.not_eq_false, Bool.true_eq_false, Bool.false_eq_true, reduceCtorEq, Nat.zero_add, Nat.reduceAdd, Nat.reduceMul, Nat.reduceSub, ds_setI_row, ds_setL_row, ds_rowI_self, ds_rowI_ne, ds_rowI_2, ds_rowI_rowI, ds_setS_1, ds_setS_21, ds_setS_self, ds_setS_ne, pk_us, pk_un, r', e]) (Nat.zero_le _)
      have e0 : dk_sum (fun y => dk_n (dk_F D k y)) 0 = 0 := rfl
      try simp only at up
      rw [e0] at up
      have cl := dk_cnt_le (dk_F D k) ((D 0 4 + 2) ^ k)
      refine ⟨.int (nI (dk_sum (fun y => dk_n (dk_F D k y)) ((D 0 4 + 2) ^ k))), nI 0, ds_rowI z' 0 (upd (z'.1 0) 10 (nI 0)), ?_, dk_qC_row _ (dk_fr_mono s3 (by decide) (by decide)), fun z0 hM0 => ?_⟩
      · rw [c_Sea_fits, b_Sea_fits_0]
        simp (disch := first | assumption | omega) only [ds_cI, ds_cV, ds_cL, ds_cR, ds_nn, ds_isK_t, ds_isA_t, ds_chk_t, ds_chkN, ds_nz_t, ds_nzN, ds_isB_t, ds_isB_bo, ↓dl_m1, ↓dl_m2, dl_0, dl_1, dl_2, dl_3, dl_4, dl_5, dl_6, dl_7, dl_8, dl_9, dl_10, dl_11, dl_12, dl_13, dl_14, dl_15, dl_16, dl_20, dl_24, dl_31, dl_50, dl_57, dl_67, dl_68, dl_74, dl_75, dl_79, dl_80, dl_99, dl_100, dl_200, dl_210, dl_224, dl_255, dl_289, dl_900, dl_1000, dl_1728, dl_65536, dl_65537, nI_add, pk_mul, pk_sub, pk_div, pk_rem, ds_rem2, nI_clamp, nI_leI, nI_ltI, nI_eq, ds_m1_eq, ds_eq_m1, ds_m2_eq, ds_eq_m2, ds_m1_le, ds_le_m1, ds_m1_lt, ds_lt_m1, ds_in_N, ds_bo0, ds_bo1, if_pos, if_neg, Nat.not_le, Nat.not_lt, not_true_eq_false, not_false_eq_true, if_true, if_false, ne_eq, Option.some.injEq, Prod.mk.injEq, Value.int.injEq, true_and, and_true, and_self, ite_self, Bool.not_eq_true, Bool.not_eq_false, Bool.true_eq_false, Bool.false_eq_true, reduceCtorEq, Nat.zero_add, Nat.reduceAdd, Nat.reduceMul, Nat.reduceSub, ds_setI_row, ds_setL_row, ds_rowI_self, ds_rowI_ne, ds_rowI_2, ds_rowI_rowI, ds_setS_1, ds_setS_21, ds_setS_self, ds_setS_ne, pk_us, pk_un, hs, hn, decide_true, r0, t9, s1, rm]
        rw [up, b_Sea_fits_50]
        generalize dk_sum (fun y => dk_n (dk_F D k y)) ((D 0 4 + 2) ^ k) = S at *
        generalize (D 0 4 + 2) ^ k = P at *
        simp (disch := first | assumption | omega) only [ds_cI, ds_cV, ds_cL, ds_cR, ds_nn, ds_isK_t, ds_isA_t, ds_chk_t, ds_chkN, ds_nz_t, ds_nzN, ds_isB_t, ds_isB_bo, ↓dl_m1, ↓dl_m2, dl_0, dl_1, dl_2, dl_3, dl_4, dl_5, dl_6, dl_7, dl_8, dl_9, dl_10, dl_11, dl_12, dl_13, dl_14, dl_15, dl_16, dl_20, dl_24, dl_31, dl_50, dl_57, dl_67, dl_68, dl_74, dl_75, dl_79, dl_80, dl_99, dl_100, dl_200, dl_210, dl_224, dl_255, dl_289, dl_900, dl_1000, dl_1728, dl_65536, dl_65537, nI_add, pk_mul, pk_sub, pk_div, pk_rem, ds_rem2, nI_clamp, nI_leI, nI_ltI, nI_eq, ds_m1_eq, ds_eq_m1, ds_m2_eq, ds_eq_m2, ds_m1_le, ds_le_m1, ds_m1_lt, ds_lt_m1, ds_in_N, ds_bo0, ds_bo1, if_pos, if_neg, Nat.not_le, Nat.not_lt, not_true_eq_false, not_false_eq_true, if_true, if_false, ne_eq, Option.some.injEq, Prod.mk.injEq, Value.int.injEq, true_and, and_true, and_self, ite_self, Bool.not_eq_true, Bool.not_eq_false, Bool.true_eq_false, Bool.false_eq_true, reduceCtorEq, Nat.zero_add, Nat.reduceAdd, Nat.reduceMul, Nat.reduceSub, ds_setI_row, ds_setL_row, ds_rowI_self, ds_rowI_ne, ds_rowI_2, ds_rowI_rowI, ds_setS_1, ds_setS_21, ds_setS_self, ds_setS_ne, pk_us, pk_un, s_answer]
      · have hMg := dk_zg_HM hM0
        have hsg := hMg.2.1
        obtain ⟨y, w1, w2, w3⟩ := sk _ hMg
        have w2' := w2.1
        refine ⟨y, ?_, dk_qM_ok w3⟩
        generalize dk_sum (fun y => dk_n (dk_F D k y)) ((D 0 4 + 2) ^ k) = S at *
        rw [c_Mod_fits, b_Mod_fits_0]
        simp (disch := first | assumption | omega) only [ds_cI, ds_cV, ds_cL, ds_cR, ds_nn, ds_isK_t, ds_isA_t, ds_chk_t, ds_chkN, ds_nz_t, ds_nzN, ds_isB_t, ds_isB_bo, ↓dl_m1, ↓dl_m2, dl_0, dl_1, dl_2, dl_3, dl_4, dl_5, dl_6, dl_7, dl_8, dl_9, dl_10, dl_11, dl_12, dl_13, dl_14, dl_15, dl_16, dl_20, dl_24, dl_31, dl_50, dl_57, dl_67, dl_68, dl_74, dl_75, dl_79, dl_80, dl_99, dl_100, dl_200, dl_210, dl_224, dl_255, dl_289, dl_900, dl_1000, dl_1728, dl_65536, dl_65537, nI_add, pk_mul, pk_sub, pk_div, pk_rem, ds_rem2, nI_clamp, nI_leI, nI_ltI, nI_eq, ds_m1_eq, ds_eq_m1, ds_m2_eq, ds_eq_m2, ds_m1_le, ds_le_m1, ds_m1_lt, ds_lt_m1, ds_in_N, ds_bo0, ds_bo1, if_pos, if_neg, Nat.not_le, Nat.not_lt, not_true_eq_false, not_false_eq_true, if_true, if_false, ne_eq, Option.some.injEq, Prod.mk.injEq, Value.int.injEq, true_and, and_true, and_self, ite_self, Bool.not_eq_true, Bool.not_eq_false, Bool.true_eq_false, Bool.false_eq_true, reduceCtorEq, Nat.zero_add, Nat.reduceAdd, Nat.reduceMul, Nat.reduceSub, ds_setI_row, ds_setL_row, ds_rowI_self, ds_rowI_ne, ds_rowI_2, ds_rowI_rowI, ds_setS_1, ds_setS_21, ds_setS_self, ds_setS_ne, pk_us, pk_un, s_good, hsg, hn, decide_true, g2, hq, w1, w2']
    · have hy := dk_rng_le (n := 3) (by decide) hq
      refine ⟨.int ds_m1, nI 2, ds_rowI z 0 (upd (z.1 0) 10 (nI 2)), ?_, dk_qC_no z _, fun z0 hM0 => ⟨ds_rowI (dk_zg z0) 90 (upd ((dk_zg z0).1 90) 11 (nI 2)), ?_, dk_qM_no z0 _⟩⟩
      · rw [c_Sea_fits, b_Sea_fits_0]
        rcases hy with hy | ⟨hy, hy2⟩
        · simp (disch := first | assumption | omega) only [ds_cI, ds_cV, ds_cL, ds_cR, ds_nn, ds_isK_t, ds_isA_t, ds_chk_t, ds_chkN, ds_nz_t, ds_nzN, ds_isB_t, ds_isB_bo, ↓dl_m1, ↓dl_m2, dl_0, dl_1, dl_2, dl_3, dl_4, dl_5, dl_6, dl_7, dl_8, dl_9, dl_10, dl_11, dl_12, dl_13, dl_14, dl_15, dl_16, dl_20, dl_24, dl_31, dl_50, dl_57, dl_67, dl_68, dl_74, dl_75, dl_79, dl_80, dl_99, dl_100, dl_200, dl_210, dl_224, dl_255, dl_289, dl_900, dl_1000, dl_1728, dl_65536, dl_65537, nI_add, pk_mul, pk_sub, pk_div, pk_rem, ds_rem2, nI_clamp, nI_leI, nI_ltI, nI_eq, ds_m1_eq, ds_eq_m1, ds_m2_eq, ds_eq_m2, ds_m1_le, ds_le_m1, ds_m1_lt, ds_lt_m1, ds_in_N, ds_bo0, ds_bo1, if_pos, if_neg, Nat.not_le, Nat.not_lt, not_true_eq_false, not_false_eq_true, if_true, if_false, ne_eq, Option.some.injEq, Prod.mk.injEq, Value.int.injEq, true_and, and_true, and_self, ite_self, Bool.not_eq_true, Bool.not_eq_false, Bool.true_eq_false, Bool.false_eq_true, reduceCtorEq, Nat.zero_add, Nat.reduceAdd, Nat.reduceMul, Nat.reduceSub, ds_setI_row, ds_setL_row, ds_rowI_self, ds_rowI_ne, ds_rowI_2, ds_rowI_rowI, ds_setS_1, ds_setS_21, ds_setS_self, ds_setS_ne, pk_us, pk_un, s_refuse, hs, hn, decide_true, hy]
        · simp (disch := first | assumption | omega) only [ds_cI, ds_cV, ds_cL, ds_cR, ds_nn, ds_isK_t, ds_isA_t, ds_chk_t, ds_chkN, ds_nz_t, ds_nzN, ds_isB_t, ds_isB_bo, ↓dl_m1, ↓dl_m2, dl_0, dl_1, dl_2, dl_3, dl_4, dl_5, dl_6, dl_7, dl_8, dl_9, dl_10, dl_11, dl_12, dl_13, dl_14, dl_15, dl_16, dl_20, dl_24, dl_31, dl_50, dl_57, dl_67, dl_68, dl_74, dl_75, dl_79, dl_80, dl_99, dl_100, dl_200, dl_210, dl_224, dl_255, dl_289, dl_900, dl_1000, dl_1728, dl_65536, dl_65537, nI_add, pk_mul, pk_sub, pk_div, pk_rem, ds_rem2, nI_clamp, nI_leI, nI_ltI, nI_eq, ds_m1_eq, ds_eq_m1, ds_m2_eq, ds_eq_m2, ds_m1_le, ds_le_m1, ds_m1_lt, ds_lt_m1, ds_in_N, ds_bo0, ds_bo1, if_pos, if_neg, Nat.not_le, Nat.not_lt, not_true_eq_false, not_false_eq_true, if_true, if_false, ne_eq, Option.some.injEq, Prod.mk.injEq, Value.int.injEq, true_and, and_true, and_self, ite_self, Bool.not_eq_true, Bool.not_eq_false, Bool.true_eq_false, Bool.false_eq_true, reduceCtorEq, Nat.zero_add, Nat.reduceAdd, Nat.reduceMul, Nat.reduceSub, ds_setI_row, ds_setL_row, ds_rowI_self, ds_rowI_ne, ds_rowI_2, ds_rowI_rowI, ds_setS_1, ds_setS_21, ds_setS_self, ds_setS_ne, pk_us, pk_un, s_refuse, hs, hn, decide_true, hy, hy2]
      · have hMg := dk_zg_HM hM0
        have hsg := hMg.2.1
        rw [c_Mod_fits, b_Mod_fits_0]
        simp (disch := first | assumption | omega) only [ds_cI, ds_cV, ds_cL, ds_cR, ds_nn, ds_isK_t, ds_isA_t, ds_chk_t, ds_chkN, ds_nz_t, ds_nzN, ds_isB_t, ds_isB_bo, ↓dl_m1, ↓dl_m2, dl_0, dl_1, dl_2, dl_3, dl_4, dl_5, dl_6, dl_7, dl_8, dl_9, dl_10, dl_11, dl_12, dl_13, dl_14, dl_15, dl_16, dl_20, dl_24, dl_31, dl_50, dl_57, dl_67, dl_68, dl_74, dl_75, dl_79, dl_80, dl_99, dl_100, dl_200, dl_210, dl_224, dl_255, dl_289, dl_900, dl_1000, dl_1728, dl_65536, dl_65537, nI_add, pk_mul, pk_sub, pk_div, pk_rem, ds_rem2, nI_clamp, nI_leI, nI_ltI, nI_eq, ds_m1_eq, ds_eq_m1, ds_m2_eq, ds_eq_m2, ds_m1_le, ds_le_m1, ds_m1_lt, ds_lt_m1, ds_in_N, ds_bo0, ds_bo1, if_pos, if_neg, Nat.not_le, Nat.not_lt, not_true_eq_false, not_false_eq_true, if_true, if_false, ne_eq, Option.some.injEq, Prod.mk.injEq, Value.int.injEq, true_and, and_true, and_self, ite_self, Bool.not_eq_true, Bool.not_eq_false, Bool.true_eq_false, Bool.false_eq_true, reduceCtorEq, Nat.zero_add, Nat.reduceAdd, Nat.reduceMul, Nat.reduceSub, ds_setI_row, ds_setL_row, ds_rowI_self, ds_rowI_ne, ds_rowI_2, ds_rowI_rowI, ds_setS_1, ds_setS_21, ds_setS_self, ds_setS_ne, pk_us, pk_un, s_good, s_no, hsg, hn, decide_true, g2, hq]
  · have h4 := h0 4 (by decide)
    refine ⟨.int ds_m1, nI 1, ds_rowI z 0 (upd (z.1 0) 10 (nI 1)), ?_, dk_qC_no z _, fun z0 hM0 => ⟨ds_rowI (dk_zg z0) 90 (upd ((dk_zg z0).1 90) 11 (nI 1)), ?_, dk_qM_no z0 _⟩⟩
    · rw [c_Sea_fits, b_Sea_fits_0]
      simp (disch := first | assumption | omega | rfl | decide) only [ds_cI, ds_cV, ds_cL, ds_cR, ds_nn, ds_isK_t, ds_isA_t, ds_chk_t, ds_chkN, ds_nz_t, ds_nzN, ds_isB_t, ds_isB_bo, ↓dl_m1, ↓dl_m2, dl_0, dl_1, dl_2, dl_3, dl_4, dl_5, dl_6, dl_7, dl_8, dl_9, dl_10, dl_11, dl_12, dl_13, dl_14, dl_15, dl_16, dl_20, dl_24, dl_31, dl_50, dl_57, dl_67, dl_68, dl_74, dl_75, dl_79, dl_80, dl_99, dl_100, dl_200, dl_210, dl_224, dl_255, dl_289, dl_900, dl_1000, dl_1728, dl_65536, dl_65537, nI_add, pk_mul, pk_sub, pk_div, pk_rem, ds_rem2, nI_clamp, nI_leI, nI_ltI, nI_eq, ds_m1_eq, ds_eq_m1, ds_m2_eq, ds_eq_m2, ds_m1_le, ds_le_m1, ds_m1_lt, ds_lt_m1, ds_in_N, ds_bo0, ds_bo1, if_pos, if_neg, Nat.not_le, Nat.not_lt, not_true_eq_false, not_false_eq_true, if_true, if_false, ne_eq, Option.some.injEq, Prod.mk.injEq, Value.int.injEq, true_and, and_true, and_self, ite_self, Bool.not_eq_true, Bool.not_eq_false, Bool.true_eq_false, Bool.false_eq_true, reduceCtorEq, Nat.zero_add, Nat.reduceAdd, Nat.reduceMul, Nat.reduceSub, ds_setI_row, ds_setL_row, ds_rowI_self, ds_rowI_ne, ds_rowI_2, ds_rowI_rowI, ds_setS_1, ds_setS_21, ds_setS_self, ds_setS_ne, pk_us, pk_un, s_refuse, hs, h4, Nat.lt_irrefl, decide_false]
    · have hMg := dk_zg_HM hM0
      have hsg := hMg.2.1
      rw [c_Mod_fits, b_Mod_fits_0]
      simp (disch := first | assumption | omega | rfl | decide) only [ds_cI, ds_cV, ds_cL, ds_cR, ds_nn, ds_isK_t, ds_isA_t, ds_chk_t, ds_chkN, ds_nz_t, ds_nzN, ds_isB_t, ds_isB_bo, ↓dl_m1, ↓dl_m2, dl_0, dl_1, dl_2, dl_3, dl_4, dl_5, dl_6, dl_7, dl_8, dl_9, dl_10, dl_11, dl_12, dl_13, dl_14, dl_15, dl_16, dl_20, dl_24, dl_31, dl_50, dl_57, dl_67, dl_68, dl_74, dl_75, dl_79, dl_80, dl_99, dl_100, dl_200, dl_210, dl_224, dl_255, dl_289, dl_900, dl_1000, dl_1728, dl_65536, dl_65537, nI_add, pk_mul, pk_sub, pk_div, pk_rem, ds_rem2, nI_clamp, nI_leI, nI_ltI, nI_eq, ds_m1_eq, ds_eq_m1, ds_m2_eq, ds_eq_m2, ds_m1_le, ds_le_m1, ds_m1_lt, ds_lt_m1, ds_in_N, ds_bo0, ds_bo1, if_pos, if_neg, Nat.not_le, Nat.not_lt, not_true_eq_false, not_false_eq_true, if_true, if_false, ne_eq, Option.some.injEq, Prod.mk.injEq, Value.int.injEq, true_and, and_true, and_self, ite_self, Bool.not_eq_true, Bool.not_eq_false, Bool.true_eq_false, Bool.false_eq_true, reduceCtorEq, Nat.zero_add, Nat.reduceAdd, Nat.reduceMul, Nat.reduceSub, ds_setI_row, ds_setL_row, ds_rowI_self, ds_rowI_ne, ds_rowI_2, ds_rowI_rowI, ds_setS_1, ds_setS_21, ds_setS_self, ds_setS_ne, pk_us, pk_un, s_good, s_no, hsg, h4, Nat.lt_irrefl, decide_false]
theorem k_fitAt (d : Nat) (x x2 : Int32) (z : ds_St) (h : dk_Inv z) : ∃ v z1 z2, ds_call (d + 20) j_Sea_fitAt [.ref 0, .int x, .int x2] z = some (some v, z1) ∧ ds_call (d + 20) j_Mod_fitAt [.ref 90, .int x, .int x2] z1 = some (some v, z2) ∧ dk_Inv z2 := by
  apply dk_both h
  intro t D K hC hM hz
  have hs := s_hasSea (d + 18) t z D K hC hz
  have g2 := fun z => s_in_rng' (d + 18) 3 x z (by decide)
  rcases hz with ⟨hD, hK⟩ | ⟨h0, hc0, hp0⟩
  · have hn : 0 < D 0 4 := by have := hD.2.2.2.2.1.1; omega
    have n12 := hD.2.2.2.2.1.2
    have o5 := hD.2.2.2.2.2.1
    have r0 := hC.1
    have hKt := ds_Kt hC.2.1.1
    have t9 := hC.2.1.2.1.2.2.2.2.2.1
    rcases Bool.eq_false_or_eq_true (dk_rng x 4) with hq | hq
    · obtain ⟨k, hk, rfl⟩ := (dk_rng_iff (by decide)).mp hq
      rcases pk_ix x2 (show k < 2 ^ 31 by omega) with hx | hx | ⟨i, hi, rfl⟩
      · refine ⟨.int ds_m1, nI 1, ds_rowI z 0 (upd (z.1 0) 10 (nI 1)), ?_, dk_qC_no z _, fun z0 hM0 => ⟨ds_rowI (dk_zg z0) 90 (upd ((dk_zg z0).1 90) 11 (nI 1)), ?_, dk_qM_no z0 _⟩⟩
        · have hx' : x2 < nI 0 := hx
          rw [c_Sea_fitAt, b_Sea_fitAt_0]
          simp (disch := first | assumption | omega) only [ds_cI, ds_cV, ds_cL, ds_cR, ds_nn, ds_isK_t, ds_isA_t, ds_chk_t, ds_chkN, ds_nz_t, ds_nzN, ds_isB_t, ds_isB_bo, ↓dl_m1, ↓dl_m2, dl_0, dl_1, dl_2, dl_3, dl_4, dl_5, dl_6, dl_7, dl_8, dl_9, dl_10, dl_11, dl_12, dl_13, dl_14, dl_15, dl_16, dl_20, dl_24, dl_31, dl_50, dl_57, dl_67, dl_68, dl_74, dl_75, dl_79, dl_80, dl_99, dl_100, dl_200, dl_210, dl_224, dl_255, dl_289, dl_900, dl_1000, dl_1728, dl_65536, dl_65537, nI_add, pk_mul, pk_sub, pk_div, pk_rem, ds_rem2, nI_clamp, nI_leI, nI_ltI, nI_eq, ds_m1_eq, ds_eq_m1, ds_m2_eq, ds_eq_m2, ds_m1_le, ds_le_m1, ds_m1_lt, ds_lt_m1, ds_in_N, ds_bo0, ds_bo1, if_pos, if_neg, Nat.not_le, Nat.not_lt, not_true_eq_false, not_false_eq_true, if_true, if_false, ne_eq, Option.some.injEq, Prod.mk.injEq, Value.int.injEq, true_and, and_true, and_self, ite_self, Bool.not_eq_true, Bool.not_eq_false, Bool.true_eq_false, Bool.false_eq_true, reduceCtorEq, Nat.zero_add, Nat.reduceAdd, Nat.reduceMul, Nat.reduceSub, ds_setI_row, ds_setL_row, ds_rowI_self, ds_rowI_ne, ds_rowI_2, ds_rowI_rowI, ds_setS_1, ds_setS_21, ds_setS_self, ds_setS_ne, pk_us, pk_un, s_refuse, hs, hn, decide_true, hx']
        · have hMg := dk_zg_HM hM0
          have hsg := hMg.2.1
          have hin : ds_call (d + 19) j_Mod_in [.int x2, .int (nI 0), .int (nI k - nI 1)] (dk_zg z0) = some (some (.int (nI 0)), dk_zg z0) := by
            have hx' : x2 < nI 0 := hx
            rw [c_Mod_in, b_Mod_in_0]
            simp (disch := first | assumption | omega) only [ds_cI, ds_cV, ds_cL, ds_cR, ds_nn, ds_isK_t, ds_isA_t, ds_chk_t, ds_chkN, ds_nz_t, ds_nzN, ds_isB_t, ds_isB_bo, ↓dl_m1, ↓dl_m2, dl_0, dl_1, dl_2, dl_3, dl_4, dl_5, dl_6, dl_7, dl_8, dl_9, dl_10, dl_11, dl_12, dl_13, dl_14, dl_15, dl_16, dl_20, dl_24, dl_31, dl_50, dl_57, dl_67, dl_68, dl_74, dl_75, dl_79, dl_80, dl_99, dl_100, dl_200, dl_210, dl_224, dl_255, dl_289, dl_900, dl_1000, dl_1728, dl_65536, dl_65537, nI_add, pk_mul, pk_sub, pk_div, pk_rem, ds_rem2, nI_clamp, nI_leI, nI_ltI, nI_eq, ds_m1_eq, ds_eq_m1, ds_m2_eq, ds_eq_m2, ds_m1_le, ds_le_m1, ds_m1_lt, ds_lt_m1, ds_in_N, ds_bo0, ds_bo1, if_pos, if_neg, Nat.not_le, Nat.not_lt, not_true_eq_false, not_false_eq_true, if_true, if_false, ne_eq, Option.some.injEq, Prod.mk.injEq, Value.int.injEq, true_and, and_true, and_self, ite_self, Bool.not_eq_true, Bool.not_eq_false, Bool.true_eq_false, Bool.false_eq_true, reduceCtorEq, Nat.zero_add, Nat.reduceAdd, Nat.reduceMul, Nat.reduceSub, ds_setI_row, ds_setL_row, ds_rowI_self, ds_rowI_ne, ds_rowI_2, ds_rowI_rowI, ds_setS_1, ds_setS_21, ds_setS_self, ds_setS_ne, pk_us, pk_un, hx']
          have e1 : (1 : Int32) = nI 1 := rfl
          rw [c_Mod_fitAt, b_Mod_fitAt_0, e1]
          generalize nI k - nI 1 = w at *
          simp (disch := first | assumption | omega) only [ds_cI, ds_cV, ds_cL, ds_cR, ds_nn, ds_isK_t, ds_isA_t, ds_chk_t, ds_chkN, ds_nz_t, ds_nzN, ds_isB_t, ds_isB_bo, ↓dl_m1, ↓dl_m2, dl_0, dl_1, dl_2, dl_3, dl_4, dl_5, dl_6, dl_7, dl_8, dl_9, dl_10, dl_11, dl_12, dl_13, dl_14, dl_15, dl_16, dl_20, dl_24, dl_31, dl_50, dl_57, dl_67, dl_68, dl_74, dl_75, dl_79, dl_80, dl_99, dl_100, dl_200, dl_210, dl_224, dl_255, dl_289, dl_900, dl_1000, dl_1728, dl_65536, dl_65537, nI_add, pk_mul, pk_sub, pk_div, pk_rem, ds_rem2, nI_clamp, nI_leI, nI_ltI, nI_eq, ds_m1_eq, ds_eq_m1, ds_m2_eq, ds_eq_m2, ds_m1_le, ds_le_m1, ds_m1_lt, ds_lt_m1, ds_in_N, ds_bo0, ds_bo1, if_pos, if_neg, Nat.not_le, Nat.not_lt, not_true_eq_false, not_false_eq_true, if_true, if_false, ne_eq, Option.some.injEq, Prod.mk.injEq, Value.int.injEq, true_and, and_true, and_self, ite_self, Bool.not_eq_true, Bool.not_eq_false, Bool.true_eq_false, Bool.false_eq_true, reduceCtorEq, Nat.zero_add, Nat.reduceAdd, Nat.reduceMul, Nat.reduceSub, ds_setI_row, ds_setL_row, ds_rowI_self, ds_rowI_ne, ds_rowI_2, ds_rowI_rowI, ds_setS_1, ds_setS_21, ds_setS_self, ds_setS_ne, pk_us, pk_un, s_good, s_no, hsg, hn, decide_true, g2, hq, hin]
      · refine ⟨.int ds_m1, nI 1, ds_rowI z 0 (upd (z.1 0) 10 (nI 1)), ?_, dk_qC_no z _, fun z0 hM0 => ⟨ds_rowI (dk_zg z0) 90 (upd ((dk_zg z0).1 90) 11 (nI 1)), ?_, dk_qM_no z0 _⟩⟩
        · have hx1 : ¬ x2 < nI 0 := fun q => by
            rw [Int32.lt_iff_toInt_lt] at q
            rw [Int32.le_iff_toInt_le, nI_toInt (by omega)] at hx
            have e0 : (nI 0).toInt = 0 := rfl
            omega
          have hx2 : ¬ x2 < nI k := fun q => by
            rw [Int32.lt_iff_toInt_lt] at q
            rw [Int32.le_iff_toInt_le] at hx
            omega
          rw [c_Sea_fitAt, b_Sea_fitAt_0]
          simp (disch := first | assumption | omega) only [ds_cI, ds_cV, ds_cL, ds_cR, ds_nn, ds_isK_t, ds_isA_t, ds_chk_t, ds_chkN, ds_nz_t, ds_nzN, ds_isB_t, ds_isB_bo, ↓dl_m1, ↓dl_m2, dl_0, dl_1, dl_2, dl_3, dl_4, dl_5, dl_6, dl_7, dl_8, dl_9, dl_10, dl_11, dl_12, dl_13, dl_14, dl_15, dl_16, dl_20, dl_24, dl_31, dl_50, dl_57, dl_67, dl_68, dl_74, dl_75, dl_79, dl_80, dl_99, dl_100, dl_200, dl_210, dl_224, dl_255, dl_289, dl_900, dl_1000, dl_1728, dl_65536, dl_65537, nI_add, pk_mul, pk_sub, pk_div, pk_rem, ds_rem2, nI_clamp, nI_leI, nI_ltI, nI_eq, ds_m1_eq, ds_eq_m1, ds_m2_eq, ds_eq_m2, ds_m1_le, ds_le_m1, ds_m1_lt, ds_lt_m1, ds_in_N, ds_bo0, ds_bo1, if_pos, if_neg, Nat.not_le, Nat.not_lt, not_true_eq_false, not_false_eq_true, if_true, if_false, ne_eq, Option.some.injEq, Prod.mk.injEq, Value.int.injEq, true_and, and_true, and_self, ite_self, Bool.not_eq_true, Bool.not_eq_false, Bool.true_eq_false, Bool.false_eq_true, reduceCtorEq, Nat.zero_add, Nat.reduceAdd, Nat.reduceMul, Nat.reduceSub, ds_setI_row, ds_setL_row, ds_rowI_self, ds_rowI_ne, ds_rowI_2, ds_rowI_rowI, ds_setS_1, ds_setS_21, ds_setS_self, ds_setS_ne, pk_us, pk_un, s_refuse, hs, hn, decide_true, hx1, hx2]
        · have hMg := dk_zg_HM hM0
          have hsg := hMg.2.1
          have hin : ds_call (d + 19) j_Mod_in [.int x2, .int (nI 0), .int (nI k - nI 1)] (dk_zg z0) = some (some (.int (nI 0)), dk_zg z0) := by
            have hx1 : ¬ x2 < nI 0 := fun q => by
              rw [Int32.lt_iff_toInt_lt] at q
              rw [Int32.le_iff_toInt_le, nI_toInt (by omega)] at hx
              have e0 : (nI 0).toInt = 0 := rfl
              omega
            have hx2 : nI k - nI 1 < x2 := by
              rw [Int32.le_iff_toInt_le, nI_toInt (by omega)] at hx
              rcases Nat.eq_zero_or_pos k with q | q
              · rw [Int32.lt_iff_toInt_lt, q]
                have e0 : (nI 0 - nI 1).toInt = -1 := by decide
                omega
              · rw [pk_sub (by omega), Int32.lt_iff_toInt_lt, nI_toInt (by omega)]
                omega
            rw [c_Mod_in, b_Mod_in_0]
            simp only [dl_0]
            rw [if_neg hx1, if_pos hx2]
            rfl
          have e1 : (1 : Int32) = nI 1 := rfl
          rw [c_Mod_fitAt, b_Mod_fitAt_0, e1]
          generalize nI k - nI 1 = w at *
          simp (disch := first | assumption | omega) only [ds_cI, ds_cV, ds_cL, ds_cR, ds_nn, ds_isK_t, ds_isA_t, ds_chk_t, ds_chkN, ds_nz_t, ds_nzN, ds_isB_t, ds_isB_bo, ↓dl_m1, ↓dl_m2, dl_0, dl_1, dl_2, dl_3, dl_4, dl_5, dl_6, dl_7, dl_8, dl_9, dl_10, dl_11, dl_12, dl_13, dl_14, dl_15, dl_16, dl_20, dl_24, dl_31, dl_50, dl_57, dl_67, dl_68, dl_74, dl_75, dl_79, dl_80, dl_99, dl_100, dl_200, dl_210, dl_224, dl_255, dl_289, dl_900, dl_1000, dl_1728, dl_65536, dl_65537, nI_add, pk_mul, pk_sub, pk_div, pk_rem, ds_rem2, nI_clamp, nI_leI, nI_ltI, nI_eq, ds_m1_eq, ds_eq_m1, ds_m2_eq, ds_eq_m2, ds_m1_le, ds_le_m1, ds_m1_lt, ds_lt_m1, ds_in_N, ds_bo0, ds_bo1, if_pos, if_neg, Nat.not_le, Nat.not_lt, not_true_eq_false, not_false_eq_true, if_true, if_false, ne_eq, Option.some.injEq, Prod.mk.injEq, Value.int.injEq, true_and, and_true, and_self, ite_self, Bool.not_eq_true, Bool.not_eq_false, Bool.true_eq_false, Bool.false_eq_true, reduceCtorEq, Nat.zero_add, Nat.reduceAdd, Nat.reduceMul, Nat.reduceSub, ds_setI_row, ds_setL_row, ds_rowI_self, ds_rowI_ne, ds_rowI_2, ds_rowI_rowI, ds_setS_1, ds_setS_21, ds_setS_self, ds_setS_ne, pk_us, pk_un, s_good, s_no, hsg, hn, decide_true, g2, hq, hin]
      · obtain ⟨z', s1, s2, s3⟩ := s_makePlan (d + 14) t (D 0 5) z D K hC hD (Nat.le_refl _)
        have hC' := dk_HC_fr hC (dk_fr_mono s3 (by decide) (by decide))
        have rm := fun k => s_rowsOfMoves (d + 17) t k z' D hC'.2.1 hD hC'.1
        have pl := dk_powle n12 (show k ≤ 3 by omega)
        have rw_ := fun y => s_rowFits (d + 15) t k y z' D (dk_pl D (D 0 5)) hC'.2.1 hD hC'.1 s2 (by omega)
        have mr := fun y => s_moveOfRow (d + 17) t y (k - 1 - i) z' D hC'.2.1 hD hC'.1
        have sk : ∀ z, dk_HM z D K → _ := fun z hM => s_seekFits (d + 12) k z D K hM hD (by omega)
        have rmk := rm k (by omega)
        have ek : nI k - nI 1 - nI i = nI (k - 1 - i) := by rw [pk_sub (by omega), pk_sub (by omega)]
        have fin : ∀ w : Int32, (∀ m y, y + m = (D 0 4 + 2) ^ k → (∀ q, q < y → dk_F D k q = false) → ds_Rw ds_c_Sea_fitAt ds_u_Sea_fitAt (ds_call (d + 19)) 63 [some (.ref 0), some (.int (nI k)), some (.int (nI i)), some (.int (nI (((D 0 4 + 2) ^ k)))), some (.int (nI y))] [] z' = some (some (.int w), ds_rowI z' 0 (upd (z'.1 0) 10 (nI 0)))) → (∀ y1, dk_TI (dk_F D k) k (D 0 4 + 2) y1 ((D 0 4 + 2) ^ k) → (y1.1 90 29 = nI 0 ∧ w = ds_m2) ∨ (¬ y1.1 90 29 = nI 0 ∧ y1.1 104 i = w)) → ∃ r u z1, ds_call (d + 20) j_Sea_fitAt [.ref 0, .int (nI k), .int (nI i)] z = some (some r, z1) ∧ dk_qC z z1 u ∧ ∀ z0, dk_HM z0 D K → ∃ z2, ds_call (d + 20) j_Mod_fitAt [.ref 90, .int (nI k), .int (nI i)] z0 = some (some r, z2) ∧ dk_qM z0 z2 u := by
          intro w hw hw2
          have g := hw ((D 0 4 + 2) ^ k) 0 (by omega) (fun q hq => by omega)
          refine ⟨.int w, nI 0, ds_rowI z' 0 (upd (z'.1 0) 10 (nI 0)), ?_, dk_qC_row _ (dk_fr_mono s3 (by decide) (by decide)), fun z0 hM0 => ?_⟩
          · rw [c_Sea_fitAt, b_Sea_fitAt_0]
            generalize (D 0 4 + 2) ^ k = P at *
            simp (disch := first | assumption | omega) only [ds_cI, ds_cV, ds_cL, ds_cR, ds_nn, ds_isK_t, ds_isA_t, ds_chk_t, ds_chkN, ds_nz_t, ds_nzN, ds_isB_t, ds_isB_bo, ↓dl_m1, ↓dl_m2, dl_0, dl_1, dl_2, dl_3, dl_4, dl_5, dl_6, dl_7, dl_8, dl_9, dl_10, dl_11, dl_12, dl_13, dl_14, dl_15, dl_16, dl_20, dl_24, dl_31, dl_50, dl_57, dl_67, dl_68, dl_74, dl_75, dl_79, dl_80, dl_99, dl_100, dl_200, dl_210, dl_224, dl_255, dl_289, dl_900, dl_1000, dl_1728, dl_65536, dl_65537, nI_add, pk_mul, pk_sub, pk_div, pk_rem, ds_rem2, nI_clamp, nI_leI, nI_ltI, nI_eq, ds_m1_eq, ds_eq_m1, ds_m2_eq, ds_eq_m2, ds_m1_le, ds_le_m1, ds_m1_lt, ds_lt_m1, ds_in_N, ds_bo0, ds_bo1, if_pos, if_neg, Nat.not_le, Nat.not_lt, not_true_eq_false, not_false_eq_true, if_true, if_false, ne_eq, Option.some.injEq, Prod.mk.injEq, Value.int.injEq, true_and, and_true, and_self, ite_self, Bool.not_eq_true, Bool.not_eq_false, Bool.true_eq_false, Bool.false_eq_true, reduceCtorEq, Nat.zero_add, Nat.reduceAdd, Nat.reduceMul, Nat.reduceSub, ds_setI_row, ds_setL_row, ds_rowI_self, ds_rowI_ne, ds_rowI_2, ds_rowI_rowI, ds_setS_1, ds_setS_21, ds_setS_self, ds_setS_ne, pk_us, pk_un, hs, hn, decide_true, r0, t9, s1, rmk, g]
          · have hMg := dk_zg_HM hM0
            have hsg := hMg.2.1
            obtain ⟨y, w1, w2, w3⟩ := sk _ hMg
            have hin := s_inN (d + 18) i 0 (k - 1) (dk_zg z0) (by omega) (by decide) (by omega)
            have e1 : (decide (0 ≤ i) && decide (i ≤ k - 1)) = true := by
              rw [decide_eq_true (Nat.zero_le i), decide_eq_true (show i ≤ k - 1 by omega)]
              rfl
            rw [e1] at hin
            refine ⟨y, ?_, dk_qM_ok w3⟩
            rw [c_Mod_fitAt, b_Mod_fitAt_0]
            rcases hw2 y w2 with ⟨v1, v2⟩ | ⟨v1, v2⟩
            · rw [v2]
              simp (disch := first | assumption | omega) only [ds_cI, ds_cV, ds_cL, ds_cR, ds_nn, ds_isK_t, ds_isA_t, ds_chk_t, ds_chkN, ds_nz_t, ds_nzN, ds_isB_t, ds_isB_bo, ↓dl_m1, ↓dl_m2, dl_0, dl_1, dl_2, dl_3, dl_4, dl_5, dl_6, dl_7, dl_8, dl_9, dl_10, dl_11, dl_12, dl_13, dl_14, dl_15, dl_16, dl_20, dl_24, dl_31, dl_50, dl_57, dl_67, dl_68, dl_74, dl_75, dl_79, dl_80, dl_99, dl_100, dl_200, dl_210, dl_224, dl_255, dl_289, dl_900, dl_1000, dl_1728, dl_65536, dl_65537, nI_add, pk_mul, pk_sub, pk_div, pk_rem, ds_rem2, nI_clamp, nI_leI, nI_ltI, nI_eq, ds_m1_eq, ds_eq_m1, ds_m2_eq, ds_eq_m2, ds_m1_le, ds_le_m1, ds_m1_lt, ds_lt_m1, ds_in_N, ds_bo0, ds_bo1, if_pos, if_neg, Nat.not_le, Nat.not_lt, not_true_eq_false, not_false_eq_true, if_true, if_false, ne_eq, Option.some.injEq, Prod.mk.injEq, Value.int.injEq, true_and, and_true, and_self, ite_self, Bool.not_eq_true, Bool.not_eq_false, Bool.true_eq_false, Bool.false_eq_true, reduceCtorEq, Nat.zero_add, Nat.reduceAdd, Nat.reduceMul, Nat.reduceSub, ds_setI_row, ds_setL_row, ds_rowI_self, ds_rowI_ne, ds_rowI_2, ds_rowI_rowI, ds_setS_1, ds_setS_21, ds_setS_self, ds_setS_ne, pk_us, pk_un, s_good, hsg, hn, decide_true, g2, hq, hin, w1, v1]
            · simp (disch := first | assumption | omega) only [ds_cI, ds_cV, ds_cL, ds_cR, ds_nn, ds_isK_t, ds_isA_t, ds_chk_t, ds_chkN, ds_nz_t, ds_nzN, ds_isB_t, ds_isB_bo, ↓dl_m1, ↓dl_m2, dl_0, dl_1, dl_2, dl_3, dl_4, dl_5, dl_6, dl_7, dl_8, dl_9, dl_10, dl_11, dl_12, dl_13, dl_14, dl_15, dl_16, dl_20, dl_24, dl_31, dl_50, dl_57, dl_67, dl_68, dl_74, dl_75, dl_79, dl_80, dl_99, dl_100, dl_200, dl_210, dl_224, dl_255, dl_289, dl_900, dl_1000, dl_1728, dl_65536, dl_65537, nI_add, pk_mul, pk_sub, pk_div, pk_rem, ds_rem2, nI_clamp, nI_leI, nI_ltI, nI_eq, ds_m1_eq, ds_eq_m1, ds_m2_eq, ds_eq_m2, ds_m1_le, ds_le_m1, ds_m1_lt, ds_lt_m1, ds_in_N, ds_bo0, ds_bo1, if_pos, if_neg, Nat.not_le, Nat.not_lt, not_true_eq_false, not_false_eq_true, if_true, if_false, ne_eq, Option.some.injEq, Prod.mk.injEq, Value.int.injEq, true_and, and_true, and_self, ite_self, Bool.not_eq_true, Bool.not_eq_false, Bool.true_eq_false, Bool.false_eq_true, reduceCtorEq, Nat.zero_add, Nat.reduceAdd, Nat.reduceMul, Nat.reduceSub, ds_setI_row, ds_setL_row, ds_rowI_self, ds_rowI_ne, ds_rowI_2, ds_rowI_rowI, ds_setS_1, ds_setS_21, ds_setS_self, ds_setS_ne, pk_us, pk_un, s_good, hsg, hn, decide_true, g2, hq, hin, w1, v1, v2]
        cases ha : dk_any (dk_F D k) ((D 0 4 + 2) ^ k)
        · apply fin ds_m2
          · intro m
            induction m with
            | zero =>
              intro y hy _
              have : y = (D 0 4 + 2) ^ k := by omega
              subst this
              rw [b_Sea_fitAt_63]
              generalize (D 0 4 + 2) ^ k = P at *
              simp (disch := first | assumption | omega) only [ds_cI, ds_cV, ds_cL, ds_cR, ds_nn, ds_isK_t, ds_isA_t, ds_chk_t, ds_chkN, ds_nz_t, ds_nzN, ds_isB_t, ds_isB_bo, ↓dl_m1, ↓dl_m2, dl_0, dl_1, dl_2, dl_3, dl_4, dl_5, dl_6, dl_7, dl_8, dl_9, dl_10, dl_11, dl_12, dl_13, dl_14, dl_15, dl_16, dl_20, dl_24, dl_31, dl_50, dl_57, dl_67, dl_68, dl_74, dl_75, dl_79, dl_80, dl_99, dl_100, dl_200, dl_210, dl_224, dl_255, dl_289, dl_900, dl_1000, dl_1728, dl_65536, dl_65537, nI_add, pk_mul, pk_sub, pk_div, pk_rem, ds_rem2, nI_clamp, nI_leI, nI_ltI, nI_eq, ds_m1_eq, ds_eq_m1, ds_m2_eq, ds_eq_m2, ds_m1_le, ds_le_m1, ds_m1_lt, ds_lt_m1, ds_in_N, ds_bo0, ds_bo1, if_pos, if_neg, Nat.not_le, Nat.not_lt, not_true_eq_false, not_false_eq_true, if_true, if_false, ne_eq, Option.some.injEq, Prod.mk.injEq, Value.int.injEq, true_and, and_true, and_self, ite_self, Bool.not_eq_true, Bool.not_eq_false, Bool.true_eq_false, Bool.false_eq_true, reduceCtorEq, Nat.zero_add, Nat.reduceAdd, Nat.reduceMul, Nat.reduceSub, ds_setI_row, ds_setL_row, ds_rowI_self, ds_rowI_ne, ds_rowI_2, ds_rowI_rowI, ds_setS_1, ds_setS_21, ds_setS_self, ds_setS_ne, pk_us, pk_un, s_answer]
            | succ m ih =>
              intro y hy hno
              have hF : dk_F D k y = false := (dk_any_f _ _).mp ha y (by omega)
              have ih' := ih (y + 1) (by omega) (fun q _ => (dk_any_f _ _).mp ha q (by omega))
              have r : ds_call (d + 19) j_Sea_rowFits [.ref 0, .int (nI y), .int (nI k)] z' = some (some (.int (ds_bo (dk_F D k y))), z') := rw_ y (by omega)
              rw [hF] at r
              rw [b_Sea_fitAt_63]
              generalize (D 0 4 + 2) ^ k = P at *
              simp (disch := first | assumption | omega) only [ds_cI, ds_cV, ds_cL, ds_cR, ds_nn, ds_isK_t, ds_isA_t, ds_chk_t, ds_chkN, ds_nz_t, ds_nzN, ds_isB_t, ds_isB_bo, ↓dl_m1, ↓dl_m2, dl_0, dl_1, dl_2, dl_3, dl_4, dl_5, dl_6, dl_7, dl_8, dl_9, dl_10, dl_11, dl_12, dl_13, dl_14, dl_15, dl_16, dl_20, dl_24, dl_31, dl_50, dl_57, dl_67, dl_68, dl_74, dl_75, dl_79, dl_80, dl_99, dl_100, dl_200, dl_210, dl_224, dl_255, dl_289, dl_900, dl_1000, dl_1728, dl_65536, dl_65537, nI_add, pk_mul, pk_sub, pk_div, pk_rem, ds_rem2, nI_clamp, nI_leI, nI_ltI, nI_eq, ds_m1_eq, ds_eq_m1, ds_m2_eq, ds_eq_m2, ds_m1_le, ds_le_m1, ds_m1_lt, ds_lt_m1, ds_in_N, ds_bo0, ds_bo1, if_pos, if_neg, Nat.not_le, Nat.not_lt, not_true_eq_false, not_false_eq_true, if_true, if_false, ne_eq, Option.some.injEq, Prod.mk.injEq, Value.int.injEq, true_and, and_true, and_self, ite_self, Bool.not_eq_true, Bool.not_eq_false, Bool.true_eq_false, Bool.false_eq_true, reduceCtorEq, Nat.zero_add, Nat.reduceAdd, Nat.reduceMul, Nat.reduceSub, ds_setI_row, ds_setL_row, ds_rowI_self, ds_rowI_ne, ds_rowI_2, ds_rowI_rowI, ds_setS_1, ds_setS_21, ds_setS_self, ds_setS_ne, pk_us, pk_un, r, ih']
          · intro y1 hT
            left
            refine ⟨?_, rfl⟩
            rw [hT.1, (dk_cnt_0 _ _).mpr ha]
        · obtain ⟨l1, l2, l3⟩ := dk_lst_ok ha
          have mrl := mr (dk_lst (dk_F D k) ((D 0 4 + 2) ^ k)) (by omega) (by omega)
          apply fin (nI (dk_lst (dk_F D k) ((D 0 4 + 2) ^ k) / (D 0 4 + 2) ^ (k - 1 - i) % (D 0 4 + 2)))
          · generalize dk_lst (dk_F D k) ((D 0 4 + 2) ^ k) = l at *
            generalize hW : l / (D 0 4 + 2) ^ (k - 1 - i) % (D 0 4 + 2) = W at *
            intro m
            induction m with
            | zero =>
              intro y hy hno
              rw [hno l (by omega)] at l2
              exact absurd l2 (by decide)
            | succ m ih =>
              intro y hy hno
              have r : ds_call (d + 19) j_Sea_rowFits [.ref 0, .int (nI y), .int (nI k)] z' = some (some (.int (ds_bo (dk_F D k y))), z') := rw_ y (by omega)
              rw [b_Sea_fitAt_63]
              cases hF : dk_F D k y
              · have ih' := ih (y + 1) (by omega) (fun q hq => by
                  rcases Nat.lt_or_ge q y with h1 | h1
                  · exact hno q h1
                  · have : q = y := by omega
                    rw [this]; exact hF)
                rw [hF] at r
                generalize (D 0 4 + 2) ^ k = P at *
                simp (disch := first | assumption | omega) only [ds_cI, ds_cV, ds_cL, ds_cR, ds_nn, ds_isK_t, ds_isA_t, ds_chk_t, ds_chkN, ds_nz_t, ds_nzN, ds_isB_t, ds_isB_bo, ↓dl_m1, ↓dl_m2, dl_0, dl_1, dl_2, dl_3, dl_4, dl_5, dl_6, dl_7, dl_8, dl_9, dl_10, dl_11, dl_12, dl_13, dl_14, dl_15, dl_16, dl_20, dl_24, dl_31, dl_50, dl_57, dl_67, dl_68, dl_74, dl_75, dl_79, dl_80, dl_99, dl_100, dl_200, dl_210, dl_224, dl_255, dl_289, dl_900, dl_1000, dl_1728, dl_65536, dl_65537, nI_add, pk_mul, pk_sub, pk_div, pk_rem, ds_rem2, nI_clamp, nI_leI, nI_ltI, nI_eq, ds_m1_eq, ds_eq_m1, ds_m2_eq, ds_eq_m2, ds_m1_le, ds_le_m1, ds_m1_lt, ds_lt_m1, ds_in_N, ds_bo0, ds_bo1, if_pos, if_neg, Nat.not_le, Nat.not_lt, not_true_eq_false, not_false_eq_true, if_true, if_false, ne_eq, Option.some.injEq, Prod.mk.injEq, Value.int.injEq, true_and, and_true, and_self, ite_self, Bool.not_eq_true, Bool.not_eq_false, Bool.true_eq_false, Bool.false_eq_true, reduceCtorEq, Nat.zero_add, Nat.reduceAdd, Nat.reduceMul, Nat.reduceSub, ds_setI_row, ds_setL_row, ds_rowI_self, ds_rowI_ne, ds_rowI_2, ds_rowI_rowI, ds_setS_1, ds_setS_21, ds_setS_self, ds_setS_ne, pk_us, pk_un, r, ih']
              · have ey : y = l := by
                  rcases Nat.lt_trichotomy y l with h1 | h1 | h1
                  · rw [l3 y h1] at hF; exact absurd hF (by decide)
                  · exact h1
                  · rw [hno l h1] at l2; exact absurd l2 (by decide)
                subst ey
                rw [hF] at r
                have e1 : (1 : Int32) = nI 1 := rfl
                rw [e1, ek]
                generalize (D 0 4 + 2) ^ (k - 1 - i) = Q at *
                generalize (D 0 4 + 2) ^ k = P at *
                simp (disch := first | assumption | omega) only [ds_cI, ds_cV, ds_cL, ds_cR, ds_nn, ds_isK_t, ds_isA_t, ds_chk_t, ds_chkN, ds_nz_t, ds_nzN, ds_isB_t, ds_isB_bo, ↓dl_m1, ↓dl_m2, dl_0, dl_1, dl_2, dl_3, dl_4, dl_5, dl_6, dl_7, dl_8, dl_9, dl_10, dl_11, dl_12, dl_13, dl_14, dl_15, dl_16, dl_20, dl_24, dl_31, dl_50, dl_57, dl_67, dl_68, dl_74, dl_75, dl_79, dl_80, dl_99, dl_100, dl_200, dl_210, dl_224, dl_255, dl_289, dl_900, dl_1000, dl_1728, dl_65536, dl_65537, nI_add, pk_mul, pk_sub, pk_div, pk_rem, ds_rem2, nI_clamp, nI_leI, nI_ltI, nI_eq, ds_m1_eq, ds_eq_m1, ds_m2_eq, ds_eq_m2, ds_m1_le, ds_le_m1, ds_m1_lt, ds_lt_m1, ds_in_N, ds_bo0, ds_bo1, if_pos, if_neg, Nat.not_le, Nat.not_lt, not_true_eq_false, not_false_eq_true, if_true, if_false, ne_eq, Option.some.injEq, Prod.mk.injEq, Value.int.injEq, true_and, and_true, and_self, ite_self, Bool.not_eq_true, Bool.not_eq_false, Bool.true_eq_false, Bool.false_eq_true, reduceCtorEq, Nat.zero_add, Nat.reduceAdd, Nat.reduceMul, Nat.reduceSub, ds_setI_row, ds_setL_row, ds_rowI_self, ds_rowI_ne, ds_rowI_2, ds_rowI_rowI, ds_setS_1, ds_setS_21, ds_setS_self, ds_setS_ne, pk_us, pk_un, r, mrl, s_answer]
          · intro y1 hT
            right
            refine ⟨?_, hT.2 ha i hi⟩
            rw [hT.1]
            have c0 : ¬ dk_sum (fun y => dk_n (dk_F D k y)) ((D 0 4 + 2) ^ k) = 0 := fun q => by
              rw [(dk_cnt_0 _ _).mp q] at ha
              exact absurd ha (by decide)
            have cl := dk_cnt_le (dk_F D k) ((D 0 4 + 2) ^ k)
            rw [nI_eq (by omega) (by decide)]
            exact c0
    · have hy := dk_rng_le (n := 3) (by decide) hq
      refine ⟨.int ds_m1, nI 2, ds_rowI z 0 (upd (z.1 0) 10 (nI 2)), ?_, dk_qC_no z _, fun z0 hM0 => ⟨ds_rowI (dk_zg z0) 90 (upd ((dk_zg z0).1 90) 11 (nI 2)), ?_, dk_qM_no z0 _⟩⟩
      · rw [c_Sea_fitAt, b_Sea_fitAt_0]
        rcases hy with hy | ⟨hy, hy2⟩
        · simp (disch := first | assumption | omega) only [ds_cI, ds_cV, ds_cL, ds_cR, ds_nn, ds_isK_t, ds_isA_t, ds_chk_t, ds_chkN, ds_nz_t, ds_nzN, ds_isB_t, ds_isB_bo, ↓dl_m1, ↓dl_m2, dl_0, dl_1, dl_2, dl_3, dl_4, dl_5, dl_6, dl_7, dl_8, dl_9, dl_10, dl_11, dl_12, dl_13, dl_14, dl_15, dl_16, dl_20, dl_24, dl_31, dl_50, dl_57, dl_67, dl_68, dl_74, dl_75, dl_79, dl_80, dl_99, dl_100, dl_200, dl_210, dl_224, dl_255, dl_289, dl_900, dl_1000, dl_1728, dl_65536, dl_65537, nI_add, pk_mul, pk_sub, pk_div, pk_rem, ds_rem2, nI_clamp, nI_leI, nI_ltI, nI_eq, ds_m1_eq, ds_eq_m1, ds_m2_eq, ds_eq_m2, ds_m1_le, ds_le_m1, ds_m1_lt, ds_lt_m1, ds_in_N, ds_bo0, ds_bo1, if_pos, if_neg, Nat.not_le, Nat.not_lt, not_true_eq_false, not_false_eq_true, if_true, if_false, ne_eq, Option.some.injEq, Prod.mk.injEq, Value.int.injEq, true_and, and_true, and_self, ite_self, Bool.not_eq_true, Bool.not_eq_false, Bool.true_eq_false, Bool.false_eq_true, reduceCtorEq, Nat.zero_add, Nat.reduceAdd, Nat.reduceMul, Nat.reduceSub, ds_setI_row, ds_setL_row, ds_rowI_self, ds_rowI_ne, ds_rowI_2, ds_rowI_rowI, ds_setS_1, ds_setS_21, ds_setS_self, ds_setS_ne, pk_us, pk_un, s_refuse, hs, hn, decide_true, hy]
        · simp (disch := first | assumption | omega) only [ds_cI, ds_cV, ds_cL, ds_cR, ds_nn, ds_isK_t, ds_isA_t, ds_chk_t, ds_chkN, ds_nz_t, ds_nzN, ds_isB_t, ds_isB_bo, ↓dl_m1, ↓dl_m2, dl_0, dl_1, dl_2, dl_3, dl_4, dl_5, dl_6, dl_7, dl_8, dl_9, dl_10, dl_11, dl_12, dl_13, dl_14, dl_15, dl_16, dl_20, dl_24, dl_31, dl_50, dl_57, dl_67, dl_68, dl_74, dl_75, dl_79, dl_80, dl_99, dl_100, dl_200, dl_210, dl_224, dl_255, dl_289, dl_900, dl_1000, dl_1728, dl_65536, dl_65537, nI_add, pk_mul, pk_sub, pk_div, pk_rem, ds_rem2, nI_clamp, nI_leI, nI_ltI, nI_eq, ds_m1_eq, ds_eq_m1, ds_m2_eq, ds_eq_m2, ds_m1_le, ds_le_m1, ds_m1_lt, ds_lt_m1, ds_in_N, ds_bo0, ds_bo1, if_pos, if_neg, Nat.not_le, Nat.not_lt, not_true_eq_false, not_false_eq_true, if_true, if_false, ne_eq, Option.some.injEq, Prod.mk.injEq, Value.int.injEq, true_and, and_true, and_self, ite_self, Bool.not_eq_true, Bool.not_eq_false, Bool.true_eq_false, Bool.false_eq_true, reduceCtorEq, Nat.zero_add, Nat.reduceAdd, Nat.reduceMul, Nat.reduceSub, ds_setI_row, ds_setL_row, ds_rowI_self, ds_rowI_ne, ds_rowI_2, ds_rowI_rowI, ds_setS_1, ds_setS_21, ds_setS_self, ds_setS_ne, pk_us, pk_un, s_refuse, hs, hn, decide_true, hy, hy2]
      · have hMg := dk_zg_HM hM0
        have hsg := hMg.2.1
        rw [c_Mod_fitAt, b_Mod_fitAt_0]
        simp (disch := first | assumption | omega) only [ds_cI, ds_cV, ds_cL, ds_cR, ds_nn, ds_isK_t, ds_isA_t, ds_chk_t, ds_chkN, ds_nz_t, ds_nzN, ds_isB_t, ds_isB_bo, ↓dl_m1, ↓dl_m2, dl_0, dl_1, dl_2, dl_3, dl_4, dl_5, dl_6, dl_7, dl_8, dl_9, dl_10, dl_11, dl_12, dl_13, dl_14, dl_15, dl_16, dl_20, dl_24, dl_31, dl_50, dl_57, dl_67, dl_68, dl_74, dl_75, dl_79, dl_80, dl_99, dl_100, dl_200, dl_210, dl_224, dl_255, dl_289, dl_900, dl_1000, dl_1728, dl_65536, dl_65537, nI_add, pk_mul, pk_sub, pk_div, pk_rem, ds_rem2, nI_clamp, nI_leI, nI_ltI, nI_eq, ds_m1_eq, ds_eq_m1, ds_m2_eq, ds_eq_m2, ds_m1_le, ds_le_m1, ds_m1_lt, ds_lt_m1, ds_in_N, ds_bo0, ds_bo1, if_pos, if_neg, Nat.not_le, Nat.not_lt, not_true_eq_false, not_false_eq_true, if_true, if_false, ne_eq, Option.some.injEq, Prod.mk.injEq, Value.int.injEq, true_and, and_true, and_self, ite_self, Bool.not_eq_true, Bool.not_eq_false, Bool.true_eq_false, Bool.false_eq_true, reduceCtorEq, Nat.zero_add, Nat.reduceAdd, Nat.reduceMul, Nat.reduceSub, ds_setI_row, ds_setL_row, ds_rowI_self, ds_rowI_ne, ds_rowI_2, ds_rowI_rowI, ds_setS_1, ds_setS_21, ds_setS_self, ds_setS_ne, pk_us, pk_un, s_good, s_no, hsg, hn, decide_true, g2, hq]
  · have h4 := h0 4 (by decide)
    refine ⟨.int ds_m1, nI 1, ds_rowI z 0 (upd (z.1 0) 10 (nI 1)), ?_, dk_qC_no z _, fun z0 hM0 => ⟨ds_rowI (dk_zg z0) 90 (upd ((dk_zg z0).1 90) 11 (nI 1)), ?_, dk_qM_no z0 _⟩⟩
    · rw [c_Sea_fitAt, b_Sea_fitAt_0]
      simp (disch := first | assumption | omega | rfl | decide) only [ds_cI, ds_cV, ds_cL, ds_cR, ds_nn, ds_isK_t, ds_isA_t, ds_chk_t, ds_chkN, ds_nz_t, ds_nzN, ds_isB_t, ds_isB_bo, ↓dl_m1, ↓dl_m2, dl_0, dl_1, dl_2, dl_3, dl_4, dl_5, dl_6, dl_7, dl_8, dl_9, dl_10, dl_11, dl_12, dl_13, dl_14, dl_15, dl_16, dl_20, dl_24, dl_31, dl_50, dl_57, dl_67, dl_68, dl_74, dl_75, dl_79, dl_80, dl_99, dl_100, dl_200, dl_210, dl_224, dl_255, dl_289, dl_900, dl_1000, dl_1728, dl_65536, dl_65537, nI_add, pk_mul, pk_sub, pk_div, pk_rem, ds_rem2, nI_clamp, nI_leI, nI_ltI, nI_eq, ds_m1_eq, ds_eq_m1, ds_m2_eq, ds_eq_m2, ds_m1_le, ds_le_m1, ds_m1_lt, ds_lt_m1, ds_in_N, ds_bo0, ds_bo1, if_pos, if_neg, Nat.not_le, Nat.not_lt, not_true_eq_false, not_false_eq_true, if_true, if_false, ne_eq, Option.some.injEq, Prod.mk.injEq, Value.int.injEq, true_and, and_true, and_self, ite_self, Bool.not_eq_true, Bool.not_eq_false, Bool.true_eq_false, Bool.false_eq_true, reduceCtorEq, Nat.zero_add, Nat.reduceAdd, Nat.reduceMul, Nat.reduceSub, ds_setI_row, ds_setL_row, ds_rowI_self, ds_rowI_ne, ds_rowI_2, ds_rowI_rowI, ds_setS_1, ds_setS_21, ds_setS_self, ds_setS_ne, pk_us, pk_un, s_refuse, hs, h4, Nat.lt_irrefl, decide_false]
    · have hMg := dk_zg_HM hM0
      have hsg := hMg.2.1
      rw [c_Mod_fitAt, b_Mod_fitAt_0]
      simp (disch := first | assumption | omega | rfl | decide) only [ds_cI, ds_cV, ds_cL, ds_cR, ds_nn, ds_isK_t, ds_isA_t, ds_chk_t, ds_chkN, ds_nz_t, ds_nzN, ds_isB_t, ds_isB_bo, ↓dl_m1, ↓dl_m2, dl_0, dl_1, dl_2, dl_3, dl_4, dl_5, dl_6, dl_7, dl_8, dl_9, dl_10, dl_11, dl_12, dl_13, dl_14, dl_15, dl_16, dl_20, dl_24, dl_31, dl_50, dl_57, dl_67, dl_68, dl_74, dl_75, dl_79, dl_80, dl_99, dl_100, dl_200, dl_210, dl_224, dl_255, dl_289, dl_900, dl_1000, dl_1728, dl_65536, dl_65537, nI_add, pk_mul, pk_sub, pk_div, pk_rem, ds_rem2, nI_clamp, nI_leI, nI_ltI, nI_eq, ds_m1_eq, ds_eq_m1, ds_m2_eq, ds_eq_m2, ds_m1_le, ds_le_m1, ds_m1_lt, ds_lt_m1, ds_in_N, ds_bo0, ds_bo1, if_pos, if_neg, Nat.not_le, Nat.not_lt, not_true_eq_false, not_false_eq_true, if_true, if_false, ne_eq, Option.some.injEq, Prod.mk.injEq, Value.int.injEq, true_and, and_true, and_self, ite_self, Bool.not_eq_true, Bool.not_eq_false, Bool.true_eq_false, Bool.false_eq_true, reduceCtorEq, Nat.zero_add, Nat.reduceAdd, Nat.reduceMul, Nat.reduceSub, ds_setI_row, ds_setL_row, ds_rowI_self, ds_rowI_ne, ds_rowI_2, ds_rowI_rowI, ds_setS_1, ds_setS_21, ds_setS_self, ds_setS_ne, pk_us, pk_un, s_good, s_no, hsg, h4, Nat.lt_irrefl, decide_false]
