/-! the class settles who is beside whom -/
theorem dr_c2 : ∀ W, W < 5 → ∀ H, H < 4 → ∀ p, p < 12 → (decide (W < 2) || decide (H < 2) || !decide (p < W * H) || ((decide (p = 0) || decide (p = W - 1) || decide (p = W * H - W) || decide (p = W * H - 1)) == dk_cor W H p)) = true := by decide +kernel
theorem dr_d2 : ∀ W, W < 5 → ∀ p, p < 12 → ∀ q, q < 12 → (decide (W < 2) || (decide ((p % W - q % W + (q % W - p % W)) + (p / W - q / W + (q / W - p / W)) = 1) == dk_d1 W p q)) = true := by decide +kernel
theorem s_ccorner (d t p W H : Nat) (z : ds_St) (ht : t = 10 ∨ t = 30) (h0 : z.1 t 0 = nI W) (h1 : z.1 t 1 = nI H) (w2 : 2 ≤ W) (w4 : W ≤ 4) (g2 : 2 ≤ H) (g3 : H ≤ 3) (hp : p < W * H) : ds_call (d + 2) j_Told_isCorner [.ref t, .int (nI p)] z = some (some (.int (ds_bo (dk_cor W H p))), z) := by
  have R12 : W * H ≤ 12 := Nat.mul_le_mul w4 g3
  have Rw : W * 1 ≤ W * H := Nat.mul_le_mul (Nat.le_refl W) (by omega)
  have c := dr_c2 W (by omega) H (by omega) p (by omega)
  rw [decide_eq_false (show ¬ W < 2 by omega), decide_eq_false (show ¬ H < 2 by omega), decide_eq_true hp] at c
  simp only [Bool.false_or, Bool.not_true, beq_iff_eq] at c
  have r := s_room d t z ht
  rw [h0, h1, pk_mul] at r
  rw [c_Told_isCorner, b_Told_isCorner_0 t ht, ← c]
  generalize W * H = R at *
  have b1 : ds_bo true = nI 1 := rfl
  have b0 : ds_bo false = nI 0 := rfl
  by_cases p0 : p = 0
  · rw [decide_eq_true p0]
    subst p0
    rw [Bool.true_or, Bool.true_or, Bool.true_or, b1]
    simp (disch := first | assumption | omega) only [ds_cI, ds_cV, ds_cL, ds_cR, ds_nn, ds_isK_t, ds_isA_t, ds_chk_t, ds_chkN, ds_nz_t, ds_nzN, ds_isB_t, ds_isB_bo, ↓dl_m1, ↓dl_m2, dl_0, dl_1, dl_2, dl_3, dl_4, dl_5, dl_6, dl_7, dl_8, dl_9, dl_10, dl_11, dl_12, dl_13, dl_14, dl_15, dl_16, dl_20, dl_24, dl_31, dl_50, dl_57, dl_67, dl_68, dl_74, dl_75, dl_79, dl_80, dl_99, dl_100, dl_200, dl_210, dl_224, dl_255, dl_289, dl_900, dl_1000, dl_1728, dl_65536, dl_65537, nI_add, pk_mul, pk_sub, pk_div, pk_rem, ds_rem2, nI_clamp, nI_leI, nI_ltI, nI_eq, ds_m1_eq, ds_eq_m1, ds_m2_eq, ds_eq_m2, ds_m1_le, ds_le_m1, ds_m1_lt, ds_lt_m1, ds_in_N, ds_bo0, ds_bo1, if_pos, if_neg, Nat.not_le, Nat.not_lt, not_true_eq_false, not_false_eq_true, if_true, if_false, ne_eq, Option.some.injEq, Prod.mk.injEq, Value.int.injEq, true_and, and_true, and_self, ite_self, Bool.not_eq_true, Bool.not_eq_false, Bool.true_eq_false, Bool.false_eq_true, reduceCtorEq, Nat.zero_add, Nat.reduceAdd, Nat.reduceMul, Nat.reduceSub, ds_setI_row, ds_setL_row, ds_rowI_self, ds_rowI_ne, ds_rowI_2, ds_rowI_rowI, ds_setS_1, ds_setS_21, ds_setS_self, ds_setS_ne, pk_us, pk_un]
  · rw [decide_eq_false p0, Bool.false_or]
    by_cases p1 : p = W - 1
    · rw [decide_eq_true p1, Bool.true_or, Bool.true_or, b1]
      simp (disch := first | assumption | omega) only [ds_cI, ds_cV, ds_cL, ds_cR, ds_nn, ds_isK_t, ds_isA_t, ds_chk_t, ds_chkN, ds_nz_t, ds_nzN, ds_isB_t, ds_isB_bo, ↓dl_m1, ↓dl_m2, dl_0, dl_1, dl_2, dl_3, dl_4, dl_5, dl_6, dl_7, dl_8, dl_9, dl_10, dl_11, dl_12, dl_13, dl_14, dl_15, dl_16, dl_20, dl_24, dl_31, dl_50, dl_57, dl_67, dl_68, dl_74, dl_75, dl_79, dl_80, dl_99, dl_100, dl_200, dl_210, dl_224, dl_255, dl_289, dl_900, dl_1000, dl_1728, dl_65536, dl_65537, nI_add, pk_mul, pk_sub, pk_div, pk_rem, ds_rem2, nI_clamp, nI_leI, nI_ltI, nI_eq, ds_m1_eq, ds_eq_m1, ds_m2_eq, ds_eq_m2, ds_m1_le, ds_le_m1, ds_m1_lt, ds_lt_m1, ds_in_N, ds_bo0, ds_bo1, if_pos, if_neg, Nat.not_le, Nat.not_lt, not_true_eq_false, not_false_eq_true, if_true, if_false, ne_eq, Option.some.injEq, Prod.mk.injEq, Value.int.injEq, true_and, and_true, and_self, ite_self, Bool.not_eq_true, Bool.not_eq_false, Bool.true_eq_false, Bool.false_eq_true, reduceCtorEq, Nat.zero_add, Nat.reduceAdd, Nat.reduceMul, Nat.reduceSub, ds_setI_row, ds_setL_row, ds_rowI_self, ds_rowI_ne, ds_rowI_2, ds_rowI_rowI, ds_setS_1, ds_setS_21, ds_setS_self, ds_setS_ne, pk_us, pk_un, h0, p0]
    · rw [decide_eq_false p1, Bool.false_or]
      by_cases p2 : p = R - W
      · rw [decide_eq_true p2, Bool.true_or, b1]
        simp (disch := first | assumption | omega) only [ds_cI, ds_cV, ds_cL, ds_cR, ds_nn, ds_isK_t, ds_isA_t, ds_chk_t, ds_chkN, ds_nz_t, ds_nzN, ds_isB_t, ds_isB_bo, ↓dl_m1, ↓dl_m2, dl_0, dl_1, dl_2, dl_3, dl_4, dl_5, dl_6, dl_7, dl_8, dl_9, dl_10, dl_11, dl_12, dl_13, dl_14, dl_15, dl_16, dl_20, dl_24, dl_31, dl_50, dl_57, dl_67, dl_68, dl_74, dl_75, dl_79, dl_80, dl_99, dl_100, dl_200, dl_210, dl_224, dl_255, dl_289, dl_900, dl_1000, dl_1728, dl_65536, dl_65537, nI_add, pk_mul, pk_sub, pk_div, pk_rem, ds_rem2, nI_clamp, nI_leI, nI_ltI, nI_eq, ds_m1_eq, ds_eq_m1, ds_m2_eq, ds_eq_m2, ds_m1_le, ds_le_m1, ds_m1_lt, ds_lt_m1, ds_in_N, ds_bo0, ds_bo1, if_pos, if_neg, Nat.not_le, Nat.not_lt, not_true_eq_false, not_false_eq_true, if_true, if_false, ne_eq, Option.some.injEq, Prod.mk.injEq, Value.int.injEq, true_and, and_true, and_self, ite_self, Bool.not_eq_true, Bool.not_eq_false, Bool.true_eq_false, Bool.false_eq_true, reduceCtorEq, Nat.zero_add, Nat.reduceAdd, Nat.reduceMul, Nat.reduceSub, ds_setI_row, ds_setL_row, ds_rowI_self, ds_rowI_ne, ds_rowI_2, ds_rowI_rowI, ds_setS_1, ds_setS_21, ds_setS_self, ds_setS_ne, pk_us, pk_un, h0, p0, r]
      · rw [decide_eq_false p2, Bool.false_or]
        by_cases p3 : p = R - 1
        · rw [decide_eq_true p3, b1]
          simp (disch := first | assumption | omega) only [ds_cI, ds_cV, ds_cL, ds_cR, ds_nn, ds_isK_t, ds_isA_t, ds_chk_t, ds_chkN, ds_nz_t, ds_nzN, ds_isB_t, ds_isB_bo, ↓dl_m1, ↓dl_m2, dl_0, dl_1, dl_2, dl_3, dl_4, dl_5, dl_6, dl_7, dl_8, dl_9, dl_10, dl_11, dl_12, dl_13, dl_14, dl_15, dl_16, dl_20, dl_24, dl_31, dl_50, dl_57, dl_67, dl_68, dl_74, dl_75, dl_79, dl_80, dl_99, dl_100, dl_200, dl_210, dl_224, dl_255, dl_289, dl_900, dl_1000, dl_1728, dl_65536, dl_65537, nI_add, pk_mul, pk_sub, pk_div, pk_rem, ds_rem2, nI_clamp, nI_leI, nI_ltI, nI_eq, ds_m1_eq, ds_eq_m1, ds_m2_eq, ds_eq_m2, ds_m1_le, ds_le_m1, ds_m1_lt, ds_lt_m1, ds_in_N, ds_bo0, ds_bo1, if_pos, if_neg, Nat.not_le, Nat.not_lt, not_true_eq_false, not_false_eq_true, if_true, if_false, ne_eq, Option.some.injEq, Prod.mk.injEq, Value.int.injEq, true_and, and_true, and_self, ite_self, Bool.not_eq_true, Bool.not_eq_false, Bool.true_eq_false, Bool.false_eq_true, reduceCtorEq, Nat.zero_add, Nat.reduceAdd, Nat.reduceMul, Nat.reduceSub, ds_setI_row, ds_setL_row, ds_rowI_self, ds_rowI_ne, ds_rowI_2, ds_rowI_rowI, ds_setS_1, ds_setS_21, ds_setS_self, ds_setS_ne, pk_us, pk_un, h0, p0, p1, p2, r]
          first | done | simp [p3]
        · rw [decide_eq_false p3, b0]
          simp (disch := first | assumption | omega) only [ds_cI, ds_cV, ds_cL, ds_cR, ds_nn, ds_isK_t, ds_isA_t, ds_chk_t, ds_chkN, ds_nz_t, ds_nzN, ds_isB_t, ds_isB_bo, ↓dl_m1, ↓dl_m2, dl_0, dl_1, dl_2, dl_3, dl_4, dl_5, dl_6, dl_7, dl_8, dl_9, dl_10, dl_11, dl_12, dl_13, dl_14, dl_15, dl_16, dl_20, dl_24, dl_31, dl_50, dl_57, dl_67, dl_68, dl_74, dl_75, dl_79, dl_80, dl_99, dl_100, dl_200, dl_210, dl_224, dl_255, dl_289, dl_900, dl_1000, dl_1728, dl_65536, dl_65537, nI_add, pk_mul, pk_sub, pk_div, pk_rem, ds_rem2, nI_clamp, nI_leI, nI_ltI, nI_eq, ds_m1_eq, ds_eq_m1, ds_m2_eq, ds_eq_m2, ds_m1_le, ds_le_m1, ds_m1_lt, ds_lt_m1, ds_in_N, ds_bo0, ds_bo1, if_pos, if_neg, Nat.not_le, Nat.not_lt, not_true_eq_false, not_false_eq_true, if_true, if_false, ne_eq, Option.some.injEq, Prod.mk.injEq, Value.int.injEq, true_and, and_true, and_self, ite_self, Bool.not_eq_true, Bool.not_eq_false, Bool.true_eq_false, Bool.false_eq_true, reduceCtorEq, Nat.zero_add, Nat.reduceAdd, Nat.reduceMul, Nat.reduceSub, ds_setI_row, ds_setL_row, ds_rowI_self, ds_rowI_ne, ds_rowI_2, ds_rowI_rowI, ds_setS_1, ds_setS_21, ds_setS_self, ds_setS_ne, pk_us, pk_un, h0, p0, p1, p2, p3, r]
theorem dr_ab (a b c e : Nat) (ha : a < 1000) (hb : b < 1000) (hc : c < 1000) (he : e < 1000) : a - b + (b - a) + (c - e + (e - c)) < 2 ^ 31 := by omega
theorem s_neigh (d t p q W H T : Nat) (z : ds_St) (ht : t = 10 ∨ t = 30) (h0 : z.1 t 0 = nI W) (h1 : z.1 t 1 = nI H) (h3 : z.1 t 3 = nI T) (w2 : 2 ≤ W) (w4 : W ≤ 4) (g2 : 2 ≤ H) (g3 : H ≤ 3) (hT : T < 2) (hp : p < W * H) (hq : q < W * H) : ds_call (d + 3) j_Told_neighbours [.ref t, .int (nI p), .int (nI q)] z = some (some (.int (ds_bo (dk_adj W H T p q))), z) := by
  have R12 : W * H ≤ 12 := Nat.mul_le_mul w4 g3
  have cp := s_ccorner d t p W H z ht h0 h1 w2 w4 g2 g3 hp
  have cq := s_ccorner d t q W H z ht h0 h1 w2 w4 g2 g3 hq
  have c := dr_d2 W (by omega) p (by omega) q (by omega)
  rw [decide_eq_false (show ¬ W < 2 by omega), Bool.false_or, beq_iff_eq] at c
  have rm : ∀ x, x < 12 → nI x - nI x / nI W * nI W = nI (x % W) := fun x hx => by rw [pk_div (by omega) (by omega) (by omega), pk_mul, ds_rem2]
  have dv : ∀ x, x < 12 → nI x / nI W = nI (x / W) := fun x hx => by rw [pk_div (by omega) (by omega) (by omega)]
  have lm : ∀ x, x < 12 → x % W < 1000 ∧ x / W < 1000 := fun x hx => ⟨by have := Nat.mod_le x W; omega, by have := Nat.div_le_self x W; omega⟩
  have a1 := s_abs (d + 1) (p % W) (q % W) z (lm p (by omega)).1 (lm q (by omega)).1
  have a2 := s_abs (d + 1) (p / W) (q / W) z (lm p (by omega)).2 (lm q (by omega)).2
  have h34 : ds_Rw ds_c_Told_neighbours ds_u_Told_neighbours (ds_call (d + 2)) 34 [some (.ref t), some (.int (nI p)), some (.int (nI q))] [] z = some (some (.int (ds_bo (dk_d1 W p q))), z) := by
    rw [b_Told_neighbours_34 t ht, h0, ds_nzN (by omega) (by omega), ds_nzN (by omega) (by omega), rm p (by omega), rm q (by omega), ds_cI_t a1, h0, ds_nzN (by omega) (by omega), ds_nzN (by omega) (by omega), dv p (by omega), dv q (by omega), ds_cI_t a2, nI_add, ← c]
    have l1 := lm p (by omega)
    have l2 := lm q (by omega)
    by_cases e : p % W - q % W + (q % W - p % W) + (p / W - q / W + (q / W - p / W)) = 1
    · rw [e, if_neg (fun h => h rfl)]
      rfl
    · rw [decide_eq_false e, if_pos (by show ¬ _ = nI 1; rw [nI_eq (dr_ab _ _ _ _ l1.1 l2.1 l1.2 l2.2) (by decide)]; exact e)]
      rfl
  have e4 : dk_adj W H T p q = (!(T == 1 && (dk_cor W H p || dk_cor W H q)) && dk_d1 W p q) := by
    unfold dk_adj dk_d1
    rw [decide_eq_true hp, decide_eq_true hq, Bool.true_and, Bool.true_and]
  rw [e4, c_Told_neighbours, b_Told_neighbours_0 t ht]
  have b0 : ds_bo false = nI 0 := rfl
  by_cases hT1 : T = 1
  · subst hT1
    cases k1 : dk_cor W H p
    · rw [k1] at cp
      cases k2 : dk_cor W H q
      · rw [k2] at cq
        simp only [Bool.or_self, Bool.and_false, Bool.not_false, Bool.true_and]
        generalize ds_bo (dk_d1 W p q) = bb at *
        simp (disch := first | assumption | omega) only [ds_cI, ds_cV, ds_cL, ds_cR, ds_nn, ds_isK_t, ds_isA_t, ds_chk_t, ds_chkN, ds_nz_t, ds_nzN, ds_isB_t, ds_isB_bo, ↓dl_m1, ↓dl_m2, dl_0, dl_1, dl_2, dl_3, dl_4, dl_5, dl_6, dl_7, dl_8, dl_9, dl_10, dl_11, dl_12, dl_13, dl_14, dl_15, dl_16, dl_20, dl_24, dl_31, dl_50, dl_57, dl_67, dl_68, dl_74, dl_75, dl_79, dl_80, dl_99, dl_100, dl_200, dl_210, dl_224, dl_255, dl_289, dl_900, dl_1000, dl_1728, dl_65536, dl_65537, nI_add, pk_mul, pk_sub, pk_div, pk_rem, ds_rem2, nI_clamp, nI_leI, nI_ltI, nI_eq, ds_m1_eq, ds_eq_m1, ds_m2_eq, ds_eq_m2, ds_m1_le, ds_le_m1, ds_m1_lt, ds_lt_m1, ds_in_N, ds_bo0, ds_bo1, if_pos, if_neg, Nat.not_le, Nat.not_lt, not_true_eq_false, not_false_eq_true, if_true, if_false, ne_eq, Option.some.injEq, Prod.mk.injEq, Value.int.injEq, true_and, and_true, and_self, ite_self, Bool.not_eq_true, Bool.not_eq_false, Bool.true_eq_false, Bool.false_eq_true, reduceCtorEq, Nat.zero_add, Nat.reduceAdd, Nat.reduceMul, Nat.reduceSub, ds_setI_row, ds_setL_row, ds_rowI_self, ds_rowI_ne, ds_rowI_2, ds_rowI_rowI, ds_setS_1, ds_setS_21, ds_setS_self, ds_setS_ne, pk_us, pk_un, h0, h3, cp, cq, h34]
      · rw [k2] at cq
        simp only [Bool.or_true, beq_self_eq_true, Bool.and_true, Bool.not_true, Bool.false_and, b0]
        simp (disch := first | assumption | omega) only [ds_cI, ds_cV, ds_cL, ds_cR, ds_nn, ds_isK_t, ds_isA_t, ds_chk_t, ds_chkN, ds_nz_t, ds_nzN, ds_isB_t, ds_isB_bo, ↓dl_m1, ↓dl_m2, dl_0, dl_1, dl_2, dl_3, dl_4, dl_5, dl_6, dl_7, dl_8, dl_9, dl_10, dl_11, dl_12, dl_13, dl_14, dl_15, dl_16, dl_20, dl_24, dl_31, dl_50, dl_57, dl_67, dl_68, dl_74, dl_75, dl_79, dl_80, dl_99, dl_100, dl_200, dl_210, dl_224, dl_255, dl_289, dl_900, dl_1000, dl_1728, dl_65536, dl_65537, nI_add, pk_mul, pk_sub, pk_div, pk_rem, ds_rem2, nI_clamp, nI_leI, nI_ltI, nI_eq, ds_m1_eq, ds_eq_m1, ds_m2_eq, ds_eq_m2, ds_m1_le, ds_le_m1, ds_m1_lt, ds_lt_m1, ds_in_N, ds_bo0, ds_bo1, if_pos, if_neg, Nat.not_le, Nat.not_lt, not_true_eq_false, not_false_eq_true, if_true, if_false, ne_eq, Option.some.injEq, Prod.mk.injEq, Value.int.injEq, true_and, and_true, and_self, ite_self, Bool.not_eq_true, Bool.not_eq_false, Bool.true_eq_false, Bool.false_eq_true, reduceCtorEq, Nat.zero_add, Nat.reduceAdd, Nat.reduceMul, Nat.reduceSub, ds_setI_row, ds_setL_row, ds_rowI_self, ds_rowI_ne, ds_rowI_2, ds_rowI_rowI, ds_setS_1, ds_setS_21, ds_setS_self, ds_setS_ne, pk_us, pk_un, h0, h3, cp, cq, h34]
    · rw [k1] at cp
      simp only [Bool.true_or, beq_self_eq_true, Bool.and_true, Bool.not_true, Bool.false_and, b0]
      simp (disch := first | assumption | omega) only [ds_cI, ds_cV, ds_cL, ds_cR, ds_nn, ds_isK_t, ds_isA_t, ds_chk_t, ds_chkN, ds_nz_t, ds_nzN, ds_isB_t, ds_isB_bo, ↓dl_m1, ↓dl_m2, dl_0, dl_1, dl_2, dl_3, dl_4, dl_5, dl_6, dl_7, dl_8, dl_9, dl_10, dl_11, dl_12, dl_13, dl_14, dl_15, dl_16, dl_20, dl_24, dl_31, dl_50, dl_57, dl_67, dl_68, dl_74, dl_75, dl_79, dl_80, dl_99, dl_100, dl_200, dl_210, dl_224, dl_255, dl_289, dl_900, dl_1000, dl_1728, dl_65536, dl_65537, nI_add, pk_mul, pk_sub, pk_div, pk_rem, ds_rem2, nI_clamp, nI_leI, nI_ltI, nI_eq, ds_m1_eq, ds_eq_m1, ds_m2_eq, ds_eq_m2, ds_m1_le, ds_le_m1, ds_m1_lt, ds_lt_m1, ds_in_N, ds_bo0, ds_bo1, if_pos, if_neg, Nat.not_le, Nat.not_lt, not_true_eq_false, not_false_eq_true, if_true, if_false, ne_eq, Option.some.injEq, Prod.mk.injEq, Value.int.injEq, true_and, and_true, and_self, ite_self, Bool.not_eq_true, Bool.not_eq_false, Bool.true_eq_false, Bool.false_eq_true, reduceCtorEq, Nat.zero_add, Nat.reduceAdd, Nat.reduceMul, Nat.reduceSub, ds_setI_row, ds_setL_row, ds_rowI_self, ds_rowI_ne, ds_rowI_2, ds_rowI_rowI, ds_setS_1, ds_setS_21, ds_setS_self, ds_setS_ne, pk_us, pk_un, h0, h3, cp, h34]
  · have t0 : T = 0 := by omega
    subst t0
    rw [show ((0 : Nat) == 1) = false from rfl, Bool.false_and, Bool.not_false, Bool.true_and]
    generalize ds_bo (dk_d1 W p q) = bb at *
    simp (disch := first | assumption | omega) only [ds_cI, ds_cV, ds_cL, ds_cR, ds_nn, ds_isK_t, ds_isA_t, ds_chk_t, ds_chkN, ds_nz_t, ds_nzN, ds_isB_t, ds_isB_bo, ↓dl_m1, ↓dl_m2, dl_0, dl_1, dl_2, dl_3, dl_4, dl_5, dl_6, dl_7, dl_8, dl_9, dl_10, dl_11, dl_12, dl_13, dl_14, dl_15, dl_16, dl_20, dl_24, dl_31, dl_50, dl_57, dl_67, dl_68, dl_74, dl_75, dl_79, dl_80, dl_99, dl_100, dl_200, dl_210, dl_224, dl_255, dl_289, dl_900, dl_1000, dl_1728, dl_65536, dl_65537, nI_add, pk_mul, pk_sub, pk_div, pk_rem, ds_rem2, nI_clamp, nI_leI, nI_ltI, nI_eq, ds_m1_eq, ds_eq_m1, ds_m2_eq, ds_eq_m2, ds_m1_le, ds_le_m1, ds_m1_lt, ds_lt_m1, ds_in_N, ds_bo0, ds_bo1, if_pos, if_neg, Nat.not_le, Nat.not_lt, not_true_eq_false, not_false_eq_true, if_true, if_false, ne_eq, Option.some.injEq, Prod.mk.injEq, Value.int.injEq, true_and, and_true, and_self, ite_self, Bool.not_eq_true, Bool.not_eq_false, Bool.true_eq_false, Bool.false_eq_true, reduceCtorEq, Nat.zero_add, Nat.reduceAdd, Nat.reduceMul, Nat.reduceSub, ds_setI_row, ds_setL_row, ds_rowI_self, ds_rowI_ne, ds_rowI_2, ds_rowI_rowI, ds_setS_1, ds_setS_21, ds_setS_self, ds_setS_ne, pk_us, pk_un, h0, h3, h34]
theorem dr_bs_up (S : Nat → Bool) (n m : Nat) (hnm : n ≤ m) (h : ∀ k, n ≤ k → S k = false) : ds_bs S n = ds_bs S m := by
  apply Nat.eq_of_testBit_eq
  intro k
  rw [ds_bs_tb, ds_bs_tb]
  by_cases q : k < n
  · rw [decide_eq_true q, decide_eq_true (show k < m by omega)]
  · rw [h k (by omega), Bool.and_false, Bool.and_false]
theorem dr_adj_q {W H T p q : Nat} (h : W * H ≤ q) : dk_adj W H T p q = false := by
  unfold dk_adj
  rw [decide_eq_false (show ¬ q < W * H by omega), Bool.and_false, Bool.false_and, Bool.false_and]
theorem dr_adj_p {W H T p q : Nat} (h : W * H ≤ p) : dk_adj W H T p q = false := by
  unfold dk_adj
  rw [decide_eq_false (show ¬ p < W * H by omega), Bool.false_and, Bool.false_and, Bool.false_and]
theorem dr_nb_0 {W H T p : Nat} (h : W * H ≤ p) : dk_nb W H T p = 0 := by
  unfold dk_nb
  rw [← dr_bs_up _ 0 12 (by decide) (fun k _ => dr_adj_p h)]
  rfl
theorem s_settle (d t W H T : Nat) (z : ds_St) (ht : t = 10 ∨ t = 30) (h0 : z.1 t 0 = nI W) (h1 : z.1 t 1 = nI H) (h3 : z.1 t 3 = nI T) (w2 : 2 ≤ W) (w4 : W ≤ 4) (g2 : 2 ≤ H) (g3 : H ≤ 3) (hT : T < 2) : ∃ z', ds_call (d + 4) j_Told_settle [.ref t] z = some (none, z') ∧ (∀ p, p < 12 → z'.1 (t + 10) p = nI (dk_nb W H T p)) ∧ (∀ q, q ≠ t + 10 → z'.1 q = z.1 q) ∧ z'.2 = z.2 := by
  have R12 : W * H ≤ 12 := Nat.mul_le_mul w4 g3
  have K10 : ds_K (t + 10) = 11 := ds_Kti ht (by decide) (by decide)
  have N10 : ds_N (t + 10) = 12 := ds_Nti ht (by decide)
  have e31 : (31 : Int32) = nI 31 := rfl
  have inner : ∀ p, p < W * H → ∀ m q (y : ds_St), q + m = W * H → y.1 t 0 = nI W → y.1 t 1 = nI H → y.1 t 3 = nI T → y.1 (t + 10) p = nI (ds_bs (fun q => dk_adj W H T p q) q) → ∃ y', ds_Rw ds_c_Told_settle ds_u_Told_settle (ds_call (d + 3)) 20 [some (.ref t), some (.int (nI p)), some (.int (nI q))] [] y = ds_Rw ds_c_Told_settle ds_u_Told_settle (ds_call (d + 3)) 10 [some (.ref t), some (.int (nI ((p + 1)))), none] [] y' ∧ y'.1 (t + 10) p = nI (dk_nb W H T p) ∧ (∀ i, i ≠ p → y'.1 (t + 10) i = y.1 (t + 10) i) ∧ (∀ r, r ≠ t + 10 → y'.1 r = y.1 r) ∧ y'.2 = y.2 := by
    intro p hp m
    induction m with
    | zero =>
      intro q y hq y0 y1 y3 yp
      rw [Nat.add_zero] at hq
      subst hq
      refine ⟨y, ?_, ?_, fun _ _ => rfl, fun _ _ => rfl, rfl⟩
      · have r := s_room (d + 2) t y ht
        rw [y0, y1, pk_mul] at r
        rw [b_Told_settle_20 t ht]
        generalize W * H = R at *
        simp (disch := first | assumption | omega) only [ds_cI, ds_cV, ds_cL, ds_cR, ds_nn, ds_isK_t, ds_isA_t, ds_chk_t, ds_chkN, ds_nz_t, ds_nzN, ds_isB_t, ds_isB_bo, ↓dl_m1, ↓dl_m2, dl_0, dl_1, dl_2, dl_3, dl_4, dl_5, dl_6, dl_7, dl_8, dl_9, dl_10, dl_11, dl_12, dl_13, dl_14, dl_15, dl_16, dl_20, dl_24, dl_31, dl_50, dl_57, dl_67, dl_68, dl_74, dl_75, dl_79, dl_80, dl_99, dl_100, dl_200, dl_210, dl_224, dl_255, dl_289, dl_900, dl_1000, dl_1728, dl_65536, dl_65537, nI_add, pk_mul, pk_sub, pk_div, pk_rem, ds_rem2, nI_clamp, nI_leI, nI_ltI, nI_eq, ds_m1_eq, ds_eq_m1, ds_m2_eq, ds_eq_m2, ds_m1_le, ds_le_m1, ds_m1_lt, ds_lt_m1, ds_in_N, ds_bo0, ds_bo1, if_pos, if_neg, Nat.not_le, Nat.not_lt, not_true_eq_false, not_false_eq_true, if_true, if_false, ne_eq, Option.some.injEq, Prod.mk.injEq, Value.int.injEq, true_and, and_true, and_self, ite_self, Bool.not_eq_true, Bool.not_eq_false, Bool.true_eq_false, Bool.false_eq_true, reduceCtorEq, Nat.zero_add, Nat.reduceAdd, Nat.reduceMul, Nat.reduceSub, ds_setI_row, ds_setL_row, ds_rowI_self, ds_rowI_ne, ds_rowI_2, ds_rowI_rowI, ds_setS_1, ds_setS_21, ds_setS_self, ds_setS_ne, pk_us, pk_un, r]
      · rw [yp]
        congr 1
        exact dr_bs_up _ _ _ R12 (fun k hk => dr_adj_q hk)
    | succ m ih =>
      intro q y hq y0 y1 y3 yp
      have hq' : q < W * H := by omega
      have ng := s_neigh d t p q W H T y ht y0 y1 y3 w2 w4 g2 g3 hT hp hq'
      have r := s_room (d + 2) t y ht
      rw [y0, y1, pk_mul] at r
      have nle : ¬ W * H ≤ q := by omega
      cases a : dk_adj W H T p q
      · rw [a] at ng
        obtain ⟨y', i1, i2⟩ := ih (q + 1) y (by omega) y0 y1 y3 (by rw [yp]; simp only [ds_bs, a, Bool.false_eq_true, ↓reduceIte])
        refine ⟨y', ?_, i2⟩
        rw [← i1, b_Told_settle_20 t ht]
        generalize W * H = R at *
        simp (disch := first | assumption | omega) only [ds_cI, ds_cV, ds_cL, ds_cR, ds_nn, ds_isK_t, ds_isA_t, ds_chk_t, ds_chkN, ds_nz_t, ds_nzN, ds_isB_t, ds_isB_bo, ↓dl_m1, ↓dl_m2, dl_0, dl_1, dl_2, dl_3, dl_4, dl_5, dl_6, dl_7, dl_8, dl_9, dl_10, dl_11, dl_12, dl_13, dl_14, dl_15, dl_16, dl_20, dl_24, dl_31, dl_50, dl_57, dl_67, dl_68, dl_74, dl_75, dl_79, dl_80, dl_99, dl_100, dl_200, dl_210, dl_224, dl_255, dl_289, dl_900, dl_1000, dl_1728, dl_65536, dl_65537, nI_add, pk_mul, pk_sub, pk_div, pk_rem, ds_rem2, nI_clamp, nI_leI, nI_ltI, nI_eq, ds_m1_eq, ds_eq_m1, ds_m2_eq, ds_eq_m2, ds_m1_le, ds_le_m1, ds_m1_lt, ds_lt_m1, ds_in_N, ds_bo0, ds_bo1, if_pos, if_neg, Nat.not_le, Nat.not_lt, not_true_eq_false, not_false_eq_true, if_true, if_false, ne_eq, Option.some.injEq, Prod.mk.injEq, Value.int.injEq, true_and, and_true, and_self, ite_self, Bool.not_eq_true, Bool.not_eq_false, Bool.true_eq_false, Bool.false_eq_true, reduceCtorEq, Nat.zero_add, Nat.reduceAdd, Nat.reduceMul, Nat.reduceSub, ds_setI_row, ds_setL_row, ds_rowI_self, ds_rowI_ne, ds_rowI_2, ds_rowI_rowI, ds_setS_1, ds_setS_21, ds_setS_self, ds_setS_ne, pk_us, pk_un, r, nle, ng]
      · rw [a] at ng
        have lk := s_lookN (d + 2) (t + 10) p 12 y K10 N10 (by decide) (by omega)
        rw [yp] at lk
        have hv : nI (ds_bs (fun q => dk_adj W H T p q) q) ||| (nI 1 <<< (nI q &&& nI 31)) = nI (ds_bs (fun q => dk_adj W H T p q) (q + 1)) := by
          rw [ds_pow (by omega), ds_or]
          simp only [ds_bs, a, ↓reduceIte]
        have pt := s_putN (d + 2) (t + 10) p 12 (nI (ds_bs (fun q => dk_adj W H T p q) (q + 1))) y K10 N10 (by decide) (by omega)
        obtain ⟨y', i1, i2, i3, i4, i5⟩ := ih (q + 1) (ds_rowI y (t + 10) (upd (y.1 (t + 10)) p (nI (ds_bs (fun q => dk_adj W H T p q) (q + 1))))) (by omega) (by rw [ds_rowI_ne _ _ (by omega)]; exact y0) (by rw [ds_rowI_ne _ _ (by omega)]; exact y1) (by rw [ds_rowI_ne _ _ (by omega)]; exact y3) (by rw [ds_rowI_self, pk_us])
        refine ⟨y', ?_, i2, fun i hi => ?_, fun r hr => ?_, i5⟩
        · rw [← i1, b_Told_settle_20 t ht, dl_1, e31]
          generalize ds_rowI y (t + 10) (upd (y.1 (t + 10)) p (nI (ds_bs (fun q => dk_adj W H T p q) (q + 1)))) = y2 at *
          generalize ds_bs (fun q => dk_adj W H T p q) (q + 1) = b2 at *
          generalize ds_bs (fun q => dk_adj W H T p q) q = b1 at *
          generalize W * H = R at *
          simp (disch := first | assumption | omega) only [ds_cI, ds_cV, ds_cL, ds_cR, ds_nn, ds_isK_t, ds_isA_t, ds_chk_t, ds_chkN, ds_nz_t, ds_nzN, ds_isB_t, ds_isB_bo, ↓dl_m1, ↓dl_m2, dl_0, dl_1, dl_2, dl_3, dl_4, dl_5, dl_6, dl_7, dl_8, dl_9, dl_10, dl_11, dl_12, dl_13, dl_14, dl_15, dl_16, dl_20, dl_24, dl_31, dl_50, dl_57, dl_67, dl_68, dl_74, dl_75, dl_79, dl_80, dl_99, dl_100, dl_200, dl_210, dl_224, dl_255, dl_289, dl_900, dl_1000, dl_1728, dl_65536, dl_65537, nI_add, pk_mul, pk_sub, pk_div, pk_rem, ds_rem2, nI_clamp, nI_leI, nI_ltI, nI_eq, ds_m1_eq, ds_eq_m1, ds_m2_eq, ds_eq_m2, ds_m1_le, ds_le_m1, ds_m1_lt, ds_lt_m1, ds_in_N, ds_bo0, ds_bo1, if_pos, if_neg, Nat.not_le, Nat.not_lt, not_true_eq_false, not_false_eq_true, if_true, if_false, ne_eq, Option.some.injEq, Prod.mk.injEq, Value.int.injEq, true_and, and_true, and_self, ite_self, Bool.not_eq_true, Bool.not_eq_false, Bool.true_eq_false, Bool.false_eq_true, reduceCtorEq, Nat.zero_add, Nat.reduceAdd, Nat.reduceMul, Nat.reduceSub, ds_setI_row, ds_setL_row, ds_rowI_self, ds_rowI_ne, ds_rowI_2, ds_rowI_rowI, ds_setS_1, ds_setS_21, ds_setS_self, ds_setS_ne, pk_us, pk_un, r, nle, ng, lk, hv, pt]
        · rw [i3 i hi, ds_rowI_self, pk_un hi]
        · rw [i4 r hr, ds_rowI_ne _ _ hr]
  have outer : ∀ m p (y : ds_St), p + m = W * H → y.1 t 0 = nI W → y.1 t 1 = nI H → y.1 t 3 = nI T → (∀ i, i < p → y.1 (t + 10) i = nI (dk_nb W H T i)) → (∀ i, p ≤ i → i < 12 → y.1 (t + 10) i = nI 0) → ∃ y', ds_Rw ds_c_Told_settle ds_u_Told_settle (ds_call (d + 3)) 10 [some (.ref t), some (.int (nI p)), none] [] y = some (none, y') ∧ (∀ i, i < 12 → y'.1 (t + 10) i = nI (dk_nb W H T i)) ∧ (∀ r, r ≠ t + 10 → y'.1 r = y.1 r) ∧ y'.2 = y.2 := by
    intro m
    induction m with
    | zero =>
      intro p y hq y0 y1 y3 ya yb
      rw [Nat.add_zero] at hq
      refine ⟨y, ?_, fun i hi => ?_, fun _ _ => rfl, rfl⟩
      · have r := s_room (d + 2) t y ht
        rw [y0, y1, pk_mul] at r
        rw [b_Told_settle_10 t ht]
        have le : W * H ≤ p := by omega
        generalize W * H = R at *
        simp (disch := first | assumption | omega) only [ds_cI, ds_cV, ds_cL, ds_cR, ds_nn, ds_isK_t, ds_isA_t, ds_chk_t, ds_chkN, ds_nz_t, ds_nzN, ds_isB_t, ds_isB_bo, ↓dl_m1, ↓dl_m2, dl_0, dl_1, dl_2, dl_3, dl_4, dl_5, dl_6, dl_7, dl_8, dl_9, dl_10, dl_11, dl_12, dl_13, dl_14, dl_15, dl_16, dl_20, dl_24, dl_31, dl_50, dl_57, dl_67, dl_68, dl_74, dl_75, dl_79, dl_80, dl_99, dl_100, dl_200, dl_210, dl_224, dl_255, dl_289, dl_900, dl_1000, dl_1728, dl_65536, dl_65537, nI_add, pk_mul, pk_sub, pk_div, pk_rem, ds_rem2, nI_clamp, nI_leI, nI_ltI, nI_eq, ds_m1_eq, ds_eq_m1, ds_m2_eq, ds_eq_m2, ds_m1_le, ds_le_m1, ds_m1_lt, ds_lt_m1, ds_in_N, ds_bo0, ds_bo1, if_pos, if_neg, Nat.not_le, Nat.not_lt, not_true_eq_false, not_false_eq_true, if_true, if_false, ne_eq, Option.some.injEq, Prod.mk.injEq, Value.int.injEq, true_and, and_true, and_self, ite_self, Bool.not_eq_true, Bool.not_eq_false, Bool.true_eq_false, Bool.false_eq_true, reduceCtorEq, Nat.zero_add, Nat.reduceAdd, Nat.reduceMul, Nat.reduceSub, ds_setI_row, ds_setL_row, ds_rowI_self, ds_rowI_ne, ds_rowI_2, ds_rowI_rowI, ds_setS_1, ds_setS_21, ds_setS_self, ds_setS_ne, pk_us, pk_un, r, le]
      · by_cases h : i < p
        · exact ya i h
        · rw [yb i (by omega) hi, dr_nb_0 (by omega)]
    | succ m ih =>
      intro p y hq y0 y1 y3 ya yb
      have r := s_room (d + 2) t y ht
      rw [y0, y1, pk_mul] at r
      obtain ⟨y', i1, i2, i3, i4, i5⟩ := inner p (by omega) (W * H) 0 y (by omega) y0 y1 y3 (yb p (Nat.le_refl _) (by omega))
      obtain ⟨y2, j1, j2, j3, j4⟩ := ih (p + 1) y' (by omega) (by rw [i4 t (by omega)]; exact y0) (by rw [i4 t (by omega)]; exact y1) (by rw [i4 t (by omega)]; exact y3) (fun i hi => by
        by_cases h : i = p
        · rw [h]; exact i2
        · rw [i3 i h]; exact ya i (by omega)) (fun i hi hj => by rw [i3 i (by omega)]; exact yb i (by omega) hj)
      refine ⟨y2, ?_, j2, fun r hr => (j3 r hr).trans (i4 r hr), j4.trans i5⟩
      rw [← j1, ← i1, b_Told_settle_10 t ht]
      have nle : ¬ W * H ≤ p := by omega
      generalize W * H = R at *
      simp (disch := first | assumption | omega) only [ds_cI, ds_cV, ds_cL, ds_cR, ds_nn, ds_isK_t, ds_isA_t, ds_chk_t, ds_chkN, ds_nz_t, ds_nzN, ds_isB_t, ds_isB_bo, ↓dl_m1, ↓dl_m2, dl_0, dl_1, dl_2, dl_3, dl_4, dl_5, dl_6, dl_7, dl_8, dl_9, dl_10, dl_11, dl_12, dl_13, dl_14, dl_15, dl_16, dl_20, dl_24, dl_31, dl_50, dl_57, dl_67, dl_68, dl_74, dl_75, dl_79, dl_80, dl_99, dl_100, dl_200, dl_210, dl_224, dl_255, dl_289, dl_900, dl_1000, dl_1728, dl_65536, dl_65537, nI_add, pk_mul, pk_sub, pk_div, pk_rem, ds_rem2, nI_clamp, nI_leI, nI_ltI, nI_eq, ds_m1_eq, ds_eq_m1, ds_m2_eq, ds_eq_m2, ds_m1_le, ds_le_m1, ds_m1_lt, ds_lt_m1, ds_in_N, ds_bo0, ds_bo1, if_pos, if_neg, Nat.not_le, Nat.not_lt, not_true_eq_false, not_false_eq_true, if_true, if_false, ne_eq, Option.some.injEq, Prod.mk.injEq, Value.int.injEq, true_and, and_true, and_self, ite_self, Bool.not_eq_true, Bool.not_eq_false, Bool.true_eq_false, Bool.false_eq_true, reduceCtorEq, Nat.zero_add, Nat.reduceAdd, Nat.reduceMul, Nat.reduceSub, ds_setI_row, ds_setL_row, ds_rowI_self, ds_rowI_ne, ds_rowI_2, ds_rowI_rowI, ds_setS_1, ds_setS_21, ds_setS_self, ds_setS_ne, pk_us, pk_un, r, nle]
  have fl := s_fill (d + 2) (t + 10) 12 (nI 0) z K10 N10 (by decide)
  obtain ⟨z', o1, o2, o3, o4⟩ := outer (W * H) 0 (ds_rowI z (t + 10) (fun j => if j < 12 then nI 0 else z.1 (t + 10) j)) (by omega) (by rw [ds_rowI_ne _ _ (by omega)]; exact h0) (by rw [ds_rowI_ne _ _ (by omega)]; exact h1) (by rw [ds_rowI_ne _ _ (by omega)]; exact h3) (fun i hi => absurd hi (Nat.not_lt_zero _)) (fun i _ hi => by rw [ds_rowI_self, if_pos hi])
  refine ⟨z', ?_, o2, fun q hq => (o3 q hq).trans (ds_rowI_ne _ _ hq), o4⟩
  rw [c_Told_settle, b_Told_settle_0 t ht]
  generalize ds_rowI z (t + 10) (fun j => if j < 12 then nI 0 else z.1 (t + 10) j) = y at *
  simp (disch := first | assumption | omega) only [ds_cI, ds_cV, ds_cL, ds_cR, ds_nn, ds_isK_t, ds_isA_t, ds_chk_t, ds_chkN, ds_nz_t, ds_nzN, ds_isB_t, ds_isB_bo, ↓dl_m1, ↓dl_m2, dl_0, dl_1, dl_2, dl_3, dl_4, dl_5, dl_6, dl_7, dl_8, dl_9, dl_10, dl_11, dl_12, dl_13, dl_14, dl_15, dl_16, dl_20, dl_24, dl_31, dl_50, dl_57, dl_67, dl_68, dl_74, dl_75, dl_79, dl_80, dl_99, dl_100, dl_200, dl_210, dl_224, dl_255, dl_289, dl_900, dl_1000, dl_1728, dl_65536, dl_65537, nI_add, pk_mul, pk_sub, pk_div, pk_rem, ds_rem2, nI_clamp, nI_leI, nI_ltI, nI_eq, ds_m1_eq, ds_eq_m1, ds_m2_eq, ds_eq_m2, ds_m1_le, ds_le_m1, ds_m1_lt, ds_lt_m1, ds_in_N, ds_bo0, ds_bo1, if_pos, if_neg, Nat.not_le, Nat.not_lt, not_true_eq_false, not_false_eq_true, if_true, if_false, ne_eq, Option.some.injEq, Prod.mk.injEq, Value.int.injEq, true_and, and_true, and_self, ite_self, Bool.not_eq_true, Bool.not_eq_false, Bool.true_eq_false, Bool.false_eq_true, reduceCtorEq, Nat.zero_add, Nat.reduceAdd, Nat.reduceMul, Nat.reduceSub, ds_setI_row, ds_setL_row, ds_rowI_self, ds_rowI_ne, ds_rowI_2, ds_rowI_rowI, ds_setS_1, ds_setS_21, ds_setS_self, ds_setS_ne, pk_us, pk_un, fl, o1]
