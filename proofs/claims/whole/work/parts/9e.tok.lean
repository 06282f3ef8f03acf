/-! the class goes on to the next token -/
theorem s_takeWord (d : Nat) (z : ds_St) (B : Nat → Nat) (n e : Nat) (he : e ≤ n) (hb : dr_bC z B n) (h5 : z.1 1 5 = nI e) (h4 : z.1 1 4 = nI e) : ∃ z', ds_call (d + 2) j_Reader_takeWord [.ref 1] z = some (none, z') ∧ z'.1 1 4 = nI e ∧ z'.1 1 5 = nI (e + (dr_rn dr_lt B n e).length) ∧ z'.1 1 6 = nI (if (dr_rn dr_lt B n e).length ≤ 8 then 1 else 4) ∧ z'.2.1 1 7 = lN (dr_cod 0 (dr_rn dr_lt B n e)) ∧ dr_f1 z z' := by
  have n9 := hb.2.2.1
  have len := (dr_rn_end (P := dr_lt) (B := B) (n - e) e rfl he).1
  let z0 := ds_rowL z 1 (vp_updL (z.2.1 1) 7 (lN 0))
  have f0 : dr_f1 z z0 := dr_f1_lng _ (dr_f1_refl z)
  have g7 : z0.2.1 1 7 = lN 0 := by
    show (ds_rowL z 1 (vp_updL (z.2.1 1) 7 (lN 0))).2.1 1 7 = _
    rw [ds_rowL_self]
    exact if_pos rfl
  have z0e : ds_setL z 1 7 0 = z0 := rfl
  have g5 : z0.1 1 5 = nI e := h5
  have g4 : z0.1 1 4 = nI e := h4
  clear_value z0
  obtain ⟨z1, w1, w2, w3, w4, w5⟩ := dr_word d B n (n - e) e 0 z0 rfl he (dr_bC_f1 hb f0) g5 g7
  rw [g4] at w4
  generalize (dr_rn dr_lt B n e).length = L at *
  generalize dr_cod 0 (dr_rn dr_lt B n e) = W at *
  refine ⟨ds_rowI z1 1 (upd (z1.1 1) 6 (nI (if L ≤ 8 then 1 else 4))), ?_, by rw [ds_rowI_self, pk_un (by decide)]; exact w4, by rw [ds_rowI_self, pk_un (by decide)]; exact w2, by rw [ds_rowI_self, pk_us], w3, dr_f1_fld _ (dr_f1_trans f0 w5) (.inr (.inr (.inl rfl)))⟩
  have es : nI (e + L) - nI e = nI L := by
    rw [pk_sub (by omega)]
    congr 1
    omega
  rw [c_Reader_takeWord, b_Reader_takeWord_0, z0e, w1, b_Reader_takeWord_62, w2, w4, es]
  by_cases q : L ≤ 8
  · rw [if_pos q]
    simp (disch := first | assumption | omega) only [ds_cI, ds_cV, ds_cL, ds_cR, ds_nn, ds_isK_t, ds_isA_t, ds_chk_t, ds_chkN, ds_nz_t, ds_nzN, ds_isB_t, ds_isB_bo, ↓dl_m1, ↓dl_m2, dl_0, dl_1, dl_2, dl_3, dl_4, dl_5, dl_6, dl_7, dl_8, dl_9, dl_10, dl_11, dl_12, dl_13, dl_14, dl_15, dl_16, dl_20, dl_24, dl_31, dl_50, dl_57, dl_67, dl_68, dl_74, dl_75, dl_79, dl_80, dl_99, dl_100, dl_200, dl_210, dl_224, dl_255, dl_289, dl_900, dl_1000, dl_1728, dl_65536, dl_65537, nI_add, pk_mul, pk_sub, pk_div, pk_rem, ds_rem2, nI_clamp, nI_leI, nI_ltI, nI_eq, ds_m1_eq, ds_eq_m1, ds_m2_eq, ds_eq_m2, ds_m1_le, ds_le_m1, ds_m1_lt, ds_lt_m1, ds_in_N, ds_bo0, ds_bo1, if_pos, if_neg, Nat.not_le, Nat.not_lt, not_true_eq_false, not_false_eq_true, if_true, if_false, ne_eq, Option.some.injEq, Prod.mk.injEq, Value.int.injEq, true_and, and_true, and_self, ite_self, Bool.not_eq_true, Bool.not_eq_false, Bool.true_eq_false, Bool.false_eq_true, reduceCtorEq, Nat.zero_add, Nat.reduceAdd, Nat.reduceMul, Nat.reduceSub, ds_setI_row, ds_setL_row, ds_rowI_self, ds_rowI_ne, ds_rowI_2, ds_rowI_rowI, ds_setS_1, ds_setS_21, ds_setS_self, ds_setS_ne, pk_us, pk_un]
  · rw [if_neg q]
    simp (disch := first | assumption | omega) only [ds_cI, ds_cV, ds_cL, ds_cR, ds_nn, ds_isK_t, ds_isA_t, ds_chk_t, ds_chkN, ds_nz_t, ds_nzN, ds_isB_t, ds_isB_bo, ↓dl_m1, ↓dl_m2, dl_0, dl_1, dl_2, dl_3, dl_4, dl_5, dl_6, dl_7, dl_8, dl_9, dl_10, dl_11, dl_12, dl_13, dl_14, dl_15, dl_16, dl_20, dl_24, dl_31, dl_50, dl_57, dl_67, dl_68, dl_74, dl_75, dl_79, dl_80, dl_99, dl_100, dl_200, dl_210, dl_224, dl_255, dl_289, dl_900, dl_1000, dl_1728, dl_65536, dl_65537, nI_add, pk_mul, pk_sub, pk_div, pk_rem, ds_rem2, nI_clamp, nI_leI, nI_ltI, nI_eq, ds_m1_eq, ds_eq_m1, ds_m2_eq, ds_eq_m2, ds_m1_le, ds_le_m1, ds_m1_lt, ds_lt_m1, ds_in_N, ds_bo0, ds_bo1, if_pos, if_neg, Nat.not_le, Nat.not_lt, not_true_eq_false, not_false_eq_true, if_true, if_false, ne_eq, Option.some.injEq, Prod.mk.injEq, Value.int.injEq, true_and, and_true, and_self, ite_self, Bool.not_eq_true, Bool.not_eq_false, Bool.true_eq_false, Bool.false_eq_true, reduceCtorEq, Nat.zero_add, Nat.reduceAdd, Nat.reduceMul, Nat.reduceSub, ds_setI_row, ds_setL_row, ds_rowI_self, ds_rowI_ne, ds_rowI_2, ds_rowI_rowI, ds_setS_1, ds_setS_21, ds_setS_self, ds_setS_ne, pk_us, pk_un]
theorem s_takeWhole (d : Nat) (z : ds_St) (B : Nat → Nat) (n e : Nat) (he : e ≤ n) (hb : dr_bC z B n) (h5 : z.1 1 5 = nI e) (h4 : z.1 1 4 = nI e) : ∃ z', ds_call (d + 2) j_Reader_takeWhole [.ref 1] z = some (none, z') ∧ z'.1 1 4 = nI e ∧ z'.1 1 5 = nI (e + (dr_rn dr_dg B n e).length) ∧ z'.1 1 6 = nI (if (dr_rn dr_dg B n e).length ≤ 2 then 2 else 4) ∧ z'.1 1 8 = nI (dr_val 0 (dr_rn dr_dg B n e)) ∧ dr_f1 z z' := by
  have n9 := hb.2.2.1
  have len := (dr_rn_end (P := dr_dg) (B := B) (n - e) e rfl he).1
  let z0 := ds_rowI z 1 (upd (z.1 1) 8 (nI 0))
  have f0 : dr_f1 z z0 := dr_f1_fld _ (dr_f1_refl z) (.inr (.inr (.inr rfl)))
  have g8 : z0.1 1 8 = nI 0 := by
    show (ds_rowI z 1 (upd (z.1 1) 8 (nI 0))).1 1 8 = _
    rw [ds_rowI_self, pk_us]
  have z0e : ds_setI z 1 8 0 = z0 := ds_setI_row _ _ _ _
  have g5 : z0.1 1 5 = nI e := by
    show (ds_rowI z 1 (upd (z.1 1) 8 (nI 0))).1 1 5 = _
    rw [ds_rowI_self, pk_un (by decide)]; exact h5
  have g4 : z0.1 1 4 = nI e := by
    show (ds_rowI z 1 (upd (z.1 1) 8 (nI 0))).1 1 4 = _
    rw [ds_rowI_self, pk_un (by decide)]; exact h4
  clear_value z0
  obtain ⟨z1, w1, w2, w3, w4, w5⟩ := dr_digs d B n (n - e) e 0 z0 rfl he (dr_bC_f1 hb f0) g5 g8
  rw [g4] at w4
  generalize (dr_rn dr_dg B n e).length = L at *
  generalize dr_val 0 (dr_rn dr_dg B n e) = W at *
  refine ⟨ds_rowI z1 1 (upd (z1.1 1) 6 (nI (if L ≤ 2 then 2 else 4))), ?_, by rw [ds_rowI_self, pk_un (by decide)]; exact w4, by rw [ds_rowI_self, pk_un (by decide)]; exact w2, by rw [ds_rowI_self, pk_us], by rw [ds_rowI_self, pk_un (by decide)]; exact w3, dr_f1_fld _ (dr_f1_trans f0 w5) (.inr (.inr (.inl rfl)))⟩
  have es : nI (e + L) - nI e = nI L := by
    rw [pk_sub (by omega)]
    congr 1
    omega
  rw [c_Reader_takeWhole, b_Reader_takeWhole_0, z0e, w1, b_Reader_takeWhole_66, w2, w4, es]
  by_cases q : L ≤ 2
  · rw [if_pos q]
    simp (disch := first | assumption | omega) only [ds_cI, ds_cV, ds_cL, ds_cR, ds_nn, ds_isK_t, ds_isA_t, ds_chk_t, ds_chkN, ds_nz_t, ds_nzN, ds_isB_t, ds_isB_bo, ↓dl_m1, ↓dl_m2, dl_0, dl_1, dl_2, dl_3, dl_4, dl_5, dl_6, dl_7, dl_8, dl_9, dl_10, dl_11, dl_12, dl_13, dl_14, dl_15, dl_16, dl_20, dl_24, dl_31, dl_50, dl_57, dl_67, dl_68, dl_74, dl_75, dl_79, dl_80, dl_99, dl_100, dl_200, dl_210, dl_224, dl_255, dl_289, dl_900, dl_1000, dl_1728, dl_65536, dl_65537, nI_add, pk_mul, pk_sub, pk_div, pk_rem, ds_rem2, nI_clamp, nI_leI, nI_ltI, nI_eq, ds_m1_eq, ds_eq_m1, ds_m2_eq, ds_eq_m2, ds_m1_le, ds_le_m1, ds_m1_lt, ds_lt_m1, ds_in_N, ds_bo0, ds_bo1, if_pos, if_neg, Nat.not_le, Nat.not_lt, not_true_eq_false, not_false_eq_true, if_true, if_false, ne_eq, Option.some.injEq, Prod.mk.injEq, Value.int.injEq, true_and, and_true, and_self, ite_self, Bool.not_eq_true, Bool.not_eq_false, Bool.true_eq_false, Bool.false_eq_true, reduceCtorEq, Nat.zero_add, Nat.reduceAdd, Nat.reduceMul, Nat.reduceSub, ds_setI_row, ds_setL_row, ds_rowI_self, ds_rowI_ne, ds_rowI_2, ds_rowI_rowI, ds_setS_1, ds_setS_21, ds_setS_self, ds_setS_ne, pk_us, pk_un]
  · rw [if_neg q]
    simp (disch := first | assumption | omega) only [ds_cI, ds_cV, ds_cL, ds_cR, ds_nn, ds_isK_t, ds_isA_t, ds_chk_t, ds_chkN, ds_nz_t, ds_nzN, ds_isB_t, ds_isB_bo, ↓dl_m1, ↓dl_m2, dl_0, dl_1, dl_2, dl_3, dl_4, dl_5, dl_6, dl_7, dl_8, dl_9, dl_10, dl_11, dl_12, dl_13, dl_14, dl_15, dl_16, dl_20, dl_24, dl_31, dl_50, dl_57, dl_67, dl_68, dl_74, dl_75, dl_79, dl_80, dl_99, dl_100, dl_200, dl_210, dl_224, dl_255, dl_289, dl_900, dl_1000, dl_1728, dl_65536, dl_65537, nI_add, pk_mul, pk_sub, pk_div, pk_rem, ds_rem2, nI_clamp, nI_leI, nI_ltI, nI_eq, ds_m1_eq, ds_eq_m1, ds_m2_eq, ds_eq_m2, ds_m1_le, ds_le_m1, ds_m1_lt, ds_lt_m1, ds_in_N, ds_bo0, ds_bo1, if_pos, if_neg, Nat.not_le, Nat.not_lt, not_true_eq_false, not_false_eq_true, if_true, if_false, ne_eq, Option.some.injEq, Prod.mk.injEq, Value.int.injEq, true_and, and_true, and_self, ite_self, Bool.not_eq_true, Bool.not_eq_false, Bool.true_eq_false, Bool.false_eq_true, reduceCtorEq, Nat.zero_add, Nat.reduceAdd, Nat.reduceMul, Nat.reduceSub, ds_setI_row, ds_setL_row, ds_rowI_self, ds_rowI_ne, ds_rowI_2, ds_rowI_rowI, ds_setS_1, ds_setS_21, ds_setS_self, ds_setS_ne, pk_us, pk_un]
theorem s_adv (d : Nat) (z : ds_St) (B : Nat → Nat) (n e : Nat) (he : e ≤ n) (hb : dr_bC z B n) (h5 : z.1 1 5 = nI e) : ∃ z', ds_call (d + 3) j_Reader_advance [.ref 1] z = some (none, z') ∧ dr_tC z' B n e ∧ dr_f1 z z' := by
  have n9 := hb.2.2.1
  have h9 := hb.1
  obtain ⟨z1, u1, u2, u3⟩ := dr_spaces d B n (n - e) e z rfl he hb h5
  obtain ⟨a1, a2⟩ := dr_at_ok B he
  have hb1 := dr_bC_f1 hb u3
  let z2 := ds_rowI z1 1 (upd (z1.1 1) 4 (nI (dr_at B n e)))
  have f2 : dr_f1 z z2 := dr_f1_fld _ u3 (.inl rfl)
  have g4 : z2.1 1 4 = nI (dr_at B n e) := by
    show (ds_rowI z1 1 (upd (z1.1 1) 4 (nI (dr_at B n e)))).1 1 4 = _
    rw [ds_rowI_self, pk_us]
  have g5 : z2.1 1 5 = nI (dr_at B n e) := by
    show (ds_rowI z1 1 (upd (z1.1 1) 4 (nI (dr_at B n e)))).1 1 5 = _
    rw [ds_rowI_self, pk_un (by decide)]; exact u2
  have z2e : ds_setI z1 1 4 (nI (dr_at B n e)) = z2 := ds_setI_row _ _ _ _
  have hb2 := dr_bC_f1 hb f2
  clear_value z2
  have g3 := hb2.2.1
  have ei : ds_call (d + 3) j_Reader_advance [.ref 1] z = ds_nn (ds_Rw ds_c_Reader_advance ds_u_Reader_advance (ds_call (d + 2)) 45 [some (.ref 1), none] [] z1) := by
    rw [c_Reader_advance, b_Reader_advance_0, dl_0, if_pos h9, u1]
  unfold dr_tC dr_kd dr_nx dr_wl dr_wh dr_dl
  generalize dr_at B n e = p at *
  rw [ei, b_Reader_advance_45, u2, z2e]
  by_cases q1 : n ≤ p
  · have by0 := s_byteAt0 (d + 1) p z2 B n hb2 q1 (by omega)
    refine ⟨ds_rowI z2 1 (upd (z2.1 1) 6 (nI 0)), ?_, ⟨by rw [ds_rowI_self, pk_un (by decide)]; exact g4, by rw [if_pos q1, ds_rowI_self, pk_un (by decide)]; exact g5, by rw [if_pos q1, ds_rowI_self, pk_us], fun h => ?_, fun h => ?_⟩, dr_f1_fld _ f2 (.inr (.inr (.inl rfl)))⟩
    · simp (disch := first | assumption | omega) only [ds_cI, ds_cV, ds_cL, ds_cR, ds_nn, ds_isK_t, ds_isA_t, ds_chk_t, ds_chkN, ds_nz_t, ds_nzN, ds_isB_t, ds_isB_bo, ↓dl_m1, ↓dl_m2, dl_0, dl_1, dl_2, dl_3, dl_4, dl_5, dl_6, dl_7, dl_8, dl_9, dl_10, dl_11, dl_12, dl_13, dl_14, dl_15, dl_16, dl_20, dl_24, dl_31, dl_50, dl_57, dl_67, dl_68, dl_74, dl_75, dl_79, dl_80, dl_99, dl_100, dl_200, dl_210, dl_224, dl_255, dl_289, dl_900, dl_1000, dl_1728, dl_65536, dl_65537, nI_add, pk_mul, pk_sub, pk_div, pk_rem, ds_rem2, nI_clamp, nI_leI, nI_ltI, nI_eq, ds_m1_eq, ds_eq_m1, ds_m2_eq, ds_eq_m2, ds_m1_le, ds_le_m1, ds_m1_lt, ds_lt_m1, ds_in_N, ds_bo0, ds_bo1, if_pos, if_neg, Nat.not_le, Nat.not_lt, not_true_eq_false, not_false_eq_true, if_true, if_false, ne_eq, Option.some.injEq, Prod.mk.injEq, Value.int.injEq, true_and, and_true, and_self, ite_self, Bool.not_eq_true, Bool.not_eq_false, Bool.true_eq_false, Bool.false_eq_true, reduceCtorEq, Nat.zero_add, Nat.reduceAdd, Nat.reduceMul, Nat.reduceSub, ds_setI_row, ds_setL_row, ds_rowI_self, ds_rowI_ne, ds_rowI_2, ds_rowI_rowI, ds_setS_1, ds_setS_21, ds_setS_self, ds_setS_ne, pk_us, pk_un, by0, g4, g3]
    · rw [if_pos q1] at h; omega
    · rw [if_pos q1] at h; omega
  · have by0 := s_byteAt (d + 1) p z2 B n hb2 (by omega)
    have b2 := hb2.2.2.2.2 p (by omega)
    have il := s_isLetter (d + 1) (B p) z2 b2
    have id_ := s_isDigit (d + 1) (B p) z2 b2
    rw [if_neg q1, if_neg q1]
    cases ql : dr_lt (B p)
    · rw [ql] at il
      simp only [↓reduceIte, Bool.false_eq_true]
      cases qd : dr_dg (B p)
      · rw [qd] at id_
        simp only [↓reduceIte, Bool.false_eq_true]
        have fin : ∀ k, ds_nn (ds_Rw ds_c_Reader_advance ds_u_Reader_advance (ds_call (d + 2)) 121 [some (.ref 1), none] [.int (nI k), .ref 1] z2) = some (none, ds_rowI (ds_rowI z2 1 (upd (z2.1 1) 6 (nI k))) 1 (upd ((ds_rowI z2 1 (upd (z2.1 1) 6 (nI k))).1 1) 5 (nI (p + 1)))) := by
          intro k
          have g5' : (ds_rowI z2 1 (upd (z2.1 1) 6 (nI k))).1 1 5 = nI p := by rw [ds_rowI_self, pk_un (by decide)]; exact g5
          have i1 : ds_K 1 = 4 := rfl
          rw [b_Reader_advance_121, ds_isK_t i1, ds_setI_row, ds_setI_row, g5', dl_1, nI_add]
          rfl
        have fr : ∀ k, dr_f1 z (ds_rowI (ds_rowI z2 1 (upd (z2.1 1) 6 (nI k))) 1 (upd ((ds_rowI z2 1 (upd (z2.1 1) 6 (nI k))).1 1) 5 (nI (p + 1)))) := fun k => dr_f1_fld _ (dr_f1_fld _ f2 (.inr (.inr (.inl rfl)))) (.inr (.inl rfl))
        have e4 : ∀ k, (ds_rowI (ds_rowI z2 1 (upd (z2.1 1) 6 (nI k))) 1 (upd ((ds_rowI z2 1 (upd (z2.1 1) 6 (nI k))).1 1) 5 (nI (p + 1)))).1 1 4 = nI p := fun k => by rw [ds_rowI_self, pk_un (by decide), ds_rowI_self, pk_un (by decide)]; exact g4
        have e5 : ∀ k, (ds_rowI (ds_rowI z2 1 (upd (z2.1 1) 6 (nI k))) 1 (upd ((ds_rowI z2 1 (upd (z2.1 1) 6 (nI k))).1 1) 5 (nI (p + 1)))).1 1 5 = nI (p + 1) := fun k => by rw [ds_rowI_self, pk_us]
        have e6 : ∀ k, (ds_rowI (ds_rowI z2 1 (upd (z2.1 1) 6 (nI k))) 1 (upd ((ds_rowI z2 1 (upd (z2.1 1) 6 (nI k))).1 1) 5 (nI (p + 1)))).1 1 6 = nI k := fun k => by rw [ds_rowI_self, pk_un (by decide), ds_rowI_self, pk_us]
        by_cases q59 : B p = 59
        · simp only [if_pos q59]
          refine ⟨_, (?_ : _ = some (none, ds_rowI (ds_rowI z2 1 (upd (z2.1 1) 6 (nI 3))) 1 (upd ((ds_rowI z2 1 (upd (z2.1 1) 6 (nI 3))).1 1) 5 (nI (p + 1))))), ⟨e4 3, e5 3, e6 3, fun h => by omega, fun h => by omega⟩, fr 3⟩
          have h59 : dr_sb (B p) = nI 59 := by rw [dr_sb_59 b2]; exact q59
          rw [h59] at il id_ by0
          rw [← fin 3]
          simp (disch := first | assumption | omega) only [ds_cI_t by0, g4, g3, nI_ltI, if_pos, ds_cI_t il, ds_cI_t id_, dl_0, dl_3, dl_4, ds_bo0, if_true, dl_59, h59, not_true_eq_false, if_false]
        · simp only [if_neg q59]
          refine ⟨_, (?_ : _ = some (none, ds_rowI (ds_rowI z2 1 (upd (z2.1 1) 6 (nI 4))) 1 (upd ((ds_rowI z2 1 (upd (z2.1 1) 6 (nI 4))).1 1) 5 (nI (p + 1))))), ⟨e4 4, e5 4, e6 4, fun h => by omega, fun h => by omega⟩, fr 4⟩
          have h59 : ¬ dr_sb (B p) = nI 59 := by rw [dr_sb_59 b2]; exact q59
          rw [← fin 4]
          simp (disch := first | assumption | omega) only [ds_cI_t by0, g4, g3, nI_ltI, if_pos, ds_cI_t il, ds_cI_t id_, dl_0, dl_3, dl_4, ds_bo0, if_true, dl_59, h59, not_false_eq_true]
      · rw [qd] at id_
        simp only [↓reduceIte]
        obtain ⟨z3, w1, w2, w3, w4, w5, w6⟩ := s_takeWhole d z2 B n p (by omega) hb2 g5 g4
        refine ⟨z3, ?_, ⟨w2, w3, w4, fun h => ?_, fun _ => w5⟩, dr_f1_trans f2 w6⟩
        · simp (disch := first | assumption | omega) only [ds_cI, ds_cV, ds_cL, ds_cR, ds_nn, ds_isK_t, ds_isA_t, ds_chk_t, ds_chkN, ds_nz_t, ds_nzN, ds_isB_t, ds_isB_bo, ↓dl_m1, ↓dl_m2, dl_0, dl_1, dl_2, dl_3, dl_4, dl_5, dl_6, dl_7, dl_8, dl_9, dl_10, dl_11, dl_12, dl_13, dl_14, dl_15, dl_16, dl_20, dl_24, dl_31, dl_50, dl_57, dl_67, dl_68, dl_74, dl_75, dl_79, dl_80, dl_99, dl_100, dl_200, dl_210, dl_224, dl_255, dl_289, dl_900, dl_1000, dl_1728, dl_65536, dl_65537, nI_add, pk_mul, pk_sub, pk_div, pk_rem, ds_rem2, nI_clamp, nI_leI, nI_ltI, nI_eq, ds_m1_eq, ds_eq_m1, ds_m2_eq, ds_eq_m2, ds_m1_le, ds_le_m1, ds_m1_lt, ds_lt_m1, ds_in_N, ds_bo0, ds_bo1, if_pos, if_neg, Nat.not_le, Nat.not_lt, not_true_eq_false, not_false_eq_true, if_true, if_false, ne_eq, Option.some.injEq, Prod.mk.injEq, Value.int.injEq, true_and, and_true, and_self, ite_self, Bool.not_eq_true, Bool.not_eq_false, Bool.true_eq_false, Bool.false_eq_true, reduceCtorEq, Nat.zero_add, Nat.reduceAdd, Nat.reduceMul, Nat.reduceSub, ds_setI_row, ds_setL_row, ds_rowI_self, ds_rowI_ne, ds_rowI_2, ds_rowI_rowI, ds_setS_1, ds_setS_21, ds_setS_self, ds_setS_ne, pk_us, pk_un, by0, g4, g3, il, id_, w1]
        · split at h <;> omega
    · rw [ql] at il
      simp only [↓reduceIte]
      obtain ⟨z3, w1, w2, w3, w4, w5, w6⟩ := s_takeWord d z2 B n p (by omega) hb2 g5 g4
      refine ⟨z3, ?_, ⟨w2, w3, w4, fun _ => w5, fun h => ?_⟩, dr_f1_trans f2 w6⟩
      · simp (disch := first | assumption | omega) only [ds_cI, ds_cV, ds_cL, ds_cR, ds_nn, ds_isK_t, ds_isA_t, ds_chk_t, ds_chkN, ds_nz_t, ds_nzN, ds_isB_t, ds_isB_bo, ↓dl_m1, ↓dl_m2, dl_0, dl_1, dl_2, dl_3, dl_4, dl_5, dl_6, dl_7, dl_8, dl_9, dl_10, dl_11, dl_12, dl_13, dl_14, dl_15, dl_16, dl_20, dl_24, dl_31, dl_50, dl_57, dl_67, dl_68, dl_74, dl_75, dl_79, dl_80, dl_99, dl_100, dl_200, dl_210, dl_224, dl_255, dl_289, dl_900, dl_1000, dl_1728, dl_65536, dl_65537, nI_add, pk_mul, pk_sub, pk_div, pk_rem, ds_rem2, nI_clamp, nI_leI, nI_ltI, nI_eq, ds_m1_eq, ds_eq_m1, ds_m2_eq, ds_eq_m2, ds_m1_le, ds_le_m1, ds_m1_lt, ds_lt_m1, ds_in_N, ds_bo0, ds_bo1, if_pos, if_neg, Nat.not_le, Nat.not_lt, not_true_eq_false, not_false_eq_true, if_true, if_false, ne_eq, Option.some.injEq, Prod.mk.injEq, Value.int.injEq, true_and, and_true, and_self, ite_self, Bool.not_eq_true, Bool.not_eq_false, Bool.true_eq_false, Bool.false_eq_true, reduceCtorEq, Nat.zero_add, Nat.reduceAdd, Nat.reduceMul, Nat.reduceSub, ds_setI_row, ds_setL_row, ds_rowI_self, ds_rowI_ne, ds_rowI_2, ds_rowI_rowI, ds_setS_1, ds_setS_21, ds_setS_self, ds_setS_ne, pk_us, pk_un, by0, g4, g3, il, w1]
      · split at h <;> omega
/-! the model goes on -/
def dr_bM (z : ds_St) (B : Nat → Nat) (n : Nat) : Prop := z.1 90 13 = nI 0 ∧ z.1 90 3 = nI n ∧ n ≤ 900 ∧ (∀ k, k < n → z.1 91 k = nI (B k)) ∧ (∀ k, k < n → B k < 256)
/-- the model's number of a sort of token -/
def dr_mk (k : Nat) : Nat := if k = 0 then 0 else if k = 1 then 2 else if k = 2 then 3 else if k = 3 then 59 else 1
def dr_tM (z : ds_St) (B : Nat → Nat) (n e : Nat) : Prop := z.1 90 4 = nI (dr_at B n e) ∧ z.1 90 5 = nI (dr_nx B n e) ∧ z.1 90 6 = nI (dr_mk (dr_kd B n e)) ∧ (dr_kd B n e = 1 → z.1 90 8 = nI (dr_wl B n e).length ∧ ∀ k, k < (dr_wl B n e).length → z.1 92 k = nI ((dr_wl B n e).getD k 0)) ∧ (dr_kd B n e = 2 → z.1 90 7 = nI (dr_wh B n e))
def dr_g1 (z z' : ds_St) : Prop := (∀ p, p ≠ 90 → p ≠ 92 → z'.1 p = z.1 p) ∧ (∀ k, k < 4 ∨ 8 < k → z'.1 90 k = z.1 90 k) ∧ z'.2 = z.2
theorem dr_g1_refl (z : ds_St) : dr_g1 z z := ⟨fun _ _ _ => rfl, fun _ _ => rfl, rfl⟩
theorem dr_g1_trans {z z1 z2 : ds_St} (h : dr_g1 z z1) (h2 : dr_g1 z1 z2) : dr_g1 z z2 := ⟨fun p a b => (h2.1 p a b).trans (h.1 p a b), fun k a => (h2.2.1 k a).trans (h.2.1 k a), h2.2.2.trans h.2.2⟩
theorem dr_g1_fld {z z1 : ds_St} {k : Nat} (v : Int32) (h : dr_g1 z z1) (hk : 4 ≤ k) (hk2 : k ≤ 8) : dr_g1 z (ds_rowI z1 90 (upd (z1.1 90) k v)) := ⟨fun p a b => by rw [ds_rowI_ne _ _ a]; exact h.1 p a b, fun j a => by rw [ds_rowI_self, pk_un (by omega)]; exact h.2.1 j a, h.2.2⟩
theorem dr_g1_let {z z1 : ds_St} (f : Nat → Int32) (h : dr_g1 z z1) : dr_g1 z (ds_rowI z1 92 f) := ⟨fun p a b => by rw [ds_rowI_ne _ _ b]; exact h.1 p a b, fun j a => by rw [ds_rowI_ne _ _ (by decide)]; exact h.2.1 j a, h.2.2⟩
theorem dr_bM_g1 {z z' : ds_St} {B : Nat → Nat} {n : Nat} (h : dr_bM z B n) (hf : dr_g1 z z') : dr_bM z' B n := ⟨by rw [hf.2.1 13 (by decide)]; exact h.1, by rw [hf.2.1 3 (by decide)]; exact h.2.1, h.2.2.1, by rw [hf.1 91 (by decide) (by decide)]; exact h.2.2.2.1, h.2.2.2.2⟩
theorem s_mlook (d i : Nat) (z : ds_St) (B : Nat → Nat) (n : Nat) (h : dr_bM z B n) (hi : i < n) : ds_call (d + 1) j_Mod_look [.ref 90, .int (nI i)] z = some (some (.int (nI (B i))), z) := by
  obtain ⟨_, h3, n9, ht, _⟩ := h
  have t := ht i hi
  rw [c_Mod_look, b_Mod_look_0]
  simp (disch := first | assumption | omega) only [ds_cI, ds_cV, ds_cL, ds_cR, ds_nn, ds_isK_t, ds_isA_t, ds_chk_t, ds_chkN, ds_nz_t, ds_nzN, ds_isB_t, ds_isB_bo, ↓dl_m1, ↓dl_m2, dl_0, dl_1, dl_2, dl_3, dl_4, dl_5, dl_6, dl_7, dl_8, dl_9, dl_10, dl_11, dl_12, dl_13, dl_14, dl_15, dl_16, dl_20, dl_24, dl_31, dl_50, dl_57, dl_67, dl_68, dl_74, dl_75, dl_79, dl_80, dl_99, dl_100, dl_200, dl_210, dl_224, dl_255, dl_289, dl_900, dl_1000, dl_1728, dl_65536, dl_65537, nI_add, pk_mul, pk_sub, pk_div, pk_rem, ds_rem2, nI_clamp, nI_leI, nI_ltI, nI_eq, ds_m1_eq, ds_eq_m1, ds_m2_eq, ds_eq_m2, ds_m1_le, ds_le_m1, ds_m1_lt, ds_lt_m1, ds_in_N, ds_bo0, ds_bo1, if_pos, if_neg, Nat.not_le, Nat.not_lt, not_true_eq_false, not_false_eq_true, if_true, if_false, ne_eq, Option.some.injEq, Prod.mk.injEq, Value.int.injEq, true_and, and_true, and_self, ite_self, Bool.not_eq_true, Bool.not_eq_false, Bool.true_eq_false, Bool.false_eq_true, reduceCtorEq, Nat.zero_add, Nat.reduceAdd, Nat.reduceMul, Nat.reduceSub, ds_setI_row, ds_setL_row, ds_rowI_self, ds_rowI_ne, ds_rowI_2, ds_rowI_rowI, ds_setS_1, ds_setS_21, ds_setS_self, ds_setS_ne, pk_us, pk_un, h3, t]
theorem s_mlook0 (d i : Nat) (z : ds_St) (B : Nat → Nat) (n : Nat) (h : dr_bM z B n) (hi : n ≤ i) (h9 : i ≤ 900) : ds_call (d + 1) j_Mod_look [.ref 90, .int (nI i)] z = some (some (.int ds_m1), z) := by
  obtain ⟨_, h3, n9, ht, _⟩ := h
  rw [c_Mod_look, b_Mod_look_0]
  simp (disch := first | assumption | omega) only [ds_cI, ds_cV, ds_cL, ds_cR, ds_nn, ds_isK_t, ds_isA_t, ds_chk_t, ds_chkN, ds_nz_t, ds_nzN, ds_isB_t, ds_isB_bo, ↓dl_m1, ↓dl_m2, dl_0, dl_1, dl_2, dl_3, dl_4, dl_5, dl_6, dl_7, dl_8, dl_9, dl_10, dl_11, dl_12, dl_13, dl_14, dl_15, dl_16, dl_20, dl_24, dl_31, dl_50, dl_57, dl_67, dl_68, dl_74, dl_75, dl_79, dl_80, dl_99, dl_100, dl_200, dl_210, dl_224, dl_255, dl_289, dl_900, dl_1000, dl_1728, dl_65536, dl_65537, nI_add, pk_mul, pk_sub, pk_div, pk_rem, ds_rem2, nI_clamp, nI_leI, nI_ltI, nI_eq, ds_m1_eq, ds_eq_m1, ds_m2_eq, ds_eq_m2, ds_m1_le, ds_le_m1, ds_m1_lt, ds_lt_m1, ds_in_N, ds_bo0, ds_bo1, if_pos, if_neg, Nat.not_le, Nat.not_lt, not_true_eq_false, not_false_eq_true, if_true, if_false, ne_eq, Option.some.injEq, Prod.mk.injEq, Value.int.injEq, true_and, and_true, and_self, ite_self, Bool.not_eq_true, Bool.not_eq_false, Bool.true_eq_false, Bool.false_eq_true, reduceCtorEq, Nat.zero_add, Nat.reduceAdd, Nat.reduceMul, Nat.reduceSub, ds_setI_row, ds_setL_row, ds_rowI_self, ds_rowI_ne, ds_rowI_2, ds_rowI_rowI, ds_setS_1, ds_setS_21, ds_setS_self, ds_setS_ne, pk_us, pk_un, h3]
theorem s_isSmall (d x : Nat) (z : ds_St) (hx : x < 256) : ds_call (d + 1) j_Mod_isSmall [.int (nI x)] z = some (some (.int (ds_bo (dr_lt x))), z) := by
  rw [c_Mod_isSmall, b_Mod_isSmall_0]
  unfold dr_lt
  by_cases a : 97 ≤ x
  · by_cases b : x ≤ 122
    · rw [decide_eq_true a, decide_eq_true b]
      simp (disch := first | assumption | omega) only [ds_cI, ds_cV, ds_cL, ds_cR, ds_nn, ds_isK_t, ds_isA_t, ds_chk_t, ds_chkN, ds_nz_t, ds_nzN, ds_isB_t, ds_isB_bo, ↓dl_m1, ↓dl_m2, dl_0, dl_1, dl_2, dl_3, dl_4, dl_5, dl_6, dl_7, dl_8, dl_9, dl_10, dl_11, dl_12, dl_13, dl_14, dl_15, dl_16, dl_20, dl_24, dl_31, dl_50, dl_57, dl_67, dl_68, dl_74, dl_75, dl_79, dl_80, dl_99, dl_100, dl_200, dl_210, dl_224, dl_255, dl_289, dl_900, dl_1000, dl_1728, dl_65536, dl_65537, nI_add, pk_mul, pk_sub, pk_div, pk_rem, ds_rem2, nI_clamp, nI_leI, nI_ltI, nI_eq, ds_m1_eq, ds_eq_m1, ds_m2_eq, ds_eq_m2, ds_m1_le, ds_le_m1, ds_m1_lt, ds_lt_m1, ds_in_N, ds_bo0, ds_bo1, if_pos, if_neg, Nat.not_le, Nat.not_lt, not_true_eq_false, not_false_eq_true, if_true, if_false, ne_eq, Option.some.injEq, Prod.mk.injEq, Value.int.injEq, true_and, and_true, and_self, ite_self, Bool.not_eq_true, Bool.not_eq_false, Bool.true_eq_false, Bool.false_eq_true, reduceCtorEq, Nat.zero_add, Nat.reduceAdd, Nat.reduceMul, Nat.reduceSub, ds_setI_row, ds_setL_row, ds_rowI_self, ds_rowI_ne, ds_rowI_2, ds_rowI_rowI, ds_setS_1, ds_setS_21, ds_setS_self, ds_setS_ne, pk_us, pk_un, dl_97, dl_122]
      rfl
    · rw [decide_eq_true a, decide_eq_false b]
      simp (disch := first | assumption | omega) only [ds_cI, ds_cV, ds_cL, ds_cR, ds_nn, ds_isK_t, ds_isA_t, ds_chk_t, ds_chkN, ds_nz_t, ds_nzN, ds_isB_t, ds_isB_bo, ↓dl_m1, ↓dl_m2, dl_0, dl_1, dl_2, dl_3, dl_4, dl_5, dl_6, dl_7, dl_8, dl_9, dl_10, dl_11, dl_12, dl_13, dl_14, dl_15, dl_16, dl_20, dl_24, dl_31, dl_50, dl_57, dl_67, dl_68, dl_74, dl_75, dl_79, dl_80, dl_99, dl_100, dl_200, dl_210, dl_224, dl_255, dl_289, dl_900, dl_1000, dl_1728, dl_65536, dl_65537, nI_add, pk_mul, pk_sub, pk_div, pk_rem, ds_rem2, nI_clamp, nI_leI, nI_ltI, nI_eq, ds_m1_eq, ds_eq_m1, ds_m2_eq, ds_eq_m2, ds_m1_le, ds_le_m1, ds_m1_lt, ds_lt_m1, ds_in_N, ds_bo0, ds_bo1, if_pos, if_neg, Nat.not_le, Nat.not_lt, not_true_eq_false, not_false_eq_true, if_true, if_false, ne_eq, Option.some.injEq, Prod.mk.injEq, Value.int.injEq, true_and, and_true, and_self, ite_self, Bool.not_eq_true, Bool.not_eq_false, Bool.true_eq_false, Bool.false_eq_true, reduceCtorEq, Nat.zero_add, Nat.reduceAdd, Nat.reduceMul, Nat.reduceSub, ds_setI_row, ds_setL_row, ds_rowI_self, ds_rowI_ne, ds_rowI_2, ds_rowI_rowI, ds_setS_1, ds_setS_21, ds_setS_self, ds_setS_ne, pk_us, pk_un, dl_97, dl_122]
      rfl
  · rw [decide_eq_false a]
    simp (disch := first | assumption | omega) only [ds_cI, ds_cV, ds_cL, ds_cR, ds_nn, ds_isK_t, ds_isA_t, ds_chk_t, ds_chkN, ds_nz_t, ds_nzN, ds_isB_t, ds_isB_bo, ↓dl_m1, ↓dl_m2, dl_0, dl_1, dl_2, dl_3, dl_4, dl_5, dl_6, dl_7, dl_8, dl_9, dl_10, dl_11, dl_12, dl_13, dl_14, dl_15, dl_16, dl_20, dl_24, dl_31, dl_50, dl_57, dl_67, dl_68, dl_74, dl_75, dl_79, dl_80, dl_99, dl_100, dl_200, dl_210, dl_224, dl_255, dl_289, dl_900, dl_1000, dl_1728, dl_65536, dl_65537, nI_add, pk_mul, pk_sub, pk_div, pk_rem, ds_rem2, nI_clamp, nI_leI, nI_ltI, nI_eq, ds_m1_eq, ds_eq_m1, ds_m2_eq, ds_eq_m2, ds_m1_le, ds_le_m1, ds_m1_lt, ds_lt_m1, ds_in_N, ds_bo0, ds_bo1, if_pos, if_neg, Nat.not_le, Nat.not_lt, not_true_eq_false, not_false_eq_true, if_true, if_false, ne_eq, Option.some.injEq, Prod.mk.injEq, Value.int.injEq, true_and, and_true, and_self, ite_self, Bool.not_eq_true, Bool.not_eq_false, Bool.true_eq_false, Bool.false_eq_true, reduceCtorEq, Nat.zero_add, Nat.reduceAdd, Nat.reduceMul, Nat.reduceSub, ds_setI_row, ds_setL_row, ds_rowI_self, ds_rowI_ne, ds_rowI_2, ds_rowI_rowI, ds_setS_1, ds_setS_21, ds_setS_self, ds_setS_ne, pk_us, pk_un, dl_97, dl_122]
    rfl
theorem s_mDigit (d x : Nat) (z : ds_St) (hx : x < 256) : ds_call (d + 1) j_Mod_isDigit [.int (nI x)] z = some (some (.int (ds_bo (dr_dg x))), z) := by
  rw [c_Mod_isDigit, b_Mod_isDigit_0]
  unfold dr_dg
  by_cases a : 48 ≤ x
  · by_cases b : x ≤ 57
    · rw [decide_eq_true a, decide_eq_true b]
      simp (disch := first | assumption | omega) only [ds_cI, ds_cV, ds_cL, ds_cR, ds_nn, ds_isK_t, ds_isA_t, ds_chk_t, ds_chkN, ds_nz_t, ds_nzN, ds_isB_t, ds_isB_bo, ↓dl_m1, ↓dl_m2, dl_0, dl_1, dl_2, dl_3, dl_4, dl_5, dl_6, dl_7, dl_8, dl_9, dl_10, dl_11, dl_12, dl_13, dl_14, dl_15, dl_16, dl_20, dl_24, dl_31, dl_50, dl_57, dl_67, dl_68, dl_74, dl_75, dl_79, dl_80, dl_99, dl_100, dl_200, dl_210, dl_224, dl_255, dl_289, dl_900, dl_1000, dl_1728, dl_65536, dl_65537, nI_add, pk_mul, pk_sub, pk_div, pk_rem, ds_rem2, nI_clamp, nI_leI, nI_ltI, nI_eq, ds_m1_eq, ds_eq_m1, ds_m2_eq, ds_eq_m2, ds_m1_le, ds_le_m1, ds_m1_lt, ds_lt_m1, ds_in_N, ds_bo0, ds_bo1, if_pos, if_neg, Nat.not_le, Nat.not_lt, not_true_eq_false, not_false_eq_true, if_true, if_false, ne_eq, Option.some.injEq, Prod.mk.injEq, Value.int.injEq, true_and, and_true, and_self, ite_self, Bool.not_eq_true, Bool.not_eq_false, Bool.true_eq_false, Bool.false_eq_true, reduceCtorEq, Nat.zero_add, Nat.reduceAdd, Nat.reduceMul, Nat.reduceSub, ds_setI_row, ds_setL_row, ds_rowI_self, ds_rowI_ne, ds_rowI_2, ds_rowI_rowI, ds_setS_1, ds_setS_21, ds_setS_self, ds_setS_ne, pk_us, pk_un, dl_48]
      rfl
    · rw [decide_eq_true a, decide_eq_false b]
      simp (disch := first | assumption | omega) only [ds_cI, ds_cV, ds_cL, ds_cR, ds_nn, ds_isK_t, ds_isA_t, ds_chk_t, ds_chkN, ds_nz_t, ds_nzN, ds_isB_t, ds_isB_bo, ↓dl_m1, ↓dl_m2, dl_0, dl_1, dl_2, dl_3, dl_4, dl_5, dl_6, dl_7, dl_8, dl_9, dl_10, dl_11, dl_12, dl_13, dl_14, dl_15, dl_16, dl_20, dl_24, dl_31, dl_50, dl_57, dl_67, dl_68, dl_74, dl_75, dl_79, dl_80, dl_99, dl_100, dl_200, dl_210, dl_224, dl_255, dl_289, dl_900, dl_1000, dl_1728, dl_65536, dl_65537, nI_add, pk_mul, pk_sub, pk_div, pk_rem, ds_rem2, nI_clamp, nI_leI, nI_ltI, nI_eq, ds_m1_eq, ds_eq_m1, ds_m2_eq, ds_eq_m2, ds_m1_le, ds_le_m1, ds_m1_lt, ds_lt_m1, ds_in_N, ds_bo0, ds_bo1, if_pos, if_neg, Nat.not_le, Nat.not_lt, not_true_eq_false, not_false_eq_true, if_true, if_false, ne_eq, Option.some.injEq, Prod.mk.injEq, Value.int.injEq, true_and, and_true, and_self, ite_self, Bool.not_eq_true, Bool.not_eq_false, Bool.true_eq_false, Bool.false_eq_true, reduceCtorEq, Nat.zero_add, Nat.reduceAdd, Nat.reduceMul, Nat.reduceSub, ds_setI_row, ds_setL_row, ds_rowI_self, ds_rowI_ne, ds_rowI_2, ds_rowI_rowI, ds_setS_1, ds_setS_21, ds_setS_self, ds_setS_ne, pk_us, pk_un, dl_48]
      rfl
  · rw [decide_eq_false a]
    simp (disch := first | assumption | omega) only [ds_cI, ds_cV, ds_cL, ds_cR, ds_nn, ds_isK_t, ds_isA_t, ds_chk_t, ds_chkN, ds_nz_t, ds_nzN, ds_isB_t, ds_isB_bo, ↓dl_m1, ↓dl_m2, dl_0, dl_1, dl_2, dl_3, dl_4, dl_5, dl_6, dl_7, dl_8, dl_9, dl_10, dl_11, dl_12, dl_13, dl_14, dl_15, dl_16, dl_20, dl_24, dl_31, dl_50, dl_57, dl_67, dl_68, dl_74, dl_75, dl_79, dl_80, dl_99, dl_100, dl_200, dl_210, dl_224, dl_255, dl_289, dl_900, dl_1000, dl_1728, dl_65536, dl_65537, nI_add, pk_mul, pk_sub, pk_div, pk_rem, ds_rem2, nI_clamp, nI_leI, nI_ltI, nI_eq, ds_m1_eq, ds_eq_m1, ds_m2_eq, ds_eq_m2, ds_m1_le, ds_le_m1, ds_m1_lt, ds_lt_m1, ds_in_N, ds_bo0, ds_bo1, if_pos, if_neg, Nat.not_le, Nat.not_lt, not_true_eq_false, not_false_eq_true, if_true, if_false, ne_eq, Option.some.injEq, Prod.mk.injEq, Value.int.injEq, true_and, and_true, and_self, ite_self, Bool.not_eq_true, Bool.not_eq_false, Bool.true_eq_false, Bool.false_eq_true, reduceCtorEq, Nat.zero_add, Nat.reduceAdd, Nat.reduceMul, Nat.reduceSub, ds_setI_row, ds_setL_row, ds_rowI_self, ds_rowI_ne, ds_rowI_2, ds_rowI_rowI, ds_setS_1, ds_setS_21, ds_setS_self, ds_setS_ne, pk_us, pk_un, dl_48]
    rfl
theorem s_isSmall0 (d : Nat) (z : ds_St) : ds_call (d + 1) j_Mod_isSmall [.int ds_m1] z = some (some (.int (nI 0)), z) := by
  rw [c_Mod_isSmall, b_Mod_isSmall_0]
  have h : ds_m1 < (97 : Int32) := by decide
  rw [if_pos h]
  rfl
theorem s_mDigit0 (d : Nat) (z : ds_St) : ds_call (d + 1) j_Mod_isDigit [.int ds_m1] z = some (some (.int (nI 0)), z) := by
  rw [c_Mod_isDigit, b_Mod_isDigit_0]
  have h : ds_m1 < (48 : Int32) := by decide
  rw [if_pos h]
  rfl
theorem dr_mspaces (d : Nat) (B : Nat → Nat) (n : Nat) (z : ds_St) (hb : dr_bM z B n) : ∀ m e, n - e = m → e ≤ n → ds_Rw ds_c_Mod_next ds_u_Mod_next (ds_call (d + 1)) 5 [some (.ref 90), some (.int (nI e)), none, none] [] z = ds_Rw ds_c_Mod_next ds_u_Mod_next (ds_call (d + 1)) 5 [some (.ref 90), some (.int (nI ((dr_at B n e)))), none, none] [] z := by
  intro m
  induction m with
  | zero =>
    intro e hm he
    have ea : dr_at B n e = e := by
      unfold dr_at
      rw [dr_rn_n (fun q => by omega)]
      rfl
    rw [ea]
  | succ m ih =>
    intro e hm he
    have n9 := hb.2.2.1
    have lk := s_mlook d e z B n hb (by omega)
    have b2 := hb.2.2.2.2 e (by omega)
    by_cases q : B e = 32
    · have ea : dr_at B n e = dr_at B n (e + 1) := by
        unfold dr_at
        rw [dr_rn_c (by omega) (show dr_sp (B e) = true by rw [q]; rfl), List.length_cons]
        omega
      have ih' := ih (e + 1) (by omega) (by omega)
      rw [ea, ← ih', b_Mod_next_5]
      simp (disch := first | assumption | omega) only [ds_cI, ds_cV, ds_cL, ds_cR, ds_nn, ds_isK_t, ds_isA_t, ds_chk_t, ds_chkN, ds_nz_t, ds_nzN, ds_isB_t, ds_isB_bo, ↓dl_m1, ↓dl_m2, dl_0, dl_1, dl_2, dl_3, dl_4, dl_5, dl_6, dl_7, dl_8, dl_9, dl_10, dl_11, dl_12, dl_13, dl_14, dl_15, dl_16, dl_20, dl_24, dl_31, dl_50, dl_57, dl_67, dl_68, dl_74, dl_75, dl_79, dl_80, dl_99, dl_100, dl_200, dl_210, dl_224, dl_255, dl_289, dl_900, dl_1000, dl_1728, dl_65536, dl_65537, nI_add, pk_mul, pk_sub, pk_div, pk_rem, ds_rem2, nI_clamp, nI_leI, nI_ltI, nI_eq, ds_m1_eq, ds_eq_m1, ds_m2_eq, ds_eq_m2, ds_m1_le, ds_le_m1, ds_m1_lt, ds_lt_m1, ds_in_N, ds_bo0, ds_bo1, if_pos, if_neg, Nat.not_le, Nat.not_lt, not_true_eq_false, not_false_eq_true, if_true, if_false, ne_eq, Option.some.injEq, Prod.mk.injEq, Value.int.injEq, true_and, and_true, and_self, ite_self, Bool.not_eq_true, Bool.not_eq_false, Bool.true_eq_false, Bool.false_eq_true, reduceCtorEq, Nat.zero_add, Nat.reduceAdd, Nat.reduceMul, Nat.reduceSub, ds_setI_row, ds_setL_row, ds_rowI_self, ds_rowI_ne, ds_rowI_2, ds_rowI_rowI, ds_setS_1, ds_setS_21, ds_setS_self, ds_setS_ne, pk_us, pk_un, lk, dl_32, q]
    · have ea : dr_at B n e = e := by
        unfold dr_at
        rw [dr_rn_n (fun _ => by unfold dr_sp; simpa using q)]
        rfl
      rw [ea]
/-- the letters that the model has kept: the first eight -/
theorem dr_mword (d : Nat) (B : Nat → Nat) (n : Nat) : ∀ m e j z, n - e = m → e ≤ n → dr_bM z B n → z.1 90 8 = nI j → j + (n - e) ≤ 900 → ∃ z', ds_Rw ds_c_Mod_next ds_u_Mod_next (ds_call (d + 1)) 67 [some (.ref 90), some (.int (nI e)), none, none] [] z = some (none, z') ∧ z'.1 90 4 = z.1 90 4 ∧ z'.1 90 5 = nI (e + (dr_rn dr_lt B n e).length) ∧ z'.1 90 8 = nI (j + (dr_rn dr_lt B n e).length) ∧ z'.1 90 6 = nI (if j + (dr_rn dr_lt B n e).length ≤ 8 then 2 else 1) ∧ (∀ k, k < 8 → z'.1 92 k = if j ≤ k ∧ k < j + (dr_rn dr_lt B n e).length then nI ((dr_rn dr_lt B n e).getD (k - j) 0) else z.1 92 k) ∧ dr_g1 z z' := by
  have fin : ∀ e j z, e ≤ 900 → j ≤ 900 → dr_bM z B n → z.1 90 8 = nI j → (∀ z, dr_bM z B n → ∃ r, ds_call (d + 1) j_Mod_look [.ref 90, .int (nI e)] z = some (some (.int r), z) ∧ ds_call (d + 1) j_Mod_isSmall [.int r] z = some (some (.int (nI 0)), z)) → ∃ z', ds_Rw ds_c_Mod_next ds_u_Mod_next (ds_call (d + 1)) 67 [some (.ref 90), some (.int (nI e)), none, none] [] z = some (none, z') ∧ z'.1 90 4 = z.1 90 4 ∧ z'.1 90 5 = nI e ∧ z'.1 90 8 = nI j ∧ z'.1 90 6 = nI (if j ≤ 8 then 2 else 1) ∧ (∀ k, k < 8 → z'.1 92 k = z.1 92 k) ∧ dr_g1 z z' := by
    intro e j z e9 j9 hb h8 hl
    obtain ⟨r, l1, l2⟩ := hl z hb
    refine ⟨ds_rowI (ds_rowI z 90 (upd (z.1 90) 5 (nI e))) 90 (upd ((ds_rowI z 90 (upd (z.1 90) 5 (nI e))).1 90) 6 (nI (if j ≤ 8 then 2 else 1))), ?_, ?_, ?_, ?_, ?_, fun k hk => ?_, dr_g1_fld _ (dr_g1_fld _ (dr_g1_refl z) (by decide) (by decide)) (by decide) (by decide)⟩
    · rw [b_Mod_next_67]
      by_cases q : j ≤ 8
      · rw [if_pos q]
        simp (disch := first | assumption | omega) only [ds_cI_t l1, ds_cI_t l2, dl_0, if_true, h8, dl_8, nI_leI, if_pos, ds_setI_row, dl_2]
      · rw [if_neg q]
        simp (disch := first | assumption | omega) only [ds_cI_t l1, ds_cI_t l2, dl_0, if_true, h8, dl_8, nI_leI, if_neg, ds_setI_row, dl_1]
    · rw [ds_rowI_self, pk_un (by decide), ds_rowI_self, pk_un (by decide)]
    · rw [ds_rowI_self, pk_un (by decide), ds_rowI_self, pk_us]
    · rw [ds_rowI_self, pk_un (by decide), ds_rowI_self, pk_un (by decide)]; exact h8
    · rw [ds_rowI_self, pk_us]
    · rw [ds_rowI_ne _ _ (by decide), ds_rowI_ne _ _ (by decide)]
  intro m
  induction m with
  | zero =>
    intro e j z hm he hb h8 hj
    have n9 := hb.2.2.1
    rw [dr_rn_n (fun q => by omega)]
    obtain ⟨z', w1, w2, w3, w4, w5, w6, w7⟩ := fin e j z (by omega) (by omega) hb h8 (fun z hb => ⟨ds_m1, s_mlook0 d e z B n hb (by omega) (by omega), s_isSmall0 d z⟩)
    refine ⟨z', w1, w2, w3, w4, w5, fun k hk => ?_, w7⟩
    rw [if_neg (by simp <;> omega)]
    exact w6 k hk
  | succ m ih =>
    intro e j z hm he hb h8 hj
    have n9 := hb.2.2.1
    have b2 := hb.2.2.2.2 e (by omega)
    have lk := fun z hb => s_mlook d e z B n hb (by omega)
    have il := fun z => s_isSmall d (B e) z b2
    cases q : dr_lt (B e)
    · rw [dr_rn_n (fun _ => q)]
      obtain ⟨z', w1, w2, w3, w4, w5, w6, w7⟩ := fin e j z (by omega) (by omega) hb h8 (fun z hb => ⟨nI (B e), lk z hb, by have := il z; rw [q] at this; exact this⟩)
      refine ⟨z', w1, w2, w3, w4, w5, fun k hk => ?_, w7⟩
      rw [if_neg (by simp <;> omega)]
      exact w6 k hk
    · rw [dr_rn_c (by omega) q, List.length_cons]
      have lkz := lk z hb
      have ilz := il z
      rw [q] at ilz
      have next : ∀ y, dr_bM y B n → y.1 90 8 = nI j → ∃ z', ds_Rw ds_c_Mod_next ds_u_Mod_next (ds_call (d + 1)) 101 [some (.ref 90), some (.int (nI e)), none, none] [] y = some (none, z') ∧ z'.1 90 4 = y.1 90 4 ∧ z'.1 90 5 = nI (e + ((dr_rn dr_lt B n (e + 1)).length + 1)) ∧ z'.1 90 8 = nI (j + ((dr_rn dr_lt B n (e + 1)).length + 1)) ∧ z'.1 90 6 = nI (if j + ((dr_rn dr_lt B n (e + 1)).length + 1) ≤ 8 then 2 else 1) ∧ (∀ k, k < 8 → z'.1 92 k = if j + 1 ≤ k ∧ k < j + ((dr_rn dr_lt B n (e + 1)).length + 1) then nI ((dr_rn dr_lt B n (e + 1)).getD (k - (j + 1)) 0) else y.1 92 k) ∧ dr_g1 y z' := by
        intro y hby h8y
        let y1 := ds_rowI y 90 (upd (y.1 90) 8 (nI (j + 1)))
        have y1e : ds_setI y 90 8 (nI (j + 1)) = y1 := ds_setI_row _ _ _ _
        have f1 : dr_g1 y y1 := dr_g1_fld _ (dr_g1_refl y) (by decide) (by decide)
        have g8 : y1.1 90 8 = nI (j + 1) := by
          show (ds_rowI y 90 (upd (y.1 90) 8 (nI (j + 1)))).1 90 8 = _
          rw [ds_rowI_self, pk_us]
        have g4 : y1.1 90 4 = y.1 90 4 := by
          show (ds_rowI y 90 (upd (y.1 90) 8 (nI (j + 1)))).1 90 4 = _
          rw [ds_rowI_self, pk_un (by decide)]
        have g92 : y1.1 92 = y.1 92 := ds_rowI_ne _ _ (by decide)
        clear_value y1
        obtain ⟨z', w1, w2, w3, w4, w5, w6, w7⟩ := ih (e + 1) (j + 1) y1 (by omega) (by omega) (dr_bM_g1 hby f1) g8 (by omega)
        have el : e + 1 + (dr_rn dr_lt B n (e + 1)).length = e + ((dr_rn dr_lt B n (e + 1)).length + 1) := by omega
        have el2 : j + 1 + (dr_rn dr_lt B n (e + 1)).length = j + ((dr_rn dr_lt B n (e + 1)).length + 1) := by omega
        rw [el] at w3
        rw [el2] at w4 w5 w6
        refine ⟨z', ?_, w2.trans g4, w3, w4, w5, fun k hk => by rw [w6 k hk, g92], dr_g1_trans f1 w7⟩
        rw [b_Mod_next_101, h8y, dl_1, nI_add, nI_add, y1e]
        exact w1
      by_cases q8 : 8 ≤ j
      · obtain ⟨z', w1, w2, w3, w4, w5, w6, w7⟩ := next z hb h8
        refine ⟨z', ?_, w2, w3, w4, w5, fun k hk => ?_, w7⟩
        · rw [b_Mod_next_67]
          simp (disch := first | assumption | omega) only [ds_cI_t lkz, ds_cI_t ilz, dl_0, ds_bo0, Bool.true_eq_false, if_false, h8, dl_8, nI_leI, if_pos, w1]
        · rw [w6 k hk, if_neg (by omega), if_neg (by omega)]
      · let y := ds_rowI z 92 (upd (z.1 92) j (nI (B e)))
        have ye : ds_setI z 92 j (nI (B e)) = y := ds_setI_row _ _ _ _
        have fy : dr_g1 z y := dr_g1_let _ (dr_g1_refl z)
        have gy : ∀ k, y.1 92 k = upd (z.1 92) j (nI (B e)) k := fun k => by
          show (ds_rowI z 92 (upd (z.1 92) j (nI (B e)))).1 92 k = _
          rw [ds_rowI_self]
        have g90 : y.1 90 = z.1 90 := ds_rowI_ne _ _ (by decide)
        clear_value y
        obtain ⟨z', w1, w2, w3, w4, w5, w6, w7⟩ := next y (dr_bM_g1 hb fy) (by rw [g90]; exact h8)
        refine ⟨z', ?_, by rw [w2, g90], w3, w4, w5, fun k hk => ?_, dr_g1_trans fy w7⟩
        · rw [b_Mod_next_67]
          simp (disch := first | assumption | omega) only [ds_cI_t lkz, ds_cI_t ilz, dl_0, ds_bo0, Bool.true_eq_false, if_false, h8, dl_8, nI_leI, if_neg, Nat.not_le, ds_chkN, nI_clamp, ye, w1]
        · rw [w6 k hk]
          by_cases a : j + 1 ≤ k ∧ k < j + ((dr_rn dr_lt B n (e + 1)).length + 1)
          · rw [if_pos a, if_pos (by omega), show k - j = (k - (j + 1)) + 1 by omega, List.getD_cons_succ]
          · rw [if_neg a, gy]
            by_cases b : k = j
            · rw [b, pk_us, if_pos (by omega), Nat.sub_self, List.getD_cons_zero]
            · rw [pk_un b, if_neg (by omega)]
theorem dr_mdigs (d : Nat) (B : Nat → Nat) (n : Nat) : ∀ m e j a z, n - e = m → e ≤ n → dr_bM z B n → z.1 90 7 = nI a → j + (n - e) ≤ 900 → ∃ z', ds_Rw ds_c_Mod_next ds_u_Mod_next (ds_call (d + 1)) 152 [some (.ref 90), some (.int (nI e)), none, some (.int (nI j))] [] z = some (none, z') ∧ z'.1 90 4 = z.1 90 4 ∧ z'.1 90 5 = nI (e + (dr_rn dr_dg B n e).length) ∧ z'.1 90 6 = nI (if j + (dr_rn dr_dg B n e).length ≤ 2 then 3 else 1) ∧ (j + (dr_rn dr_dg B n e).length ≤ 2 → z'.1 90 7 = nI (dr_val a (dr_rn dr_dg B n e))) ∧ dr_g1 z z' := by
  have fin : ∀ e j a z, e ≤ 900 → j ≤ 900 → dr_bM z B n → z.1 90 7 = nI a → (∀ z, dr_bM z B n → ∃ r, ds_call (d + 1) j_Mod_look [.ref 90, .int (nI e)] z = some (some (.int r), z) ∧ ds_call (d + 1) j_Mod_isDigit [.int r] z = some (some (.int (nI 0)), z)) → ∃ z', ds_Rw ds_c_Mod_next ds_u_Mod_next (ds_call (d + 1)) 152 [some (.ref 90), some (.int (nI e)), none, some (.int (nI j))] [] z = some (none, z') ∧ z'.1 90 4 = z.1 90 4 ∧ z'.1 90 5 = nI e ∧ z'.1 90 6 = nI (if j ≤ 2 then 3 else 1) ∧ z'.1 90 7 = nI a ∧ dr_g1 z z' := by
    intro e j a z e9 j9 hb h7 hl
    obtain ⟨r, l1, l2⟩ := hl z hb
    refine ⟨ds_rowI (ds_rowI z 90 (upd (z.1 90) 5 (nI e))) 90 (upd ((ds_rowI z 90 (upd (z.1 90) 5 (nI e))).1 90) 6 (nI (if j ≤ 2 then 3 else 1))), ?_, ?_, ?_, ?_, ?_, dr_g1_fld _ (dr_g1_fld _ (dr_g1_refl z) (by decide) (by decide)) (by decide) (by decide)⟩
    · rw [b_Mod_next_152]
      by_cases q : j ≤ 2
      · rw [if_pos q]
        simp (disch := first | assumption | omega) only [ds_cI_t l1, ds_cI_t l2, dl_0, if_true, dl_2, nI_leI, if_pos, ds_setI_row, dl_3]
      · rw [if_neg q]
        simp (disch := first | assumption | omega) only [ds_cI_t l1, ds_cI_t l2, dl_0, if_true, dl_2, nI_leI, if_neg, ds_setI_row, dl_1]
    · rw [ds_rowI_self, pk_un (by decide), ds_rowI_self, pk_un (by decide)]
    · rw [ds_rowI_self, pk_un (by decide), ds_rowI_self, pk_us]
    · rw [ds_rowI_self, pk_us]
    · rw [ds_rowI_self, pk_un (by decide), ds_rowI_self, pk_un (by decide)]; exact h7
  intro m
  induction m with
  | zero =>
    intro e j a z hm he hb h7 hj
    have n9 := hb.2.2.1
    rw [dr_rn_n (fun q => by omega)]
    obtain ⟨z', w1, w2, w3, w4, w5, w6⟩ := fin e j a z (by omega) (by omega) hb h7 (fun z hb => ⟨ds_m1, s_mlook0 d e z B n hb (by omega) (by omega), s_mDigit0 d z⟩)
    exact ⟨z', w1, w2, w3, w4, fun _ => w5, w6⟩
  | succ m ih =>
    intro e j a z hm he hb h7 hj
    have n9 := hb.2.2.1
    have b2 := hb.2.2.2.2 e (by omega)
    have lk := fun z hb => s_mlook d e z B n hb (by omega)
    have il := fun z => s_mDigit d (B e) z b2
    cases q : dr_dg (B e)
    · rw [dr_rn_n (fun _ => q)]
      obtain ⟨z', w1, w2, w3, w4, w5, w6⟩ := fin e j a z (by omega) (by omega) hb h7 (fun z hb => ⟨nI (B e), lk z hb, by have := il z; rw [q] at this; exact this⟩)
      exact ⟨z', w1, w2, w3, w4, fun _ => w5, w6⟩
    · rw [dr_rn_c (by omega) q, List.length_cons]
      have lkz := lk z hb
      have ilz := il z
      rw [q] at ilz
      have q1 : 48 ≤ B e := by
        unfold dr_dg at q
        simp at q
        exact q.1
      by_cases q8 : 2 ≤ j
      · obtain ⟨z', w1, w2, w3, w4, w5, w6⟩ := ih (e + 1) (j + 1) a z (by omega) (by omega) hb h7 (by omega)
        refine ⟨z', ?_, w2, by rw [w3]; congr 1; omega, by rw [w4]; congr 1; rw [show j + 1 + (dr_rn dr_dg B n (e + 1)).length = j + ((dr_rn dr_dg B n (e + 1)).length + 1) by omega], fun h => by omega, w6⟩
        rw [b_Mod_next_152]
        simp (disch := first | assumption | omega) only [ds_cI_t lkz, ds_cI_t ilz, dl_0, ds_bo0, Bool.true_eq_false, if_false, dl_2, dl_1, nI_leI, if_pos, nI_add, w1]
      · let y := ds_rowI z 90 (upd (z.1 90) 7 (nI (dr_v1 a (B e))))
        have ye : ds_setI z 90 7 (nI (dr_v1 a (B e))) = y := ds_setI_row _ _ _ _
        have fy : dr_g1 z y := dr_g1_fld _ (dr_g1_refl z) (by decide) (by decide)
        have g7 : y.1 90 7 = nI (dr_v1 a (B e)) := by
          show (ds_rowI z 90 (upd (z.1 90) 7 (nI (dr_v1 a (B e))))).1 90 7 = _
          rw [ds_rowI_self, pk_us]
        have g4 : y.1 90 4 = z.1 90 4 := by
          show (ds_rowI z 90 (upd (z.1 90) 7 (nI (dr_v1 a (B e))))).1 90 4 = _
          rw [ds_rowI_self, pk_un (by decide)]
        have ev : nI 10 * nI a + nI (B e) - nI 48 = nI (dr_v1 a (B e)) := by
          rw [pk_mul, nI_add, pk_sub (by omega)]
          unfold dr_v1
          congr 1
          omega
        clear_value y
        obtain ⟨z', w1, w2, w3, w4, w5, w6⟩ := ih (e + 1) (j + 1) (dr_v1 a (B e)) y (by omega) (by omega) (dr_bM_g1 hb fy) g7 (by omega)
        refine ⟨z', ?_, w2.trans g4, by rw [w3]; congr 1; omega, by rw [w4]; congr 1; rw [show j + 1 + (dr_rn dr_dg B n (e + 1)).length = j + ((dr_rn dr_dg B n (e + 1)).length + 1) by omega], fun h => by rw [dr_val_c]; exact w5 (by omega), dr_g1_trans fy w6⟩
        rw [b_Mod_next_152]
        simp (disch := first | assumption | omega) only [ds_cI_t lkz, ds_cI_t ilz, dl_0, ds_bo0, Bool.true_eq_false, if_false, dl_2, dl_1, dl_10, dl_48, nI_leI, if_neg, Nat.not_le, h7, ev, ye, nI_add, w1]
