/-! names of the model -/
def dr_gM (z z' : ds_St) : Prop := (∀ p, p < 98 → p ≠ 90 → p ≠ 92 → p ≠ 94 → z'.1 p = z.1 p) ∧ (∀ k, k = 0 ∨ k = 2 ∨ k = 11 ∨ k = 14 ∨ k = 20 ∨ k = 21 → z'.1 90 k = z.1 90 k) ∧ z'.2 = z.2
theorem dr_gM_refl (z : ds_St) : dr_gM z z := ⟨fun _ _ _ _ _ => rfl, fun _ _ => rfl, rfl⟩
theorem dr_gM_g1 {z z1 z2 : ds_St} (h : dr_gM z z1) (h2 : dr_g1 z1 z2) : dr_gM z z2 := ⟨fun p a b c e => (h2.1 p b c).trans (h.1 p a b c e), fun k a => (h2.2.1 k (by omega)).trans (h.2.1 k a), h2.2.2.trans h.2.2⟩
theorem dr_gM_zw {z z1 : ds_St} {v a : Nat} (h : dr_gM z z1) : dr_gM z (dr_zw z1 v a) := ⟨fun p x b c e => (dr_zw_p z1 v a b).trans (h.1 p x b c e), fun k x => (dr_zw_k z1 v a (by omega) (by omega) (by omega)).trans (h.2.1 k x), h.2.2⟩
theorem dr_gM_94 {z z1 : ds_St} (f : Nat → Int32) (h : dr_gM z z1) : dr_gM z (ds_rowI z1 94 f) := ⟨fun p x b c e => by rw [ds_rowI_ne _ _ e]; exact h.1 p x b c e, fun k x => by rw [ds_rowI_ne _ _ (by decide)]; exact h.2.1 k x, h.2.2⟩
def dr_dM (z : ds_St) (hs : Bool) (D : Nat → Nat → Nat) : Prop := z.1 94 8 = ds_bo hs ∧ (hs = true → z.1 94 0 = nI (D 0 0) ∧ z.1 94 1 = nI (D 0 1) ∧ z.1 94 2 = nI (D 0 2) ∧ z.1 94 3 = nI (D 0 3)) ∧ (z.1 94 4 = nI (D 0 4) ∧ z.1 94 5 = nI (D 0 5) ∧ z.1 94 6 = nI (D 0 6) ∧ z.1 94 7 = nI (D 0 7)) ∧ (∀ i, i < D 0 4 → z.1 94 (9 + 4 * i + 0) = nI (D 1 i) ∧ z.1 94 (9 + 4 * i + 1) = nI (D 2 i) ∧ z.1 94 (9 + 4 * i + 2) = nI (D 3 i) ∧ z.1 94 (9 + 4 * i + 3) = nI (D 4 i)) ∧ (∀ m, m < D 0 5 → z.1 94 (57 + m) = nI (D 5 m)) ∧ (∀ m, m < D 0 6 → z.1 94 (67 + 2 * m) = nI (D 6 m) ∧ z.1 94 (67 + 2 * m + 1) = nI (D 7 m)) ∧ (∀ m, m < D 0 7 → z.1 94 (79 + 2 * m) = nI (D 8 m) ∧ z.1 94 (79 + 2 * m + 1) = nI (D 9 m))
def dr_nM (z : ds_St) (Nm : Nat → List Nat) : Prop := ∀ s, s < 22 → z.1 94 (91 + s) = nI (Nm s).length ∧ ∀ k, k < (Nm s).length → z.1 94 (113 + 8 * s + k) = nI ((Nm s).getD k 0)
def dr_SM (z0 : ds_St) (hs : Bool) (Nm : Nat → List Nat) (D : Nat → Nat → Nat) (z : ds_St) : Prop := dr_dM z hs D ∧ dr_nM z Nm ∧ dr_gM z0 z ∧ z.1 90 9 = z0.1 90 9 ∧ z.1 90 10 = z0.1 90 10
theorem dr_SM_g1 {z0 z z' : ds_St} {hs : Bool} {Nm : Nat → List Nat} {D : Nat → Nat → Nat} (h : dr_SM z0 hs Nm D z) (hf : dr_g1 z z') : dr_SM z0 hs Nm D z' := by
  obtain ⟨a, b, c, e, f⟩ := h
  refine ⟨?_, ?_, dr_gM_g1 c hf, (hf.2.1 9 (by decide)).trans e, (hf.2.1 10 (by decide)).trans f⟩
  · unfold dr_dM
    rw [hf.1 94 (by decide) (by decide)]
    exact a
  · unfold dr_nM
    rw [hf.1 94 (by decide) (by decide)]
    exact b
/-- the model has found a fault -/
def dr_XM (z0 : ds_St) (v a : Nat) (z : ds_St) : Prop := z.1 90 13 = nI 1 ∧ z.1 90 9 = nI v ∧ z.1 90 10 = nI a ∧ (∃ w, w ≤ 6 ∧ z.1 94 6 = nI w) ∧ dr_gM z0 z
theorem dr_XM_zw {z0 z : ds_St} {v a : Nat} {hs : Bool} {Nm : Nat → List Nat} {D : Nat → Nat → Nat} (h : dr_SM z0 hs Nm D z) (hw : D 0 6 ≤ 6) : dr_XM z0 v a (dr_zw z v a) := ⟨dr_zw_13 z v a, dr_zw_9 z v a, dr_zw_10 z v a, ⟨D 0 6, hw, by rw [dr_zw_p z v a (by decide)]; exact h.1.2.2.1.2.2.1⟩, dr_gM_zw h.2.2.1⟩
theorem dr_XM_set {z0 z : ds_St} {v a k : Nat} (r : Int32) (h : dr_XM z0 v a z) (hk : k ≠ 6) : dr_XM z0 v a (ds_setI z 94 k r) := by
  obtain ⟨h1, h2, h3, ⟨w, w1, w2⟩, h5⟩ := h
  rw [ds_setI_row]
  refine ⟨?_, ?_, ?_, ⟨w, w1, ?_⟩, dr_gM_94 _ h5⟩
  · rw [ds_rowI_ne _ _ (by decide)]; exact h1
  · rw [ds_rowI_ne _ _ (by decide)]; exact h2
  · rw [ds_rowI_ne _ _ (by decide)]; exact h3
  · rw [ds_rowI_self, pk_un (by omega)]; exact w2
theorem dr_OM_94 {z : ds_St} {B : Nat → Nat} {n e : Nat} (f : Nat → Int32) (h : dr_OM z B n e) : dr_OM (ds_rowI z 94 f) B n e := by
  obtain ⟨⟨b1, b2, b3, b4, b5⟩, he, t1, t2, t3, t4, t5⟩ := h
  refine ⟨⟨?_, ?_, b3, ?_, b5⟩, he, ?_, ?_, ?_, fun q => ?_, fun q => ?_⟩
  · rw [ds_rowI_ne _ _ (by decide)]; exact b1
  · rw [ds_rowI_ne _ _ (by decide)]; exact b2
  · rw [ds_rowI_ne _ _ (by decide)]; exact b4
  · rw [ds_rowI_ne _ _ (by decide)]; exact t1
  · rw [ds_rowI_ne _ _ (by decide)]; exact t2
  · rw [ds_rowI_ne _ _ (by decide)]; exact t3
  · rw [ds_rowI_ne _ _ (by decide), ds_rowI_ne _ _ (by decide)]; exact t4 q
  · rw [ds_rowI_ne _ _ (by decide)]; exact t5 q
theorem dr_OM_set {z : ds_St} {B : Nat → Nat} {n e : Nat} (k : Nat) (v : Int32) (h : dr_OM z B n e) : dr_OM (ds_setI z 94 k v) B n e := by
  rw [ds_setI_row]
  exact dr_OM_94 _ h
theorem dr_isn_is (B : Nat → Nat) (n e : Nat) : dr_isn B n e = (decide (dr_kd B n e = 1) && !(dr_is B n e 310) && !(dr_is B n e 321) && !(dr_is B n e 322) && !(dr_is B n e 323) && !(dr_is B n e 324)) := by
  unfold dr_isn
  by_cases k1 : dr_kd B n e = 1
  · rw [decide_eq_true k1]
    show (true && (dr_id [ds_sl 310, ds_sl 321, ds_sl 322, ds_sl 323, ds_sl 324] (dr_wl B n e)).isNone) = _
    unfold dr_is
    rw [decide_eq_true k1]
    simp only [dr_id, Bool.true_and]
    have sy : ∀ x, decide (dr_wl B n e = ds_sl x) = decide (ds_sl x = dr_wl B n e) := fun x => decide_eq_decide.mpr ⟨fun h => h.symm, fun h => h.symm⟩
    rw [sy, sy, sy, sy, sy]
    by_cases a1 : ds_sl 310 = dr_wl B n e
    · simp [a1]
    · by_cases a2 : ds_sl 321 = dr_wl B n e
      · simp [a1, a2]
      · by_cases a3 : ds_sl 322 = dr_wl B n e
        · simp [a1, a2, a3]
        · by_cases a4 : ds_sl 323 = dr_wl B n e
          · simp [a1, a2, a3, a4]
          · by_cases a5 : ds_sl 324 = dr_wl B n e
            · simp [a1, a2, a3, a4, a5]
            · simp [a1, a2, a3, a4, a5]
  · rw [decide_eq_false k1]
    simp
theorem s_mustName (d : Nat) (z : ds_St) (B : Nat → Nat) (n e : Nat) (h : dr_OM z B n e) : ds_call (d + 2) j_Mod_mustName [.ref 90] z = some (none, if dr_isn B n e = true then z else dr_zw z 1 (dr_at B n e)) := by
  have iw := fun x a b => s_isWord d x z B n e h a b
  have i0 := iw 310 (by decide) (by decide)
  have i1 := iw 321 (by decide) (by decide)
  have i2 := iw 322 (by decide) (by decide)
  have i3 := iw 323 (by decide) (by decide)
  have i4 := iw 324 (by decide) (by decide)
  have wr := s_wrong d 1 (dr_at B n e) z h.1.1
  have h4 := h.2.2.1
  have h6 := h.2.2.2.2.1
  have ml := dr_mk_lt (dr_kd B n e)
  rw [dr_isn_is, c_Mod_mustName, b_Mod_mustName_0]
  generalize dr_at B n e = a at *
  by_cases k1 : dr_kd B n e = 1
  · rw [dr_mk_2.mpr k1] at h6
    rw [decide_eq_true k1]
    generalize dr_is B n e 310 = c0 at *
    generalize dr_is B n e 321 = c1 at *
    generalize dr_is B n e 322 = c2 at *
    generalize dr_is B n e 323 = c3 at *
    generalize dr_is B n e 324 = c4 at *
    cases c0
    · cases c1
      · cases c2
        · cases c3
          · cases c4
            · simp (disch := first | assumption | omega) only [ds_cI, ds_cV, ds_cL, ds_cR, ds_nn, ds_isK_t, ds_isA_t, ds_chk_t, ds_chkN, ds_nz_t, ds_nzN, ds_isB_t, ds_isB_bo, ↓dl_m1, ↓dl_m2, dl_0, dl_1, dl_2, dl_3, dl_4, dl_5, dl_6, dl_7, dl_8, dl_9, dl_10, dl_11, dl_12, dl_13, dl_14, dl_15, dl_16, dl_20, dl_24, dl_31, dl_50, dl_57, dl_67, dl_68, dl_74, dl_75, dl_79, dl_80, dl_99, dl_100, dl_200, dl_210, dl_224, dl_255, dl_289, dl_900, dl_1000, dl_1728, dl_65536, dl_65537, nI_add, pk_mul, pk_sub, pk_div, pk_rem, ds_rem2, nI_clamp, nI_leI, nI_ltI, nI_eq, ds_m1_eq, ds_eq_m1, ds_m2_eq, ds_eq_m2, ds_m1_le, ds_le_m1, ds_m1_lt, ds_lt_m1, ds_in_N, ds_bo0, ds_bo1, if_pos, if_neg, Nat.not_le, Nat.not_lt, not_true_eq_false, not_false_eq_true, if_true, if_false, ne_eq, Option.some.injEq, Prod.mk.injEq, Value.int.injEq, true_and, and_true, and_self, ite_self, Bool.not_eq_true, Bool.not_eq_false, Bool.true_eq_false, Bool.false_eq_true, reduceCtorEq, Nat.zero_add, Nat.reduceAdd, Nat.reduceMul, Nat.reduceSub, ds_setI_row, ds_setL_row, ds_rowI_self, ds_rowI_ne, ds_rowI_2, ds_rowI_rowI, ds_setS_1, ds_setS_21, ds_setS_self, ds_setS_ne, pk_us, pk_un, h6, i0, i1, i2, i3, i4]
              rfl
            · simp (disch := first | assumption | omega) only [ds_cI, ds_cV, ds_cL, ds_cR, ds_nn, ds_isK_t, ds_isA_t, ds_chk_t, ds_chkN, ds_nz_t, ds_nzN, ds_isB_t, ds_isB_bo, ↓dl_m1, ↓dl_m2, dl_0, dl_1, dl_2, dl_3, dl_4, dl_5, dl_6, dl_7, dl_8, dl_9, dl_10, dl_11, dl_12, dl_13, dl_14, dl_15, dl_16, dl_20, dl_24, dl_31, dl_50, dl_57, dl_67, dl_68, dl_74, dl_75, dl_79, dl_80, dl_99, dl_100, dl_200, dl_210, dl_224, dl_255, dl_289, dl_900, dl_1000, dl_1728, dl_65536, dl_65537, nI_add, pk_mul, pk_sub, pk_div, pk_rem, ds_rem2, nI_clamp, nI_leI, nI_ltI, nI_eq, ds_m1_eq, ds_eq_m1, ds_m2_eq, ds_eq_m2, ds_m1_le, ds_le_m1, ds_m1_lt, ds_lt_m1, ds_in_N, ds_bo0, ds_bo1, if_pos, if_neg, Nat.not_le, Nat.not_lt, not_true_eq_false, not_false_eq_true, if_true, if_false, ne_eq, Option.some.injEq, Prod.mk.injEq, Value.int.injEq, true_and, and_true, and_self, ite_self, Bool.not_eq_true, Bool.not_eq_false, Bool.true_eq_false, Bool.false_eq_true, reduceCtorEq, Nat.zero_add, Nat.reduceAdd, Nat.reduceMul, Nat.reduceSub, ds_setI_row, ds_setL_row, ds_rowI_self, ds_rowI_ne, ds_rowI_2, ds_rowI_rowI, ds_setS_1, ds_setS_21, ds_setS_self, ds_setS_ne, pk_us, pk_un, h6, i0, i1, i2, i3, i4, h4, wr]
              rfl
          · simp (disch := first | assumption | omega) only [ds_cI, ds_cV, ds_cL, ds_cR, ds_nn, ds_isK_t, ds_isA_t, ds_chk_t, ds_chkN, ds_nz_t, ds_nzN, ds_isB_t, ds_isB_bo, ↓dl_m1, ↓dl_m2, dl_0, dl_1, dl_2, dl_3, dl_4, dl_5, dl_6, dl_7, dl_8, dl_9, dl_10, dl_11, dl_12, dl_13, dl_14, dl_15, dl_16, dl_20, dl_24, dl_31, dl_50, dl_57, dl_67, dl_68, dl_74, dl_75, dl_79, dl_80, dl_99, dl_100, dl_200, dl_210, dl_224, dl_255, dl_289, dl_900, dl_1000, dl_1728, dl_65536, dl_65537, nI_add, pk_mul, pk_sub, pk_div, pk_rem, ds_rem2, nI_clamp, nI_leI, nI_ltI, nI_eq, ds_m1_eq, ds_eq_m1, ds_m2_eq, ds_eq_m2, ds_m1_le, ds_le_m1, ds_m1_lt, ds_lt_m1, ds_in_N, ds_bo0, ds_bo1, if_pos, if_neg, Nat.not_le, Nat.not_lt, not_true_eq_false, not_false_eq_true, if_true, if_false, ne_eq, Option.some.injEq, Prod.mk.injEq, Value.int.injEq, true_and, and_true, and_self, ite_self, Bool.not_eq_true, Bool.not_eq_false, Bool.true_eq_false, Bool.false_eq_true, reduceCtorEq, Nat.zero_add, Nat.reduceAdd, Nat.reduceMul, Nat.reduceSub, ds_setI_row, ds_setL_row, ds_rowI_self, ds_rowI_ne, ds_rowI_2, ds_rowI_rowI, ds_setS_1, ds_setS_21, ds_setS_self, ds_setS_ne, pk_us, pk_un, h6, i0, i1, i2, i3, h4, wr]
            rfl
        · simp (disch := first | assumption | omega) only [ds_cI, ds_cV, ds_cL, ds_cR, ds_nn, ds_isK_t, ds_isA_t, ds_chk_t, ds_chkN, ds_nz_t, ds_nzN, ds_isB_t, ds_isB_bo, ↓dl_m1, ↓dl_m2, dl_0, dl_1, dl_2, dl_3, dl_4, dl_5, dl_6, dl_7, dl_8, dl_9, dl_10, dl_11, dl_12, dl_13, dl_14, dl_15, dl_16, dl_20, dl_24, dl_31, dl_50, dl_57, dl_67, dl_68, dl_74, dl_75, dl_79, dl_80, dl_99, dl_100, dl_200, dl_210, dl_224, dl_255, dl_289, dl_900, dl_1000, dl_1728, dl_65536, dl_65537, nI_add, pk_mul, pk_sub, pk_div, pk_rem, ds_rem2, nI_clamp, nI_leI, nI_ltI, nI_eq, ds_m1_eq, ds_eq_m1, ds_m2_eq, ds_eq_m2, ds_m1_le, ds_le_m1, ds_m1_lt, ds_lt_m1, ds_in_N, ds_bo0, ds_bo1, if_pos, if_neg, Nat.not_le, Nat.not_lt, not_true_eq_false, not_false_eq_true, if_true, if_false, ne_eq, Option.some.injEq, Prod.mk.injEq, Value.int.injEq, true_and, and_true, and_self, ite_self, Bool.not_eq_true, Bool.not_eq_false, Bool.true_eq_false, Bool.false_eq_true, reduceCtorEq, Nat.zero_add, Nat.reduceAdd, Nat.reduceMul, Nat.reduceSub, ds_setI_row, ds_setL_row, ds_rowI_self, ds_rowI_ne, ds_rowI_2, ds_rowI_rowI, ds_setS_1, ds_setS_21, ds_setS_self, ds_setS_ne, pk_us, pk_un, h6, i0, i1, i2, h4, wr]
          rfl
      · simp (disch := first | assumption | omega) only [ds_cI, ds_cV, ds_cL, ds_cR, ds_nn, ds_isK_t, ds_isA_t, ds_chk_t, ds_chkN, ds_nz_t, ds_nzN, ds_isB_t, ds_isB_bo, ↓dl_m1, ↓dl_m2, dl_0, dl_1, dl_2, dl_3, dl_4, dl_5, dl_6, dl_7, dl_8, dl_9, dl_10, dl_11, dl_12, dl_13, dl_14, dl_15, dl_16, dl_20, dl_24, dl_31, dl_50, dl_57, dl_67, dl_68, dl_74, dl_75, dl_79, dl_80, dl_99, dl_100, dl_200, dl_210, dl_224, dl_255, dl_289, dl_900, dl_1000, dl_1728, dl_65536, dl_65537, nI_add, pk_mul, pk_sub, pk_div, pk_rem, ds_rem2, nI_clamp, nI_leI, nI_ltI, nI_eq, ds_m1_eq, ds_eq_m1, ds_m2_eq, ds_eq_m2, ds_m1_le, ds_le_m1, ds_m1_lt, ds_lt_m1, ds_in_N, ds_bo0, ds_bo1, if_pos, if_neg, Nat.not_le, Nat.not_lt, not_true_eq_false, not_false_eq_true, if_true, if_false, ne_eq, Option.some.injEq, Prod.mk.injEq, Value.int.injEq, true_and, and_true, and_self, ite_self, Bool.not_eq_true, Bool.not_eq_false, Bool.true_eq_false, Bool.false_eq_true, reduceCtorEq, Nat.zero_add, Nat.reduceAdd, Nat.reduceMul, Nat.reduceSub, ds_setI_row, ds_setL_row, ds_rowI_self, ds_rowI_ne, ds_rowI_2, ds_rowI_rowI, ds_setS_1, ds_setS_21, ds_setS_self, ds_setS_ne, pk_us, pk_un, h6, i0, i1, h4, wr]
        rfl
    · simp (disch := first | assumption | omega) only [ds_cI, ds_cV, ds_cL, ds_cR, ds_nn, ds_isK_t, ds_isA_t, ds_chk_t, ds_chkN, ds_nz_t, ds_nzN, ds_isB_t, ds_isB_bo, ↓dl_m1, ↓dl_m2, dl_0, dl_1, dl_2, dl_3, dl_4, dl_5, dl_6, dl_7, dl_8, dl_9, dl_10, dl_11, dl_12, dl_13, dl_14, dl_15, dl_16, dl_20, dl_24, dl_31, dl_50, dl_57, dl_67, dl_68, dl_74, dl_75, dl_79, dl_80, dl_99, dl_100, dl_200, dl_210, dl_224, dl_255, dl_289, dl_900, dl_1000, dl_1728, dl_65536, dl_65537, nI_add, pk_mul, pk_sub, pk_div, pk_rem, ds_rem2, nI_clamp, nI_leI, nI_ltI, nI_eq, ds_m1_eq, ds_eq_m1, ds_m2_eq, ds_eq_m2, ds_m1_le, ds_le_m1, ds_m1_lt, ds_lt_m1, ds_in_N, ds_bo0, ds_bo1, if_pos, if_neg, Nat.not_le, Nat.not_lt, not_true_eq_false, not_false_eq_true, if_true, if_false, ne_eq, Option.some.injEq, Prod.mk.injEq, Value.int.injEq, true_and, and_true, and_self, ite_self, Bool.not_eq_true, Bool.not_eq_false, Bool.true_eq_false, Bool.false_eq_true, reduceCtorEq, Nat.zero_add, Nat.reduceAdd, Nat.reduceMul, Nat.reduceSub, ds_setI_row, ds_setL_row, ds_rowI_self, ds_rowI_ne, ds_rowI_2, ds_rowI_rowI, ds_setS_1, ds_setS_21, ds_setS_self, ds_setS_ne, pk_us, pk_un, h6, i0, h4, wr]
      rfl
  · have nk : ¬ dr_mk (dr_kd B n e) = 2 := fun q => k1 (dr_mk_2.mp q)
    rw [decide_eq_false k1]
    generalize dr_mk (dr_kd B n e) = kk at *
    simp (disch := first | assumption | omega) only [ds_cI, ds_cV, ds_cL, ds_cR, ds_nn, ds_isK_t, ds_isA_t, ds_chk_t, ds_chkN, ds_nz_t, ds_nzN, ds_isB_t, ds_isB_bo, ↓dl_m1, ↓dl_m2, dl_0, dl_1, dl_2, dl_3, dl_4, dl_5, dl_6, dl_7, dl_8, dl_9, dl_10, dl_11, dl_12, dl_13, dl_14, dl_15, dl_16, dl_20, dl_24, dl_31, dl_50, dl_57, dl_67, dl_68, dl_74, dl_75, dl_79, dl_80, dl_99, dl_100, dl_200, dl_210, dl_224, dl_255, dl_289, dl_900, dl_1000, dl_1728, dl_65536, dl_65537, nI_add, pk_mul, pk_sub, pk_div, pk_rem, ds_rem2, nI_clamp, nI_leI, nI_ltI, nI_eq, ds_m1_eq, ds_eq_m1, ds_m2_eq, ds_eq_m2, ds_m1_le, ds_le_m1, ds_m1_lt, ds_lt_m1, ds_in_N, ds_bo0, ds_bo1, if_pos, if_neg, Nat.not_le, Nat.not_lt, not_true_eq_false, not_false_eq_true, if_true, if_false, ne_eq, Option.some.injEq, Prod.mk.injEq, Value.int.injEq, true_and, and_true, and_self, ite_self, Bool.not_eq_true, Bool.not_eq_false, Bool.true_eq_false, Bool.false_eq_true, reduceCtorEq, Nat.zero_add, Nat.reduceAdd, Nat.reduceMul, Nat.reduceSub, ds_setI_row, ds_setL_row, ds_rowI_self, ds_rowI_ne, ds_rowI_2, ds_rowI_rowI, ds_setS_1, ds_setS_21, ds_setS_self, ds_setS_ne, pk_us, pk_un, h6, nk, h4, wr]
    rfl
theorem s_find (d : Nat) (z z0 : ds_St) (B : Nat → Nat) (n e : Nat) (D : Nat → Nat → Nat) (Nm : Nat → List Nat) (h : dr_OM z B n e) (hM : dr_nM z Nm) (hn : dr_nok D Nm) (k1 : dr_kd B n e = 1) : ds_call (d + 1) j_Mod_find [.ref 90] z = some (some (.int (if dr_has Nm (dr_wl B n e) = true then nI (dr_slot Nm (dr_wl B n e)) else ds_m1)), z) := by
  have wd := dr_wl_ok h.2.1 k1
  obtain ⟨t8, tl⟩ := h.2.2.2.2.2.1 k1
  have wl8 := wd.2.1
  have w1 : 0 < (dr_wl B n e).length := List.length_pos_iff.mpr wd.1
  have wc : ∀ c, c ∈ dr_wl B n e → c < 256 := fun c hc => by have := wd.2.2 c hc; omega
  have nmok : ∀ s, (Nm s).length ≤ 8 ∧ ∀ c, c ∈ Nm s → c < 256 := fun s => by
    cases q : dr_used D s
    · rw [hn.2.2.2.1 s q]
      exact ⟨by decide, fun c hc => absurd hc (by simp)⟩
    · have := hn.2.2.1 s q
      exact ⟨this.2.1, fun c hc => by have := this.2.2 c hc; omega⟩
  generalize dr_wl B n e = l at *
  have one : ∀ s, s < 22 → ∀ (R : Option ds_Out), (if Nm s = l then R = some (some (.int (nI s)), z) else R = ds_Rw ds_c_Mod_find ds_u_Mod_find (ds_call d) 2 [some (.ref 90), some (.int (nI ((s + 1)))), none, none] [] z) → ds_Rw ds_c_Mod_find ds_u_Mod_find (ds_call d) 2 [some (.ref 90), some (.int (nI s)), none, none] [] z = R := by
    intro s hs R hR
    obtain ⟨m1, m2⟩ := hM s hs
    obtain ⟨n8, nc⟩ := nmok s
    have out : ds_Rw ds_c_Mod_find ds_u_Mod_find (ds_call d) 44 [some (.ref 90), some (.int (nI s)), some (.int (nI 0)), some (.int (nI 0))] [] z = ds_Rw ds_c_Mod_find ds_u_Mod_find (ds_call d) 2 [some (.ref 90), some (.int (nI ((s + 1)))), none, none] [] z := by
      rw [b_Mod_find_44, t8]
      by_cases q : l.length ≤ 0
      · simp (disch := first | assumption | omega) only [ds_cI, ds_cV, ds_cL, ds_cR, ds_nn, ds_isK_t, ds_isA_t, ds_chk_t, ds_chkN, ds_nz_t, ds_nzN, ds_isB_t, ds_isB_bo, ↓dl_m1, ↓dl_m2, dl_0, dl_1, dl_2, dl_3, dl_4, dl_5, dl_6, dl_7, dl_8, dl_9, dl_10, dl_11, dl_12, dl_13, dl_14, dl_15, dl_16, dl_20, dl_24, dl_31, dl_50, dl_57, dl_67, dl_68, dl_74, dl_75, dl_79, dl_80, dl_99, dl_100, dl_200, dl_210, dl_224, dl_255, dl_289, dl_900, dl_1000, dl_1728, dl_65536, dl_65537, nI_add, pk_mul, pk_sub, pk_div, pk_rem, ds_rem2, nI_clamp, nI_leI, nI_ltI, nI_eq, ds_m1_eq, ds_eq_m1, ds_m2_eq, ds_eq_m2, ds_m1_le, ds_le_m1, ds_m1_lt, ds_lt_m1, ds_in_N, ds_bo0, ds_bo1, if_pos, if_neg, Nat.not_le, Nat.not_lt, not_true_eq_false, not_false_eq_true, if_true, if_false, ne_eq, Option.some.injEq, Prod.mk.injEq, Value.int.injEq, true_and, and_true, and_self, ite_self, Bool.not_eq_true, Bool.not_eq_false, Bool.true_eq_false, Bool.false_eq_true, reduceCtorEq, Nat.zero_add, Nat.reduceAdd, Nat.reduceMul, Nat.reduceSub, ds_setI_row, ds_setL_row, ds_rowI_self, ds_rowI_ne, ds_rowI_2, ds_rowI_rowI, ds_setS_1, ds_setS_21, ds_setS_self, ds_setS_ne, pk_us, pk_un, q]
      · simp (disch := first | assumption | omega) only [ds_cI, ds_cV, ds_cL, ds_cR, ds_nn, ds_isK_t, ds_isA_t, ds_chk_t, ds_chkN, ds_nz_t, ds_nzN, ds_isB_t, ds_isB_bo, ↓dl_m1, ↓dl_m2, dl_0, dl_1, dl_2, dl_3, dl_4, dl_5, dl_6, dl_7, dl_8, dl_9, dl_10, dl_11, dl_12, dl_13, dl_14, dl_15, dl_16, dl_20, dl_24, dl_31, dl_50, dl_57, dl_67, dl_68, dl_74, dl_75, dl_79, dl_80, dl_99, dl_100, dl_200, dl_210, dl_224, dl_255, dl_289, dl_900, dl_1000, dl_1728, dl_65536, dl_65537, nI_add, pk_mul, pk_sub, pk_div, pk_rem, ds_rem2, nI_clamp, nI_leI, nI_ltI, nI_eq, ds_m1_eq, ds_eq_m1, ds_m2_eq, ds_eq_m2, ds_m1_le, ds_le_m1, ds_m1_lt, ds_lt_m1, ds_in_N, ds_bo0, ds_bo1, if_pos, if_neg, Nat.not_le, Nat.not_lt, not_true_eq_false, not_false_eq_true, if_true, if_false, ne_eq, Option.some.injEq, Prod.mk.injEq, Value.int.injEq, true_and, and_true, and_self, ite_self, Bool.not_eq_true, Bool.not_eq_false, Bool.true_eq_false, Bool.false_eq_true, reduceCtorEq, Nat.zero_add, Nat.reduceAdd, Nat.reduceMul, Nat.reduceSub, ds_setI_row, ds_setL_row, ds_rowI_self, ds_rowI_ne, ds_rowI_2, ds_rowI_rowI, ds_setS_1, ds_setS_21, ds_setS_self, ds_setS_ne, pk_us, pk_un, q]
    have goE : ∀ m k, k + m = l.length → Nm s = l → ds_Rw ds_c_Mod_find ds_u_Mod_find (ds_call d) 44 [some (.ref 90), some (.int (nI s)), some (.int (nI 1)), some (.int (nI k))] [] z = some (some (.int (nI s)), z) := by
      intro m
      induction m with
      | zero =>
        intro k hk e
        rw [b_Mod_find_44, t8]
        simp (disch := first | assumption | omega) only [ds_cI, ds_cV, ds_cL, ds_cR, ds_nn, ds_isK_t, ds_isA_t, ds_chk_t, ds_chkN, ds_nz_t, ds_nzN, ds_isB_t, ds_isB_bo, ↓dl_m1, ↓dl_m2, dl_0, dl_1, dl_2, dl_3, dl_4, dl_5, dl_6, dl_7, dl_8, dl_9, dl_10, dl_11, dl_12, dl_13, dl_14, dl_15, dl_16, dl_20, dl_24, dl_31, dl_50, dl_57, dl_67, dl_68, dl_74, dl_75, dl_79, dl_80, dl_99, dl_100, dl_200, dl_210, dl_224, dl_255, dl_289, dl_900, dl_1000, dl_1728, dl_65536, dl_65537, nI_add, pk_mul, pk_sub, pk_div, pk_rem, ds_rem2, nI_clamp, nI_leI, nI_ltI, nI_eq, ds_m1_eq, ds_eq_m1, ds_m2_eq, ds_eq_m2, ds_m1_le, ds_le_m1, ds_m1_lt, ds_lt_m1, ds_in_N, ds_bo0, ds_bo1, if_pos, if_neg, Nat.not_le, Nat.not_lt, not_true_eq_false, not_false_eq_true, if_true, if_false, ne_eq, Option.some.injEq, Prod.mk.injEq, Value.int.injEq, true_and, and_true, and_self, ite_self, Bool.not_eq_true, Bool.not_eq_false, Bool.true_eq_false, Bool.false_eq_true, reduceCtorEq, Nat.zero_add, Nat.reduceAdd, Nat.reduceMul, Nat.reduceSub, ds_setI_row, ds_setL_row, ds_rowI_self, ds_rowI_ne, ds_rowI_2, ds_rowI_rowI, ds_setS_1, ds_setS_21, ds_setS_self, ds_setS_ne, pk_us, pk_un]
      | succ m ih =>
        intro k hk e
        have a := m2 k (by rw [e]; omega)
        have b := tl k (by omega)
        rw [e] at a
        have ih' := ih (k + 1) (by omega) e
        have g := dr_getD_lt wc (by decide) k
        generalize l.getD k 0 = x at *
        rw [b_Mod_find_44, t8]
        simp (disch := first | assumption | omega) only [ds_cI, ds_cV, ds_cL, ds_cR, ds_nn, ds_isK_t, ds_isA_t, ds_chk_t, ds_chkN, ds_nz_t, ds_nzN, ds_isB_t, ds_isB_bo, ↓dl_m1, ↓dl_m2, dl_0, dl_1, dl_2, dl_3, dl_4, dl_5, dl_6, dl_7, dl_8, dl_9, dl_10, dl_11, dl_12, dl_13, dl_14, dl_15, dl_16, dl_20, dl_24, dl_31, dl_50, dl_57, dl_67, dl_68, dl_74, dl_75, dl_79, dl_80, dl_99, dl_100, dl_200, dl_210, dl_224, dl_255, dl_289, dl_900, dl_1000, dl_1728, dl_65536, dl_65537, nI_add, pk_mul, pk_sub, pk_div, pk_rem, ds_rem2, nI_clamp, nI_leI, nI_ltI, nI_eq, ds_m1_eq, ds_eq_m1, ds_m2_eq, ds_eq_m2, ds_m1_le, ds_le_m1, ds_m1_lt, ds_lt_m1, ds_in_N, ds_bo0, ds_bo1, if_pos, if_neg, Nat.not_le, Nat.not_lt, not_true_eq_false, not_false_eq_true, if_true, if_false, ne_eq, Option.some.injEq, Prod.mk.injEq, Value.int.injEq, true_and, and_true, and_self, ite_self, Bool.not_eq_true, Bool.not_eq_false, Bool.true_eq_false, Bool.false_eq_true, reduceCtorEq, Nat.zero_add, Nat.reduceAdd, Nat.reduceMul, Nat.reduceSub, ds_setI_row, ds_setL_row, ds_rowI_self, ds_rowI_ne, ds_rowI_2, ds_rowI_rowI, ds_setS_1, ds_setS_21, ds_setS_self, ds_setS_ne, pk_us, pk_un, dl_113, a, b, ih']
    have goN : ∀ m k, k + m = l.length → (Nm s).length = l.length → (∃ j, k ≤ j ∧ j < l.length ∧ (Nm s).getD j 0 ≠ l.getD j 0) → ds_Rw ds_c_Mod_find ds_u_Mod_find (ds_call d) 44 [some (.ref 90), some (.int (nI s)), some (.int (nI 1)), some (.int (nI k))] [] z = ds_Rw ds_c_Mod_find ds_u_Mod_find (ds_call d) 2 [some (.ref 90), some (.int (nI ((s + 1)))), none, none] [] z := by
      intro m
      induction m with
      | zero =>
        intro k hk e hj
        obtain ⟨j, j1, j2, _⟩ := hj
        omega
      | succ m ih =>
        intro k hk e hj
        have a := m2 k (by rw [e]; omega)
        have b := tl k (by omega)
        have g := dr_getD_lt wc (by decide) k
        have g2 := dr_getD_lt nc (by decide) k
        by_cases q : (Nm s).getD k 0 = l.getD k 0
        · have ih' := ih (k + 1) (by omega) e (by
            obtain ⟨j, j1, j2, j3⟩ := hj
            refine ⟨j, ?_, j2, j3⟩
            rcases Nat.lt_or_ge k j with x | x
            · exact x
            · have : j = k := by omega
              rw [this] at j3
              exact absurd q j3)
          rw [q] at a
          generalize l.getD k 0 = x at *
          rw [b_Mod_find_44, t8]
          simp (disch := first | assumption | omega) only [ds_cI, ds_cV, ds_cL, ds_cR, ds_nn, ds_isK_t, ds_isA_t, ds_chk_t, ds_chkN, ds_nz_t, ds_nzN, ds_isB_t, ds_isB_bo, ↓dl_m1, ↓dl_m2, dl_0, dl_1, dl_2, dl_3, dl_4, dl_5, dl_6, dl_7, dl_8, dl_9, dl_10, dl_11, dl_12, dl_13, dl_14, dl_15, dl_16, dl_20, dl_24, dl_31, dl_50, dl_57, dl_67, dl_68, dl_74, dl_75, dl_79, dl_80, dl_99, dl_100, dl_200, dl_210, dl_224, dl_255, dl_289, dl_900, dl_1000, dl_1728, dl_65536, dl_65537, nI_add, pk_mul, pk_sub, pk_div, pk_rem, ds_rem2, nI_clamp, nI_leI, nI_ltI, nI_eq, ds_m1_eq, ds_eq_m1, ds_m2_eq, ds_eq_m2, ds_m1_le, ds_le_m1, ds_m1_lt, ds_lt_m1, ds_in_N, ds_bo0, ds_bo1, if_pos, if_neg, Nat.not_le, Nat.not_lt, not_true_eq_false, not_false_eq_true, if_true, if_false, ne_eq, Option.some.injEq, Prod.mk.injEq, Value.int.injEq, true_and, and_true, and_self, ite_self, Bool.not_eq_true, Bool.not_eq_false, Bool.true_eq_false, Bool.false_eq_true, reduceCtorEq, Nat.zero_add, Nat.reduceAdd, Nat.reduceMul, Nat.reduceSub, ds_setI_row, ds_setL_row, ds_rowI_self, ds_rowI_ne, ds_rowI_2, ds_rowI_rowI, ds_setS_1, ds_setS_21, ds_setS_self, ds_setS_ne, pk_us, pk_un, dl_113, a, b, ih']
        · have out2 : ds_Rw ds_c_Mod_find ds_u_Mod_find (ds_call d) 44 [some (.ref 90), some (.int (nI s)), some (.int (nI 0)), some (.int (nI ((k + 1))))] [] z = ds_Rw ds_c_Mod_find ds_u_Mod_find (ds_call d) 2 [some (.ref 90), some (.int (nI ((s + 1)))), none, none] [] z := by
            rw [b_Mod_find_44, t8]
            by_cases q : l.length ≤ k + 1
            · simp (disch := first | assumption | omega) only [ds_cI, ds_cV, ds_cL, ds_cR, ds_nn, ds_isK_t, ds_isA_t, ds_chk_t, ds_chkN, ds_nz_t, ds_nzN, ds_isB_t, ds_isB_bo, ↓dl_m1, ↓dl_m2, dl_0, dl_1, dl_2, dl_3, dl_4, dl_5, dl_6, dl_7, dl_8, dl_9, dl_10, dl_11, dl_12, dl_13, dl_14, dl_15, dl_16, dl_20, dl_24, dl_31, dl_50, dl_57, dl_67, dl_68, dl_74, dl_75, dl_79, dl_80, dl_99, dl_100, dl_200, dl_210, dl_224, dl_255, dl_289, dl_900, dl_1000, dl_1728, dl_65536, dl_65537, nI_add, pk_mul, pk_sub, pk_div, pk_rem, ds_rem2, nI_clamp, nI_leI, nI_ltI, nI_eq, ds_m1_eq, ds_eq_m1, ds_m2_eq, ds_eq_m2, ds_m1_le, ds_le_m1, ds_m1_lt, ds_lt_m1, ds_in_N, ds_bo0, ds_bo1, if_pos, if_neg, Nat.not_le, Nat.not_lt, not_true_eq_false, not_false_eq_true, if_true, if_false, ne_eq, Option.some.injEq, Prod.mk.injEq, Value.int.injEq, true_and, and_true, and_self, ite_self, Bool.not_eq_true, Bool.not_eq_false, Bool.true_eq_false, Bool.false_eq_true, reduceCtorEq, Nat.zero_add, Nat.reduceAdd, Nat.reduceMul, Nat.reduceSub, ds_setI_row, ds_setL_row, ds_rowI_self, ds_rowI_ne, ds_rowI_2, ds_rowI_rowI, ds_setS_1, ds_setS_21, ds_setS_self, ds_setS_ne, pk_us, pk_un, q]
            · simp (disch := first | assumption | omega) only [ds_cI, ds_cV, ds_cL, ds_cR, ds_nn, ds_isK_t, ds_isA_t, ds_chk_t, ds_chkN, ds_nz_t, ds_nzN, ds_isB_t, ds_isB_bo, ↓dl_m1, ↓dl_m2, dl_0, dl_1, dl_2, dl_3, dl_4, dl_5, dl_6, dl_7, dl_8, dl_9, dl_10, dl_11, dl_12, dl_13, dl_14, dl_15, dl_16, dl_20, dl_24, dl_31, dl_50, dl_57, dl_67, dl_68, dl_74, dl_75, dl_79, dl_80, dl_99, dl_100, dl_200, dl_210, dl_224, dl_255, dl_289, dl_900, dl_1000, dl_1728, dl_65536, dl_65537, nI_add, pk_mul, pk_sub, pk_div, pk_rem, ds_rem2, nI_clamp, nI_leI, nI_ltI, nI_eq, ds_m1_eq, ds_eq_m1, ds_m2_eq, ds_eq_m2, ds_m1_le, ds_le_m1, ds_m1_lt, ds_lt_m1, ds_in_N, ds_bo0, ds_bo1, if_pos, if_neg, Nat.not_le, Nat.not_lt, not_true_eq_false, not_false_eq_true, if_true, if_false, ne_eq, Option.some.injEq, Prod.mk.injEq, Value.int.injEq, true_and, and_true, and_self, ite_self, Bool.not_eq_true, Bool.not_eq_false, Bool.true_eq_false, Bool.false_eq_true, reduceCtorEq, Nat.zero_add, Nat.reduceAdd, Nat.reduceMul, Nat.reduceSub, ds_setI_row, ds_setL_row, ds_rowI_self, ds_rowI_ne, ds_rowI_2, ds_rowI_rowI, ds_setS_1, ds_setS_21, ds_setS_self, ds_setS_ne, pk_us, pk_un, q]
          generalize l.getD k 0 = x at *
          generalize (Nm s).getD k 0 = y at *
          rw [b_Mod_find_44, t8]
          simp (disch := first | assumption | omega) only [ds_cI, ds_cV, ds_cL, ds_cR, ds_nn, ds_isK_t, ds_isA_t, ds_chk_t, ds_chkN, ds_nz_t, ds_nzN, ds_isB_t, ds_isB_bo, ↓dl_m1, ↓dl_m2, dl_0, dl_1, dl_2, dl_3, dl_4, dl_5, dl_6, dl_7, dl_8, dl_9, dl_10, dl_11, dl_12, dl_13, dl_14, dl_15, dl_16, dl_20, dl_24, dl_31, dl_50, dl_57, dl_67, dl_68, dl_74, dl_75, dl_79, dl_80, dl_99, dl_100, dl_200, dl_210, dl_224, dl_255, dl_289, dl_900, dl_1000, dl_1728, dl_65536, dl_65537, nI_add, pk_mul, pk_sub, pk_div, pk_rem, ds_rem2, nI_clamp, nI_leI, nI_ltI, nI_eq, ds_m1_eq, ds_eq_m1, ds_m2_eq, ds_eq_m2, ds_m1_le, ds_le_m1, ds_m1_lt, ds_lt_m1, ds_in_N, ds_bo0, ds_bo1, if_pos, if_neg, Nat.not_le, Nat.not_lt, not_true_eq_false, not_false_eq_true, if_true, if_false, ne_eq, Option.some.injEq, Prod.mk.injEq, Value.int.injEq, true_and, and_true, and_self, ite_self, Bool.not_eq_true, Bool.not_eq_false, Bool.true_eq_false, Bool.false_eq_true, reduceCtorEq, Nat.zero_add, Nat.reduceAdd, Nat.reduceMul, Nat.reduceSub, ds_setI_row, ds_setL_row, ds_rowI_self, ds_rowI_ne, ds_rowI_2, ds_rowI_rowI, ds_setS_1, ds_setS_21, ds_setS_self, ds_setS_ne, pk_us, pk_un, dl_113, a, b, q, out2]
    by_cases q : Nm s = l
    · rw [if_pos q] at hR
      have g := goE l.length 0 (by omega) q
      rw [q] at m1
      rw [hR, b_Mod_find_2]
      simp (disch := first | assumption | omega) only [ds_cI, ds_cV, ds_cL, ds_cR, ds_nn, ds_isK_t, ds_isA_t, ds_chk_t, ds_chkN, ds_nz_t, ds_nzN, ds_isB_t, ds_isB_bo, ↓dl_m1, ↓dl_m2, dl_0, dl_1, dl_2, dl_3, dl_4, dl_5, dl_6, dl_7, dl_8, dl_9, dl_10, dl_11, dl_12, dl_13, dl_14, dl_15, dl_16, dl_20, dl_24, dl_31, dl_50, dl_57, dl_67, dl_68, dl_74, dl_75, dl_79, dl_80, dl_99, dl_100, dl_200, dl_210, dl_224, dl_255, dl_289, dl_900, dl_1000, dl_1728, dl_65536, dl_65537, nI_add, pk_mul, pk_sub, pk_div, pk_rem, ds_rem2, nI_clamp, nI_leI, nI_ltI, nI_eq, ds_m1_eq, ds_eq_m1, ds_m2_eq, ds_eq_m2, ds_m1_le, ds_le_m1, ds_m1_lt, ds_lt_m1, ds_in_N, ds_bo0, ds_bo1, if_pos, if_neg, Nat.not_le, Nat.not_lt, not_true_eq_false, not_false_eq_true, if_true, if_false, ne_eq, Option.some.injEq, Prod.mk.injEq, Value.int.injEq, true_and, and_true, and_self, ite_self, Bool.not_eq_true, Bool.not_eq_false, Bool.true_eq_false, Bool.false_eq_true, reduceCtorEq, Nat.zero_add, Nat.reduceAdd, Nat.reduceMul, Nat.reduceSub, ds_setI_row, ds_setL_row, ds_rowI_self, ds_rowI_ne, ds_rowI_2, ds_rowI_rowI, ds_setS_1, ds_setS_21, ds_setS_self, ds_setS_ne, pk_us, pk_un, dl_22, dl_91, m1, t8, g]
    · rw [if_neg q] at hR
      rw [hR, b_Mod_find_2]
      by_cases q1 : (Nm s).length = l.length
      · have df : ∃ j, 0 ≤ j ∧ j < l.length ∧ (Nm s).getD j 0 ≠ l.getD j 0 := by
          rcases Classical.em (∃ j, 0 ≤ j ∧ j < l.length ∧ (Nm s).getD j 0 ≠ l.getD j 0) with x | x
          · exact x
          · exfalso
            apply q
            rw [← dr_getD_eq q1]
            intro k hk
            rcases Classical.em ((Nm s).getD k 0 = l.getD k 0) with y | y
            · exact y
            · exact absurd ⟨k, Nat.zero_le _, by omega, y⟩ x
        have g := goN l.length 0 (by omega) q1 df
        rw [q1] at m1
        simp (disch := first | assumption | omega) only [ds_cI, ds_cV, ds_cL, ds_cR, ds_nn, ds_isK_t, ds_isA_t, ds_chk_t, ds_chkN, ds_nz_t, ds_nzN, ds_isB_t, ds_isB_bo, ↓dl_m1, ↓dl_m2, dl_0, dl_1, dl_2, dl_3, dl_4, dl_5, dl_6, dl_7, dl_8, dl_9, dl_10, dl_11, dl_12, dl_13, dl_14, dl_15, dl_16, dl_20, dl_24, dl_31, dl_50, dl_57, dl_67, dl_68, dl_74, dl_75, dl_79, dl_80, dl_99, dl_100, dl_200, dl_210, dl_224, dl_255, dl_289, dl_900, dl_1000, dl_1728, dl_65536, dl_65537, nI_add, pk_mul, pk_sub, pk_div, pk_rem, ds_rem2, nI_clamp, nI_leI, nI_ltI, nI_eq, ds_m1_eq, ds_eq_m1, ds_m2_eq, ds_eq_m2, ds_m1_le, ds_le_m1, ds_m1_lt, ds_lt_m1, ds_in_N, ds_bo0, ds_bo1, if_pos, if_neg, Nat.not_le, Nat.not_lt, not_true_eq_false, not_false_eq_true, if_true, if_false, ne_eq, Option.some.injEq, Prod.mk.injEq, Value.int.injEq, true_and, and_true, and_self, ite_self, Bool.not_eq_true, Bool.not_eq_false, Bool.true_eq_false, Bool.false_eq_true, reduceCtorEq, Nat.zero_add, Nat.reduceAdd, Nat.reduceMul, Nat.reduceSub, ds_setI_row, ds_setL_row, ds_rowI_self, ds_rowI_ne, ds_rowI_2, ds_rowI_rowI, ds_setS_1, ds_setS_21, ds_setS_self, ds_setS_ne, pk_us, pk_un, dl_22, dl_91, m1, t8, g]
      · generalize (Nm s).length = L at *
        by_cases q2 : L ≤ 0
        · simp (disch := first | assumption | omega) only [ds_cI, ds_cV, ds_cL, ds_cR, ds_nn, ds_isK_t, ds_isA_t, ds_chk_t, ds_chkN, ds_nz_t, ds_nzN, ds_isB_t, ds_isB_bo, ↓dl_m1, ↓dl_m2, dl_0, dl_1, dl_2, dl_3, dl_4, dl_5, dl_6, dl_7, dl_8, dl_9, dl_10, dl_11, dl_12, dl_13, dl_14, dl_15, dl_16, dl_20, dl_24, dl_31, dl_50, dl_57, dl_67, dl_68, dl_74, dl_75, dl_79, dl_80, dl_99, dl_100, dl_200, dl_210, dl_224, dl_255, dl_289, dl_900, dl_1000, dl_1728, dl_65536, dl_65537, nI_add, pk_mul, pk_sub, pk_div, pk_rem, ds_rem2, nI_clamp, nI_leI, nI_ltI, nI_eq, ds_m1_eq, ds_eq_m1, ds_m2_eq, ds_eq_m2, ds_m1_le, ds_le_m1, ds_m1_lt, ds_lt_m1, ds_in_N, ds_bo0, ds_bo1, if_pos, if_neg, Nat.not_le, Nat.not_lt, not_true_eq_false, not_false_eq_true, if_true, if_false, ne_eq, Option.some.injEq, Prod.mk.injEq, Value.int.injEq, true_and, and_true, and_self, ite_self, Bool.not_eq_true, Bool.not_eq_false, Bool.true_eq_false, Bool.false_eq_true, reduceCtorEq, Nat.zero_add, Nat.reduceAdd, Nat.reduceMul, Nat.reduceSub, ds_setI_row, ds_setL_row, ds_rowI_self, ds_rowI_ne, ds_rowI_2, ds_rowI_rowI, ds_setS_1, ds_setS_21, ds_setS_self, ds_setS_ne, pk_us, pk_un, dl_22, dl_91, m1, q2, out]
        · simp (disch := first | assumption | omega) only [ds_cI, ds_cV, ds_cL, ds_cR, ds_nn, ds_isK_t, ds_isA_t, ds_chk_t, ds_chkN, ds_nz_t, ds_nzN, ds_isB_t, ds_isB_bo, ↓dl_m1, ↓dl_m2, dl_0, dl_1, dl_2, dl_3, dl_4, dl_5, dl_6, dl_7, dl_8, dl_9, dl_10, dl_11, dl_12, dl_13, dl_14, dl_15, dl_16, dl_20, dl_24, dl_31, dl_50, dl_57, dl_67, dl_68, dl_74, dl_75, dl_79, dl_80, dl_99, dl_100, dl_200, dl_210, dl_224, dl_255, dl_289, dl_900, dl_1000, dl_1728, dl_65536, dl_65537, nI_add, pk_mul, pk_sub, pk_div, pk_rem, ds_rem2, nI_clamp, nI_leI, nI_ltI, nI_eq, ds_m1_eq, ds_eq_m1, ds_m2_eq, ds_eq_m2, ds_m1_le, ds_le_m1, ds_m1_lt, ds_lt_m1, ds_in_N, ds_bo0, ds_bo1, if_pos, if_neg, Nat.not_le, Nat.not_lt, not_true_eq_false, not_false_eq_true, if_true, if_false, ne_eq, Option.some.injEq, Prod.mk.injEq, Value.int.injEq, true_and, and_true, and_self, ite_self, Bool.not_eq_true, Bool.not_eq_false, Bool.true_eq_false, Bool.false_eq_true, reduceCtorEq, Nat.zero_add, Nat.reduceAdd, Nat.reduceMul, Nat.reduceSub, ds_setI_row, ds_setL_row, ds_rowI_self, ds_rowI_ne, ds_rowI_2, ds_rowI_rowI, ds_setS_1, ds_setS_21, ds_setS_self, ds_setS_ne, pk_us, pk_un, dl_22, dl_91, m1, q2, t8, q1, out]
  have go : ∀ m s, s + m = 22 → (∀ j, j < s → Nm j ≠ l) → ds_Rw ds_c_Mod_find ds_u_Mod_find (ds_call d) 2 [some (.ref 90), some (.int (nI s)), none, none] [] z = some (some (.int (if dr_has Nm l = true then nI (dr_slot Nm l) else ds_m1)), z) := by
    intro m
    induction m with
    | zero =>
      intro s hs hno
      have hf : dr_has Nm l = false := (dk_any_f _ _).mpr (fun p hp => by simpa using hno p (by omega))
      rw [hf, b_Mod_find_2]
      simp (disch := first | assumption | omega) only [ds_cI, ds_cV, ds_cL, ds_cR, ds_nn, ds_isK_t, ds_isA_t, ds_chk_t, ds_chkN, ds_nz_t, ds_nzN, ds_isB_t, ds_isB_bo, ↓dl_m1, ↓dl_m2, dl_0, dl_1, dl_2, dl_3, dl_4, dl_5, dl_6, dl_7, dl_8, dl_9, dl_10, dl_11, dl_12, dl_13, dl_14, dl_15, dl_16, dl_20, dl_24, dl_31, dl_50, dl_57, dl_67, dl_68, dl_74, dl_75, dl_79, dl_80, dl_99, dl_100, dl_200, dl_210, dl_224, dl_255, dl_289, dl_900, dl_1000, dl_1728, dl_65536, dl_65537, nI_add, pk_mul, pk_sub, pk_div, pk_rem, ds_rem2, nI_clamp, nI_leI, nI_ltI, nI_eq, ds_m1_eq, ds_eq_m1, ds_m2_eq, ds_eq_m2, ds_m1_le, ds_le_m1, ds_m1_lt, ds_lt_m1, ds_in_N, ds_bo0, ds_bo1, if_pos, if_neg, Nat.not_le, Nat.not_lt, not_true_eq_false, not_false_eq_true, if_true, if_false, ne_eq, Option.some.injEq, Prod.mk.injEq, Value.int.injEq, true_and, and_true, and_self, ite_self, Bool.not_eq_true, Bool.not_eq_false, Bool.true_eq_false, Bool.false_eq_true, reduceCtorEq, Nat.zero_add, Nat.reduceAdd, Nat.reduceMul, Nat.reduceSub, ds_setI_row, ds_setL_row, ds_rowI_self, ds_rowI_ne, ds_rowI_2, ds_rowI_rowI, ds_setS_1, ds_setS_21, ds_setS_self, ds_setS_ne, pk_us, pk_un, dl_22]
    | succ m ih =>
      intro s hs hno
      apply one s (by omega)
      by_cases q : Nm s = l
      · rw [if_pos q]
        have us : dr_used D s = true := by
          cases u : dr_used D s
          · have := hn.2.2.2.1 s u
            rw [q] at this
            exact absurd this wd.1
          · rfl
        obtain ⟨a, b⟩ := dr_has_at hn wd us q
        rw [if_pos a, b]
      · rw [if_neg q]
        exact (ih (s + 1) (by omega) (fun j hj => by
          rcases Nat.lt_or_ge j s with x | x
          · exact hno j x
          · have : j = s := by omega
            rw [this]; exact q)).symm
  have g := go 22 0 (by omega) (fun j hj => by omega)
  generalize (if dr_has Nm l = true then nI (dr_slot Nm l) else ds_m1) = r at *
  rw [c_Mod_find, b_Mod_find_0]
  simp (disch := first | assumption | omega) only [ds_cI, ds_cV, ds_cL, ds_cR, ds_nn, ds_isK_t, ds_isA_t, ds_chk_t, ds_chkN, ds_nz_t, ds_nzN, ds_isB_t, ds_isB_bo, ↓dl_m1, ↓dl_m2, dl_0, dl_1, dl_2, dl_3, dl_4, dl_5, dl_6, dl_7, dl_8, dl_9, dl_10, dl_11, dl_12, dl_13, dl_14, dl_15, dl_16, dl_20, dl_24, dl_31, dl_50, dl_57, dl_67, dl_68, dl_74, dl_75, dl_79, dl_80, dl_99, dl_100, dl_200, dl_210, dl_224, dl_255, dl_289, dl_900, dl_1000, dl_1728, dl_65536, dl_65537, nI_add, pk_mul, pk_sub, pk_div, pk_rem, ds_rem2, nI_clamp, nI_leI, nI_ltI, nI_eq, ds_m1_eq, ds_eq_m1, ds_m2_eq, ds_eq_m2, ds_m1_le, ds_le_m1, ds_m1_lt, ds_lt_m1, ds_in_N, ds_bo0, ds_bo1, if_pos, if_neg, Nat.not_le, Nat.not_lt, not_true_eq_false, not_false_eq_true, if_true, if_false, ne_eq, Option.some.injEq, Prod.mk.injEq, Value.int.injEq, true_and, and_true, and_self, ite_self, Bool.not_eq_true, Bool.not_eq_false, Bool.true_eq_false, Bool.false_eq_true, reduceCtorEq, Nat.zero_add, Nat.reduceAdd, Nat.reduceMul, Nat.reduceSub, ds_setI_row, ds_setL_row, ds_rowI_self, ds_rowI_ne, ds_rowI_2, ds_rowI_rowI, ds_setS_1, ds_setS_21, ds_setS_self, ds_setS_ne, pk_us, pk_un, g]
