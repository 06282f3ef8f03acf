/-! what one, two, three cards do -/
theorem dl_144 : (144 : Int32) = nI 144 := rfl
def dk_V1 (c s : Nat) : Prop := s < c
def dk_V2 (c s : Nat) : Prop := ∃ p q, p < c ∧ q < c ∧ p ≠ q ∧ s = p + 12 * q
def dk_V3 (c s : Nat) : Prop := ∃ p q r, p < c ∧ q < c ∧ r < c ∧ p ≠ q ∧ p ≠ r ∧ q ≠ r ∧ s = p + 12 * q + 144 * r
def dk_N1 (c s m : Nat) : Nat := ds_mv m s c
def dk_N2 (c s m : Nat) : Nat := ds_mv m (s % 12) c + 12 * ds_mv m (s / 12) c
def dk_N3 (c s m : Nat) : Nat := ds_mv m (s % 12) c + 12 * ds_mv m (s / 12 % 12) c + 144 * ds_mv m (s / 144) c
def dk_G1 (pl s : Nat) : Bool := s == pl
def dk_G2 (D : Nat → Nat → Nat) (s : Nat) : Bool := dk_A D (s % 12) (s / 12)
def dk_G3 (D : Nat → Nat → Nat) (s : Nat) : Bool := decide (2 ≤ dk_n (dk_A D (s % 12) (s / 12 % 12)) + dk_n (dk_A D (s % 12) (s / 144)) + dk_n (dk_A D (s / 12 % 12) (s / 144)))
theorem dk_mv_inj {a c p q : Nat} (ha : a < 14) (hc : c < 13) (hp : p < c) (hq : q < c) (h : p ≠ q) : ds_mv a p c ≠ ds_mv a q c := fun e => by
  have h1 := (dk_inv_ok a ha c hc p hp).2.2.1
  have h2 := (dk_inv_ok a ha c hc q hq).2.2.1
  rw [e, h2] at h1
  exact h h1.symm
theorem dk_mv_lt {a c p : Nat} (ha : a < 14) (hc : c < 13) (hp : p < c) : ds_mv a p c < c := (dk_inv_ok a ha c hc p hp).2.2.2
theorem dk_V1_lt {c : Nat} (hc : c ≤ 12) : ∀ s, dk_V1 c s → s < 1728 := fun s h => by
  have : s < c := h
  omega
theorem dk_V2_lt {c : Nat} (hc : c ≤ 12) : ∀ s, dk_V2 c s → s < 1728 := fun s h => by
  obtain ⟨p, q, h1, h2, _, h4⟩ := h
  omega
theorem dk_V3_lt {c : Nat} (hc : c ≤ 12) : ∀ s, dk_V3 c s → s < 1728 := fun s h => by
  obtain ⟨p, q, r, h1, h2, h3, _, _, _, h4⟩ := h
  omega
theorem dk_V1_N {c : Nat} (hc : c ≤ 12) : ∀ s m, dk_V1 c s → m < c + 2 → dk_V1 c (dk_N1 c s m) := fun s m h hm => dk_mv_lt (by omega) (by omega) h
theorem dk_V2_N {c : Nat} (hc : c ≤ 12) : ∀ s m, dk_V2 c s → m < c + 2 → dk_V2 c (dk_N2 c s m) := fun s m h hm => by
  obtain ⟨p, q, h1, h2, h3, h4⟩ := h
  subst h4
  have e1 : (p + 12 * q) % 12 = p := by omega
  have e2 : (p + 12 * q) / 12 = q := by omega
  unfold dk_N2
  rw [e1, e2]
  exact ⟨_, _, dk_mv_lt (by omega) (by omega) h1, dk_mv_lt (by omega) (by omega) h2, dk_mv_inj (by omega) (by omega) h1 h2 h3, rfl⟩
theorem dk_V3_N {c : Nat} (hc : c ≤ 12) : ∀ s m, dk_V3 c s → m < c + 2 → dk_V3 c (dk_N3 c s m) := fun s m h hm => by
  obtain ⟨p, q, r, h1, h2, h3, n1, n2, n3, h4⟩ := h
  subst h4
  have e1 : (p + 12 * q + 144 * r) % 12 = p := by omega
  have e2 : (p + 12 * q + 144 * r) / 12 % 12 = q := by omega
  have e3 : (p + 12 * q + 144 * r) / 144 = r := by omega
  unfold dk_N3
  rw [e1, e2, e3]
  exact ⟨_, _, _, dk_mv_lt (by omega) (by omega) h1, dk_mv_lt (by omega) (by omega) h2, dk_mv_lt (by omega) (by omega) h3, dk_mv_inj (by omega) (by omega) h1 h2 n1, dk_mv_inj (by omega) (by omega) h1 h3 n2, dk_mv_inj (by omega) (by omega) h2 h3 n3, rfl⟩
/-! class -/
def dk_Pz (kk c pl t : Nat) (D : Nat → Nat → Nat) (z : ds_St) : Prop := z.1 70 4 = nI kk ∧ z.1 70 5 = nI c ∧ (kk = 1 → z.1 70 6 = nI pl) ∧ (kk ≠ 1 → z.2.2 3 = t + 10) ∧ dk_tC z t D
theorem dk_Pz_s3 {kk c pl t : Nat} {D : Nat → Nat → Nat} : ∀ z z', dk_Pz kk c pl t D z → dk_s3 z z' → dk_Pz kk c pl t D z' := fun z z' h hf => by
  obtain ⟨a, b, c, e, g⟩ := h
  refine ⟨?_, ?_, fun q => ?_, fun q => ?_, dk_tC_eq g (fun p _ h2 => hf.1 p (by omega) (by omega) (by omega))⟩
  · rw [hf.1 70 (by decide) (by decide) (by decide)]; exact a
  · rw [hf.1 70 (by decide) (by decide) (by decide)]; exact b
  · rw [hf.1 70 (by decide) (by decide) (by decide)]; exact c q
  · rw [hf.2]; exact e q
theorem s_sb1 (d c pl t : Nat) (D : Nat → Nat → Nat) (c12 : c ≤ 12) : ∀ z s m, dk_Pz 1 c pl t D z → dk_V1 c s → m < c + 2 → ds_call (d + 3) j_Search_stateBehind [.ref 70, .int (nI s), .int (nI m)] z = some (some (.int (nI (dk_N1 c s m))), z) := by
  intro z s m hz hs hm
  have hs' : s < c := hs
  obtain ⟨h4, h5, _, _, _⟩ := hz
  have e1 : s - s / 12 * 12 = s := by omega
  have g := s_goesTo d m s c z (by omega) (by omega) hs'
  rw [c_Search_stateBehind, b_Search_stateBehind_0, b_Search_stateBehind_11]
  unfold dk_N1
  generalize ds_mv m s c = w at *
  simp (disch := first | assumption | omega) only [ds_cI, ds_cV, ds_cL, ds_cR, ds_nn, ds_isK_t, ds_isA_t, ds_chk_t, ds_chkN, ds_nz_t, ds_nzN, ds_isB_t, ds_isB_bo, ↓dl_m1, ↓dl_m2, dl_0, dl_1, dl_2, dl_3, dl_4, dl_5, dl_6, dl_7, dl_8, dl_9, dl_10, dl_11, dl_12, dl_13, dl_14, dl_15, dl_16, dl_20, dl_24, dl_31, dl_50, dl_57, dl_67, dl_68, dl_74, dl_75, dl_79, dl_80, dl_99, dl_100, dl_200, dl_210, dl_224, dl_255, dl_289, dl_900, dl_1000, dl_1728, dl_65536, dl_65537, nI_add, pk_mul, pk_sub, pk_div, pk_rem, ds_rem2, nI_clamp, nI_leI, nI_ltI, nI_eq, ds_m1_eq, ds_eq_m1, ds_m2_eq, ds_eq_m2, ds_m1_le, ds_le_m1, ds_m1_lt, ds_lt_m1, ds_in_N, ds_bo0, ds_bo1, if_pos, if_neg, Nat.not_le, Nat.not_lt, not_true_eq_false, not_false_eq_true, if_true, if_false, ne_eq, Option.some.injEq, Prod.mk.injEq, Value.int.injEq, true_and, and_true, and_self, ite_self, Bool.not_eq_true, Bool.not_eq_false, Bool.true_eq_false, Bool.false_eq_true, reduceCtorEq, Nat.zero_add, Nat.reduceAdd, Nat.reduceMul, Nat.reduceSub, ds_setI_row, ds_setL_row, ds_rowI_self, ds_rowI_ne, ds_rowI_2, ds_rowI_rowI, ds_setS_1, ds_setS_21, ds_setS_self, ds_setS_ne, pk_us, pk_un, h4, h5, e1, g]
  rw [b_Search_stateBehind_11]
  simp (disch := first | assumption | omega) only [ds_cI, ds_cV, ds_cL, ds_cR, ds_nn, ds_isK_t, ds_isA_t, ds_chk_t, ds_chkN, ds_nz_t, ds_nzN, ds_isB_t, ds_isB_bo, ↓dl_m1, ↓dl_m2, dl_0, dl_1, dl_2, dl_3, dl_4, dl_5, dl_6, dl_7, dl_8, dl_9, dl_10, dl_11, dl_12, dl_13, dl_14, dl_15, dl_16, dl_20, dl_24, dl_31, dl_50, dl_57, dl_67, dl_68, dl_74, dl_75, dl_79, dl_80, dl_99, dl_100, dl_200, dl_210, dl_224, dl_255, dl_289, dl_900, dl_1000, dl_1728, dl_65536, dl_65537, nI_add, pk_mul, pk_sub, pk_div, pk_rem, ds_rem2, nI_clamp, nI_leI, nI_ltI, nI_eq, ds_m1_eq, ds_eq_m1, ds_m2_eq, ds_eq_m2, ds_m1_le, ds_le_m1, ds_m1_lt, ds_lt_m1, ds_in_N, ds_bo0, ds_bo1, if_pos, if_neg, Nat.not_le, Nat.not_lt, not_true_eq_false, not_false_eq_true, if_true, if_false, ne_eq, Option.some.injEq, Prod.mk.injEq, Value.int.injEq, true_and, and_true, and_self, ite_self, Bool.not_eq_true, Bool.not_eq_false, Bool.true_eq_false, Bool.false_eq_true, reduceCtorEq, Nat.zero_add, Nat.reduceAdd, Nat.reduceMul, Nat.reduceSub, ds_setI_row, ds_setL_row, ds_rowI_self, ds_rowI_ne, ds_rowI_2, ds_rowI_rowI, ds_setS_1, ds_setS_21, ds_setS_self, ds_setS_ne, pk_us, pk_un, h4, Nat.one_mul, Nat.zero_add]
theorem s_sb2 (d c pl t : Nat) (D : Nat → Nat → Nat) (c12 : c ≤ 12) : ∀ z s m, dk_Pz 2 c pl t D z → dk_V2 c s → m < c + 2 → ds_call (d + 3) j_Search_stateBehind [.ref 70, .int (nI s), .int (nI m)] z = some (some (.int (nI (dk_N2 c s m))), z) := by
  intro z s m hz hs hm
  obtain ⟨p, q, p1, q1, _, rfl⟩ := hs
  obtain ⟨h4, h5, _, _, _⟩ := hz
  have e1 : (p + 12 * q) % 12 = p := by omega
  have e2 : (p + 12 * q) / 12 = q := by omega
  have e3 : q - q / 12 * 12 = q := by omega
  have f1 : p + 12 * q - q * 12 = p := by omega
  have g := s_goesTo d m p c z (by omega) (by omega) p1
  have g2 := s_goesTo d m q c z (by omega) (by omega) q1
  unfold dk_N2
  rw [e1, e2]
  generalize ds_mv m p c = w at *
  generalize ds_mv m q c = w2 at *
  have b0 : p + 12 * q < 2 ^ 31 := by omega
  generalize p + 12 * q = s at *
  rw [c_Search_stateBehind, b_Search_stateBehind_0, b_Search_stateBehind_11]
  simp (disch := first | assumption | omega) only [ds_cI, ds_cV, ds_cL, ds_cR, ds_nn, ds_isK_t, ds_isA_t, ds_chk_t, ds_chkN, ds_nz_t, ds_nzN, ds_isB_t, ds_isB_bo, ↓dl_m1, ↓dl_m2, dl_0, dl_1, dl_2, dl_3, dl_4, dl_5, dl_6, dl_7, dl_8, dl_9, dl_10, dl_11, dl_12, dl_13, dl_14, dl_15, dl_16, dl_20, dl_24, dl_31, dl_50, dl_57, dl_67, dl_68, dl_74, dl_75, dl_79, dl_80, dl_99, dl_100, dl_200, dl_210, dl_224, dl_255, dl_289, dl_900, dl_1000, dl_1728, dl_65536, dl_65537, nI_add, pk_mul, pk_sub, pk_div, pk_rem, ds_rem2, nI_clamp, nI_leI, nI_ltI, nI_eq, ds_m1_eq, ds_eq_m1, ds_m2_eq, ds_eq_m2, ds_m1_le, ds_le_m1, ds_m1_lt, ds_lt_m1, ds_in_N, ds_bo0, ds_bo1, if_pos, if_neg, Nat.not_le, Nat.not_lt, not_true_eq_false, not_false_eq_true, if_true, if_false, ne_eq, Option.some.injEq, Prod.mk.injEq, Value.int.injEq, true_and, and_true, and_self, ite_self, Bool.not_eq_true, Bool.not_eq_false, Bool.true_eq_false, Bool.false_eq_true, reduceCtorEq, Nat.zero_add, Nat.reduceAdd, Nat.reduceMul, Nat.reduceSub, ds_setI_row, ds_setL_row, ds_rowI_self, ds_rowI_ne, ds_rowI_2, ds_rowI_rowI, ds_setS_1, ds_setS_21, ds_setS_self, ds_setS_ne, pk_us, pk_un, h4, h5, e2, f1, g]
  rw [b_Search_stateBehind_11]
  simp (disch := first | assumption | omega) only [ds_cI, ds_cV, ds_cL, ds_cR, ds_nn, ds_isK_t, ds_isA_t, ds_chk_t, ds_chkN, ds_nz_t, ds_nzN, ds_isB_t, ds_isB_bo, ↓dl_m1, ↓dl_m2, dl_0, dl_1, dl_2, dl_3, dl_4, dl_5, dl_6, dl_7, dl_8, dl_9, dl_10, dl_11, dl_12, dl_13, dl_14, dl_15, dl_16, dl_20, dl_24, dl_31, dl_50, dl_57, dl_67, dl_68, dl_74, dl_75, dl_79, dl_80, dl_99, dl_100, dl_200, dl_210, dl_224, dl_255, dl_289, dl_900, dl_1000, dl_1728, dl_65536, dl_65537, nI_add, pk_mul, pk_sub, pk_div, pk_rem, ds_rem2, nI_clamp, nI_leI, nI_ltI, nI_eq, ds_m1_eq, ds_eq_m1, ds_m2_eq, ds_eq_m2, ds_m1_le, ds_le_m1, ds_m1_lt, ds_lt_m1, ds_in_N, ds_bo0, ds_bo1, if_pos, if_neg, Nat.not_le, Nat.not_lt, not_true_eq_false, not_false_eq_true, if_true, if_false, ne_eq, Option.some.injEq, Prod.mk.injEq, Value.int.injEq, true_and, and_true, and_self, ite_self, Bool.not_eq_true, Bool.not_eq_false, Bool.true_eq_false, Bool.false_eq_true, reduceCtorEq, Nat.zero_add, Nat.reduceAdd, Nat.reduceMul, Nat.reduceSub, ds_setI_row, ds_setL_row, ds_rowI_self, ds_rowI_ne, ds_rowI_2, ds_rowI_rowI, ds_setS_1, ds_setS_21, ds_setS_self, ds_setS_ne, pk_us, pk_un, h4, h5, e3, g2]
  rw [b_Search_stateBehind_11]
  simp (disch := first | assumption | omega) only [ds_cI, ds_cV, ds_cL, ds_cR, ds_nn, ds_isK_t, ds_isA_t, ds_chk_t, ds_chkN, ds_nz_t, ds_nzN, ds_isB_t, ds_isB_bo, ↓dl_m1, ↓dl_m2, dl_0, dl_1, dl_2, dl_3, dl_4, dl_5, dl_6, dl_7, dl_8, dl_9, dl_10, dl_11, dl_12, dl_13, dl_14, dl_15, dl_16, dl_20, dl_24, dl_31, dl_50, dl_57, dl_67, dl_68, dl_74, dl_75, dl_79, dl_80, dl_99, dl_100, dl_200, dl_210, dl_224, dl_255, dl_289, dl_900, dl_1000, dl_1728, dl_65536, dl_65537, nI_add, pk_mul, pk_sub, pk_div, pk_rem, ds_rem2, nI_clamp, nI_leI, nI_ltI, nI_eq, ds_m1_eq, ds_eq_m1, ds_m2_eq, ds_eq_m2, ds_m1_le, ds_le_m1, ds_m1_lt, ds_lt_m1, ds_in_N, ds_bo0, ds_bo1, if_pos, if_neg, Nat.not_le, Nat.not_lt, not_true_eq_false, not_false_eq_true, if_true, if_false, ne_eq, Option.some.injEq, Prod.mk.injEq, Value.int.injEq, true_and, and_true, and_self, ite_self, Bool.not_eq_true, Bool.not_eq_false, Bool.true_eq_false, Bool.false_eq_true, reduceCtorEq, Nat.zero_add, Nat.reduceAdd, Nat.reduceMul, Nat.reduceSub, ds_setI_row, ds_setL_row, ds_rowI_self, ds_rowI_ne, ds_rowI_2, ds_rowI_rowI, ds_setS_1, ds_setS_21, ds_setS_self, ds_setS_ne, pk_us, pk_un, h4, Nat.one_mul, Nat.zero_add]
theorem s_sb3 (d c pl t : Nat) (D : Nat → Nat → Nat) (c12 : c ≤ 12) : ∀ z s m, dk_Pz 3 c pl t D z → dk_V3 c s → m < c + 2 → ds_call (d + 3) j_Search_stateBehind [.ref 70, .int (nI s), .int (nI m)] z = some (some (.int (nI (dk_N3 c s m))), z) := by
  intro z s m hz hs hm
  obtain ⟨p, q, r, p1, q1, r1, _, _, _, rfl⟩ := hs
  obtain ⟨h4, h5, _, _, _⟩ := hz
  have e1 : (p + 12 * q + 144 * r) % 12 = p := by omega
  have e2 : (p + 12 * q + 144 * r) / 12 = q + 12 * r := by omega
  have e2' : (q + 12 * r) % 12 = q := by omega
  have f1 : p + 12 * q + 144 * r - (q + 12 * r) * 12 = p := by omega
  have f2 : q + 12 * r - r * 12 = q := by omega
  have f3 : (q + 12 * r) / 12 = r := by omega
  have e3 : (q + 12 * r) / 12 = r := by omega
  have e4 : r - r / 12 * 12 = r := by omega
  have e5 : (p + 12 * q + 144 * r) / 144 = r := by omega
  have g := s_goesTo d m p c z (by omega) (by omega) p1
  have g2 := s_goesTo d m q c z (by omega) (by omega) q1
  have g3 := s_goesTo d m r c z (by omega) (by omega) r1
  unfold dk_N3
  rw [e1, e2, e2', e5]
  generalize ds_mv m p c = w at *
  generalize ds_mv m q c = w2 at *
  generalize ds_mv m r c = w3 at *
  have b0 : p + 12 * q + 144 * r < 2 ^ 31 := by omega
  generalize p + 12 * q + 144 * r = s at *
  have b1 : q + 12 * r < 2 ^ 31 := by omega
  generalize q + 12 * r = s2 at *
  rw [c_Search_stateBehind, b_Search_stateBehind_0, b_Search_stateBehind_11]
  simp (disch := first | assumption | omega) only [ds_cI, ds_cV, ds_cL, ds_cR, ds_nn, ds_isK_t, ds_isA_t, ds_chk_t, ds_chkN, ds_nz_t, ds_nzN, ds_isB_t, ds_isB_bo, ↓dl_m1, ↓dl_m2, dl_0, dl_1, dl_2, dl_3, dl_4, dl_5, dl_6, dl_7, dl_8, dl_9, dl_10, dl_11, dl_12, dl_13, dl_14, dl_15, dl_16, dl_20, dl_24, dl_31, dl_50, dl_57, dl_67, dl_68, dl_74, dl_75, dl_79, dl_80, dl_99, dl_100, dl_200, dl_210, dl_224, dl_255, dl_289, dl_900, dl_1000, dl_1728, dl_65536, dl_65537, nI_add, pk_mul, pk_sub, pk_div, pk_rem, ds_rem2, nI_clamp, nI_leI, nI_ltI, nI_eq, ds_m1_eq, ds_eq_m1, ds_m2_eq, ds_eq_m2, ds_m1_le, ds_le_m1, ds_m1_lt, ds_lt_m1, ds_in_N, ds_bo0, ds_bo1, if_pos, if_neg, Nat.not_le, Nat.not_lt, not_true_eq_false, not_false_eq_true, if_true, if_false, ne_eq, Option.some.injEq, Prod.mk.injEq, Value.int.injEq, true_and, and_true, and_self, ite_self, Bool.not_eq_true, Bool.not_eq_false, Bool.true_eq_false, Bool.false_eq_true, reduceCtorEq, Nat.zero_add, Nat.reduceAdd, Nat.reduceMul, Nat.reduceSub, ds_setI_row, ds_setL_row, ds_rowI_self, ds_rowI_ne, ds_rowI_2, ds_rowI_rowI, ds_setS_1, ds_setS_21, ds_setS_self, ds_setS_ne, pk_us, pk_un, h4, h5, e2, f1, g]
  rw [b_Search_stateBehind_11]
  simp (disch := first | assumption | omega) only [ds_cI, ds_cV, ds_cL, ds_cR, ds_nn, ds_isK_t, ds_isA_t, ds_chk_t, ds_chkN, ds_nz_t, ds_nzN, ds_isB_t, ds_isB_bo, ↓dl_m1, ↓dl_m2, dl_0, dl_1, dl_2, dl_3, dl_4, dl_5, dl_6, dl_7, dl_8, dl_9, dl_10, dl_11, dl_12, dl_13, dl_14, dl_15, dl_16, dl_20, dl_24, dl_31, dl_50, dl_57, dl_67, dl_68, dl_74, dl_75, dl_79, dl_80, dl_99, dl_100, dl_200, dl_210, dl_224, dl_255, dl_289, dl_900, dl_1000, dl_1728, dl_65536, dl_65537, nI_add, pk_mul, pk_sub, pk_div, pk_rem, ds_rem2, nI_clamp, nI_leI, nI_ltI, nI_eq, ds_m1_eq, ds_eq_m1, ds_m2_eq, ds_eq_m2, ds_m1_le, ds_le_m1, ds_m1_lt, ds_lt_m1, ds_in_N, ds_bo0, ds_bo1, if_pos, if_neg, Nat.not_le, Nat.not_lt, not_true_eq_false, not_false_eq_true, if_true, if_false, ne_eq, Option.some.injEq, Prod.mk.injEq, Value.int.injEq, true_and, and_true, and_self, ite_self, Bool.not_eq_true, Bool.not_eq_false, Bool.true_eq_false, Bool.false_eq_true, reduceCtorEq, Nat.zero_add, Nat.reduceAdd, Nat.reduceMul, Nat.reduceSub, ds_setI_row, ds_setL_row, ds_rowI_self, ds_rowI_ne, ds_rowI_2, ds_rowI_rowI, ds_setS_1, ds_setS_21, ds_setS_self, ds_setS_ne, pk_us, pk_un, h4, h5, f2, f3, g2]
  rw [b_Search_stateBehind_11]
  simp (disch := first | assumption | omega) only [ds_cI, ds_cV, ds_cL, ds_cR, ds_nn, ds_isK_t, ds_isA_t, ds_chk_t, ds_chkN, ds_nz_t, ds_nzN, ds_isB_t, ds_isB_bo, ↓dl_m1, ↓dl_m2, dl_0, dl_1, dl_2, dl_3, dl_4, dl_5, dl_6, dl_7, dl_8, dl_9, dl_10, dl_11, dl_12, dl_13, dl_14, dl_15, dl_16, dl_20, dl_24, dl_31, dl_50, dl_57, dl_67, dl_68, dl_74, dl_75, dl_79, dl_80, dl_99, dl_100, dl_200, dl_210, dl_224, dl_255, dl_289, dl_900, dl_1000, dl_1728, dl_65536, dl_65537, nI_add, pk_mul, pk_sub, pk_div, pk_rem, ds_rem2, nI_clamp, nI_leI, nI_ltI, nI_eq, ds_m1_eq, ds_eq_m1, ds_m2_eq, ds_eq_m2, ds_m1_le, ds_le_m1, ds_m1_lt, ds_lt_m1, ds_in_N, ds_bo0, ds_bo1, if_pos, if_neg, Nat.not_le, Nat.not_lt, not_true_eq_false, not_false_eq_true, if_true, if_false, ne_eq, Option.some.injEq, Prod.mk.injEq, Value.int.injEq, true_and, and_true, and_self, ite_self, Bool.not_eq_true, Bool.not_eq_false, Bool.true_eq_false, Bool.false_eq_true, reduceCtorEq, Nat.zero_add, Nat.reduceAdd, Nat.reduceMul, Nat.reduceSub, ds_setI_row, ds_setL_row, ds_rowI_self, ds_rowI_ne, ds_rowI_2, ds_rowI_rowI, ds_setS_1, ds_setS_21, ds_setS_self, ds_setS_ne, pk_us, pk_un, h4, h5, e4, g3]
  rw [b_Search_stateBehind_11]
  simp (disch := first | assumption | omega) only [ds_cI, ds_cV, ds_cL, ds_cR, ds_nn, ds_isK_t, ds_isA_t, ds_chk_t, ds_chkN, ds_nz_t, ds_nzN, ds_isB_t, ds_isB_bo, ↓dl_m1, ↓dl_m2, dl_0, dl_1, dl_2, dl_3, dl_4, dl_5, dl_6, dl_7, dl_8, dl_9, dl_10, dl_11, dl_12, dl_13, dl_14, dl_15, dl_16, dl_20, dl_24, dl_31, dl_50, dl_57, dl_67, dl_68, dl_74, dl_75, dl_79, dl_80, dl_99, dl_100, dl_200, dl_210, dl_224, dl_255, dl_289, dl_900, dl_1000, dl_1728, dl_65536, dl_65537, nI_add, pk_mul, pk_sub, pk_div, pk_rem, ds_rem2, nI_clamp, nI_leI, nI_ltI, nI_eq, ds_m1_eq, ds_eq_m1, ds_m2_eq, ds_eq_m2, ds_m1_le, ds_le_m1, ds_m1_lt, ds_lt_m1, ds_in_N, ds_bo0, ds_bo1, if_pos, if_neg, Nat.not_le, Nat.not_lt, not_true_eq_false, not_false_eq_true, if_true, if_false, ne_eq, Option.some.injEq, Prod.mk.injEq, Value.int.injEq, true_and, and_true, and_self, ite_self, Bool.not_eq_true, Bool.not_eq_false, Bool.true_eq_false, Bool.false_eq_true, reduceCtorEq, Nat.zero_add, Nat.reduceAdd, Nat.reduceMul, Nat.reduceSub, ds_setI_row, ds_setL_row, ds_rowI_self, ds_rowI_ne, ds_rowI_2, ds_rowI_rowI, ds_setS_1, ds_setS_21, ds_setS_self, ds_setS_ne, pk_us, pk_un, h4, Nat.one_mul, Nat.zero_add]
theorem s_pairs (d p q t : Nat) (D : Nat → Nat → Nat) (z : ds_St) (h3 : z.2.2 3 = t + 10) (hT : dk_tC z t D) (hp : p < 12) (hq : q < 12) : ds_call (d + 2) j_Search_pairs [.ref 70, .int (nI p), .int (nI q)] z = some (some (.int (ds_bo (dk_A D p q))), z) := by
  have nr := hT.2.2.2.2.2.2 p hp
  have ht := hT.1
  have lk := s_lookT d t 10 p z ht (by decide) hp
  rw [nr] at lk
  have bit := ds_bit (dk_nb_lt (D 0 0) (D 0 1) (D 0 3) p) (show q < 32 by omega)
  rw [dk_nb_tb, decide_eq_true hq, Bool.true_and] at bit
  have bit' : (nI (dk_nb (D 0 0) (D 0 1) (D 0 3) p) >>> (nI q &&& nI 31)) &&& nI 1 = ds_bo (dk_A D p q) := bit
  rw [c_Search_pairs, b_Search_pairs_0, h3]
  generalize dk_nb (D 0 0) (D 0 1) (D 0 3) p = w at *
  simp (disch := first | assumption | omega) only [ds_cI, ds_cV, ds_cL, ds_cR, ds_nn, ds_isK_t, ds_isA_t, ds_chk_t, ds_chkN, ds_nz_t, ds_nzN, ds_isB_t, ds_isB_bo, ↓dl_m1, ↓dl_m2, dl_0, dl_1, dl_2, dl_3, dl_4, dl_5, dl_6, dl_7, dl_8, dl_9, dl_10, dl_11, dl_12, dl_13, dl_14, dl_15, dl_16, dl_20, dl_24, dl_31, dl_50, dl_57, dl_67, dl_68, dl_74, dl_75, dl_79, dl_80, dl_99, dl_100, dl_200, dl_210, dl_224, dl_255, dl_289, dl_900, dl_1000, dl_1728, dl_65536, dl_65537, nI_add, pk_mul, pk_sub, pk_div, pk_rem, ds_rem2, nI_clamp, nI_leI, nI_ltI, nI_eq, ds_m1_eq, ds_eq_m1, ds_m2_eq, ds_eq_m2, ds_m1_le, ds_le_m1, ds_m1_lt, ds_lt_m1, ds_in_N, ds_bo0, ds_bo1, if_pos, if_neg, Nat.not_le, Nat.not_lt, not_true_eq_false, not_false_eq_true, if_true, if_false, ne_eq, Option.some.injEq, Prod.mk.injEq, Value.int.injEq, true_and, and_true, and_self, ite_self, Bool.not_eq_true, Bool.not_eq_false, Bool.true_eq_false, Bool.false_eq_true, reduceCtorEq, Nat.zero_add, Nat.reduceAdd, Nat.reduceMul, Nat.reduceSub, ds_setI_row, ds_setL_row, ds_rowI_self, ds_rowI_ne, ds_rowI_2, ds_rowI_rowI, ds_setS_1, ds_setS_21, ds_setS_self, ds_setS_ne, pk_us, pk_un, lk, bit']
theorem s_go1 (d c pl t : Nat) (D : Nat → Nat → Nat) (c12 : c ≤ 12) (hpl : pl < c) : ∀ z s, dk_Pz 1 c pl t D z → dk_V1 c s → ds_call (d + 3) j_Search_isGoal [.ref 70, .int (nI s)] z = some (some (.int (ds_bo (dk_G1 pl s))), z) := by
  intro z s hz hs
  have hs' : s < c := hs
  obtain ⟨h4, h5, h6, _, _⟩ := hz
  have h6' := h6 rfl
  rw [c_Search_isGoal, b_Search_isGoal_0]
  unfold dk_G1
  by_cases e : s = pl
  · have e' : (s == pl) = true := by simpa using e
    rw [e']
    rw [← e] at h6'
    simp (disch := first | assumption | omega) only [ds_cI, ds_cV, ds_cL, ds_cR, ds_nn, ds_isK_t, ds_isA_t, ds_chk_t, ds_chkN, ds_nz_t, ds_nzN, ds_isB_t, ds_isB_bo, ↓dl_m1, ↓dl_m2, dl_0, dl_1, dl_2, dl_3, dl_4, dl_5, dl_6, dl_7, dl_8, dl_9, dl_10, dl_11, dl_12, dl_13, dl_14, dl_15, dl_16, dl_20, dl_24, dl_31, dl_50, dl_57, dl_67, dl_68, dl_74, dl_75, dl_79, dl_80, dl_99, dl_100, dl_200, dl_210, dl_224, dl_255, dl_289, dl_900, dl_1000, dl_1728, dl_65536, dl_65537, nI_add, pk_mul, pk_sub, pk_div, pk_rem, ds_rem2, nI_clamp, nI_leI, nI_ltI, nI_eq, ds_m1_eq, ds_eq_m1, ds_m2_eq, ds_eq_m2, ds_m1_le, ds_le_m1, ds_m1_lt, ds_lt_m1, ds_in_N, ds_bo0, ds_bo1, if_pos, if_neg, Nat.not_le, Nat.not_lt, not_true_eq_false, not_false_eq_true, if_true, if_false, ne_eq, Option.some.injEq, Prod.mk.injEq, Value.int.injEq, true_and, and_true, and_self, ite_self, Bool.not_eq_true, Bool.not_eq_false, Bool.true_eq_false, Bool.false_eq_true, reduceCtorEq, Nat.zero_add, Nat.reduceAdd, Nat.reduceMul, Nat.reduceSub, ds_setI_row, ds_setL_row, ds_rowI_self, ds_rowI_ne, ds_rowI_2, ds_rowI_rowI, ds_setS_1, ds_setS_21, ds_setS_self, ds_setS_ne, pk_us, pk_un, h4, h6']
    rfl
  · have e' : (s == pl) = false := by simpa using e
    rw [e']
    simp (disch := first | assumption | omega) only [ds_cI, ds_cV, ds_cL, ds_cR, ds_nn, ds_isK_t, ds_isA_t, ds_chk_t, ds_chkN, ds_nz_t, ds_nzN, ds_isB_t, ds_isB_bo, ↓dl_m1, ↓dl_m2, dl_0, dl_1, dl_2, dl_3, dl_4, dl_5, dl_6, dl_7, dl_8, dl_9, dl_10, dl_11, dl_12, dl_13, dl_14, dl_15, dl_16, dl_20, dl_24, dl_31, dl_50, dl_57, dl_67, dl_68, dl_74, dl_75, dl_79, dl_80, dl_99, dl_100, dl_200, dl_210, dl_224, dl_255, dl_289, dl_900, dl_1000, dl_1728, dl_65536, dl_65537, nI_add, pk_mul, pk_sub, pk_div, pk_rem, ds_rem2, nI_clamp, nI_leI, nI_ltI, nI_eq, ds_m1_eq, ds_eq_m1, ds_m2_eq, ds_eq_m2, ds_m1_le, ds_le_m1, ds_m1_lt, ds_lt_m1, ds_in_N, ds_bo0, ds_bo1, if_pos, if_neg, Nat.not_le, Nat.not_lt, not_true_eq_false, not_false_eq_true, if_true, if_false, ne_eq, Option.some.injEq, Prod.mk.injEq, Value.int.injEq, true_and, and_true, and_self, ite_self, Bool.not_eq_true, Bool.not_eq_false, Bool.true_eq_false, Bool.false_eq_true, reduceCtorEq, Nat.zero_add, Nat.reduceAdd, Nat.reduceMul, Nat.reduceSub, ds_setI_row, ds_setL_row, ds_rowI_self, ds_rowI_ne, ds_rowI_2, ds_rowI_rowI, ds_setS_1, ds_setS_21, ds_setS_self, ds_setS_ne, pk_us, pk_un, h4, h6', e]
    rfl
theorem s_go2 (d c pl t : Nat) (D : Nat → Nat → Nat) (c12 : c ≤ 12) : ∀ z s, dk_Pz 2 c pl t D z → dk_V2 c s → ds_call (d + 3) j_Search_isGoal [.ref 70, .int (nI s)] z = some (some (.int (ds_bo (dk_G2 D s))), z) := by
  intro z s hz hs
  obtain ⟨p, q, p1, q1, _, rfl⟩ := hs
  obtain ⟨h4, h5, h6, h3, hT⟩ := hz
  have e1 : (p + 12 * q) % 12 = p := by omega
  have e2 : (p + 12 * q) / 12 = q := by omega
  have e3 : q - q / 12 * 12 = q := by omega
  have f1 : p + 12 * q - q * 12 = p := by omega
  have pr := s_pairs d p q t D z (h3 (by decide)) hT (by omega) (by omega)
  unfold dk_G2
  rw [e1, e2]
  have b0 : p + 12 * q < 2 ^ 31 := by omega
  generalize p + 12 * q = s at *
  rw [c_Search_isGoal, b_Search_isGoal_0]
  cases hA : dk_A D p q
  · rw [hA] at pr
    simp (disch := first | assumption | omega) only [ds_cI, ds_cV, ds_cL, ds_cR, ds_nn, ds_isK_t, ds_isA_t, ds_chk_t, ds_chkN, ds_nz_t, ds_nzN, ds_isB_t, ds_isB_bo, ↓dl_m1, ↓dl_m2, dl_0, dl_1, dl_2, dl_3, dl_4, dl_5, dl_6, dl_7, dl_8, dl_9, dl_10, dl_11, dl_12, dl_13, dl_14, dl_15, dl_16, dl_20, dl_24, dl_31, dl_50, dl_57, dl_67, dl_68, dl_74, dl_75, dl_79, dl_80, dl_99, dl_100, dl_200, dl_210, dl_224, dl_255, dl_289, dl_900, dl_1000, dl_1728, dl_65536, dl_65537, nI_add, pk_mul, pk_sub, pk_div, pk_rem, ds_rem2, nI_clamp, nI_leI, nI_ltI, nI_eq, ds_m1_eq, ds_eq_m1, ds_m2_eq, ds_eq_m2, ds_m1_le, ds_le_m1, ds_m1_lt, ds_lt_m1, ds_in_N, ds_bo0, ds_bo1, if_pos, if_neg, Nat.not_le, Nat.not_lt, not_true_eq_false, not_false_eq_true, if_true, if_false, ne_eq, Option.some.injEq, Prod.mk.injEq, Value.int.injEq, true_and, and_true, and_self, ite_self, Bool.not_eq_true, Bool.not_eq_false, Bool.true_eq_false, Bool.false_eq_true, reduceCtorEq, Nat.zero_add, Nat.reduceAdd, Nat.reduceMul, Nat.reduceSub, ds_setI_row, ds_setL_row, ds_rowI_self, ds_rowI_ne, ds_rowI_2, ds_rowI_rowI, ds_setS_1, ds_setS_21, ds_setS_self, ds_setS_ne, pk_us, pk_un, h4, e2, e3, f1, pr]
    rfl
  · rw [hA] at pr
    simp (disch := first | assumption | omega) only [ds_cI, ds_cV, ds_cL, ds_cR, ds_nn, ds_isK_t, ds_isA_t, ds_chk_t, ds_chkN, ds_nz_t, ds_nzN, ds_isB_t, ds_isB_bo, ↓dl_m1, ↓dl_m2, dl_0, dl_1, dl_2, dl_3, dl_4, dl_5, dl_6, dl_7, dl_8, dl_9, dl_10, dl_11, dl_12, dl_13, dl_14, dl_15, dl_16, dl_20, dl_24, dl_31, dl_50, dl_57, dl_67, dl_68, dl_74, dl_75, dl_79, dl_80, dl_99, dl_100, dl_200, dl_210, dl_224, dl_255, dl_289, dl_900, dl_1000, dl_1728, dl_65536, dl_65537, nI_add, pk_mul, pk_sub, pk_div, pk_rem, ds_rem2, nI_clamp, nI_leI, nI_ltI, nI_eq, ds_m1_eq, ds_eq_m1, ds_m2_eq, ds_eq_m2, ds_m1_le, ds_le_m1, ds_m1_lt, ds_lt_m1, ds_in_N, ds_bo0, ds_bo1, if_pos, if_neg, Nat.not_le, Nat.not_lt, not_true_eq_false, not_false_eq_true, if_true, if_false, ne_eq, Option.some.injEq, Prod.mk.injEq, Value.int.injEq, true_and, and_true, and_self, ite_self, Bool.not_eq_true, Bool.not_eq_false, Bool.true_eq_false, Bool.false_eq_true, reduceCtorEq, Nat.zero_add, Nat.reduceAdd, Nat.reduceMul, Nat.reduceSub, ds_setI_row, ds_setL_row, ds_rowI_self, ds_rowI_ne, ds_rowI_2, ds_rowI_rowI, ds_setS_1, ds_setS_21, ds_setS_self, ds_setS_ne, pk_us, pk_un, h4, e2, e3, f1, pr]
    rfl
theorem s_go3 (d c pl t : Nat) (D : Nat → Nat → Nat) (c12 : c ≤ 12) : ∀ z s, dk_Pz 3 c pl t D z → dk_V3 c s → ds_call (d + 3) j_Search_isGoal [.ref 70, .int (nI s)] z = some (some (.int (ds_bo (dk_G3 D s))), z) := by
  intro z s hz hs
  obtain ⟨p, q, r, p1, q1, r1, _, _, _, rfl⟩ := hs
  obtain ⟨h4, h5, h6, h3, hT⟩ := hz
  have e1 : (p + 12 * q + 144 * r) % 12 = p := by omega
  have e2 : (p + 12 * q + 144 * r) / 12 = q + 12 * r := by omega
  have e2' : (q + 12 * r) % 12 = q := by omega
  have f1 : p + 12 * q + 144 * r - (q + 12 * r) * 12 = p := by omega
  have f2 : q + 12 * r - r * 12 = q := by omega
  have f3 : (q + 12 * r) / 12 = r := by omega
  have e5 : (p + 12 * q + 144 * r) / 144 = r := by omega
  have pr := fun p q => s_pairs d p q t D z (h3 (by decide)) hT
  have pr1 := pr p q (by omega) (by omega)
  have pr2 := pr p r (by omega) (by omega)
  have pr3 := pr q r (by omega) (by omega)
  unfold dk_G3
  rw [e1, e2, e2', e5]
  have b0 : p + 12 * q + 144 * r < 2 ^ 31 := by omega
  generalize p + 12 * q + 144 * r = s at *
  have b1 : q + 12 * r < 2 ^ 31 := by omega
  generalize q + 12 * r = s2 at *
  rw [c_Search_isGoal, b_Search_isGoal_0]
  generalize dk_A D p q = A1 at *
  generalize dk_A D p r = A2 at *
  generalize dk_A D q r = A3 at *
  simp (disch := first | assumption | omega) only [ds_cI, ds_cV, ds_cL, ds_cR, ds_nn, ds_isK_t, ds_isA_t, ds_chk_t, ds_chkN, ds_nz_t, ds_nzN, ds_isB_t, ds_isB_bo, ↓dl_m1, ↓dl_m2, dl_0, dl_1, dl_2, dl_3, dl_4, dl_5, dl_6, dl_7, dl_8, dl_9, dl_10, dl_11, dl_12, dl_13, dl_14, dl_15, dl_16, dl_20, dl_24, dl_31, dl_50, dl_57, dl_67, dl_68, dl_74, dl_75, dl_79, dl_80, dl_99, dl_100, dl_200, dl_210, dl_224, dl_255, dl_289, dl_900, dl_1000, dl_1728, dl_65536, dl_65537, nI_add, pk_mul, pk_sub, pk_div, pk_rem, ds_rem2, nI_clamp, nI_leI, nI_ltI, nI_eq, ds_m1_eq, ds_eq_m1, ds_m2_eq, ds_eq_m2, ds_m1_le, ds_le_m1, ds_m1_lt, ds_lt_m1, ds_in_N, ds_bo0, ds_bo1, if_pos, if_neg, Nat.not_le, Nat.not_lt, not_true_eq_false, not_false_eq_true, if_true, if_false, ne_eq, Option.some.injEq, Prod.mk.injEq, Value.int.injEq, true_and, and_true, and_self, ite_self, Bool.not_eq_true, Bool.not_eq_false, Bool.true_eq_false, Bool.false_eq_true, reduceCtorEq, Nat.zero_add, Nat.reduceAdd, Nat.reduceMul, Nat.reduceSub, ds_setI_row, ds_setL_row, ds_rowI_self, ds_rowI_ne, ds_rowI_2, ds_rowI_rowI, ds_setS_1, ds_setS_21, ds_setS_self, ds_setS_ne, pk_us, pk_un, h4, dl_144, e2, f1, f2, f3, e5, pr1, pr2, pr3]
  cases A1 <;> cases A2 <;> cases A3 <;> rfl
/-! whether it can be -/
def dk_ush (x : Int32) (k : Int32) : Int32 := (x.toUInt32 >>> (k.toUInt32 &&& Int32.toUInt32 31)).toInt32
def dk_bc1 (x : Int32) : Int32 := x - (dk_ush x 1 &&& 1431655765)
def dk_bc2 (x : Int32) : Int32 := (x &&& 858993459) + (dk_ush x 2 &&& 858993459)
def dk_bc3 (x : Int32) : Int32 := (x + dk_ush x 4) &&& 252645135
def dk_bc4 (x : Int32) : Int32 := x + dk_ush x 8
def dk_bc5 (x : Int32) : Int32 := x + dk_ush x 16
def dk_bc (x : Int32) : Int32 := dk_bc5 (dk_bc4 (dk_bc3 (dk_bc2 (dk_bc1 x)))) &&& 63
theorem s_bitCount (d : Nat) (x : Int32) (z : ds_St) : ds_call (d + 1) j_Integer_bitCount [.int x] z = some (some (.int (dk_bc x)), z) := by
  rw [c_Integer_bitCount, b_Integer_bitCount_0]
  rfl
def dk_pop (x : Nat) : Nat := dk_sum (fun i => dk_n (x.testBit i)) 12
theorem dk_bc_ok : ∀ a, a < 64 → ∀ b, b < 64 → dk_bc (nI (64 * a + b)) = nI (dk_pop (64 * a + b)) := by decide +kernel
theorem dk_bc_pop {x : Nat} (h : x < 4096) : dk_bc (nI x) = nI (dk_pop x) := by
  have := dk_bc_ok (x / 64) (by omega) (x % 64) (by omega)
  rwa [show 64 * (x / 64) + x % 64 = x by omega] at this
theorem dk_pop_1 {x q : Nat} (hq : q < 12) (h : x.testBit q = true) : 1 ≤ dk_pop x := by
  have e := dk_sum_delta q (fun _ => 1) 12
  rw [if_pos hq] at e
  have := dk_sum_mono (f := fun i => if q = i then 1 else 0) (g := fun i => dk_n (x.testBit i)) (n := 12) (fun k _ => by
    by_cases a : q = k
    · subst a
      rw [if_pos rfl, h]
      decide
    · rw [if_neg a]; exact Nat.zero_le _)
  unfold dk_pop
  omega
theorem dk_pop_2 {x q r : Nat} (hq : q < 12) (hr : r < 12) (hn : q ≠ r) (h : x.testBit q = true) (h2 : x.testBit r = true) : 2 ≤ dk_pop x := by
  have e := dk_sum_delta q (fun _ => 1) 12
  rw [if_pos hq] at e
  have e2 := dk_sum_delta r (fun _ => 1) 12
  rw [if_pos hr] at e2
  have e3 := dk_sum_add (fun i => if q = i then 1 else 0) (fun i => if r = i then 1 else 0) 12
  have := dk_sum_mono (f := fun i => (if q = i then 1 else 0) + (if r = i then 1 else 0)) (g := fun i => dk_n (x.testBit i)) (n := 12) (fun k _ => by
    by_cases a : q = k
    · subst a
      rw [if_pos rfl, if_neg (fun b => hn b.symm), h]
      decide
    · rw [if_neg a]
      by_cases b : r = k
      · subst b
        rw [if_pos rfl, h2]
        decide
      · rw [if_neg b]; exact Nat.zero_le _)
  unfold dk_pop
  omega
def dk_cbe (D : Nat → Nat → Nat) (kk c : Nat) : Bool := dk_any (fun p => decide (kk - 1 ≤ dk_pop (ds_bs (dk_A D p) c))) c
theorem s_cb1 (d c pl t : Nat) (D : Nat → Nat → Nat) (c2 : 2 ≤ c) (c12 : c ≤ 12) : ∀ z, dk_Pz 1 c pl t D z → ds_call (d + 1) j_Search_canBe [.ref 70] z = some (some (.int (ds_bo true)), z) := by
  intro z hz
  obtain ⟨h4, h5, h6, h3, hT⟩ := hz
  rw [c_Search_canBe, b_Search_canBe_0, b_Search_canBe_11]
  simp (disch := first | assumption | omega) only [ds_cI, ds_cV, ds_cL, ds_cR, ds_nn, ds_isK_t, ds_isA_t, ds_chk_t, ds_chkN, ds_nz_t, ds_nzN, ds_isB_t, ds_isB_bo, ↓dl_m1, ↓dl_m2, dl_0, dl_1, dl_2, dl_3, dl_4, dl_5, dl_6, dl_7, dl_8, dl_9, dl_10, dl_11, dl_12, dl_13, dl_14, dl_15, dl_16, dl_20, dl_24, dl_31, dl_50, dl_57, dl_67, dl_68, dl_74, dl_75, dl_79, dl_80, dl_99, dl_100, dl_200, dl_210, dl_224, dl_255, dl_289, dl_900, dl_1000, dl_1728, dl_65536, dl_65537, nI_add, pk_mul, pk_sub, pk_div, pk_rem, ds_rem2, nI_clamp, nI_leI, nI_ltI, nI_eq, ds_m1_eq, ds_eq_m1, ds_m2_eq, ds_eq_m2, ds_m1_le, ds_le_m1, ds_m1_lt, ds_lt_m1, ds_in_N, ds_bo0, ds_bo1, if_pos, if_neg, Nat.not_le, Nat.not_lt, not_true_eq_false, not_false_eq_true, if_true, if_false, ne_eq, Option.some.injEq, Prod.mk.injEq, Value.int.injEq, true_and, and_true, and_self, ite_self, Bool.not_eq_true, Bool.not_eq_false, Bool.true_eq_false, Bool.false_eq_true, reduceCtorEq, Nat.zero_add, Nat.reduceAdd, Nat.reduceMul, Nat.reduceSub, ds_setI_row, ds_setL_row, ds_rowI_self, ds_rowI_ne, ds_rowI_2, ds_rowI_rowI, ds_setS_1, ds_setS_21, ds_setS_self, ds_setS_ne, pk_us, pk_un, h4, h5]
  rfl
theorem s_cb (d kk c pl t : Nat) (D : Nat → Nat → Nat) (k2 : 2 ≤ kk) (k3 : kk ≤ 3) (c12 : c ≤ 12) : ∀ z, dk_Pz kk c pl t D z → ds_call (d + 2) j_Search_canBe [.ref 70] z = some (some (.int (ds_bo (dk_cbe D kk c))), z) := by
  intro z hz
  obtain ⟨h4, h5, h6, h3, hT⟩ := hz
  have h3' := h3 (by omega)
  have ht := hT.1
  have p12 : 2 ^ c ≤ 4096 := Nat.pow_le_pow_right (n := 2) (by decide) c12
  have p1 : 1 ≤ 2 ^ c := Nat.one_le_two_pow
  have go : ∀ m p, p + m = c → (∀ q, q < p → decide (kk - 1 ≤ dk_pop (ds_bs (dk_A D q) c)) = false) → ds_Rw ds_c_Search_canBe ds_u_Search_canBe (ds_call (d + 1)) 11 [some (.ref 70), some (.int (nI ((2 ^ c - 1)))), some (.int (nI p))] [] z = some (some (.int (ds_bo (dk_cbe D kk c))), z) := by
    intro m
    induction m with
    | zero =>
      intro p hp hn
      have : p = c := by omega
      subst this
      have e : dk_cbe D kk p = false := (dk_any_f _ _).mpr hn
      rw [e, b_Search_canBe_11]
      simp (disch := first | assumption | omega) only [ds_cI, ds_cV, ds_cL, ds_cR, ds_nn, ds_isK_t, ds_isA_t, ds_chk_t, ds_chkN, ds_nz_t, ds_nzN, ds_isB_t, ds_isB_bo, ↓dl_m1, ↓dl_m2, dl_0, dl_1, dl_2, dl_3, dl_4, dl_5, dl_6, dl_7, dl_8, dl_9, dl_10, dl_11, dl_12, dl_13, dl_14, dl_15, dl_16, dl_20, dl_24, dl_31, dl_50, dl_57, dl_67, dl_68, dl_74, dl_75, dl_79, dl_80, dl_99, dl_100, dl_200, dl_210, dl_224, dl_255, dl_289, dl_900, dl_1000, dl_1728, dl_65536, dl_65537, nI_add, pk_mul, pk_sub, pk_div, pk_rem, ds_rem2, nI_clamp, nI_leI, nI_ltI, nI_eq, ds_m1_eq, ds_eq_m1, ds_m2_eq, ds_eq_m2, ds_m1_le, ds_le_m1, ds_m1_lt, ds_lt_m1, ds_in_N, ds_bo0, ds_bo1, if_pos, if_neg, Nat.not_le, Nat.not_lt, not_true_eq_false, not_false_eq_true, if_true, if_false, ne_eq, Option.some.injEq, Prod.mk.injEq, Value.int.injEq, true_and, and_true, and_self, ite_self, Bool.not_eq_true, Bool.not_eq_false, Bool.true_eq_false, Bool.false_eq_true, reduceCtorEq, Nat.zero_add, Nat.reduceAdd, Nat.reduceMul, Nat.reduceSub, ds_setI_row, ds_setL_row, ds_rowI_self, ds_rowI_ne, ds_rowI_2, ds_rowI_rowI, ds_setS_1, ds_setS_21, ds_setS_self, ds_setS_ne, pk_us, pk_un, h5]
      rfl
    | succ m ih =>
      intro p hp hn
      have nr := hT.2.2.2.2.2.2 p (by omega)
      have lk := s_lookT d t 10 p z ht (by decide) (by omega)
      rw [nr] at lk
      have ec : dk_nb (D 0 0) (D 0 1) (D 0 3) p &&& (2 ^ c - 1) = ds_bs (dk_A D p) c := dk_bs_cut _ c12
      have lt := ds_bs_lt (dk_A D p) c
      have bc := s_bitCount d (nI (ds_bs (dk_A D p) c)) z
      rw [dk_bc_pop (by omega)] at bc
      have pl : dk_pop (ds_bs (dk_A D p) c) ≤ 12 := by
        have := dk_sum_le (f := fun i => dk_n ((ds_bs (dk_A D p) c).testBit i)) (b := 1) (n := 12) (fun k _ => by unfold dk_n; split <;> omega)
        unfold dk_pop
        omega
      rw [b_Search_canBe_11]
      have nk : ¬ kk = 1 := by omega
      by_cases q : kk - 1 ≤ dk_pop (ds_bs (dk_A D p) c)
      · have e : dk_cbe D kk c = true := (dk_any_iff _ _).mpr ⟨p, by omega, decide_eq_true q⟩
        rw [e]
        generalize dk_pop (ds_bs (dk_A D p) c) = w at *
        generalize ds_bs (dk_A D p) c = w2 at *
        generalize dk_nb (D 0 0) (D 0 1) (D 0 3) p = w3 at *
        generalize 2 ^ c - 1 = w4 at *
        simp (disch := first | assumption | omega) only [ds_cI, ds_cV, ds_cL, ds_cR, ds_nn, ds_isK_t, ds_isA_t, ds_chk_t, ds_chkN, ds_nz_t, ds_nzN, ds_isB_t, ds_isB_bo, ↓dl_m1, ↓dl_m2, dl_0, dl_1, dl_2, dl_3, dl_4, dl_5, dl_6, dl_7, dl_8, dl_9, dl_10, dl_11, dl_12, dl_13, dl_14, dl_15, dl_16, dl_20, dl_24, dl_31, dl_50, dl_57, dl_67, dl_68, dl_74, dl_75, dl_79, dl_80, dl_99, dl_100, dl_200, dl_210, dl_224, dl_255, dl_289, dl_900, dl_1000, dl_1728, dl_65536, dl_65537, nI_add, pk_mul, pk_sub, pk_div, pk_rem, ds_rem2, nI_clamp, nI_leI, nI_ltI, nI_eq, ds_m1_eq, ds_eq_m1, ds_m2_eq, ds_eq_m2, ds_m1_le, ds_le_m1, ds_m1_lt, ds_lt_m1, ds_in_N, ds_bo0, ds_bo1, if_pos, if_neg, Nat.not_le, Nat.not_lt, not_true_eq_false, not_false_eq_true, if_true, if_false, ne_eq, Option.some.injEq, Prod.mk.injEq, Value.int.injEq, true_and, and_true, and_self, ite_self, Bool.not_eq_true, Bool.not_eq_false, Bool.true_eq_false, Bool.false_eq_true, reduceCtorEq, Nat.zero_add, Nat.reduceAdd, Nat.reduceMul, Nat.reduceSub, ds_setI_row, ds_setL_row, ds_rowI_self, ds_rowI_ne, ds_rowI_2, ds_rowI_rowI, ds_setS_1, ds_setS_21, ds_setS_self, ds_setS_ne, pk_us, pk_un, h4, h5, nk, h3', lk, ds_and, ec, bc]
        rfl
      · have ih' := ih (p + 1) (by omega) (fun q' hq' => by
          rcases Nat.lt_or_ge q' p with a | a
          · exact hn q' a
          · have : q' = p := by omega
            rw [this]
            exact decide_eq_false q)
        generalize dk_cbe D kk c = R at *
        generalize dk_pop (ds_bs (dk_A D p) c) = w at *
        generalize ds_bs (dk_A D p) c = w2 at *
        generalize dk_nb (D 0 0) (D 0 1) (D 0 3) p = w3 at *
        generalize 2 ^ c - 1 = w4 at *
        simp (disch := first | assumption | omega) only [ds_cI, ds_cV, ds_cL, ds_cR, ds_nn, ds_isK_t, ds_isA_t, ds_chk_t, ds_chkN, ds_nz_t, ds_nzN, ds_isB_t, ds_isB_bo, ↓dl_m1, ↓dl_m2, dl_0, dl_1, dl_2, dl_3, dl_4, dl_5, dl_6, dl_7, dl_8, dl_9, dl_10, dl_11, dl_12, dl_13, dl_14, dl_15, dl_16, dl_20, dl_24, dl_31, dl_50, dl_57, dl_67, dl_68, dl_74, dl_75, dl_79, dl_80, dl_99, dl_100, dl_200, dl_210, dl_224, dl_255, dl_289, dl_900, dl_1000, dl_1728, dl_65536, dl_65537, nI_add, pk_mul, pk_sub, pk_div, pk_rem, ds_rem2, nI_clamp, nI_leI, nI_ltI, nI_eq, ds_m1_eq, ds_eq_m1, ds_m2_eq, ds_eq_m2, ds_m1_le, ds_le_m1, ds_m1_lt, ds_lt_m1, ds_in_N, ds_bo0, ds_bo1, if_pos, if_neg, Nat.not_le, Nat.not_lt, not_true_eq_false, not_false_eq_true, if_true, if_false, ne_eq, Option.some.injEq, Prod.mk.injEq, Value.int.injEq, true_and, and_true, and_self, ite_self, Bool.not_eq_true, Bool.not_eq_false, Bool.true_eq_false, Bool.false_eq_true, reduceCtorEq, Nat.zero_add, Nat.reduceAdd, Nat.reduceMul, Nat.reduceSub, ds_setI_row, ds_setL_row, ds_rowI_self, ds_rowI_ne, ds_rowI_2, ds_rowI_rowI, ds_setS_1, ds_setS_21, ds_setS_self, ds_setS_ne, pk_us, pk_un, h4, h5, nk, h3', lk, ds_and, ec, bc, ih']
  have g := go c 0 (by omega) (fun q hq => by omega)
  rw [c_Search_canBe, b_Search_canBe_0]
  generalize dk_cbe D kk c = R at *
  have ep := ds_pow (k := c) (by omega)
  have es : nI (2 ^ c) - nI 1 = nI (2 ^ c - 1) := pk_sub p1
  generalize 2 ^ c - 1 = w4 at *
  generalize 2 ^ c = w5 at *
  simp (disch := first | assumption | omega) only [ds_cI, ds_cV, ds_cL, ds_cR, ds_nn, ds_isK_t, ds_isA_t, ds_chk_t, ds_chkN, ds_nz_t, ds_nzN, ds_isB_t, ds_isB_bo, ↓dl_m1, ↓dl_m2, dl_0, dl_1, dl_2, dl_3, dl_4, dl_5, dl_6, dl_7, dl_8, dl_9, dl_10, dl_11, dl_12, dl_13, dl_14, dl_15, dl_16, dl_20, dl_24, dl_31, dl_50, dl_57, dl_67, dl_68, dl_74, dl_75, dl_79, dl_80, dl_99, dl_100, dl_200, dl_210, dl_224, dl_255, dl_289, dl_900, dl_1000, dl_1728, dl_65536, dl_65537, nI_add, pk_mul, pk_sub, pk_div, pk_rem, ds_rem2, nI_clamp, nI_leI, nI_ltI, nI_eq, ds_m1_eq, ds_eq_m1, ds_m2_eq, ds_eq_m2, ds_m1_le, ds_le_m1, ds_m1_lt, ds_lt_m1, ds_in_N, ds_bo0, ds_bo1, if_pos, if_neg, Nat.not_le, Nat.not_lt, not_true_eq_false, not_false_eq_true, if_true, if_false, ne_eq, Option.some.injEq, Prod.mk.injEq, Value.int.injEq, true_and, and_true, and_self, ite_self, Bool.not_eq_true, Bool.not_eq_false, Bool.true_eq_false, Bool.false_eq_true, reduceCtorEq, Nat.zero_add, Nat.reduceAdd, Nat.reduceMul, Nat.reduceSub, ds_setI_row, ds_setL_row, ds_rowI_self, ds_rowI_ne, ds_rowI_2, ds_rowI_rowI, ds_setS_1, ds_setS_21, ds_setS_self, ds_setS_ne, pk_us, pk_un, h5, ep, es, g]
theorem dk_cf2 {D : Nat → Nat → Nat} {c : Nat} (c12 : c ≤ 12) (h : dk_cbe D 2 c = false) : ∀ s, dk_V2 c s → dk_G2 D s = false := by
  intro s hs
  obtain ⟨p, q, p1, q1, _, rfl⟩ := hs
  have e1 : (p + 12 * q) % 12 = p := by omega
  have e2 : (p + 12 * q) / 12 = q := by omega
  unfold dk_G2
  rw [e1, e2]
  cases hA : dk_A D p q
  · rfl
  · exfalso
    have h1 := (dk_any_f _ _).mp h p p1
    have h2 : ¬ 2 - 1 ≤ dk_pop (ds_bs (dk_A D p) c) := by simpa using h1
    have := dk_pop_1 (x := ds_bs (dk_A D p) c) (show q < 12 by omega) (by rw [ds_bs_tb, decide_eq_true q1, hA]; rfl)
    omega
theorem dk_cf3 {D : Nat → Nat → Nat} {c : Nat} (c12 : c ≤ 12) (h : dk_cbe D 3 c = false) : ∀ s, dk_V3 c s → dk_G3 D s = false := by
  intro s hs
  obtain ⟨p, q, r, p1, q1, r1, n1, n2, n3, rfl⟩ := hs
  have e1 : (p + 12 * q + 144 * r) % 12 = p := by omega
  have e2 : (p + 12 * q + 144 * r) / 12 % 12 = q := by omega
  have e5 : (p + 12 * q + 144 * r) / 144 = r := by omega
  unfold dk_G3
  rw [e1, e2, e5]
  have two : ∀ a b e, a < c → b < c → e < c → b ≠ e → dk_A D a b = true → dk_A D a e = true → False := by
    intro a b e ha hb he hbe A1 A2
    have h1 := (dk_any_f _ _).mp h a ha
    have h2 : ¬ 3 - 1 ≤ dk_pop (ds_bs (dk_A D a) c) := by simpa using h1
    have := dk_pop_2 (x := ds_bs (dk_A D a) c) (show b < 12 by omega) (show e < 12 by omega) hbe (by rw [ds_bs_tb, decide_eq_true hb, A1]; rfl) (by rw [ds_bs_tb, decide_eq_true he, A2]; rfl)
    omega
  cases A1 : dk_A D p q <;> cases A2 : dk_A D p r <;> cases A3 : dk_A D q r
  · rfl
  · rfl
  · rfl
  · exact (two r p q r1 p1 q1 n1 (by rw [dk_A_sym]; exact A2) (by rw [dk_A_sym]; exact A3)).elim
  · rfl
  · exact (two q p r q1 p1 r1 n2 (by rw [dk_A_sym]; exact A1) A3).elim
  · exact (two p q r p1 q1 r1 n3 A1 A2).elim
  · exact (two p q r p1 q1 r1 n3 A1 A2).elim
/-! model -/
def dk_Pm (kd kk pl : Nat) (D : Nat → Nat → Nat) (K : Nat → Nat) (z : ds_St) : Prop := dk_HM z D K ∧ z.1 90 36 = nI kd ∧ z.1 90 39 = nI kk ∧ (kd = 0 → z.1 90 37 = nI pl)
theorem dk_Pm_m3 {kd kk pl : Nat} {D : Nat → Nat → Nat} {K : Nat → Nat} : ∀ z z', dk_Pm kd kk pl D K z → dk_m3 z z' → dk_Pm kd kk pl D K z' := fun z z' h hf => by
  obtain ⟨a, b, c, e⟩ := h
  refine ⟨dk_HM_q a (hf.1 93 (by decide) (by decide) (by decide) (by decide)) (hf.1 95 (by decide) (by decide) (by decide) (by decide)) (hf.2.1 14 (by decide)), ?_, ?_, fun q => ?_⟩
  · rw [hf.2.1 36 (by decide)]; exact b
  · rw [hf.2.1 39 (by decide)]; exact c
  · rw [hf.2.1 37 (by decide)]; exact e q
theorem s_mmm (d kd kk pl : Nat) (D : Nat → Nat → Nat) (K : Nat → Nat) (hK : dk_okK D K) : ∀ z, dk_Pm kd kk pl D K z → ds_call (d + 1) j_Mod_movesOf [.ref 90, .ref 95] z = some (some (.int (nI (K 12 + 2))), z) := fun z hz => s_mmovesOf d (K 12) 95 z rfl rfl (dk_HM_dm hz.1 hK).2.1
theorem s_stateOf (d a b c : Nat) (z : ds_St) : ds_call (d + 1) j_Mod_stateOf [.ref 90, .int (nI a), .int (nI b), .int (nI c)] z = some (some (.int (nI (a + 12 * b + 144 * c))), z) := by
  rw [c_Mod_stateOf, b_Mod_stateOf_0]
  simp (disch := first | assumption | omega) only [ds_cI, ds_cV, ds_cL, ds_cR, ds_nn, ds_isK_t, ds_isA_t, ds_chk_t, ds_chkN, ds_nz_t, ds_nzN, ds_isB_t, ds_isB_bo, ↓dl_m1, ↓dl_m2, dl_0, dl_1, dl_2, dl_3, dl_4, dl_5, dl_6, dl_7, dl_8, dl_9, dl_10, dl_11, dl_12, dl_13, dl_14, dl_15, dl_16, dl_20, dl_24, dl_31, dl_50, dl_57, dl_67, dl_68, dl_74, dl_75, dl_79, dl_80, dl_99, dl_100, dl_200, dl_210, dl_224, dl_255, dl_289, dl_900, dl_1000, dl_1728, dl_65536, dl_65537, nI_add, pk_mul, pk_sub, pk_div, pk_rem, ds_rem2, nI_clamp, nI_leI, nI_ltI, nI_eq, ds_m1_eq, ds_eq_m1, ds_m2_eq, ds_eq_m2, ds_m1_le, ds_le_m1, ds_m1_lt, ds_lt_m1, ds_in_N, ds_bo0, ds_bo1, if_pos, if_neg, Nat.not_le, Nat.not_lt, not_true_eq_false, not_false_eq_true, if_true, if_false, ne_eq, Option.some.injEq, Prod.mk.injEq, Value.int.injEq, true_and, and_true, and_self, ite_self, Bool.not_eq_true, Bool.not_eq_false, Bool.true_eq_false, Bool.false_eq_true, reduceCtorEq, Nat.zero_add, Nat.reduceAdd, Nat.reduceMul, Nat.reduceSub, ds_setI_row, ds_setL_row, ds_rowI_self, ds_rowI_ne, ds_rowI_2, ds_rowI_rowI, ds_setS_1, ds_setS_21, ds_setS_self, ds_setS_ne, pk_us, pk_un, dl_144]
theorem s_mv1 (d pl : Nat) (D : Nat → Nat → Nat) (K : Nat → Nat) (hK : dk_okK D K) : ∀ z s m, dk_Pm 0 1 pl D K z → dk_V1 (K 12) s → m < K 12 + 2 → ds_call (d + 2) j_Mod_moved [.ref 90, .int (nI s), .int (nI m)] z = some (some (.int (nI (dk_N1 (K 12) s m))), z) := by
  intro z s m hz hs hm
  have c12 := hK.1
  have c1 := (dk_HM_dm hz.1 hK).2.1
  have h39 := hz.2.2.1
  have hs' : s < K 12 := hs
  have g := s_mgoesTo d m s (K 12) z (by omega) (by omega) hs'
  have so := s_stateOf d (ds_mv m s (K 12)) 0 0 z
  unfold dk_N1
  generalize ds_mv m s (K 12) = w at *
  generalize K 12 = c at *
  have e1 : s - s / 12 * 12 = s := by omega
  rw [c_Mod_moved, b_Mod_moved_0]
  simp (disch := first | assumption | omega) only [ds_cI, ds_cV, ds_cL, ds_cR, ds_nn, ds_isK_t, ds_isA_t, ds_chk_t, ds_chkN, ds_nz_t, ds_nzN, ds_isB_t, ds_isB_bo, ↓dl_m1, ↓dl_m2, dl_0, dl_1, dl_2, dl_3, dl_4, dl_5, dl_6, dl_7, dl_8, dl_9, dl_10, dl_11, dl_12, dl_13, dl_14, dl_15, dl_16, dl_20, dl_24, dl_31, dl_50, dl_57, dl_67, dl_68, dl_74, dl_75, dl_79, dl_80, dl_99, dl_100, dl_200, dl_210, dl_224, dl_255, dl_289, dl_900, dl_1000, dl_1728, dl_65536, dl_65537, nI_add, pk_mul, pk_sub, pk_div, pk_rem, ds_rem2, nI_clamp, nI_leI, nI_ltI, nI_eq, ds_m1_eq, ds_eq_m1, ds_m2_eq, ds_eq_m2, ds_m1_le, ds_le_m1, ds_m1_lt, ds_lt_m1, ds_in_N, ds_bo0, ds_bo1, if_pos, if_neg, Nat.not_le, Nat.not_lt, not_true_eq_false, not_false_eq_true, if_true, if_false, ne_eq, Option.some.injEq, Prod.mk.injEq, Value.int.injEq, true_and, and_true, and_self, ite_self, Bool.not_eq_true, Bool.not_eq_false, Bool.true_eq_false, Bool.false_eq_true, reduceCtorEq, Nat.zero_add, Nat.reduceAdd, Nat.reduceMul, Nat.reduceSub, ds_setI_row, ds_setL_row, ds_rowI_self, ds_rowI_ne, ds_rowI_2, ds_rowI_rowI, ds_setS_1, ds_setS_21, ds_setS_self, ds_setS_ne, pk_us, pk_un, c1, h39, e1, g]
  rw [b_Mod_moved_46]
  simp (disch := first | assumption | omega) only [ds_cI, ds_cV, ds_cL, ds_cR, ds_nn, ds_isK_t, ds_isA_t, ds_chk_t, ds_chkN, ds_nz_t, ds_nzN, ds_isB_t, ds_isB_bo, ↓dl_m1, ↓dl_m2, dl_0, dl_1, dl_2, dl_3, dl_4, dl_5, dl_6, dl_7, dl_8, dl_9, dl_10, dl_11, dl_12, dl_13, dl_14, dl_15, dl_16, dl_20, dl_24, dl_31, dl_50, dl_57, dl_67, dl_68, dl_74, dl_75, dl_79, dl_80, dl_99, dl_100, dl_200, dl_210, dl_224, dl_255, dl_289, dl_900, dl_1000, dl_1728, dl_65536, dl_65537, nI_add, pk_mul, pk_sub, pk_div, pk_rem, ds_rem2, nI_clamp, nI_leI, nI_ltI, nI_eq, ds_m1_eq, ds_eq_m1, ds_m2_eq, ds_eq_m2, ds_m1_le, ds_le_m1, ds_m1_lt, ds_lt_m1, ds_in_N, ds_bo0, ds_bo1, if_pos, if_neg, Nat.not_le, Nat.not_lt, not_true_eq_false, not_false_eq_true, if_true, if_false, ne_eq, Option.some.injEq, Prod.mk.injEq, Value.int.injEq, true_and, and_true, and_self, ite_self, Bool.not_eq_true, Bool.not_eq_false, Bool.true_eq_false, Bool.false_eq_true, reduceCtorEq, Nat.zero_add, Nat.reduceAdd, Nat.reduceMul, Nat.reduceSub, ds_setI_row, ds_setL_row, ds_rowI_self, ds_rowI_ne, ds_rowI_2, ds_rowI_rowI, ds_setS_1, ds_setS_21, ds_setS_self, ds_setS_ne, pk_us, pk_un, h39]
  rw [b_Mod_moved_78]
  simp (disch := first | assumption | omega) only [ds_cI, ds_cV, ds_cL, ds_cR, ds_nn, ds_isK_t, ds_isA_t, ds_chk_t, ds_chkN, ds_nz_t, ds_nzN, ds_isB_t, ds_isB_bo, ↓dl_m1, ↓dl_m2, dl_0, dl_1, dl_2, dl_3, dl_4, dl_5, dl_6, dl_7, dl_8, dl_9, dl_10, dl_11, dl_12, dl_13, dl_14, dl_15, dl_16, dl_20, dl_24, dl_31, dl_50, dl_57, dl_67, dl_68, dl_74, dl_75, dl_79, dl_80, dl_99, dl_100, dl_200, dl_210, dl_224, dl_255, dl_289, dl_900, dl_1000, dl_1728, dl_65536, dl_65537, nI_add, pk_mul, pk_sub, pk_div, pk_rem, ds_rem2, nI_clamp, nI_leI, nI_ltI, nI_eq, ds_m1_eq, ds_eq_m1, ds_m2_eq, ds_eq_m2, ds_m1_le, ds_le_m1, ds_m1_lt, ds_lt_m1, ds_in_N, ds_bo0, ds_bo1, if_pos, if_neg, Nat.not_le, Nat.not_lt, not_true_eq_false, not_false_eq_true, if_true, if_false, ne_eq, Option.some.injEq, Prod.mk.injEq, Value.int.injEq, true_and, and_true, and_self, ite_self, Bool.not_eq_true, Bool.not_eq_false, Bool.true_eq_false, Bool.false_eq_true, reduceCtorEq, Nat.zero_add, Nat.reduceAdd, Nat.reduceMul, Nat.reduceSub, ds_setI_row, ds_setL_row, ds_rowI_self, ds_rowI_ne, ds_rowI_2, ds_rowI_rowI, ds_setS_1, ds_setS_21, ds_setS_self, ds_setS_ne, pk_us, pk_un, so, Nat.mul_zero, Nat.add_zero]
theorem s_mv2 (d pl : Nat) (D : Nat → Nat → Nat) (K : Nat → Nat) (hK : dk_okK D K) : ∀ z s m, dk_Pm 1 2 pl D K z → dk_V2 (K 12) s → m < K 12 + 2 → ds_call (d + 2) j_Mod_moved [.ref 90, .int (nI s), .int (nI m)] z = some (some (.int (nI (dk_N2 (K 12) s m))), z) := by
  intro z s m hz hs hm
  have c12 := hK.1
  have c1 := (dk_HM_dm hz.1 hK).2.1
  have h39 := hz.2.2.1
  obtain ⟨p, q, p1, q1, _, rfl⟩ := hs
  have e1 : (p + 12 * q) % 12 = p := by omega
  have e2 : (p + 12 * q) / 12 = q := by omega
  have e3 : q - q / 12 * 12 = q := by omega
  have f1 : p + 12 * q - q * 12 = p := by omega
  have g := s_mgoesTo d m p (K 12) z (by omega) (by omega) p1
  have g2 := s_mgoesTo d m q (K 12) z (by omega) (by omega) q1
  have so := s_stateOf d (ds_mv m p (K 12)) (ds_mv m q (K 12)) 0 z
  unfold dk_N2
  rw [e1, e2]
  generalize ds_mv m p (K 12) = w at *
  generalize ds_mv m q (K 12) = w2 at *
  have b0 : p + 12 * q < 2 ^ 31 := by omega
  generalize p + 12 * q = s at *
  generalize K 12 = c at *
  rw [c_Mod_moved, b_Mod_moved_0]
  simp (disch := first | assumption | omega) only [ds_cI, ds_cV, ds_cL, ds_cR, ds_nn, ds_isK_t, ds_isA_t, ds_chk_t, ds_chkN, ds_nz_t, ds_nzN, ds_isB_t, ds_isB_bo, ↓dl_m1, ↓dl_m2, dl_0, dl_1, dl_2, dl_3, dl_4, dl_5, dl_6, dl_7, dl_8, dl_9, dl_10, dl_11, dl_12, dl_13, dl_14, dl_15, dl_16, dl_20, dl_24, dl_31, dl_50, dl_57, dl_67, dl_68, dl_74, dl_75, dl_79, dl_80, dl_99, dl_100, dl_200, dl_210, dl_224, dl_255, dl_289, dl_900, dl_1000, dl_1728, dl_65536, dl_65537, nI_add, pk_mul, pk_sub, pk_div, pk_rem, ds_rem2, nI_clamp, nI_leI, nI_ltI, nI_eq, ds_m1_eq, ds_eq_m1, ds_m2_eq, ds_eq_m2, ds_m1_le, ds_le_m1, ds_m1_lt, ds_lt_m1, ds_in_N, ds_bo0, ds_bo1, if_pos, if_neg, Nat.not_le, Nat.not_lt, not_true_eq_false, not_false_eq_true, if_true, if_false, ne_eq, Option.some.injEq, Prod.mk.injEq, Value.int.injEq, true_and, and_true, and_self, ite_self, Bool.not_eq_true, Bool.not_eq_false, Bool.true_eq_false, Bool.false_eq_true, reduceCtorEq, Nat.zero_add, Nat.reduceAdd, Nat.reduceMul, Nat.reduceSub, ds_setI_row, ds_setL_row, ds_rowI_self, ds_rowI_ne, ds_rowI_2, ds_rowI_rowI, ds_setS_1, ds_setS_21, ds_setS_self, ds_setS_ne, pk_us, pk_un, c1, h39, e2, e3, f1, g, g2]
  rw [b_Mod_moved_46]
  simp (disch := first | assumption | omega) only [ds_cI, ds_cV, ds_cL, ds_cR, ds_nn, ds_isK_t, ds_isA_t, ds_chk_t, ds_chkN, ds_nz_t, ds_nzN, ds_isB_t, ds_isB_bo, ↓dl_m1, ↓dl_m2, dl_0, dl_1, dl_2, dl_3, dl_4, dl_5, dl_6, dl_7, dl_8, dl_9, dl_10, dl_11, dl_12, dl_13, dl_14, dl_15, dl_16, dl_20, dl_24, dl_31, dl_50, dl_57, dl_67, dl_68, dl_74, dl_75, dl_79, dl_80, dl_99, dl_100, dl_200, dl_210, dl_224, dl_255, dl_289, dl_900, dl_1000, dl_1728, dl_65536, dl_65537, nI_add, pk_mul, pk_sub, pk_div, pk_rem, ds_rem2, nI_clamp, nI_leI, nI_ltI, nI_eq, ds_m1_eq, ds_eq_m1, ds_m2_eq, ds_eq_m2, ds_m1_le, ds_le_m1, ds_m1_lt, ds_lt_m1, ds_in_N, ds_bo0, ds_bo1, if_pos, if_neg, Nat.not_le, Nat.not_lt, not_true_eq_false, not_false_eq_true, if_true, if_false, ne_eq, Option.some.injEq, Prod.mk.injEq, Value.int.injEq, true_and, and_true, and_self, ite_self, Bool.not_eq_true, Bool.not_eq_false, Bool.true_eq_false, Bool.false_eq_true, reduceCtorEq, Nat.zero_add, Nat.reduceAdd, Nat.reduceMul, Nat.reduceSub, ds_setI_row, ds_setL_row, ds_rowI_self, ds_rowI_ne, ds_rowI_2, ds_rowI_rowI, ds_setS_1, ds_setS_21, ds_setS_self, ds_setS_ne, pk_us, pk_un, h39]
  rw [b_Mod_moved_78]
  simp (disch := first | assumption | omega) only [ds_cI, ds_cV, ds_cL, ds_cR, ds_nn, ds_isK_t, ds_isA_t, ds_chk_t, ds_chkN, ds_nz_t, ds_nzN, ds_isB_t, ds_isB_bo, ↓dl_m1, ↓dl_m2, dl_0, dl_1, dl_2, dl_3, dl_4, dl_5, dl_6, dl_7, dl_8, dl_9, dl_10, dl_11, dl_12, dl_13, dl_14, dl_15, dl_16, dl_20, dl_24, dl_31, dl_50, dl_57, dl_67, dl_68, dl_74, dl_75, dl_79, dl_80, dl_99, dl_100, dl_200, dl_210, dl_224, dl_255, dl_289, dl_900, dl_1000, dl_1728, dl_65536, dl_65537, nI_add, pk_mul, pk_sub, pk_div, pk_rem, ds_rem2, nI_clamp, nI_leI, nI_ltI, nI_eq, ds_m1_eq, ds_eq_m1, ds_m2_eq, ds_eq_m2, ds_m1_le, ds_le_m1, ds_m1_lt, ds_lt_m1, ds_in_N, ds_bo0, ds_bo1, if_pos, if_neg, Nat.not_le, Nat.not_lt, not_true_eq_false, not_false_eq_true, if_true, if_false, ne_eq, Option.some.injEq, Prod.mk.injEq, Value.int.injEq, true_and, and_true, and_self, ite_self, Bool.not_eq_true, Bool.not_eq_false, Bool.true_eq_false, Bool.false_eq_true, reduceCtorEq, Nat.zero_add, Nat.reduceAdd, Nat.reduceMul, Nat.reduceSub, ds_setI_row, ds_setL_row, ds_rowI_self, ds_rowI_ne, ds_rowI_2, ds_rowI_rowI, ds_setS_1, ds_setS_21, ds_setS_self, ds_setS_ne, pk_us, pk_un, so, Nat.mul_zero, Nat.add_zero]
theorem s_mv3 (d pl : Nat) (D : Nat → Nat → Nat) (K : Nat → Nat) (hK : dk_okK D K) : ∀ z s m, dk_Pm 2 3 pl D K z → dk_V3 (K 12) s → m < K 12 + 2 → ds_call (d + 2) j_Mod_moved [.ref 90, .int (nI s), .int (nI m)] z = some (some (.int (nI (dk_N3 (K 12) s m))), z) := by
  intro z s m hz hs hm
  have c12 := hK.1
  have c1 := (dk_HM_dm hz.1 hK).2.1
  have h39 := hz.2.2.1
  obtain ⟨p, q, r, p1, q1, r1, _, _, _, rfl⟩ := hs
  have e1 : (p + 12 * q + 144 * r) % 12 = p := by omega
  have e2 : (p + 12 * q + 144 * r) / 12 = q + 12 * r := by omega
  have e2' : (q + 12 * r) % 12 = q := by omega
  have f1 : p + 12 * q + 144 * r - (q + 12 * r) * 12 = p := by omega
  have f2 : q + 12 * r - r * 12 = q := by omega
  have f3 : (q + 12 * r) / 12 = r := by omega
  have e3 : (q + 12 * r) / 12 = r := by omega
  have e5 : (p + 12 * q + 144 * r) / 144 = r := by omega
  have g := s_mgoesTo d m p (K 12) z (by omega) (by omega) p1
  have g2 := s_mgoesTo d m q (K 12) z (by omega) (by omega) q1
  have g3 := s_mgoesTo d m r (K 12) z (by omega) (by omega) r1
  have so := s_stateOf d (ds_mv m p (K 12)) (ds_mv m q (K 12)) (ds_mv m r (K 12)) z
  unfold dk_N3
  rw [e1, e2, e2', e5]
  generalize ds_mv m p (K 12) = w at *
  generalize ds_mv m q (K 12) = w2 at *
  generalize ds_mv m r (K 12) = w3 at *
  have b0 : p + 12 * q + 144 * r < 2 ^ 31 := by omega
  generalize p + 12 * q + 144 * r = s at *
  have b1 : q + 12 * r < 2 ^ 31 := by omega
  generalize q + 12 * r = s2 at *
  generalize K 12 = c at *
  rw [c_Mod_moved, b_Mod_moved_0]
  simp (disch := first | assumption | omega) only [ds_cI, ds_cV, ds_cL, ds_cR, ds_nn, ds_isK_t, ds_isA_t, ds_chk_t, ds_chkN, ds_nz_t, ds_nzN, ds_isB_t, ds_isB_bo, ↓dl_m1, ↓dl_m2, dl_0, dl_1, dl_2, dl_3, dl_4, dl_5, dl_6, dl_7, dl_8, dl_9, dl_10, dl_11, dl_12, dl_13, dl_14, dl_15, dl_16, dl_20, dl_24, dl_31, dl_50, dl_57, dl_67, dl_68, dl_74, dl_75, dl_79, dl_80, dl_99, dl_100, dl_200, dl_210, dl_224, dl_255, dl_289, dl_900, dl_1000, dl_1728, dl_65536, dl_65537, nI_add, pk_mul, pk_sub, pk_div, pk_rem, ds_rem2, nI_clamp, nI_leI, nI_ltI, nI_eq, ds_m1_eq, ds_eq_m1, ds_m2_eq, ds_eq_m2, ds_m1_le, ds_le_m1, ds_m1_lt, ds_lt_m1, ds_in_N, ds_bo0, ds_bo1, if_pos, if_neg, Nat.not_le, Nat.not_lt, not_true_eq_false, not_false_eq_true, if_true, if_false, ne_eq, Option.some.injEq, Prod.mk.injEq, Value.int.injEq, true_and, and_true, and_self, ite_self, Bool.not_eq_true, Bool.not_eq_false, Bool.true_eq_false, Bool.false_eq_true, reduceCtorEq, Nat.zero_add, Nat.reduceAdd, Nat.reduceMul, Nat.reduceSub, ds_setI_row, ds_setL_row, ds_rowI_self, ds_rowI_ne, ds_rowI_2, ds_rowI_rowI, ds_setS_1, ds_setS_21, ds_setS_self, ds_setS_ne, pk_us, pk_un, c1, h39, e2, f1, f2, f3, g, g2]
  rw [b_Mod_moved_46]
  simp (disch := first | assumption | omega) only [ds_cI, ds_cV, ds_cL, ds_cR, ds_nn, ds_isK_t, ds_isA_t, ds_chk_t, ds_chkN, ds_nz_t, ds_nzN, ds_isB_t, ds_isB_bo, ↓dl_m1, ↓dl_m2, dl_0, dl_1, dl_2, dl_3, dl_4, dl_5, dl_6, dl_7, dl_8, dl_9, dl_10, dl_11, dl_12, dl_13, dl_14, dl_15, dl_16, dl_20, dl_24, dl_31, dl_50, dl_57, dl_67, dl_68, dl_74, dl_75, dl_79, dl_80, dl_99, dl_100, dl_200, dl_210, dl_224, dl_255, dl_289, dl_900, dl_1000, dl_1728, dl_65536, dl_65537, nI_add, pk_mul, pk_sub, pk_div, pk_rem, ds_rem2, nI_clamp, nI_leI, nI_ltI, nI_eq, ds_m1_eq, ds_eq_m1, ds_m2_eq, ds_eq_m2, ds_m1_le, ds_le_m1, ds_m1_lt, ds_lt_m1, ds_in_N, ds_bo0, ds_bo1, if_pos, if_neg, Nat.not_le, Nat.not_lt, not_true_eq_false, not_false_eq_true, if_true, if_false, ne_eq, Option.some.injEq, Prod.mk.injEq, Value.int.injEq, true_and, and_true, and_self, ite_self, Bool.not_eq_true, Bool.not_eq_false, Bool.true_eq_false, Bool.false_eq_true, reduceCtorEq, Nat.zero_add, Nat.reduceAdd, Nat.reduceMul, Nat.reduceSub, ds_setI_row, ds_setL_row, ds_rowI_self, ds_rowI_ne, ds_rowI_2, ds_rowI_rowI, ds_setS_1, ds_setS_21, ds_setS_self, ds_setS_ne, pk_us, pk_un, h39, c1, e2, f3, g3]
  rw [b_Mod_moved_78]
  simp (disch := first | assumption | omega) only [ds_cI, ds_cV, ds_cL, ds_cR, ds_nn, ds_isK_t, ds_isA_t, ds_chk_t, ds_chkN, ds_nz_t, ds_nzN, ds_isB_t, ds_isB_bo, ↓dl_m1, ↓dl_m2, dl_0, dl_1, dl_2, dl_3, dl_4, dl_5, dl_6, dl_7, dl_8, dl_9, dl_10, dl_11, dl_12, dl_13, dl_14, dl_15, dl_16, dl_20, dl_24, dl_31, dl_50, dl_57, dl_67, dl_68, dl_74, dl_75, dl_79, dl_80, dl_99, dl_100, dl_200, dl_210, dl_224, dl_255, dl_289, dl_900, dl_1000, dl_1728, dl_65536, dl_65537, nI_add, pk_mul, pk_sub, pk_div, pk_rem, ds_rem2, nI_clamp, nI_leI, nI_ltI, nI_eq, ds_m1_eq, ds_eq_m1, ds_m2_eq, ds_eq_m2, ds_m1_le, ds_le_m1, ds_m1_lt, ds_lt_m1, ds_in_N, ds_bo0, ds_bo1, if_pos, if_neg, Nat.not_le, Nat.not_lt, not_true_eq_false, not_false_eq_true, if_true, if_false, ne_eq, Option.some.injEq, Prod.mk.injEq, Value.int.injEq, true_and, and_true, and_self, ite_self, Bool.not_eq_true, Bool.not_eq_false, Bool.true_eq_false, Bool.false_eq_true, reduceCtorEq, Nat.zero_add, Nat.reduceAdd, Nat.reduceMul, Nat.reduceSub, ds_setI_row, ds_setL_row, ds_rowI_self, ds_rowI_ne, ds_rowI_2, ds_rowI_rowI, ds_setS_1, ds_setS_21, ds_setS_self, ds_setS_ne, pk_us, pk_un, so]
theorem s_mg1 (d pl : Nat) (D : Nat → Nat → Nat) (K : Nat → Nat) (hK : dk_okK D K) (hpl : pl < K 12) : ∀ z s, dk_Pm 0 1 pl D K z → dk_V1 (K 12) s → ds_call (d + 3) j_Mod_isGoal [.ref 90, .int (nI s)] z = some (some (.int (ds_bo (dk_G1 pl s))), z) := by
  intro z s hz hs
  have c12 := hK.1
  have c1 := (dk_HM_dm hz.1 hK).2.1
  have h36 := hz.2.1
  have h37 := hz.2.2.2 rfl
  have hs' : s < K 12 := hs
  generalize K 12 = c at *
  have e1 : s - s / 12 * 12 = s := by omega
  rw [c_Mod_isGoal, b_Mod_isGoal_0]
  unfold dk_G1
  by_cases e : s = pl
  · have e' : (s == pl) = true := by simpa using e
    rw [e']
    rw [← e] at h37
    simp (disch := first | assumption | omega) only [ds_cI, ds_cV, ds_cL, ds_cR, ds_nn, ds_isK_t, ds_isA_t, ds_chk_t, ds_chkN, ds_nz_t, ds_nzN, ds_isB_t, ds_isB_bo, ↓dl_m1, ↓dl_m2, dl_0, dl_1, dl_2, dl_3, dl_4, dl_5, dl_6, dl_7, dl_8, dl_9, dl_10, dl_11, dl_12, dl_13, dl_14, dl_15, dl_16, dl_20, dl_24, dl_31, dl_50, dl_57, dl_67, dl_68, dl_74, dl_75, dl_79, dl_80, dl_99, dl_100, dl_200, dl_210, dl_224, dl_255, dl_289, dl_900, dl_1000, dl_1728, dl_65536, dl_65537, nI_add, pk_mul, pk_sub, pk_div, pk_rem, ds_rem2, nI_clamp, nI_leI, nI_ltI, nI_eq, ds_m1_eq, ds_eq_m1, ds_m2_eq, ds_eq_m2, ds_m1_le, ds_le_m1, ds_m1_lt, ds_lt_m1, ds_in_N, ds_bo0, ds_bo1, if_pos, if_neg, Nat.not_le, Nat.not_lt, not_true_eq_false, not_false_eq_true, if_true, if_false, ne_eq, Option.some.injEq, Prod.mk.injEq, Value.int.injEq, true_and, and_true, and_self, ite_self, Bool.not_eq_true, Bool.not_eq_false, Bool.true_eq_false, Bool.false_eq_true, reduceCtorEq, Nat.zero_add, Nat.reduceAdd, Nat.reduceMul, Nat.reduceSub, ds_setI_row, ds_setL_row, ds_rowI_self, ds_rowI_ne, ds_rowI_2, ds_rowI_rowI, ds_setS_1, ds_setS_21, ds_setS_self, ds_setS_ne, pk_us, pk_un, h36, h37, e1]
    rfl
  · have e' : (s == pl) = false := by simpa using e
    rw [e']
    simp (disch := first | assumption | omega) only [ds_cI, ds_cV, ds_cL, ds_cR, ds_nn, ds_isK_t, ds_isA_t, ds_chk_t, ds_chkN, ds_nz_t, ds_nzN, ds_isB_t, ds_isB_bo, ↓dl_m1, ↓dl_m2, dl_0, dl_1, dl_2, dl_3, dl_4, dl_5, dl_6, dl_7, dl_8, dl_9, dl_10, dl_11, dl_12, dl_13, dl_14, dl_15, dl_16, dl_20, dl_24, dl_31, dl_50, dl_57, dl_67, dl_68, dl_74, dl_75, dl_79, dl_80, dl_99, dl_100, dl_200, dl_210, dl_224, dl_255, dl_289, dl_900, dl_1000, dl_1728, dl_65536, dl_65537, nI_add, pk_mul, pk_sub, pk_div, pk_rem, ds_rem2, nI_clamp, nI_leI, nI_ltI, nI_eq, ds_m1_eq, ds_eq_m1, ds_m2_eq, ds_eq_m2, ds_m1_le, ds_le_m1, ds_m1_lt, ds_lt_m1, ds_in_N, ds_bo0, ds_bo1, if_pos, if_neg, Nat.not_le, Nat.not_lt, not_true_eq_false, not_false_eq_true, if_true, if_false, ne_eq, Option.some.injEq, Prod.mk.injEq, Value.int.injEq, true_and, and_true, and_self, ite_self, Bool.not_eq_true, Bool.not_eq_false, Bool.true_eq_false, Bool.false_eq_true, reduceCtorEq, Nat.zero_add, Nat.reduceAdd, Nat.reduceMul, Nat.reduceSub, ds_setI_row, ds_setL_row, ds_rowI_self, ds_rowI_ne, ds_rowI_2, ds_rowI_rowI, ds_setS_1, ds_setS_21, ds_setS_self, ds_setS_ne, pk_us, pk_un, h36, h37, e1, e]
    rfl
theorem s_mg2 (d pl : Nat) (D : Nat → Nat → Nat) (K : Nat → Nat) (hD : dk_ok D) (hK : dk_okK D K) : ∀ z s, dk_Pm 1 2 pl D K z → dk_V2 (K 12) s → ds_call (d + 3) j_Mod_isGoal [.ref 90, .int (nI s)] z = some (some (.int (ds_bo (dk_G2 D s))), z) := by
  intro z s hz hs
  have c12 := hK.1
  have c1 := (dk_HM_dm hz.1 hK).2.1
  have h36 := hz.2.1
  obtain ⟨p, q, p1, q1, _, rfl⟩ := hs
  have e1 : (p + 12 * q) % 12 = p := by omega
  have e2 : (p + 12 * q) / 12 = q := by omega
  have e3 : q - q / 12 * 12 = q := by omega
  have f1 : p + 12 * q - q * 12 = p := by omega
  have ab := s_areBeside d p q (K 12) z D hz.1.1 hD (by omega) (by omega) c12
  rw [decide_eq_true p1, decide_eq_true q1, Bool.true_and, Bool.true_and] at ab
  unfold dk_G2
  rw [e1, e2]
  have b0 : p + 12 * q < 2 ^ 31 := by omega
  generalize p + 12 * q = s at *
  generalize K 12 = c at *
  rw [c_Mod_isGoal, b_Mod_isGoal_0]
  simp (disch := first | assumption | omega) only [ds_cI, ds_cV, ds_cL, ds_cR, ds_nn, ds_isK_t, ds_isA_t, ds_chk_t, ds_chkN, ds_nz_t, ds_nzN, ds_isB_t, ds_isB_bo, ↓dl_m1, ↓dl_m2, dl_0, dl_1, dl_2, dl_3, dl_4, dl_5, dl_6, dl_7, dl_8, dl_9, dl_10, dl_11, dl_12, dl_13, dl_14, dl_15, dl_16, dl_20, dl_24, dl_31, dl_50, dl_57, dl_67, dl_68, dl_74, dl_75, dl_79, dl_80, dl_99, dl_100, dl_200, dl_210, dl_224, dl_255, dl_289, dl_900, dl_1000, dl_1728, dl_65536, dl_65537, nI_add, pk_mul, pk_sub, pk_div, pk_rem, ds_rem2, nI_clamp, nI_leI, nI_ltI, nI_eq, ds_m1_eq, ds_eq_m1, ds_m2_eq, ds_eq_m2, ds_m1_le, ds_le_m1, ds_m1_lt, ds_lt_m1, ds_in_N, ds_bo0, ds_bo1, if_pos, if_neg, Nat.not_le, Nat.not_lt, not_true_eq_false, not_false_eq_true, if_true, if_false, ne_eq, Option.some.injEq, Prod.mk.injEq, Value.int.injEq, true_and, and_true, and_self, ite_self, Bool.not_eq_true, Bool.not_eq_false, Bool.true_eq_false, Bool.false_eq_true, reduceCtorEq, Nat.zero_add, Nat.reduceAdd, Nat.reduceMul, Nat.reduceSub, ds_setI_row, ds_setL_row, ds_rowI_self, ds_rowI_ne, ds_rowI_2, ds_rowI_rowI, ds_setS_1, ds_setS_21, ds_setS_self, ds_setS_ne, pk_us, pk_un, h36, c1, e2, e3, f1, ab]
theorem s_mg3 (d pl : Nat) (D : Nat → Nat → Nat) (K : Nat → Nat) (hD : dk_ok D) (hK : dk_okK D K) : ∀ z s, dk_Pm 2 3 pl D K z → dk_V3 (K 12) s → ds_call (d + 3) j_Mod_isGoal [.ref 90, .int (nI s)] z = some (some (.int (ds_bo (dk_G3 D s))), z) := by
  intro z s hz hs
  have c12 := hK.1
  have c1 := (dk_HM_dm hz.1 hK).2.1
  have h36 := hz.2.1
  obtain ⟨p, q, r, p1, q1, r1, _, _, _, rfl⟩ := hs
  have e1 : (p + 12 * q + 144 * r) % 12 = p := by omega
  have e2 : (p + 12 * q + 144 * r) / 12 = q + 12 * r := by omega
  have e2' : (q + 12 * r) % 12 = q := by omega
  have f1 : p + 12 * q + 144 * r - (q + 12 * r) * 12 = p := by omega
  have f2 : q + 12 * r - r * 12 = q := by omega
  have f3 : (q + 12 * r) / 12 = r := by omega
  have e3 : (q + 12 * r) / 12 = r := by omega
  have e5 : (p + 12 * q + 144 * r) / 144 = r := by omega
  have ab : ∀ p q, p < K 12 → q < K 12 → ds_call (d + 2) j_Mod_areBeside [.ref 90, .int (nI p), .int (nI q), .int (nI (K 12))] z = some (some (.int (ds_bo (dk_A D p q))), z) := fun p q hp hq => by
    have ab := s_areBeside d p q (K 12) z D hz.1.1 hD (by omega) (by omega) c12
    rw [decide_eq_true hp, decide_eq_true hq, Bool.true_and, Bool.true_and] at ab
    exact ab
  have a1 := ab p q p1 q1
  have a2 := ab p r p1 r1
  have a3 := ab q r q1 r1
  unfold dk_G3
  rw [e1, e2, e2', e5]
  have b0 : p + 12 * q + 144 * r < 2 ^ 31 := by omega
  generalize p + 12 * q + 144 * r = s at *
  have b1 : q + 12 * r < 2 ^ 31 := by omega
  generalize q + 12 * r = s2 at *
  generalize K 12 = c at *
  generalize dk_A D p q = A1 at *
  generalize dk_A D p r = A2 at *
  generalize dk_A D q r = A3 at *
  rw [c_Mod_isGoal, b_Mod_isGoal_0]
  cases A1 <;> cases A2 <;> cases A3 <;> simp (disch := first | assumption | omega) only [ds_cI, ds_cV, ds_cL, ds_cR, ds_nn, ds_isK_t, ds_isA_t, ds_chk_t, ds_chkN, ds_nz_t, ds_nzN, ds_isB_t, ds_isB_bo, ↓dl_m1, ↓dl_m2, dl_0, dl_1, dl_2, dl_3, dl_4, dl_5, dl_6, dl_7, dl_8, dl_9, dl_10, dl_11, dl_12, dl_13, dl_14, dl_15, dl_16, dl_20, dl_24, dl_31, dl_50, dl_57, dl_67, dl_68, dl_74, dl_75, dl_79, dl_80, dl_99, dl_100, dl_200, dl_210, dl_224, dl_255, dl_289, dl_900, dl_1000, dl_1728, dl_65536, dl_65537, nI_add, pk_mul, pk_sub, pk_div, pk_rem, ds_rem2, nI_clamp, nI_leI, nI_ltI, nI_eq, ds_m1_eq, ds_eq_m1, ds_m2_eq, ds_eq_m2, ds_m1_le, ds_le_m1, ds_m1_lt, ds_lt_m1, ds_in_N, ds_bo0, ds_bo1, if_pos, if_neg, Nat.not_le, Nat.not_lt, not_true_eq_false, not_false_eq_true, if_true, if_false, ne_eq, Option.some.injEq, Prod.mk.injEq, Value.int.injEq, true_and, and_true, and_self, ite_self, Bool.not_eq_true, Bool.not_eq_false, Bool.true_eq_false, Bool.false_eq_true, reduceCtorEq, Nat.zero_add, Nat.reduceAdd, Nat.reduceMul, Nat.reduceSub, ds_setI_row, ds_setL_row, ds_rowI_self, ds_rowI_ne, ds_rowI_2, ds_rowI_rowI, ds_setS_1, ds_setS_21, ds_setS_self, ds_setS_ne, pk_us, pk_un, h36, c1, e2, f1, f2, f3, a1, a2, a3, b_Mod_isGoal_85, b_Mod_isGoal_102, b_Mod_isGoal_120] <;> rfl
