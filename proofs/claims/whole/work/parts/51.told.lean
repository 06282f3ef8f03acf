theorem dk_get1 {z : ds_St} {t i : Nat} {D : Nat → Nat → Nat} (hT : dk_tC z t D) (h : i < D 0 4) : z.1 (t + 1) i = nI (D 1 i) := (hT.2.2.1 i h).1
theorem dk_get2 {z : ds_St} {t i : Nat} {D : Nat → Nat → Nat} (hT : dk_tC z t D) (h : i < D 0 4) : z.1 (t + 2) i = nI (D 2 i) := (hT.2.2.1 i h).2.1
theorem dk_get3 {z : ds_St} {t i : Nat} {D : Nat → Nat → Nat} (hT : dk_tC z t D) (h : i < D 0 4) : z.1 (t + 3) i = nI (D 3 i) := (hT.2.2.1 i h).2.2.1
theorem dk_get4 {z : ds_St} {t i : Nat} {D : Nat → Nat → Nat} (hT : dk_tC z t D) (h : i < D 0 4) : z.1 (t + 4) i = nI (D 4 i) := (hT.2.2.1 i h).2.2.2
/-- look into a row of the told sea -/
theorem s_lookT (d t k i : Nat) (z : ds_St) (ht : t = 10 ∨ t = 30) (hk : k = 1 ∨ k = 2 ∨ k = 3 ∨ k = 4 ∨ k = 10) (hi : i < 12) : ds_call (d + 1) j_Sea_look [.ref (t + k), .int (nI i)] z = some (some (.int (z.1 (t + k) i)), z) := s_lookN d (t + k) i 12 z (ds_Kti ht (by omega) (by omega)) (ds_Nti ht hk) (by decide) hi
theorem s_look5 (d t i : Nat) (z : ds_St) (ht : t = 10 ∨ t = 30) (hi : i < 10) : ds_call (d + 1) j_Sea_look [.ref (t + 5), .int (nI i)] z = some (some (.int (z.1 (t + 5) i)), z) := s_lookN d (t + 5) i 10 z (ds_Kti ht (by omega) (by omega)) (ds_Nt5 ht) (by decide) hi
theorem s_look6 (d t k i : Nat) (z : ds_St) (ht : t = 10 ∨ t = 30) (hk : k = 6 ∨ k = 7 ∨ k = 8 ∨ k = 9) (hi : i < 6) : ds_call (d + 1) j_Sea_look [.ref (t + k), .int (nI i)] z = some (some (.int (z.1 (t + k) i)), z) := s_lookN d (t + k) i 6 z (ds_Kti ht (by omega) (by omega)) (ds_Ntj ht hk) (by decide) hi
theorem s_isJoker (d t i : Nat) (z : ds_St) (D : Nat → Nat → Nat) (hT : dk_tC z t D) (hD : dk_ok D) (h : i < D 0 4) : ds_call (d + 2) j_Told_isJoker [.ref t, .int (nI i)] z = some (some (.int (ds_bo (D 1 i == 2))), z) := by
  have e1 := dk_get1 hT h
  have ht := hT.1
  obtain ⟨⟨w2, w4⟩, ⟨g2, g3⟩, o2, o3, ⟨n2, n12⟩, o5, o6, o7, oi, om, ow, os⟩ := hD
  have b1 := (oi i h).1
  rw [c_Told_isJoker, b_Told_isJoker_0 t ht]
  simp (disch := first | assumption | omega | rfl | decide) only [ds_cI, ds_cV, ds_cL, ds_cR, ds_nn, ds_isK_t, ds_isA_t, ds_chk_t, ds_chkN, ds_nz_t, ds_nzN, ds_isB_t, ds_isB_bo, ↓dl_m1, ↓dl_m2, dl_0, dl_1, dl_2, dl_3, dl_4, dl_5, dl_6, dl_7, dl_8, dl_9, dl_10, dl_11, dl_12, dl_13, dl_14, dl_15, dl_16, dl_20, dl_24, dl_31, dl_50, dl_57, dl_67, dl_68, dl_74, dl_75, dl_79, dl_80, dl_99, dl_100, dl_200, dl_210, dl_224, dl_255, dl_289, dl_900, dl_1000, dl_1728, dl_65536, dl_65537, nI_add, pk_mul, pk_sub, pk_div, pk_rem, nI_clamp, nI_leI, nI_ltI, nI_eq, ds_m1_eq, ds_eq_m1, ds_m2_eq, ds_eq_m2, ds_m1_le, ds_le_m1, ds_m1_lt, ds_lt_m1, ds_in_N, ds_bo0, ds_bo1, if_pos, if_neg, Nat.not_le, Nat.not_lt, not_true_eq_false, not_false_eq_true, if_true, if_false, ne_eq, Option.some.injEq, Prod.mk.injEq, Value.int.injEq, true_and, and_true, and_self, ite_self, Bool.not_eq_true, Bool.not_eq_false, Bool.true_eq_false, Bool.false_eq_true, reduceCtorEq, ds_setI_row, ds_setL_row, ds_rowI_self, ds_rowI_ne, ds_rowI_2, ds_rowI_rowI, ds_setS_1, ds_setS_21, ds_setS_self, ds_setS_ne, pk_us, pk_un, s_lookT, e1]
  by_cases q : D 1 i = 2
  · simp [q, ds_bo]
  · simp [q, ds_bo]
/-- what two islands beside each other trade -/
def dk_wor (D : Nat → Nat → Nat) (i j : Nat) : Nat := if D 1 i = 2 ∨ D 1 j = 2 ∨ D 2 i ≠ D 2 j then 0 else (if D 2 i = D 0 2 then 2 else 1) + (if D 1 i = 1 ∨ D 1 j = 1 then 1 else 0)
theorem s_worth (d t i j : Nat) (z : ds_St) (D : Nat → Nat → Nat) (hT : dk_tC z t D) (hD : dk_ok D) (h : i < D 0 4) (hj : j < D 0 4) : ds_call (d + 2) j_Told_worth [.ref t, .int (nI i), .int (nI j)] z = some (some (.int (nI (dk_wor D i j))), z) := by
  have e1 := dk_get1 hT h
  have e2 := dk_get2 hT h
  have f1 := dk_get1 hT hj
  have f2 := dk_get2 hT hj
  have ht := hT.1
  have e3 := hT.2.1.2.2.1
  obtain ⟨⟨w2, w4⟩, ⟨g2, g3⟩, o2, o3, ⟨n2, n12⟩, o5, o6, o7, oi, om, ow, os⟩ := hD
  obtain ⟨b1, b2, _, _⟩ := oi i h
  obtain ⟨c1, c2, _, _⟩ := oi j hj
  rw [c_Told_worth, b_Told_worth_0 t ht]
  simp (disch := first | assumption | omega | rfl | decide) only [ds_cI, ds_cV, ds_cL, ds_cR, ds_nn, ds_isK_t, ds_isA_t, ds_chk_t, ds_chkN, ds_nz_t, ds_nzN, ds_isB_t, ds_isB_bo, ↓dl_m1, ↓dl_m2, dl_0, dl_1, dl_2, dl_3, dl_4, dl_5, dl_6, dl_7, dl_8, dl_9, dl_10, dl_11, dl_12, dl_13, dl_14, dl_15, dl_16, dl_20, dl_24, dl_31, dl_50, dl_57, dl_67, dl_68, dl_74, dl_75, dl_79, dl_80, dl_99, dl_100, dl_200, dl_210, dl_224, dl_255, dl_289, dl_900, dl_1000, dl_1728, dl_65536, dl_65537, nI_add, pk_mul, pk_sub, pk_div, pk_rem, nI_clamp, nI_leI, nI_ltI, nI_eq, ds_m1_eq, ds_eq_m1, ds_m2_eq, ds_eq_m2, ds_m1_le, ds_le_m1, ds_m1_lt, ds_lt_m1, ds_in_N, ds_bo0, ds_bo1, if_pos, if_neg, Nat.not_le, Nat.not_lt, not_true_eq_false, not_false_eq_true, if_true, if_false, ne_eq, Option.some.injEq, Prod.mk.injEq, Value.int.injEq, true_and, and_true, and_self, ite_self, Bool.not_eq_true, Bool.not_eq_false, Bool.true_eq_false, Bool.false_eq_true, reduceCtorEq, ds_setI_row, ds_setL_row, ds_rowI_self, ds_rowI_ne, ds_rowI_2, ds_rowI_rowI, ds_setS_1, ds_setS_21, ds_setS_self, ds_setS_ne, pk_us, pk_un, s_lookT, e1, e2, e3, f1, f2, b_Told_worth_71 t ht]
  unfold dk_wor
  by_cases q1 : D 1 i = 2
  · simp [q1]
  · by_cases q2 : D 1 j = 2
    · simp [q1, q2]
    · by_cases q3 : D 2 i = D 2 j
      · by_cases q4 : D 2 i = D 0 2 <;> by_cases q5 : D 1 i = 1 <;> by_cases q6 : D 1 j = 1 <;> simp_all
      · simp [q1, q2, q3]
theorem s_areNear (d t p q : Nat) (z : ds_St) (D : Nat → Nat → Nat) (hT : dk_tC z t D) (hp : p < 12) (hq : q < 12) : ds_call (d + 1) j_Told_areNear [.ref t, .int (nI p), .int (nI q)] z = some (some (.int (ds_bo (dk_adj (D 0 0) (D 0 1) (D 0 3) p q))), z) := by
  have e1 := hT.2.2.2.2.2.2 p hp
  have ht := hT.1
  rw [c_Told_areNear, b_Told_areNear_0 t ht]
  simp (disch := first | assumption | omega | rfl | decide) only [ds_cI, ds_cV, ds_cL, ds_cR, ds_nn, ds_isK_t, ds_isA_t, ds_chk_t, ds_chkN, ds_nz_t, ds_nzN, ds_isB_t, ds_isB_bo, ↓dl_m1, ↓dl_m2, dl_0, dl_1, dl_2, dl_3, dl_4, dl_5, dl_6, dl_7, dl_8, dl_9, dl_10, dl_11, dl_12, dl_13, dl_14, dl_15, dl_16, dl_20, dl_24, dl_31, dl_50, dl_57, dl_67, dl_68, dl_74, dl_75, dl_79, dl_80, dl_99, dl_100, dl_200, dl_210, dl_224, dl_255, dl_289, dl_900, dl_1000, dl_1728, dl_65536, dl_65537, nI_add, pk_mul, pk_sub, pk_div, pk_rem, nI_clamp, nI_leI, nI_ltI, nI_eq, ds_m1_eq, ds_eq_m1, ds_m2_eq, ds_eq_m2, ds_m1_le, ds_le_m1, ds_m1_lt, ds_lt_m1, ds_in_N, ds_bo0, ds_bo1, if_pos, if_neg, Nat.not_le, Nat.not_lt, not_true_eq_false, not_false_eq_true, if_true, if_false, ne_eq, Option.some.injEq, Prod.mk.injEq, Value.int.injEq, true_and, and_true, and_self, ite_self, Bool.not_eq_true, Bool.not_eq_false, Bool.true_eq_false, Bool.false_eq_true, reduceCtorEq, ds_setI_row, ds_setL_row, ds_rowI_self, ds_rowI_ne, ds_rowI_2, ds_rowI_rowI, ds_setS_1, ds_setS_21, ds_setS_self, ds_setS_ne, pk_us, pk_un, e1, ds_bit (dk_nb_lt _ _ _ _), dk_nb_tb]
  simp only [hq, decide_true, Bool.true_and]
  cases dk_adj (D 0 0) (D 0 1) (D 0 3) p q <;> simp [ds_bo]
