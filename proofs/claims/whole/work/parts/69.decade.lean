/-! decades -/
def dk_it (c : Nat) (s : Nat × (Nat → Nat)) : Nat → Nat × (Nat → Nat)
  | 0 => s
  | m + 1 => ((75 * (dk_it c s m).1 + 74) % 65537, dk_mk (dk_it c s m).2 ((75 * (dk_it c s m).1 + 74) % 65537 % (c + 2)) c)
def dk_ye (c F : Nat) (s : Nat × (Nat → Nat)) : Nat → Nat × (Nat → Nat)
  | 0 => s
  | y + 1 => dk_it c (dk_ye c F s y) F
theorem dk_it_lt {c : Nat} {s : Nat × (Nat → Nat)} (h : s.1 < 65537) : ∀ m, (dk_it c s m).1 < 65537
  | 0 => h
  | m + 1 => Nat.mod_lt _ (by decide)
theorem dk_ye_lt {c F : Nat} {s : Nat × (Nat → Nat)} (h : s.1 < 65537) : ∀ y, (dk_ye c F s y).1 < 65537
  | 0 => h
  | y + 1 => dk_it_lt (dk_ye_lt h y) F
theorem s_sumYears (d t seed n : Nat) (w x : Int32) (V : (Nat → Nat) → Nat) (z : ds_St) (D : Nat → Nat → Nat) (K : Nat → Nat) (hC : dk_HC z t D K) (hD : dk_ok D) (hK : dk_okK D K) (hs : seed < 65537) (hn : n ≤ 50) (hV : ∀ z C, z.2.2 0 = t → dk_tC z t D → dk_dk z 64 C (K 12) (D 0 4) → ∃ z', ds_call (d + 6) j_Sea_yearOf [.ref 0, .int w, .int x] z = some (some (.int (nI (V C))), z') ∧ dk_fr 67 70 z z') : ∃ z', ds_call (d + 7) j_Sea_sumYears [.ref 0, .int w, .int x, .int (nI seed), .int (nI n)] z = some (some (.int (nI (dk_sum (fun y => V (dk_ye (K 12) (D 0 5) (seed, K) (y + 1)).2) n))), z') ∧ dk_fr 64 80 z z' := by
  obtain ⟨k2, k12, km, ki⟩ := dk_mo_K hD hK
  have o5 := hD.2.2.2.2.2.1
  have inner : ∀ m j z (s : Nat × (Nat → Nat)) (u y : Nat), j + m = D 0 5 → s.1 < 65537 → dk_HC z t D K → dk_dk z 64 (dk_it (K 12) s j).2 (K 12) (D 0 4) → ∃ z', ds_Rw ds_c_Sea_sumYears ds_u_Sea_sumYears (ds_call (d + 6)) 47 [some (.ref 0), some (.int w), some (.int x), none, some (.int (nI n)), some (.int (nI ((dk_it (K 12) s j).1))), some (.int (nI u)), some (.int (nI ((K 12 + 2)))), some (.int (nI y)), some (.int (nI j))] [] z = ds_Rw ds_c_Sea_sumYears ds_u_Sea_sumYears (ds_call (d + 6)) 32 [some (.ref 0), some (.int w), some (.int x), none, some (.int (nI n)), some (.int (nI ((dk_it (K 12) s (D 0 5)).1))), some (.int (nI ((u + V (dk_it (K 12) s (D 0 5)).2)))), some (.int (nI ((K 12 + 2)))), some (.int (nI ((y + 1)))), none] [] z' ∧ dk_fr 64 80 z z' ∧ dk_dk z' 64 (dk_it (K 12) s (D 0 5)).2 (K 12) (D 0 4) := by
    intro m
    induction m with
    | zero =>
      intro j z s u y hj hs hC hd
      have : j = D 0 5 := by omega
      subst this
      have r0 := hC.1
      have hKt := ds_Kt hC.2.1.1
      have t9 := hC.2.1.2.1.2.2.2.2.2.1
      obtain ⟨z1, s1, s2⟩ := hV z _ hC.1 hC.2.1 hd
      refine ⟨z1, ?_, dk_fr_mono s2 (by decide) (by decide), dk_dk_fr hd s2 (by decide)⟩
      generalize dk_it (K 12) s (D 0 5) = s' at *
      rw [b_Sea_sumYears_47]
      simp (disch := first | assumption | omega) only [ds_cI, ds_cV, ds_cL, ds_cR, ds_nn, ds_isK_t, ds_isA_t, ds_chk_t, ds_chkN, ds_nz_t, ds_nzN, ds_isB_t, ds_isB_bo, ↓dl_m1, ↓dl_m2, dl_0, dl_1, dl_2, dl_3, dl_4, dl_5, dl_6, dl_7, dl_8, dl_9, dl_10, dl_11, dl_12, dl_13, dl_14, dl_15, dl_16, dl_20, dl_24, dl_31, dl_50, dl_57, dl_67, dl_68, dl_74, dl_75, dl_79, dl_80, dl_99, dl_100, dl_200, dl_210, dl_224, dl_255, dl_289, dl_900, dl_1000, dl_1728, dl_65536, dl_65537, nI_add, pk_mul, pk_sub, pk_div, pk_rem, ds_rem2, nI_clamp, nI_leI, nI_ltI, nI_eq, ds_m1_eq, ds_eq_m1, ds_m2_eq, ds_eq_m2, ds_m1_le, ds_le_m1, ds_m1_lt, ds_lt_m1, ds_in_N, ds_bo0, ds_bo1, if_pos, if_neg, Nat.not_le, Nat.not_lt, not_true_eq_false, not_false_eq_true, if_true, if_false, ne_eq, Option.some.injEq, Prod.mk.injEq, Value.int.injEq, true_and, and_true, and_self, ite_self, Bool.not_eq_true, Bool.not_eq_false, Bool.true_eq_false, Bool.false_eq_true, reduceCtorEq, Nat.zero_add, Nat.reduceAdd, Nat.reduceMul, Nat.reduceSub, ds_setI_row, ds_setL_row, ds_rowI_self, ds_rowI_ne, ds_rowI_2, ds_rowI_rowI, ds_setS_1, ds_setS_21, ds_setS_self, ds_setS_ne, pk_us, pk_un, r0, t9, s1]
    | succ m ih =>
      intro j z s u y hj hs hC hd
      have r0 := hC.1
      have hKt := ds_Kt hC.2.1.1
      have t9 := hC.2.1.2.1.2.2.2.2.2.1
      have hl := dk_it_lt (c := K 12) hs j
      have hm : (75 * (dk_it (K 12) s j).1 + 74) % 65537 % (K 12 + 2) < K 12 + 2 := Nat.mod_lt _ (by omega)
      have hm2 : (75 * (dk_it (K 12) s j).1 + 74) % 65537 < 65537 := Nat.mod_lt _ (by decide)
      obtain ⟨z1, s1, s2, s3, s4⟩ := s_mkC (d + 3) 64 ((75 * (dk_it (K 12) s j).1 + 74) % 65537 % (K 12 + 2)) (K 12) (D 0 4) z _ (by omega) hd
      have f1 := dk_fr_mono (a' := 64) (b' := 80) s3 (by decide) (by decide)
      obtain ⟨z2, q1, q2, q3⟩ := ih (j + 1) z1 s u y (by omega) hs (dk_HC_fr hC f1) s2
      refine ⟨z2, ?_, dk_fr_trans f1 q2, q3⟩
      rw [← q1, b_Sea_sumYears_47]
      simp only [dk_it]
      clear q1 q2 q3 ih hV
      generalize (dk_it (K 12) s j).1 = dr at *
      have e1 : 75 * dr + 74 < 2 ^ 31 := by omega
      have er : 75 * dr + 74 - (75 * dr + 74) / 65537 * 65537 = (75 * dr + 74) % 65537 := by omega
      simp (disch := first | assumption | omega) only [ds_cI, ds_cV, ds_cL, ds_cR, ds_nn, ds_isK_t, ds_isA_t, ds_chk_t, ds_chkN, ds_nz_t, ds_nzN, ds_isB_t, ds_isB_bo, ↓dl_m1, ↓dl_m2, dl_0, dl_1, dl_2, dl_3, dl_4, dl_5, dl_6, dl_7, dl_8, dl_9, dl_10, dl_11, dl_12, dl_13, dl_14, dl_15, dl_16, dl_20, dl_24, dl_31, dl_50, dl_57, dl_67, dl_68, dl_74, dl_75, dl_79, dl_80, dl_99, dl_100, dl_200, dl_210, dl_224, dl_255, dl_289, dl_900, dl_1000, dl_1728, dl_65536, dl_65537, nI_add, pk_mul, pk_sub, pk_div, pk_rem, ds_rem2, nI_clamp, nI_leI, nI_ltI, nI_eq, ds_m1_eq, ds_eq_m1, ds_m2_eq, ds_eq_m2, ds_m1_le, ds_le_m1, ds_m1_lt, ds_lt_m1, ds_in_N, ds_bo0, ds_bo1, if_pos, if_neg, Nat.not_le, Nat.not_lt, not_true_eq_false, not_false_eq_true, if_true, if_false, ne_eq, Option.some.injEq, Prod.mk.injEq, Value.int.injEq, true_and, and_true, and_self, ite_self, Bool.not_eq_true, Bool.not_eq_false, Bool.true_eq_false, Bool.false_eq_true, reduceCtorEq, Nat.zero_add, Nat.reduceAdd, Nat.reduceMul, Nat.reduceSub, ds_setI_row, ds_setL_row, ds_rowI_self, ds_rowI_ne, ds_rowI_2, ds_rowI_rowI, ds_setS_1, ds_setS_21, ds_setS_self, ds_setS_ne, pk_us, pk_un, r0, t9, er, s1]
  have outer : ∀ m y z, y + m = n → dk_HC z t D K → dk_dk z 64 (dk_ye (K 12) (D 0 5) (seed, K) y).2 (K 12) (D 0 4) → ∃ z', ds_Rw ds_c_Sea_sumYears ds_u_Sea_sumYears (ds_call (d + 6)) 32 [some (.ref 0), some (.int w), some (.int x), none, some (.int (nI n)), some (.int (nI ((dk_ye (K 12) (D 0 5) (seed, K) y).1))), some (.int (nI ((dk_sum (fun y => V (dk_ye (K 12) (D 0 5) (seed, K) (y + 1)).2) y)))), some (.int (nI ((K 12 + 2)))), some (.int (nI y)), none] [] z = some (some (.int (nI (dk_sum (fun y => V (dk_ye (K 12) (D 0 5) (seed, K) (y + 1)).2) n))), z') ∧ dk_fr 64 80 z z' := by
    intro m
    induction m with
    | zero =>
      intro y z hy hC hd
      have : y = n := by omega
      subst this
      refine ⟨z, ?_, dk_fr_refl _ _ _⟩
      rw [b_Sea_sumYears_32]
      simp (disch := first | assumption | omega) only [ds_cI, ds_cV, ds_cL, ds_cR, ds_nn, ds_isK_t, ds_isA_t, ds_chk_t, ds_chkN, ds_nz_t, ds_nzN, ds_isB_t, ds_isB_bo, ↓dl_m1, ↓dl_m2, dl_0, dl_1, dl_2, dl_3, dl_4, dl_5, dl_6, dl_7, dl_8, dl_9, dl_10, dl_11, dl_12, dl_13, dl_14, dl_15, dl_16, dl_20, dl_24, dl_31, dl_50, dl_57, dl_67, dl_68, dl_74, dl_75, dl_79, dl_80, dl_99, dl_100, dl_200, dl_210, dl_224, dl_255, dl_289, dl_900, dl_1000, dl_1728, dl_65536, dl_65537, nI_add, pk_mul, pk_sub, pk_div, pk_rem, ds_rem2, nI_clamp, nI_leI, nI_ltI, nI_eq, ds_m1_eq, ds_eq_m1, ds_m2_eq, ds_eq_m2, ds_m1_le, ds_le_m1, ds_m1_lt, ds_lt_m1, ds_in_N, ds_bo0, ds_bo1, if_pos, if_neg, Nat.not_le, Nat.not_lt, not_true_eq_false, not_false_eq_true, if_true, if_false, ne_eq, Option.some.injEq, Prod.mk.injEq, Value.int.injEq, true_and, and_true, and_self, ite_self, Bool.not_eq_true, Bool.not_eq_false, Bool.true_eq_false, Bool.false_eq_true, reduceCtorEq, Nat.zero_add, Nat.reduceAdd, Nat.reduceMul, Nat.reduceSub, ds_setI_row, ds_setL_row, ds_rowI_self, ds_rowI_ne, ds_rowI_2, ds_rowI_rowI, ds_setS_1, ds_setS_21, ds_setS_self, ds_setS_ne, pk_us, pk_un]
    | succ m ih =>
      intro y z hy hC hd
      obtain ⟨z1, s1, s2, s3⟩ := inner (D 0 5) 0 z (dk_ye (K 12) (D 0 5) (seed, K) y) (dk_sum (fun y => V (dk_ye (K 12) (D 0 5) (seed, K) (y + 1)).2) y) y (by omega) (dk_ye_lt hs y) hC hd
      obtain ⟨z2, q1, q2⟩ := ih (y + 1) z1 (by omega) (dk_HC_fr hC s2) s3
      refine ⟨z2, ?_, dk_fr_trans s2 q2⟩
      rw [← q1, b_Sea_sumYears_32]
      simp only [dk_sum]
      have e : dk_ye (K 12) (D 0 5) (seed, K) (y + 1) = dk_it (K 12) (dk_ye (K 12) (D 0 5) (seed, K) y) (D 0 5) := rfl
      have e0 : dk_it (K 12) (dk_ye (K 12) (D 0 5) (seed, K) y) 0 = dk_ye (K 12) (D 0 5) (seed, K) y := rfl
      rw [e0] at s1
      rw [e]
      simp (disch := first | assumption | omega) only [ds_cI, ds_cV, ds_cL, ds_cR, ds_nn, ds_isK_t, ds_isA_t, ds_chk_t, ds_chkN, ds_nz_t, ds_nzN, ds_isB_t, ds_isB_bo, ↓dl_m1, ↓dl_m2, dl_0, dl_1, dl_2, dl_3, dl_4, dl_5, dl_6, dl_7, dl_8, dl_9, dl_10, dl_11, dl_12, dl_13, dl_14, dl_15, dl_16, dl_20, dl_24, dl_31, dl_50, dl_57, dl_67, dl_68, dl_74, dl_75, dl_79, dl_80, dl_99, dl_100, dl_200, dl_210, dl_224, dl_255, dl_289, dl_900, dl_1000, dl_1728, dl_65536, dl_65537, nI_add, pk_mul, pk_sub, pk_div, pk_rem, ds_rem2, nI_clamp, nI_leI, nI_ltI, nI_eq, ds_m1_eq, ds_eq_m1, ds_m2_eq, ds_eq_m2, ds_m1_le, ds_le_m1, ds_m1_lt, ds_lt_m1, ds_in_N, ds_bo0, ds_bo1, if_pos, if_neg, Nat.not_le, Nat.not_lt, not_true_eq_false, not_false_eq_true, if_true, if_false, ne_eq, Option.some.injEq, Prod.mk.injEq, Value.int.injEq, true_and, and_true, and_self, ite_self, Bool.not_eq_true, Bool.not_eq_false, Bool.true_eq_false, Bool.false_eq_true, reduceCtorEq, Nat.zero_add, Nat.reduceAdd, Nat.reduceMul, Nat.reduceSub, ds_setI_row, ds_setL_row, ds_rowI_self, ds_rowI_ne, ds_rowI_2, ds_rowI_rowI, ds_setS_1, ds_setS_21, ds_setS_self, ds_setS_ne, pk_us, pk_un, s1]
  obtain ⟨z1, s1, s2, s3⟩ := s_takeC (d + 5) t z D K hC hK
  have hC1 := dk_HC_fr hC (dk_fr_mono s3 (by decide) (by decide))
  have c1 := s2.2.1
  have mv := s_movesOf (d + 5) (K 12) z1 (by omega)
  rw [ki] at mv
  obtain ⟨z2, q1, q2⟩ := outer n 0 z1 (by omega) hC1 s2
  refine ⟨z2, ?_, dk_fr_trans (dk_fr_mono s3 (by decide) (by decide)) q2⟩
  have q1' : ds_Rw ds_c_Sea_sumYears ds_u_Sea_sumYears (ds_call (d + 6)) 32 [some (.ref 0), some (.int w), some (.int x), none, some (.int (nI n)), some (.int (nI seed)), some (.int (nI 0)), some (.int (nI ((K 12 + 2)))), some (.int (nI 0)), none] [] z1 = some (some (.int (nI (dk_sum (fun y => V (dk_ye (K 12) (D 0 5) (seed, K) (y + 1)).2) n))), z2) := q1
  rw [c_Sea_sumYears, b_Sea_sumYears_0]
  simp (disch := first | assumption | omega) only [ds_cI, ds_cV, ds_cL, ds_cR, ds_nn, ds_isK_t, ds_isA_t, ds_chk_t, ds_chkN, ds_nz_t, ds_nzN, ds_isB_t, ds_isB_bo, ↓dl_m1, ↓dl_m2, dl_0, dl_1, dl_2, dl_3, dl_4, dl_5, dl_6, dl_7, dl_8, dl_9, dl_10, dl_11, dl_12, dl_13, dl_14, dl_15, dl_16, dl_20, dl_24, dl_31, dl_50, dl_57, dl_67, dl_68, dl_74, dl_75, dl_79, dl_80, dl_99, dl_100, dl_200, dl_210, dl_224, dl_255, dl_289, dl_900, dl_1000, dl_1728, dl_65536, dl_65537, nI_add, pk_mul, pk_sub, pk_div, pk_rem, ds_rem2, nI_clamp, nI_leI, nI_ltI, nI_eq, ds_m1_eq, ds_eq_m1, ds_m2_eq, ds_eq_m2, ds_m1_le, ds_le_m1, ds_m1_lt, ds_lt_m1, ds_in_N, ds_bo0, ds_bo1, if_pos, if_neg, Nat.not_le, Nat.not_lt, not_true_eq_false, not_false_eq_true, if_true, if_false, ne_eq, Option.some.injEq, Prod.mk.injEq, Value.int.injEq, true_and, and_true, and_self, ite_self, Bool.not_eq_true, Bool.not_eq_false, Bool.true_eq_false, Bool.false_eq_true, reduceCtorEq, Nat.zero_add, Nat.reduceAdd, Nat.reduceMul, Nat.reduceSub, ds_setI_row, ds_setL_row, ds_rowI_self, ds_rowI_ne, ds_rowI_2, ds_rowI_rowI, ds_setS_1, ds_setS_21, ds_setS_self, ds_setS_ne, pk_us, pk_un, s1, c1, mv, q1']
theorem s_yearOf0 (d t c : Nat) (x : Int32) (z : ds_St) (D : Nat → Nat → Nat) (C : Nat → Nat) (r0 : z.2.2 0 = t) (hT : dk_tC z t D) (hD : dk_ok D) (h : dk_dk z 64 C c (D 0 4)) : ∃ z', ds_call (d + 6) j_Sea_yearOf [.ref 0, .int (nI 0), .int x] z = some (some (.int (nI (dk_trm D C c (fun _ => true)))), z') ∧ dk_fr 67 70 z z' := by
  obtain ⟨z', s1, s2, s3, s4⟩ := s_trTrial d t c z D C r0 hT hD h
  refine ⟨z', ?_, s3⟩
  have i67 : ds_K 67 = 1 := rfl
  rw [c_Sea_yearOf, b_Sea_yearOf_0]
  simp (disch := first | assumption | omega) only [ds_cI, ds_cV, ds_cL, ds_cR, ds_nn, ds_isK_t, ds_isA_t, ds_chk_t, ds_chkN, ds_nz_t, ds_nzN, ds_isB_t, ds_isB_bo, ↓dl_m1, ↓dl_m2, dl_0, dl_1, dl_2, dl_3, dl_4, dl_5, dl_6, dl_7, dl_8, dl_9, dl_10, dl_11, dl_12, dl_13, dl_14, dl_15, dl_16, dl_20, dl_24, dl_31, dl_50, dl_57, dl_67, dl_68, dl_74, dl_75, dl_79, dl_80, dl_99, dl_100, dl_200, dl_210, dl_224, dl_255, dl_289, dl_900, dl_1000, dl_1728, dl_65536, dl_65537, nI_add, pk_mul, pk_sub, pk_div, pk_rem, ds_rem2, nI_clamp, nI_leI, nI_ltI, nI_eq, ds_m1_eq, ds_eq_m1, ds_m2_eq, ds_eq_m2, ds_m1_le, ds_le_m1, ds_m1_lt, ds_lt_m1, ds_in_N, ds_bo0, ds_bo1, if_pos, if_neg, Nat.not_le, Nat.not_lt, not_true_eq_false, not_false_eq_true, if_true, if_false, ne_eq, Option.some.injEq, Prod.mk.injEq, Value.int.injEq, true_and, and_true, and_self, ite_self, Bool.not_eq_true, Bool.not_eq_false, Bool.true_eq_false, Bool.false_eq_true, reduceCtorEq, Nat.zero_add, Nat.reduceAdd, Nat.reduceMul, Nat.reduceSub, ds_setI_row, ds_setL_row, ds_rowI_self, ds_rowI_ne, ds_rowI_2, ds_rowI_rowI, ds_setS_1, ds_setS_21, ds_setS_self, ds_setS_ne, pk_us, pk_un, s1, s2]
theorem s_yearOf1 (d t c : Nat) (x : Int32) (z : ds_St) (D : Nat → Nat → Nat) (C : Nat → Nat) (r0 : z.2.2 0 = t) (hT : dk_tC z t D) (hD : dk_ok D) (h : dk_dk z 64 C c (D 0 4)) : ∃ z', ds_call (d + 6) j_Sea_yearOf [.ref 0, .int (nI 1), .int x] z = some (some (.int (nI (dk_wim D C c))), z') ∧ dk_fr 67 70 z z' := by
  obtain ⟨z', s1, s2, s3, s4⟩ := s_chartOf (d + 1) t 64 c z D C r0 hT hD h
  have s5 := s_countWishes (d + 1) t _ z' D C s4 hD s2
  rw [dk_wis_same] at s5
  refine ⟨z', ?_, s3⟩
  have i67 : ds_K 67 = 1 := rfl
  rw [c_Sea_yearOf, b_Sea_yearOf_0]
  simp (disch := first | assumption | omega) only [ds_cI, ds_cV, ds_cL, ds_cR, ds_nn, ds_isK_t, ds_isA_t, ds_chk_t, ds_chkN, ds_nz_t, ds_nzN, ds_isB_t, ds_isB_bo, ↓dl_m1, ↓dl_m2, dl_0, dl_1, dl_2, dl_3, dl_4, dl_5, dl_6, dl_7, dl_8, dl_9, dl_10, dl_11, dl_12, dl_13, dl_14, dl_15, dl_16, dl_20, dl_24, dl_31, dl_50, dl_57, dl_67, dl_68, dl_74, dl_75, dl_79, dl_80, dl_99, dl_100, dl_200, dl_210, dl_224, dl_255, dl_289, dl_900, dl_1000, dl_1728, dl_65536, dl_65537, nI_add, pk_mul, pk_sub, pk_div, pk_rem, ds_rem2, nI_clamp, nI_leI, nI_ltI, nI_eq, ds_m1_eq, ds_eq_m1, ds_m2_eq, ds_eq_m2, ds_m1_le, ds_le_m1, ds_m1_lt, ds_lt_m1, ds_in_N, ds_bo0, ds_bo1, if_pos, if_neg, Nat.not_le, Nat.not_lt, not_true_eq_false, not_false_eq_true, if_true, if_false, ne_eq, Option.some.injEq, Prod.mk.injEq, Value.int.injEq, true_and, and_true, and_self, ite_self, Bool.not_eq_true, Bool.not_eq_false, Bool.true_eq_false, Bool.false_eq_true, reduceCtorEq, Nat.zero_add, Nat.reduceAdd, Nat.reduceMul, Nat.reduceSub, ds_setI_row, ds_setL_row, ds_rowI_self, ds_rowI_ne, ds_rowI_2, ds_rowI_rowI, ds_setS_1, ds_setS_21, ds_setS_self, ds_setS_ne, pk_us, pk_un, s1, s5]
theorem s_yearOf2 (d t c i : Nat) (z : ds_St) (D : Nat → Nat → Nat) (C : Nat → Nat) (hi : i < 2 ^ 31) (r0 : z.2.2 0 = t) (hT : dk_tC z t D) (hD : dk_ok D) (h : dk_dk z 64 C c (D 0 4)) : ∃ z', ds_call (d + 6) j_Sea_yearOf [.ref 0, .int (nI 2), .int (nI i)] z = some (some (.int (nI (dk_n (dk_is D C c i)))), z') ∧ dk_fr 67 70 z z' := by
  obtain ⟨z', s1, s2, s3, s4⟩ := s_chartOf (d + 1) t 64 c z D C r0 hT hD h
  have s5 := s_placeBit (d + 3) t _ i z' D C hD s2 hi
  have hb := ds_bs_lt31 (fun p => C p == i) (show min (D 0 0 * D 0 1) c ≤ 31 by have := h.2.2.1; omega)
  refine ⟨z', ?_, s3⟩
  have i67 : ds_K 67 = 1 := rfl
  rw [c_Sea_yearOf, b_Sea_yearOf_0]
  have e : dk_any (fun p => C p == i) (min (D 0 0 * D 0 1) c) = dk_is D C c i := rfl
  simp (disch := first | assumption | omega) only [ds_cI, ds_cV, ds_cL, ds_cR, ds_nn, ds_isK_t, ds_isA_t, ds_chk_t, ds_chkN, ds_nz_t, ds_nzN, ds_isB_t, ds_isB_bo, ↓dl_m1, ↓dl_m2, dl_0, dl_1, dl_2, dl_3, dl_4, dl_5, dl_6, dl_7, dl_8, dl_9, dl_10, dl_11, dl_12, dl_13, dl_14, dl_15, dl_16, dl_20, dl_24, dl_31, dl_50, dl_57, dl_67, dl_68, dl_74, dl_75, dl_79, dl_80, dl_99, dl_100, dl_200, dl_210, dl_224, dl_255, dl_289, dl_900, dl_1000, dl_1728, dl_65536, dl_65537, nI_add, pk_mul, pk_sub, pk_div, pk_rem, ds_rem2, nI_clamp, nI_leI, nI_ltI, nI_eq, ds_m1_eq, ds_eq_m1, ds_m2_eq, ds_eq_m2, ds_m1_le, ds_le_m1, ds_m1_lt, ds_lt_m1, ds_in_N, ds_bo0, ds_bo1, if_pos, if_neg, Nat.not_le, Nat.not_lt, not_true_eq_false, not_false_eq_true, if_true, if_false, ne_eq, Option.some.injEq, Prod.mk.injEq, Value.int.injEq, true_and, and_true, and_self, ite_self, Bool.not_eq_true, Bool.not_eq_false, Bool.true_eq_false, Bool.false_eq_true, reduceCtorEq, Nat.zero_add, Nat.reduceAdd, Nat.reduceMul, Nat.reduceSub, ds_setI_row, ds_setL_row, ds_rowI_self, ds_rowI_ne, ds_rowI_2, ds_rowI_rowI, ds_setS_1, ds_setS_21, ds_setS_self, ds_setS_ne, pk_us, pk_un, s1, s5, dk_bs_0, e]
  cases dk_is D C c i <;> rfl
theorem s_goThrough (d seed n i : Nat) (z : ds_St) (D : Nat → Nat → Nat) (K : Nat → Nat) (hM : dk_HM z D K) (hD : dk_ok D) (hK : dk_okK D K) (hs : seed < 65537) (hn : n ≤ 50) (hi : i < 2 ^ 31) : ∃ z', ds_call (d + 6) j_Mod_goThrough [.ref 90, .int (nI seed), .int (nI n), .int (nI i)] z = some (none, z') ∧ dk_fm z z' ∧ z'.1 90 42 = nI (dk_sum (fun y => dk_trm D (dk_ye (K 12) (D 0 5) (seed, K) (y + 1)).2 (K 12) (fun _ => true)) n) ∧ z'.1 90 43 = nI (dk_sum (fun y => dk_wim D (dk_ye (K 12) (D 0 5) (seed, K) (y + 1)).2 (K 12)) n) ∧ z'.1 90 44 = nI (dk_sum (fun y => dk_n (dk_is D (dk_ye (K 12) (D 0 5) (seed, K) (y + 1)).2 (K 12) i)) n) := by
  obtain ⟨k2, k12, km, ki⟩ := dk_mo_K hD hK
  have o5 := hD.2.2.2.2.2.1
  have inner : ∀ m j z (s : Nat × (Nat → Nat)) (y a b c : Nat), j + m = D 0 5 → s.1 < 65537 → dk_HM z D K → dk_dm z 100 (dk_it (K 12) s j).2 (K 12) (D 0 4) → z.1 90 42 = nI a → z.1 90 43 = nI b → z.1 90 44 = nI c → ∃ z', ds_Rw ds_c_Mod_goThrough ds_u_Mod_goThrough (ds_call (d + 5)) 45 [some (.ref 90), none, some (.int (nI n)), some (.int (nI i)), some (.int (nI ((dk_it (K 12) s j).1))), some (.int (nI y)), some (.int (nI j))] [] z = ds_Rw ds_c_Mod_goThrough ds_u_Mod_goThrough (ds_call (d + 5)) 36 [some (.ref 90), none, some (.int (nI n)), some (.int (nI i)), some (.int (nI ((dk_it (K 12) s (D 0 5)).1))), some (.int (nI ((y + 1)))), none] [] z' ∧ dk_fm z z' ∧ dk_dm z' 100 (dk_it (K 12) s (D 0 5)).2 (K 12) (D 0 4) ∧ z'.1 90 42 = nI (a + dk_trm D (dk_it (K 12) s (D 0 5)).2 (K 12) (fun _ => true)) ∧ z'.1 90 43 = nI (b + dk_wim D (dk_it (K 12) s (D 0 5)).2 (K 12)) ∧ z'.1 90 44 = nI (c + dk_n (dk_is D (dk_it (K 12) s (D 0 5)).2 (K 12) i)) := by
    intro m
    induction m with
    | zero =>
      intro j z s y a b c hj hs hM hd e42 e43 e44
      have : j = D 0 5 := by omega
      subst this
      have m5 := hM.1.1.2.2.2.2.2.1
      generalize dk_it (K 12) s (D 0 5) = s' at *
      have s1 := s_tradesIn d 100 (K 12) ds_m1 (fun _ => true) z D _ hM.1 hD hd (.inl ⟨rfl, fun _ => rfl⟩)
      generalize dk_trm D s'.2 (K 12) (fun _ => true) = T at *
      let za := ds_rowI z 90 (upd (z.1 90) 42 (nI (a + T)))
      have dma : ∀ z', (∀ p, p ≠ 90 → z'.1 p = z.1 p) → dk_dm z' 100 s'.2 (K 12) (D 0 4) := fun z' h => ⟨hd.1, by rw [h 100 (by decide)]; exact hd.2.1, hd.2.2.1, by rw [h 100 (by decide)]; exact hd.2.2.2.1, hd.2.2.2.2⟩
      have tma : ∀ z', (∀ p, p ≠ 90 → z'.1 p = z.1 p) → dk_tM z' D := fun z' h => dk_tM_eq hM.1 (h 93 (by decide))
      have fa : ∀ p, p ≠ 90 → za.1 p = z.1 p := fun p hp => ds_rowI_ne _ _ hp
      have s2 := s_wishesIn (d + 1) 100 (K 12) za D _ (tma _ fa) hD (dma _ fa)
      generalize dk_wim D s'.2 (K 12) = W at *
      let zb := ds_rowI za 90 (upd (za.1 90) 43 (nI (b + W)))
      have fb : ∀ p, p ≠ 90 → zb.1 p = z.1 p := fun p hp => (ds_rowI_ne _ _ hp).trans (fa p hp)
      have s3 := s_isInSea (d + 3) 100 (K 12) i zb D _ (tma _ fb) hD (dma _ fb) hi
      generalize dk_is D s'.2 (K 12) i = I at *
      let zc := ds_rowI zb 90 (upd (zb.1 90) 44 (nI (c + dk_n I)))
      have fc : ∀ p, p ≠ 90 → zc.1 p = z.1 p := fun p hp => (ds_rowI_ne _ _ hp).trans (fb p hp)
      have a43 : za.1 90 43 = nI b := by simp only [za]; rw [ds_rowI_self, pk_un (by decide)]; exact e43
      have b44 : zb.1 90 44 = nI c := by simp only [zb, za]; rw [ds_rowI_self, pk_un (by decide), ds_rowI_self, pk_un (by decide)]; exact e44
      have a44 : za.1 90 44 = nI c := by simp only [za]; rw [ds_rowI_self, pk_un (by decide)]; exact e44
      refine ⟨zc, ?_, ⟨fun p hp h9 => fc p h9, fun k hk => ?_, fun j hj => rfl⟩, dma _ fc, ?_, ?_, ?_⟩
      · rw [b_Mod_goThrough_45]
        have ea : ds_rowI z 90 (upd (z.1 90) 42 (nI (a + T))) = za := rfl
        have eb : ds_rowI za 90 (upd (za.1 90) 43 (nI (b + W))) = zb := rfl
        have ec : ds_rowI zb 90 (upd (zb.1 90) 44 (nI (c + dk_n I))) = zc := rfl
        clear_value zc zb za
        have q43 : z.1 90 43 = nI b := e43
        have q44 : za.1 90 44 = nI c := a44
        simp only [m5, dl_m1, s1, ds_cI, ds_setI_row, e42, nI_add, ea, s2, q43, eb, s3, q44]
        rw [if_pos (nI_le (Nat.le_refl _) (by omega))]
        cases I
        · simp only [dk_n] at ec
          simp (disch := first | assumption | omega) only [ds_cI, ds_cV, ds_cL, ds_cR, ds_nn, ds_isK_t, ds_isA_t, ds_chk_t, ds_chkN, ds_nz_t, ds_nzN, ds_isB_t, ds_isB_bo, ↓dl_m1, ↓dl_m2, dl_0, dl_1, dl_2, dl_3, dl_4, dl_5, dl_6, dl_7, dl_8, dl_9, dl_10, dl_11, dl_12, dl_13, dl_14, dl_15, dl_16, dl_20, dl_24, dl_31, dl_50, dl_57, dl_67, dl_68, dl_74, dl_75, dl_79, dl_80, dl_99, dl_100, dl_200, dl_210, dl_224, dl_255, dl_289, dl_900, dl_1000, dl_1728, dl_65536, dl_65537, nI_add, pk_mul, pk_sub, pk_div, pk_rem, ds_rem2, nI_clamp, nI_leI, nI_ltI, nI_eq, ds_m1_eq, ds_eq_m1, ds_m2_eq, ds_eq_m2, ds_m1_le, ds_le_m1, ds_m1_lt, ds_lt_m1, ds_in_N, ds_bo0, ds_bo1, if_pos, if_neg, Nat.not_le, Nat.not_lt, not_true_eq_false, not_false_eq_true, if_true, if_false, ne_eq, Option.some.injEq, Prod.mk.injEq, Value.int.injEq, true_and, and_true, and_self, ite_self, Bool.not_eq_true, Bool.not_eq_false, Bool.true_eq_false, Bool.false_eq_true, reduceCtorEq, Nat.zero_add, Nat.reduceAdd, Nat.reduceMul, Nat.reduceSub, ds_setI_row, ds_setL_row, ds_rowI_self, ds_rowI_ne, ds_rowI_2, ds_rowI_rowI, ds_setS_1, ds_setS_21, ds_setS_self, ds_setS_ne, pk_us, pk_un, ec]
          rw [← ec]
          rfl
        · simp only [dk_n] at ec
          simp (disch := first | assumption | omega) only [ds_cI, ds_cV, ds_cL, ds_cR, ds_nn, ds_isK_t, ds_isA_t, ds_chk_t, ds_chkN, ds_nz_t, ds_nzN, ds_isB_t, ds_isB_bo, ↓dl_m1, ↓dl_m2, dl_0, dl_1, dl_2, dl_3, dl_4, dl_5, dl_6, dl_7, dl_8, dl_9, dl_10, dl_11, dl_12, dl_13, dl_14, dl_15, dl_16, dl_20, dl_24, dl_31, dl_50, dl_57, dl_67, dl_68, dl_74, dl_75, dl_79, dl_80, dl_99, dl_100, dl_200, dl_210, dl_224, dl_255, dl_289, dl_900, dl_1000, dl_1728, dl_65536, dl_65537, nI_add, pk_mul, pk_sub, pk_div, pk_rem, ds_rem2, nI_clamp, nI_leI, nI_ltI, nI_eq, ds_m1_eq, ds_eq_m1, ds_m2_eq, ds_eq_m2, ds_m1_le, ds_le_m1, ds_m1_lt, ds_lt_m1, ds_in_N, ds_bo0, ds_bo1, if_pos, if_neg, Nat.not_le, Nat.not_lt, not_true_eq_false, not_false_eq_true, if_true, if_false, ne_eq, Option.some.injEq, Prod.mk.injEq, Value.int.injEq, true_and, and_true, and_self, ite_self, Bool.not_eq_true, Bool.not_eq_false, Bool.true_eq_false, Bool.false_eq_true, reduceCtorEq, Nat.zero_add, Nat.reduceAdd, Nat.reduceMul, Nat.reduceSub, ds_setI_row, ds_setL_row, ds_rowI_self, ds_rowI_ne, ds_rowI_2, ds_rowI_rowI, ds_setS_1, ds_setS_21, ds_setS_self, ds_setS_ne, pk_us, pk_un, ec]
          rw [← ec]
          rfl
      · simp only [zc, zb, za]
        rw [ds_rowI_self, pk_un (by omega), ds_rowI_self, pk_un (by omega), ds_rowI_self, pk_un (by omega)]
      · simp only [zc, zb, za]
        rw [ds_rowI_self, pk_un (by decide), ds_rowI_self, pk_un (by decide), ds_rowI_self, pk_us]
      · simp only [zc, zb, za]
        rw [ds_rowI_self, pk_un (by decide), ds_rowI_self, pk_us]
      · simp only [zc, zb, za]
        rw [ds_rowI_self, pk_us]
    | succ m ih =>
      intro j z s y a b c hj hs hM hd e42 e43 e44
      have m5 := hM.1.1.2.2.2.2.2.1
      have hl := dk_it_lt (c := K 12) hs j
      have hm : (75 * (dk_it (K 12) s j).1 + 74) % 65537 % (K 12 + 2) < K 12 + 2 := Nat.mod_lt _ (by omega)
      have hm2 : (75 * (dk_it (K 12) s j).1 + 74) % 65537 < 65537 := Nat.mod_lt _ (by decide)
      have mv := s_mmovesOf (d + 4) (K 12) 100 z rfl rfl hd.2.1
      obtain ⟨z1, s1, s2, s3, s4, s5⟩ := s_mkM (d + 3) 100 ((75 * (dk_it (K 12) s j).1 + 74) % 65537 % (K 12 + 2)) (K 12) (D 0 4) z _ (by omega) hd
      have f1 := dk_fm_of (by decide) s3 s5
      have e9 := s3 90 (by decide) (by decide)
      obtain ⟨z2, q1, q2, q3, q4, q5, q6⟩ := ih (j + 1) z1 s y a b c (by omega) hs (dk_HM_fm hM f1) s2 (by rw [e9]; exact e42) (by rw [e9]; exact e43) (by rw [e9]; exact e44)
      refine ⟨z2, ?_, dk_fm_trans f1 q2, q3, q4, q5, q6⟩
      rw [← q1, b_Mod_goThrough_45]
      simp only [dk_it]
      clear q1 q2 q3 q4 q5 q6 ih
      generalize (dk_it (K 12) s j).1 = dr at *
      have e1 : 75 * dr + 74 < 2 ^ 31 := by omega
      have er : 75 * dr + 74 - (75 * dr + 74) / 65537 * 65537 = (75 * dr + 74) % 65537 := by omega
      simp (disch := first | assumption | omega) only [ds_cI, ds_cV, ds_cL, ds_cR, ds_nn, ds_isK_t, ds_isA_t, ds_chk_t, ds_chkN, ds_nz_t, ds_nzN, ds_isB_t, ds_isB_bo, ↓dl_m1, ↓dl_m2, dl_0, dl_1, dl_2, dl_3, dl_4, dl_5, dl_6, dl_7, dl_8, dl_9, dl_10, dl_11, dl_12, dl_13, dl_14, dl_15, dl_16, dl_20, dl_24, dl_31, dl_50, dl_57, dl_67, dl_68, dl_74, dl_75, dl_79, dl_80, dl_99, dl_100, dl_200, dl_210, dl_224, dl_255, dl_289, dl_900, dl_1000, dl_1728, dl_65536, dl_65537, nI_add, pk_mul, pk_sub, pk_div, pk_rem, ds_rem2, nI_clamp, nI_leI, nI_ltI, nI_eq, ds_m1_eq, ds_eq_m1, ds_m2_eq, ds_eq_m2, ds_m1_le, ds_le_m1, ds_m1_lt, ds_lt_m1, ds_in_N, ds_bo0, ds_bo1, if_pos, if_neg, Nat.not_le, Nat.not_lt, not_true_eq_false, not_false_eq_true, if_true, if_false, ne_eq, Option.some.injEq, Prod.mk.injEq, Value.int.injEq, true_and, and_true, and_self, ite_self, Bool.not_eq_true, Bool.not_eq_false, Bool.true_eq_false, Bool.false_eq_true, reduceCtorEq, Nat.zero_add, Nat.reduceAdd, Nat.reduceMul, Nat.reduceSub, ds_setI_row, ds_setL_row, ds_rowI_self, ds_rowI_ne, ds_rowI_2, ds_rowI_rowI, ds_setS_1, ds_setS_21, ds_setS_self, ds_setS_ne, pk_us, pk_un, m5, mv, er, s1]
  have outer : ∀ m y z, y + m = n → dk_HM z D K → dk_dm z 100 (dk_ye (K 12) (D 0 5) (seed, K) y).2 (K 12) (D 0 4) → z.1 90 42 = nI (dk_sum (fun y => dk_trm D (dk_ye (K 12) (D 0 5) (seed, K) (y + 1)).2 (K 12) (fun _ => true)) y) → z.1 90 43 = nI (dk_sum (fun y => dk_wim D (dk_ye (K 12) (D 0 5) (seed, K) (y + 1)).2 (K 12)) y) → z.1 90 44 = nI (dk_sum (fun y => dk_n (dk_is D (dk_ye (K 12) (D 0 5) (seed, K) (y + 1)).2 (K 12) i)) y) → ∃ z', ds_Rw ds_c_Mod_goThrough ds_u_Mod_goThrough (ds_call (d + 5)) 36 [some (.ref 90), none, some (.int (nI n)), some (.int (nI i)), some (.int (nI ((dk_ye (K 12) (D 0 5) (seed, K) y).1))), some (.int (nI y)), none] [] z = some (none, z') ∧ dk_fm z z' ∧ z'.1 90 42 = nI (dk_sum (fun y => dk_trm D (dk_ye (K 12) (D 0 5) (seed, K) (y + 1)).2 (K 12) (fun _ => true)) n) ∧ z'.1 90 43 = nI (dk_sum (fun y => dk_wim D (dk_ye (K 12) (D 0 5) (seed, K) (y + 1)).2 (K 12)) n) ∧ z'.1 90 44 = nI (dk_sum (fun y => dk_n (dk_is D (dk_ye (K 12) (D 0 5) (seed, K) (y + 1)).2 (K 12) i)) n) := by
    intro m
    induction m with
    | zero =>
      intro y z hy hM hd e1 e2 e3
      have : y = n := by omega
      subst this
      refine ⟨z, ?_, dk_fm_refl _, e1, e2, e3⟩
      rw [b_Mod_goThrough_36]
      simp (disch := first | assumption | omega) only [ds_cI, ds_cV, ds_cL, ds_cR, ds_nn, ds_isK_t, ds_isA_t, ds_chk_t, ds_chkN, ds_nz_t, ds_nzN, ds_isB_t, ds_isB_bo, ↓dl_m1, ↓dl_m2, dl_0, dl_1, dl_2, dl_3, dl_4, dl_5, dl_6, dl_7, dl_8, dl_9, dl_10, dl_11, dl_12, dl_13, dl_14, dl_15, dl_16, dl_20, dl_24, dl_31, dl_50, dl_57, dl_67, dl_68, dl_74, dl_75, dl_79, dl_80, dl_99, dl_100, dl_200, dl_210, dl_224, dl_255, dl_289, dl_900, dl_1000, dl_1728, dl_65536, dl_65537, nI_add, pk_mul, pk_sub, pk_div, pk_rem, ds_rem2, nI_clamp, nI_leI, nI_ltI, nI_eq, ds_m1_eq, ds_eq_m1, ds_m2_eq, ds_eq_m2, ds_m1_le, ds_le_m1, ds_m1_lt, ds_lt_m1, ds_in_N, ds_bo0, ds_bo1, if_pos, if_neg, Nat.not_le, Nat.not_lt, not_true_eq_false, not_false_eq_true, if_true, if_false, ne_eq, Option.some.injEq, Prod.mk.injEq, Value.int.injEq, true_and, and_true, and_self, ite_self, Bool.not_eq_true, Bool.not_eq_false, Bool.true_eq_false, Bool.false_eq_true, reduceCtorEq, Nat.zero_add, Nat.reduceAdd, Nat.reduceMul, Nat.reduceSub, ds_setI_row, ds_setL_row, ds_rowI_self, ds_rowI_ne, ds_rowI_2, ds_rowI_rowI, ds_setS_1, ds_setS_21, ds_setS_self, ds_setS_ne, pk_us, pk_un]
    | succ m ih =>
      intro y z hy hM hd e1 e2 e3
      obtain ⟨z1, s1, s2, s3, s4, s5, s6⟩ := inner (D 0 5) 0 z (dk_ye (K 12) (D 0 5) (seed, K) y) y _ _ _ (by omega) (dk_ye_lt hs y) hM hd e1 e2 e3
      obtain ⟨z2, q1, q2, q3⟩ := ih (y + 1) z1 (by omega) (dk_HM_fm hM s2) s3 s4 s5 s6
      refine ⟨z2, ?_, dk_fm_trans s2 q2, q3⟩
      rw [← q1, b_Mod_goThrough_36]
      have e : dk_ye (K 12) (D 0 5) (seed, K) (y + 1) = dk_it (K 12) (dk_ye (K 12) (D 0 5) (seed, K) y) (D 0 5) := rfl
      have e0 : dk_it (K 12) (dk_ye (K 12) (D 0 5) (seed, K) y) 0 = dk_ye (K 12) (D 0 5) (seed, K) y := rfl
      rw [e0] at s1
      rw [e]
      simp (disch := first | assumption | omega) only [ds_cI, ds_cV, ds_cL, ds_cR, ds_nn, ds_isK_t, ds_isA_t, ds_chk_t, ds_chkN, ds_nz_t, ds_nzN, ds_isB_t, ds_isB_bo, ↓dl_m1, ↓dl_m2, dl_0, dl_1, dl_2, dl_3, dl_4, dl_5, dl_6, dl_7, dl_8, dl_9, dl_10, dl_11, dl_12, dl_13, dl_14, dl_15, dl_16, dl_20, dl_24, dl_31, dl_50, dl_57, dl_67, dl_68, dl_74, dl_75, dl_79, dl_80, dl_99, dl_100, dl_200, dl_210, dl_224, dl_255, dl_289, dl_900, dl_1000, dl_1728, dl_65536, dl_65537, nI_add, pk_mul, pk_sub, pk_div, pk_rem, ds_rem2, nI_clamp, nI_leI, nI_ltI, nI_eq, ds_m1_eq, ds_eq_m1, ds_m2_eq, ds_eq_m2, ds_m1_le, ds_le_m1, ds_m1_lt, ds_lt_m1, ds_in_N, ds_bo0, ds_bo1, if_pos, if_neg, Nat.not_le, Nat.not_lt, not_true_eq_false, not_false_eq_true, if_true, if_false, ne_eq, Option.some.injEq, Prod.mk.injEq, Value.int.injEq, true_and, and_true, and_self, ite_self, Bool.not_eq_true, Bool.not_eq_false, Bool.true_eq_false, Bool.false_eq_true, reduceCtorEq, Nat.zero_add, Nat.reduceAdd, Nat.reduceMul, Nat.reduceSub, ds_setI_row, ds_setL_row, ds_rowI_self, ds_rowI_ne, ds_rowI_2, ds_rowI_rowI, ds_setS_1, ds_setS_21, ds_setS_self, ds_setS_ne, pk_us, pk_un, s1]
  obtain ⟨z1, s1, s2, s3, s4, s5⟩ := s_takeM (d + 4) 100 z D K (.inl rfl) hM hK
  let z1' := ds_rowI z1 90 (upd (upd (upd (z1.1 90) 42 (nI 0)) 43 (nI 0)) 44 (nI 0))
  have ff : dk_fm z z1' := ⟨fun p hp h9 => by simp only [z1']; rw [ds_rowI_ne _ _ h9]; exact s3.1 p hp h9, fun k hk => by simp only [z1']; rw [ds_rowI_self, pk_un (by omega), pk_un (by omega), pk_un (by omega)]; exact s3.2.1 k hk, fun j hj => s3.2.2 j hj⟩
  have hd' : dk_dm z1' 100 K (K 12) (D 0 4) := ⟨s2.1, by simp only [z1']; rw [ds_rowI_ne _ _ (by decide)]; exact s2.2.1, s2.2.2.1, by simp only [z1']; rw [ds_rowI_ne _ _ (by decide)]; exact s2.2.2.2.1, s2.2.2.2.2⟩
  obtain ⟨z2, q1, q2, q3⟩ := outer n 0 z1' (by omega) (dk_HM_fm hM ff) hd' (by simp only [z1']; rw [ds_rowI_self, pk_un (by decide), pk_un (by decide), pk_us]; rfl) (by simp only [z1']; rw [ds_rowI_self, pk_un (by decide), pk_us]; rfl) (by simp only [z1']; rw [ds_rowI_self, pk_us]; rfl)
  refine ⟨z2, ?_, dk_fm_trans ff q2, q3⟩
  have q1' : ds_Rw ds_c_Mod_goThrough ds_u_Mod_goThrough (ds_call (d + 5)) 36 [some (.ref 90), none, some (.int (nI n)), some (.int (nI i)), some (.int (nI seed)), some (.int (nI 0)), none] [] z1' = some (none, z2) := q1
  rw [c_Mod_goThrough, b_Mod_goThrough_0]
  simp only [z1'] at q1'
  simp (disch := first | assumption | omega) only [ds_cI, ds_cV, ds_cL, ds_cR, ds_nn, ds_isK_t, ds_isA_t, ds_chk_t, ds_chkN, ds_nz_t, ds_nzN, ds_isB_t, ds_isB_bo, ↓dl_m1, ↓dl_m2, dl_0, dl_1, dl_2, dl_3, dl_4, dl_5, dl_6, dl_7, dl_8, dl_9, dl_10, dl_11, dl_12, dl_13, dl_14, dl_15, dl_16, dl_20, dl_24, dl_31, dl_50, dl_57, dl_67, dl_68, dl_74, dl_75, dl_79, dl_80, dl_99, dl_100, dl_200, dl_210, dl_224, dl_255, dl_289, dl_900, dl_1000, dl_1728, dl_65536, dl_65537, nI_add, pk_mul, pk_sub, pk_div, pk_rem, ds_rem2, nI_clamp, nI_leI, nI_ltI, nI_eq, ds_m1_eq, ds_eq_m1, ds_m2_eq, ds_eq_m2, ds_m1_le, ds_le_m1, ds_m1_lt, ds_lt_m1, ds_in_N, ds_bo0, ds_bo1, if_pos, if_neg, Nat.not_le, Nat.not_lt, not_true_eq_false, not_false_eq_true, if_true, if_false, ne_eq, Option.some.injEq, Prod.mk.injEq, Value.int.injEq, true_and, and_true, and_self, ite_self, Bool.not_eq_true, Bool.not_eq_false, Bool.true_eq_false, Bool.false_eq_true, reduceCtorEq, Nat.zero_add, Nat.reduceAdd, Nat.reduceMul, Nat.reduceSub, ds_setI_row, ds_setL_row, ds_rowI_self, ds_rowI_ne, ds_rowI_2, ds_rowI_rowI, ds_setS_1, ds_setS_21, ds_setS_self, ds_setS_ne, pk_us, pk_un, s1, q1']
theorem s_isDecade (d : Nat) (x y : Int32) (z : ds_St) : ds_call (d + 1) j_Sea_isDecade [.int x, .int y] z = some (some (.int (ds_bo (dk_rng x 65537 && dk_rng y 51))), z) := by
  have e1 : (65536 < x) = (nI 65537 ≤ x) := by
    apply propext
    rw [Int32.lt_iff_toInt_lt, Int32.le_iff_toInt_le, nI_toInt (by decide)]
    have : (65536 : Int32).toInt = 65536 := by decide
    omega
  have e2 : (50 < y) = (nI 51 ≤ y) := by
    apply propext
    rw [Int32.lt_iff_toInt_lt, Int32.le_iff_toInt_le, nI_toInt (by decide)]
    have : (50 : Int32).toInt = 50 := by decide
    omega
  rw [c_Sea_isDecade, b_Sea_isDecade_0]
  simp only [e1, e2]
  unfold dk_rng
  by_cases h1 : x < 0
  · have h1' : x < nI 0 := h1
    rw [if_pos h1, decide_eq_true h1']
    rfl
  · have h1' : ¬ x < nI 0 := h1
    rw [if_neg h1, decide_eq_false h1']
    by_cases h2 : nI 65537 ≤ x
    · rw [if_pos h2, decide_eq_true h2]
      rfl
    · rw [if_neg h2, decide_eq_false h2]
      by_cases h3 : y < 0
      · have h3' : y < nI 0 := h3
        rw [if_pos h3, decide_eq_true h3']
        rfl
      · have h3' : ¬ y < nI 0 := h3
        rw [if_neg h3, decide_eq_false h3']
        by_cases h4 : nI 51 ≤ y
        · rw [if_pos h4, decide_eq_true h4]
          rfl
        · rw [if_neg h4, decide_eq_false h4]
          rfl
theorem s_decadeWhy (d : Nat) (b : Bool) (x y : Int32) (z : ds_St) : ds_call (d + 2) j_Mod_decadeWhy [.ref 90, .int (ds_bo b), .int x, .int y] z = some (some (.int (nI (if b = true then (if (dk_rng x 65537 && dk_rng y 51) = true then 0 else 2) else 1))), z) := by
  have g1 := s_in_rng' d 65536 x z (by decide)
  have g2 := s_in_rng' d 50 y z (by decide)
  rw [c_Mod_decadeWhy, b_Mod_decadeWhy_0]
  cases b <;> cases h1 : dk_rng x 65537 <;> cases h2 : dk_rng y 51 <;> simp (disch := first | assumption | omega | rfl | decide) only [ds_cI, ds_cV, ds_cL, ds_cR, ds_nn, ds_isK_t, ds_isA_t, ds_chk_t, ds_chkN, ds_nz_t, ds_nzN, ds_isB_t, ds_isB_bo, ↓dl_m1, ↓dl_m2, dl_0, dl_1, dl_2, dl_3, dl_4, dl_5, dl_6, dl_7, dl_8, dl_9, dl_10, dl_11, dl_12, dl_13, dl_14, dl_15, dl_16, dl_20, dl_24, dl_31, dl_50, dl_57, dl_67, dl_68, dl_74, dl_75, dl_79, dl_80, dl_99, dl_100, dl_200, dl_210, dl_224, dl_255, dl_289, dl_900, dl_1000, dl_1728, dl_65536, dl_65537, nI_add, pk_mul, pk_sub, pk_div, pk_rem, ds_rem2, nI_clamp, nI_leI, nI_ltI, nI_eq, ds_m1_eq, ds_eq_m1, ds_m2_eq, ds_eq_m2, ds_m1_le, ds_le_m1, ds_m1_lt, ds_lt_m1, ds_in_N, ds_bo0, ds_bo1, if_pos, if_neg, Nat.not_le, Nat.not_lt, not_true_eq_false, not_false_eq_true, if_true, if_false, ne_eq, Option.some.injEq, Prod.mk.injEq, Value.int.injEq, true_and, and_true, and_self, ite_self, Bool.not_eq_true, Bool.not_eq_false, Bool.true_eq_false, Bool.false_eq_true, reduceCtorEq, Nat.zero_add, Nat.reduceAdd, Nat.reduceMul, Nat.reduceSub, ds_setI_row, ds_setL_row, ds_rowI_self, ds_rowI_ne, ds_rowI_2, ds_rowI_rowI, ds_setS_1, ds_setS_21, ds_setS_self, ds_setS_ne, pk_us, pk_un, g1, g2, h1, h2, Bool.true_and, Bool.false_and]
theorem k_decade (d : Nat) (x y : Int32) (z : ds_St) (h : dk_Inv z) : ∃ v z1 z2, ds_call (d + 20) j_Sea_decade [.ref 0, .int x, .int y] z = some (some v, z1) ∧ ds_call (d + 20) j_Mod_decade [.ref 90, .int x, .int y] z1 = some (some v, z2) ∧ dk_Inv z2 := by
  apply dk_both h
  intro t D K hC hM hz
  have hs := s_hasSea (d + 18) t z D K hC hz
  have hd := s_isDecade (d + 18) x y z
  have hw := fun b z => s_decadeWhy (d + 17) b x y z
  rcases hz with ⟨hD, hK⟩ | ⟨h0, hc0, hp0⟩
  · have hn : 0 < D 0 4 := by have := hD.2.2.2.2.1.1; omega
    rcases Bool.eq_false_or_eq_true (dk_rng x 65537 && dk_rng y 51) with hr | hr
    · have hr' := hr
      rw [Bool.and_eq_true] at hr'
      obtain ⟨seed, h1, rfl⟩ := (dk_rng_iff (by decide)).mp hr'.1
      obtain ⟨n, h2, rfl⟩ := (dk_rng_iff (by decide)).mp hr'.2
      obtain ⟨z', s1, s2⟩ := s_sumYears (d + 12) t seed n (nI 0) ds_m1 (fun C => dk_trm D C (K 12) (fun _ => true)) z D K hC hD hK h1 (by omega) (fun z C r0 hT hd => s_yearOf0 (d + 12) t (K 12) ds_m1 z D C r0 hT hD hd)
      refine ⟨.int (nI (dk_sum (fun y => dk_trm D (dk_ye (K 12) (D 0 5) (seed, K) (y + 1)).2 (K 12) (fun _ => true)) n)), nI 0, ds_rowI z' 0 (upd (z'.1 0) 10 (nI 0)), ?_, dk_qC_row _ s2, fun z0 hM0 => ?_⟩
      · rw [c_Sea_decade, b_Sea_decade_0]
        simp (disch := first | assumption | omega) only [ds_cI, ds_cV, ds_cL, ds_cR, ds_nn, ds_isK_t, ds_isA_t, ds_chk_t, ds_chkN, ds_nz_t, ds_nzN, ds_isB_t, ds_isB_bo, ↓dl_m1, ↓dl_m2, dl_0, dl_1, dl_2, dl_3, dl_4, dl_5, dl_6, dl_7, dl_8, dl_9, dl_10, dl_11, dl_12, dl_13, dl_14, dl_15, dl_16, dl_20, dl_24, dl_31, dl_50, dl_57, dl_67, dl_68, dl_74, dl_75, dl_79, dl_80, dl_99, dl_100, dl_200, dl_210, dl_224, dl_255, dl_289, dl_900, dl_1000, dl_1728, dl_65536, dl_65537, nI_add, pk_mul, pk_sub, pk_div, pk_rem, ds_rem2, nI_clamp, nI_leI, nI_ltI, nI_eq, ds_m1_eq, ds_eq_m1, ds_m2_eq, ds_eq_m2, ds_m1_le, ds_le_m1, ds_m1_lt, ds_lt_m1, ds_in_N, ds_bo0, ds_bo1, if_pos, if_neg, Nat.not_le, Nat.not_lt, not_true_eq_false, not_false_eq_true, if_true, if_false, ne_eq, Option.some.injEq, Prod.mk.injEq, Value.int.injEq, true_and, and_true, and_self, ite_self, Bool.not_eq_true, Bool.not_eq_false, Bool.true_eq_false, Bool.false_eq_true, reduceCtorEq, Nat.zero_add, Nat.reduceAdd, Nat.reduceMul, Nat.reduceSub, ds_setI_row, ds_setL_row, ds_rowI_self, ds_rowI_ne, ds_rowI_2, ds_rowI_rowI, ds_setS_1, ds_setS_21, ds_setS_self, ds_setS_ne, pk_us, pk_un, s_answer, hs, hn, decide_true, hd, hr, s1]
      · have hMg := dk_zg_HM hM0
        have hsg := hMg.2.1
        obtain ⟨z2, q1, q2, q3, q4, q5⟩ := s_goThrough (d + 13) seed n 0 (dk_zg z0) D K hMg hD hK h1 (by omega) (by decide)
        refine ⟨z2, ?_, dk_qM_ok q2⟩
        rw [c_Mod_decade, b_Mod_decade_0]
        simp (disch := first | assumption | omega) only [ds_cI, ds_cV, ds_cL, ds_cR, ds_nn, ds_isK_t, ds_isA_t, ds_chk_t, ds_chkN, ds_nz_t, ds_nzN, ds_isB_t, ds_isB_bo, ↓dl_m1, ↓dl_m2, dl_0, dl_1, dl_2, dl_3, dl_4, dl_5, dl_6, dl_7, dl_8, dl_9, dl_10, dl_11, dl_12, dl_13, dl_14, dl_15, dl_16, dl_20, dl_24, dl_31, dl_50, dl_57, dl_67, dl_68, dl_74, dl_75, dl_79, dl_80, dl_99, dl_100, dl_200, dl_210, dl_224, dl_255, dl_289, dl_900, dl_1000, dl_1728, dl_65536, dl_65537, nI_add, pk_mul, pk_sub, pk_div, pk_rem, ds_rem2, nI_clamp, nI_leI, nI_ltI, nI_eq, ds_m1_eq, ds_eq_m1, ds_m2_eq, ds_eq_m2, ds_m1_le, ds_le_m1, ds_m1_lt, ds_lt_m1, ds_in_N, ds_bo0, ds_bo1, if_pos, if_neg, Nat.not_le, Nat.not_lt, not_true_eq_false, not_false_eq_true, if_true, if_false, ne_eq, Option.some.injEq, Prod.mk.injEq, Value.int.injEq, true_and, and_true, and_self, ite_self, Bool.not_eq_true, Bool.not_eq_false, Bool.true_eq_false, Bool.false_eq_true, reduceCtorEq, Nat.zero_add, Nat.reduceAdd, Nat.reduceMul, Nat.reduceSub, ds_setI_row, ds_setL_row, ds_rowI_self, ds_rowI_ne, ds_rowI_2, ds_rowI_rowI, ds_setS_1, ds_setS_21, ds_setS_self, ds_setS_ne, pk_us, pk_un, s_good, hsg, hw, hn, decide_true, hr, q1, q3]
    · refine ⟨.int ds_m1, nI 2, ds_rowI z 0 (upd (z.1 0) 10 (nI 2)), ?_, dk_qC_no z _, fun z0 hM0 => ⟨ds_rowI (dk_zg z0) 90 (upd ((dk_zg z0).1 90) 11 (nI 2)), ?_, dk_qM_no z0 _⟩⟩
      · rw [c_Sea_decade, b_Sea_decade_0]
        simp (disch := first | assumption | omega | rfl | decide) only [ds_cI, ds_cV, ds_cL, ds_cR, ds_nn, ds_isK_t, ds_isA_t, ds_chk_t, ds_chkN, ds_nz_t, ds_nzN, ds_isB_t, ds_isB_bo, ↓dl_m1, ↓dl_m2, dl_0, dl_1, dl_2, dl_3, dl_4, dl_5, dl_6, dl_7, dl_8, dl_9, dl_10, dl_11, dl_12, dl_13, dl_14, dl_15, dl_16, dl_20, dl_24, dl_31, dl_50, dl_57, dl_67, dl_68, dl_74, dl_75, dl_79, dl_80, dl_99, dl_100, dl_200, dl_210, dl_224, dl_255, dl_289, dl_900, dl_1000, dl_1728, dl_65536, dl_65537, nI_add, pk_mul, pk_sub, pk_div, pk_rem, ds_rem2, nI_clamp, nI_leI, nI_ltI, nI_eq, ds_m1_eq, ds_eq_m1, ds_m2_eq, ds_eq_m2, ds_m1_le, ds_le_m1, ds_m1_lt, ds_lt_m1, ds_in_N, ds_bo0, ds_bo1, if_pos, if_neg, Nat.not_le, Nat.not_lt, not_true_eq_false, not_false_eq_true, if_true, if_false, ne_eq, Option.some.injEq, Prod.mk.injEq, Value.int.injEq, true_and, and_true, and_self, ite_self, Bool.not_eq_true, Bool.not_eq_false, Bool.true_eq_false, Bool.false_eq_true, reduceCtorEq, Nat.zero_add, Nat.reduceAdd, Nat.reduceMul, Nat.reduceSub, ds_setI_row, ds_setL_row, ds_rowI_self, ds_rowI_ne, ds_rowI_2, ds_rowI_rowI, ds_setS_1, ds_setS_21, ds_setS_self, ds_setS_ne, pk_us, pk_un, s_refuse, hs, hn, decide_true, hd, hr]
      · have hMg := dk_zg_HM hM0
        have hsg := hMg.2.1
        rw [c_Mod_decade, b_Mod_decade_0]
        simp (disch := first | assumption | omega | rfl | decide) only [ds_cI, ds_cV, ds_cL, ds_cR, ds_nn, ds_isK_t, ds_isA_t, ds_chk_t, ds_chkN, ds_nz_t, ds_nzN, ds_isB_t, ds_isB_bo, ↓dl_m1, ↓dl_m2, dl_0, dl_1, dl_2, dl_3, dl_4, dl_5, dl_6, dl_7, dl_8, dl_9, dl_10, dl_11, dl_12, dl_13, dl_14, dl_15, dl_16, dl_20, dl_24, dl_31, dl_50, dl_57, dl_67, dl_68, dl_74, dl_75, dl_79, dl_80, dl_99, dl_100, dl_200, dl_210, dl_224, dl_255, dl_289, dl_900, dl_1000, dl_1728, dl_65536, dl_65537, nI_add, pk_mul, pk_sub, pk_div, pk_rem, ds_rem2, nI_clamp, nI_leI, nI_ltI, nI_eq, ds_m1_eq, ds_eq_m1, ds_m2_eq, ds_eq_m2, ds_m1_le, ds_le_m1, ds_m1_lt, ds_lt_m1, ds_in_N, ds_bo0, ds_bo1, if_pos, if_neg, Nat.not_le, Nat.not_lt, not_true_eq_false, not_false_eq_true, if_true, if_false, ne_eq, Option.some.injEq, Prod.mk.injEq, Value.int.injEq, true_and, and_true, and_self, ite_self, Bool.not_eq_true, Bool.not_eq_false, Bool.true_eq_false, Bool.false_eq_true, reduceCtorEq, Nat.zero_add, Nat.reduceAdd, Nat.reduceMul, Nat.reduceSub, ds_setI_row, ds_setL_row, ds_rowI_self, ds_rowI_ne, ds_rowI_2, ds_rowI_rowI, ds_setS_1, ds_setS_21, ds_setS_self, ds_setS_ne, pk_us, pk_un, s_good, s_no, hsg, hw, hn, decide_true, hr]
  · have h4 := h0 4 (by decide)
    refine ⟨.int ds_m1, nI 1, ds_rowI z 0 (upd (z.1 0) 10 (nI 1)), ?_, dk_qC_no z _, fun z0 hM0 => ⟨ds_rowI (dk_zg z0) 90 (upd ((dk_zg z0).1 90) 11 (nI 1)), ?_, dk_qM_no z0 _⟩⟩
    · rw [c_Sea_decade, b_Sea_decade_0]
      simp (disch := first | assumption | omega | rfl | decide) only [ds_cI, ds_cV, ds_cL, ds_cR, ds_nn, ds_isK_t, ds_isA_t, ds_chk_t, ds_chkN, ds_nz_t, ds_nzN, ds_isB_t, ds_isB_bo, ↓dl_m1, ↓dl_m2, dl_0, dl_1, dl_2, dl_3, dl_4, dl_5, dl_6, dl_7, dl_8, dl_9, dl_10, dl_11, dl_12, dl_13, dl_14, dl_15, dl_16, dl_20, dl_24, dl_31, dl_50, dl_57, dl_67, dl_68, dl_74, dl_75, dl_79, dl_80, dl_99, dl_100, dl_200, dl_210, dl_224, dl_255, dl_289, dl_900, dl_1000, dl_1728, dl_65536, dl_65537, nI_add, pk_mul, pk_sub, pk_div, pk_rem, ds_rem2, nI_clamp, nI_leI, nI_ltI, nI_eq, ds_m1_eq, ds_eq_m1, ds_m2_eq, ds_eq_m2, ds_m1_le, ds_le_m1, ds_m1_lt, ds_lt_m1, ds_in_N, ds_bo0, ds_bo1, if_pos, if_neg, Nat.not_le, Nat.not_lt, not_true_eq_false, not_false_eq_true, if_true, if_false, ne_eq, Option.some.injEq, Prod.mk.injEq, Value.int.injEq, true_and, and_true, and_self, ite_self, Bool.not_eq_true, Bool.not_eq_false, Bool.true_eq_false, Bool.false_eq_true, reduceCtorEq, Nat.zero_add, Nat.reduceAdd, Nat.reduceMul, Nat.reduceSub, ds_setI_row, ds_setL_row, ds_rowI_self, ds_rowI_ne, ds_rowI_2, ds_rowI_rowI, ds_setS_1, ds_setS_21, ds_setS_self, ds_setS_ne, pk_us, pk_un, s_refuse, hs, h4, Nat.lt_irrefl, decide_false]
    · have hMg := dk_zg_HM hM0
      have hsg := hMg.2.1
      rw [c_Mod_decade, b_Mod_decade_0]
      simp (disch := first | assumption | omega | rfl | decide) only [ds_cI, ds_cV, ds_cL, ds_cR, ds_nn, ds_isK_t, ds_isA_t, ds_chk_t, ds_chkN, ds_nz_t, ds_nzN, ds_isB_t, ds_isB_bo, ↓dl_m1, ↓dl_m2, dl_0, dl_1, dl_2, dl_3, dl_4, dl_5, dl_6, dl_7, dl_8, dl_9, dl_10, dl_11, dl_12, dl_13, dl_14, dl_15, dl_16, dl_20, dl_24, dl_31, dl_50, dl_57, dl_67, dl_68, dl_74, dl_75, dl_79, dl_80, dl_99, dl_100, dl_200, dl_210, dl_224, dl_255, dl_289, dl_900, dl_1000, dl_1728, dl_65536, dl_65537, nI_add, pk_mul, pk_sub, pk_div, pk_rem, ds_rem2, nI_clamp, nI_leI, nI_ltI, nI_eq, ds_m1_eq, ds_eq_m1, ds_m2_eq, ds_eq_m2, ds_m1_le, ds_le_m1, ds_m1_lt, ds_lt_m1, ds_in_N, ds_bo0, ds_bo1, if_pos, if_neg, Nat.not_le, Nat.not_lt, not_true_eq_false, not_false_eq_true, if_true, if_false, ne_eq, Option.some.injEq, Prod.mk.injEq, Value.int.injEq, true_and, and_true, and_self, ite_self, Bool.not_eq_true, Bool.not_eq_false, Bool.true_eq_false, Bool.false_eq_true, reduceCtorEq, Nat.zero_add, Nat.reduceAdd, Nat.reduceMul, Nat.reduceSub, ds_setI_row, ds_setL_row, ds_rowI_self, ds_rowI_ne, ds_rowI_2, ds_rowI_rowI, ds_setS_1, ds_setS_21, ds_setS_self, ds_setS_ne, pk_us, pk_un, s_good, s_no, hsg, hw, h4, Nat.lt_irrefl, decide_false]
theorem k_decadeWishes (d : Nat) (x y : Int32) (z : ds_St) (h : dk_Inv z) : ∃ v z1 z2, ds_call (d + 20) j_Sea_decadeWishes [.ref 0, .int x, .int y] z = some (some v, z1) ∧ ds_call (d + 20) j_Mod_decadeWishes [.ref 90, .int x, .int y] z1 = some (some v, z2) ∧ dk_Inv z2 := by
  apply dk_both h
  intro t D K hC hM hz
  have hs := s_hasSea (d + 18) t z D K hC hz
  have hd := s_isDecade (d + 18) x y z
  have hw := fun b z => s_decadeWhy (d + 17) b x y z
  rcases hz with ⟨hD, hK⟩ | ⟨h0, hc0, hp0⟩
  · have hn : 0 < D 0 4 := by have := hD.2.2.2.2.1.1; omega
    rcases Bool.eq_false_or_eq_true (dk_rng x 65537 && dk_rng y 51) with hr | hr
    · have hr' := hr
      rw [Bool.and_eq_true] at hr'
      obtain ⟨seed, h1, rfl⟩ := (dk_rng_iff (by decide)).mp hr'.1
      obtain ⟨n, h2, rfl⟩ := (dk_rng_iff (by decide)).mp hr'.2
      obtain ⟨z', s1, s2⟩ := s_sumYears (d + 12) t seed n (nI 1) ds_m1 (fun C => dk_wim D C (K 12)) z D K hC hD hK h1 (by omega) (fun z C r0 hT hd => s_yearOf1 (d + 12) t (K 12) ds_m1 z D C r0 hT hD hd)
      refine ⟨.int (nI (dk_sum (fun y => dk_wim D (dk_ye (K 12) (D 0 5) (seed, K) (y + 1)).2 (K 12)) n)), nI 0, ds_rowI z' 0 (upd (z'.1 0) 10 (nI 0)), ?_, dk_qC_row _ s2, fun z0 hM0 => ?_⟩
      · rw [c_Sea_decadeWishes, b_Sea_decadeWishes_0]
        simp (disch := first | assumption | omega) only [ds_cI, ds_cV, ds_cL, ds_cR, ds_nn, ds_isK_t, ds_isA_t, ds_chk_t, ds_chkN, ds_nz_t, ds_nzN, ds_isB_t, ds_isB_bo, ↓dl_m1, ↓dl_m2, dl_0, dl_1, dl_2, dl_3, dl_4, dl_5, dl_6, dl_7, dl_8, dl_9, dl_10, dl_11, dl_12, dl_13, dl_14, dl_15, dl_16, dl_20, dl_24, dl_31, dl_50, dl_57, dl_67, dl_68, dl_74, dl_75, dl_79, dl_80, dl_99, dl_100, dl_200, dl_210, dl_224, dl_255, dl_289, dl_900, dl_1000, dl_1728, dl_65536, dl_65537, nI_add, pk_mul, pk_sub, pk_div, pk_rem, ds_rem2, nI_clamp, nI_leI, nI_ltI, nI_eq, ds_m1_eq, ds_eq_m1, ds_m2_eq, ds_eq_m2, ds_m1_le, ds_le_m1, ds_m1_lt, ds_lt_m1, ds_in_N, ds_bo0, ds_bo1, if_pos, if_neg, Nat.not_le, Nat.not_lt, not_true_eq_false, not_false_eq_true, if_true, if_false, ne_eq, Option.some.injEq, Prod.mk.injEq, Value.int.injEq, true_and, and_true, and_self, ite_self, Bool.not_eq_true, Bool.not_eq_false, Bool.true_eq_false, Bool.false_eq_true, reduceCtorEq, Nat.zero_add, Nat.reduceAdd, Nat.reduceMul, Nat.reduceSub, ds_setI_row, ds_setL_row, ds_rowI_self, ds_rowI_ne, ds_rowI_2, ds_rowI_rowI, ds_setS_1, ds_setS_21, ds_setS_self, ds_setS_ne, pk_us, pk_un, s_answer, hs, hn, decide_true, hd, hr, s1]
      · have hMg := dk_zg_HM hM0
        have hsg := hMg.2.1
        obtain ⟨z2, q1, q2, q3, q4, q5⟩ := s_goThrough (d + 13) seed n 0 (dk_zg z0) D K hMg hD hK h1 (by omega) (by decide)
        refine ⟨z2, ?_, dk_qM_ok q2⟩
        rw [c_Mod_decadeWishes, b_Mod_decadeWishes_0]
        simp (disch := first | assumption | omega) only [ds_cI, ds_cV, ds_cL, ds_cR, ds_nn, ds_isK_t, ds_isA_t, ds_chk_t, ds_chkN, ds_nz_t, ds_nzN, ds_isB_t, ds_isB_bo, ↓dl_m1, ↓dl_m2, dl_0, dl_1, dl_2, dl_3, dl_4, dl_5, dl_6, dl_7, dl_8, dl_9, dl_10, dl_11, dl_12, dl_13, dl_14, dl_15, dl_16, dl_20, dl_24, dl_31, dl_50, dl_57, dl_67, dl_68, dl_74, dl_75, dl_79, dl_80, dl_99, dl_100, dl_200, dl_210, dl_224, dl_255, dl_289, dl_900, dl_1000, dl_1728, dl_65536, dl_65537, nI_add, pk_mul, pk_sub, pk_div, pk_rem, ds_rem2, nI_clamp, nI_leI, nI_ltI, nI_eq, ds_m1_eq, ds_eq_m1, ds_m2_eq, ds_eq_m2, ds_m1_le, ds_le_m1, ds_m1_lt, ds_lt_m1, ds_in_N, ds_bo0, ds_bo1, if_pos, if_neg, Nat.not_le, Nat.not_lt, not_true_eq_false, not_false_eq_true, if_true, if_false, ne_eq, Option.some.injEq, Prod.mk.injEq, Value.int.injEq, true_and, and_true, and_self, ite_self, Bool.not_eq_true, Bool.not_eq_false, Bool.true_eq_false, Bool.false_eq_true, reduceCtorEq, Nat.zero_add, Nat.reduceAdd, Nat.reduceMul, Nat.reduceSub, ds_setI_row, ds_setL_row, ds_rowI_self, ds_rowI_ne, ds_rowI_2, ds_rowI_rowI, ds_setS_1, ds_setS_21, ds_setS_self, ds_setS_ne, pk_us, pk_un, s_good, hsg, hw, hn, decide_true, hr, q1, q4]
    · refine ⟨.int ds_m1, nI 2, ds_rowI z 0 (upd (z.1 0) 10 (nI 2)), ?_, dk_qC_no z _, fun z0 hM0 => ⟨ds_rowI (dk_zg z0) 90 (upd ((dk_zg z0).1 90) 11 (nI 2)), ?_, dk_qM_no z0 _⟩⟩
      · rw [c_Sea_decadeWishes, b_Sea_decadeWishes_0]
        simp (disch := first | assumption | omega | rfl | decide) only [ds_cI, ds_cV, ds_cL, ds_cR, ds_nn, ds_isK_t, ds_isA_t, ds_chk_t, ds_chkN, ds_nz_t, ds_nzN, ds_isB_t, ds_isB_bo, ↓dl_m1, ↓dl_m2, dl_0, dl_1, dl_2, dl_3, dl_4, dl_5, dl_6, dl_7, dl_8, dl_9, dl_10, dl_11, dl_12, dl_13, dl_14, dl_15, dl_16, dl_20, dl_24, dl_31, dl_50, dl_57, dl_67, dl_68, dl_74, dl_75, dl_79, dl_80, dl_99, dl_100, dl_200, dl_210, dl_224, dl_255, dl_289, dl_900, dl_1000, dl_1728, dl_65536, dl_65537, nI_add, pk_mul, pk_sub, pk_div, pk_rem, ds_rem2, nI_clamp, nI_leI, nI_ltI, nI_eq, ds_m1_eq, ds_eq_m1, ds_m2_eq, ds_eq_m2, ds_m1_le, ds_le_m1, ds_m1_lt, ds_lt_m1, ds_in_N, ds_bo0, ds_bo1, if_pos, if_neg, Nat.not_le, Nat.not_lt, not_true_eq_false, not_false_eq_true, if_true, if_false, ne_eq, Option.some.injEq, Prod.mk.injEq, Value.int.injEq, true_and, and_true, and_self, ite_self, Bool.not_eq_true, Bool.not_eq_false, Bool.true_eq_false, Bool.false_eq_true, reduceCtorEq, Nat.zero_add, Nat.reduceAdd, Nat.reduceMul, Nat.reduceSub, ds_setI_row, ds_setL_row, ds_rowI_self, ds_rowI_ne, ds_rowI_2, ds_rowI_rowI, ds_setS_1, ds_setS_21, ds_setS_self, ds_setS_ne, pk_us, pk_un, s_refuse, hs, hn, decide_true, hd, hr]
      · have hMg := dk_zg_HM hM0
        have hsg := hMg.2.1
        rw [c_Mod_decadeWishes, b_Mod_decadeWishes_0]
        simp (disch := first | assumption | omega | rfl | decide) only [ds_cI, ds_cV, ds_cL, ds_cR, ds_nn, ds_isK_t, ds_isA_t, ds_chk_t, ds_chkN, ds_nz_t, ds_nzN, ds_isB_t, ds_isB_bo, ↓dl_m1, ↓dl_m2, dl_0, dl_1, dl_2, dl_3, dl_4, dl_5, dl_6, dl_7, dl_8, dl_9, dl_10, dl_11, dl_12, dl_13, dl_14, dl_15, dl_16, dl_20, dl_24, dl_31, dl_50, dl_57, dl_67, dl_68, dl_74, dl_75, dl_79, dl_80, dl_99, dl_100, dl_200, dl_210, dl_224, dl_255, dl_289, dl_900, dl_1000, dl_1728, dl_65536, dl_65537, nI_add, pk_mul, pk_sub, pk_div, pk_rem, ds_rem2, nI_clamp, nI_leI, nI_ltI, nI_eq, ds_m1_eq, ds_eq_m1, ds_m2_eq, ds_eq_m2, ds_m1_le, ds_le_m1, ds_m1_lt, ds_lt_m1, ds_in_N, ds_bo0, ds_bo1, if_pos, if_neg, Nat.not_le, Nat.not_lt, not_true_eq_false, not_false_eq_true, if_true, if_false, ne_eq, Option.some.injEq, Prod.mk.injEq, Value.int.injEq, true_and, and_true, and_self, ite_self, Bool.not_eq_true, Bool.not_eq_false, Bool.true_eq_false, Bool.false_eq_true, reduceCtorEq, Nat.zero_add, Nat.reduceAdd, Nat.reduceMul, Nat.reduceSub, ds_setI_row, ds_setL_row, ds_rowI_self, ds_rowI_ne, ds_rowI_2, ds_rowI_rowI, ds_setS_1, ds_setS_21, ds_setS_self, ds_setS_ne, pk_us, pk_un, s_good, s_no, hsg, hw, hn, decide_true, hr]
  · have h4 := h0 4 (by decide)
    refine ⟨.int ds_m1, nI 1, ds_rowI z 0 (upd (z.1 0) 10 (nI 1)), ?_, dk_qC_no z _, fun z0 hM0 => ⟨ds_rowI (dk_zg z0) 90 (upd ((dk_zg z0).1 90) 11 (nI 1)), ?_, dk_qM_no z0 _⟩⟩
    · rw [c_Sea_decadeWishes, b_Sea_decadeWishes_0]
      simp (disch := first | assumption | omega | rfl | decide) only [ds_cI, ds_cV, ds_cL, ds_cR, ds_nn, ds_isK_t, ds_isA_t, ds_chk_t, ds_chkN, ds_nz_t, ds_nzN, ds_isB_t, ds_isB_bo, ↓dl_m1, ↓dl_m2, dl_0, dl_1, dl_2, dl_3, dl_4, dl_5, dl_6, dl_7, dl_8, dl_9, dl_10, dl_11, dl_12, dl_13, dl_14, dl_15, dl_16, dl_20, dl_24, dl_31, dl_50, dl_57, dl_67, dl_68, dl_74, dl_75, dl_79, dl_80, dl_99, dl_100, dl_200, dl_210, dl_224, dl_255, dl_289, dl_900, dl_1000, dl_1728, dl_65536, dl_65537, nI_add, pk_mul, pk_sub, pk_div, pk_rem, ds_rem2, nI_clamp, nI_leI, nI_ltI, nI_eq, ds_m1_eq, ds_eq_m1, ds_m2_eq, ds_eq_m2, ds_m1_le, ds_le_m1, ds_m1_lt, ds_lt_m1, ds_in_N, ds_bo0, ds_bo1, if_pos, if_neg, Nat.not_le, Nat.not_lt, not_true_eq_false, not_false_eq_true, if_true, if_false, ne_eq, Option.some.injEq, Prod.mk.injEq, Value.int.injEq, true_and, and_true, and_self, ite_self, Bool.not_eq_true, Bool.not_eq_false, Bool.true_eq_false, Bool.false_eq_true, reduceCtorEq, Nat.zero_add, Nat.reduceAdd, Nat.reduceMul, Nat.reduceSub, ds_setI_row, ds_setL_row, ds_rowI_self, ds_rowI_ne, ds_rowI_2, ds_rowI_rowI, ds_setS_1, ds_setS_21, ds_setS_self, ds_setS_ne, pk_us, pk_un, s_refuse, hs, h4, Nat.lt_irrefl, decide_false]
    · have hMg := dk_zg_HM hM0
      have hsg := hMg.2.1
      rw [c_Mod_decadeWishes, b_Mod_decadeWishes_0]
      simp (disch := first | assumption | omega | rfl | decide) only [ds_cI, ds_cV, ds_cL, ds_cR, ds_nn, ds_isK_t, ds_isA_t, ds_chk_t, ds_chkN, ds_nz_t, ds_nzN, ds_isB_t, ds_isB_bo, ↓dl_m1, ↓dl_m2, dl_0, dl_1, dl_2, dl_3, dl_4, dl_5, dl_6, dl_7, dl_8, dl_9, dl_10, dl_11, dl_12, dl_13, dl_14, dl_15, dl_16, dl_20, dl_24, dl_31, dl_50, dl_57, dl_67, dl_68, dl_74, dl_75, dl_79, dl_80, dl_99, dl_100, dl_200, dl_210, dl_224, dl_255, dl_289, dl_900, dl_1000, dl_1728, dl_65536, dl_65537, nI_add, pk_mul, pk_sub, pk_div, pk_rem, ds_rem2, nI_clamp, nI_leI, nI_ltI, nI_eq, ds_m1_eq, ds_eq_m1, ds_m2_eq, ds_eq_m2, ds_m1_le, ds_le_m1, ds_m1_lt, ds_lt_m1, ds_in_N, ds_bo0, ds_bo1, if_pos, if_neg, Nat.not_le, Nat.not_lt, not_true_eq_false, not_false_eq_true, if_true, if_false, ne_eq, Option.some.injEq, Prod.mk.injEq, Value.int.injEq, true_and, and_true, and_self, ite_self, Bool.not_eq_true, Bool.not_eq_false, Bool.true_eq_false, Bool.false_eq_true, reduceCtorEq, Nat.zero_add, Nat.reduceAdd, Nat.reduceMul, Nat.reduceSub, ds_setI_row, ds_setL_row, ds_rowI_self, ds_rowI_ne, ds_rowI_2, ds_rowI_rowI, ds_setS_1, ds_setS_21, ds_setS_self, ds_setS_ne, pk_us, pk_un, s_good, s_no, hsg, hw, h4, Nat.lt_irrefl, decide_false]
theorem k_decadeOf (d : Nat) (v x y : Int32) (z : ds_St) (h : dk_Inv z) : ∃ r z1 z2, ds_call (d + 20) j_Sea_decadeOf [.ref 0, .int v, .int x, .int y] z = some (some r, z1) ∧ ds_call (d + 20) j_Mod_decadeOf [.ref 90, .int v, .int x, .int y] z1 = some (some r, z2) ∧ dk_Inv z2 := by
  apply dk_both h
  intro t D K hC hM hz
  have n12 := (dk_n12 hz).1
  have hs := s_isIsland (d + 18) t v z D K hC
  have hs2 := fun z hM => s_misIsland (d + 17) v z D K hM hz
  have hd := s_isDecade (d + 18) x y z
  have hw := fun b z => s_decadeWhy (d + 17) b x y z
  rcases Bool.eq_false_or_eq_true (dk_rng v (D 0 4)) with hv | hv
  · obtain ⟨i, hi, rfl⟩ := (dk_rng_iff (by omega)).mp hv
    rcases hz with ⟨hD, hK⟩ | ⟨h0, hc0, hp0⟩
    · rcases Bool.eq_false_or_eq_true (dk_rng x 65537 && dk_rng y 51) with hr | hr
      · have hr' := hr
        rw [Bool.and_eq_true] at hr'
        obtain ⟨seed, h1, rfl⟩ := (dk_rng_iff (by decide)).mp hr'.1
        obtain ⟨n, h2, rfl⟩ := (dk_rng_iff (by decide)).mp hr'.2
        obtain ⟨z', s1, s2⟩ := s_sumYears (d + 12) t seed n (nI 2) (nI i) (fun C => dk_n (dk_is D C (K 12) i)) z D K hC hD hK h1 (by omega) (fun z C r0 hT hd => s_yearOf2 (d + 12) t (K 12) i z D C (by omega) r0 hT hD hd)
        refine ⟨.int (nI (dk_sum (fun y => dk_n (dk_is D (dk_ye (K 12) (D 0 5) (seed, K) (y + 1)).2 (K 12) i)) n)), nI 0, ds_rowI z' 0 (upd (z'.1 0) 10 (nI 0)), ?_, dk_qC_row _ s2, fun z0 hM0 => ?_⟩
        · rw [c_Sea_decadeOf, b_Sea_decadeOf_0]
          simp (disch := first | assumption | omega) only [ds_cI, ds_cV, ds_cL, ds_cR, ds_nn, ds_isK_t, ds_isA_t, ds_chk_t, ds_chkN, ds_nz_t, ds_nzN, ds_isB_t, ds_isB_bo, ↓dl_m1, ↓dl_m2, dl_0, dl_1, dl_2, dl_3, dl_4, dl_5, dl_6, dl_7, dl_8, dl_9, dl_10, dl_11, dl_12, dl_13, dl_14, dl_15, dl_16, dl_20, dl_24, dl_31, dl_50, dl_57, dl_67, dl_68, dl_74, dl_75, dl_79, dl_80, dl_99, dl_100, dl_200, dl_210, dl_224, dl_255, dl_289, dl_900, dl_1000, dl_1728, dl_65536, dl_65537, nI_add, pk_mul, pk_sub, pk_div, pk_rem, ds_rem2, nI_clamp, nI_leI, nI_ltI, nI_eq, ds_m1_eq, ds_eq_m1, ds_m2_eq, ds_eq_m2, ds_m1_le, ds_le_m1, ds_m1_lt, ds_lt_m1, ds_in_N, ds_bo0, ds_bo1, if_pos, if_neg, Nat.not_le, Nat.not_lt, not_true_eq_false, not_false_eq_true, if_true, if_false, ne_eq, Option.some.injEq, Prod.mk.injEq, Value.int.injEq, true_and, and_true, and_self, ite_self, Bool.not_eq_true, Bool.not_eq_false, Bool.true_eq_false, Bool.false_eq_true, reduceCtorEq, Nat.zero_add, Nat.reduceAdd, Nat.reduceMul, Nat.reduceSub, ds_setI_row, ds_setL_row, ds_rowI_self, ds_rowI_ne, ds_rowI_2, ds_rowI_rowI, ds_setS_1, ds_setS_21, ds_setS_self, ds_setS_ne, pk_us, pk_un, s_answer, hs, hv, hd, hr, s1]
        · have hMg := dk_zg_HM hM0
          have hsg := hMg.2.1
          have hs3 := hs2 _ hMg
          obtain ⟨z2, q1, q2, q3, q4, q5⟩ := s_goThrough (d + 13) seed n i (dk_zg z0) D K hMg hD hK h1 (by omega) (by omega)
          refine ⟨z2, ?_, dk_qM_ok q2⟩
          rw [c_Mod_decadeOf, b_Mod_decadeOf_0]
          simp (disch := first | assumption | omega) only [ds_cI, ds_cV, ds_cL, ds_cR, ds_nn, ds_isK_t, ds_isA_t, ds_chk_t, ds_chkN, ds_nz_t, ds_nzN, ds_isB_t, ds_isB_bo, ↓dl_m1, ↓dl_m2, dl_0, dl_1, dl_2, dl_3, dl_4, dl_5, dl_6, dl_7, dl_8, dl_9, dl_10, dl_11, dl_12, dl_13, dl_14, dl_15, dl_16, dl_20, dl_24, dl_31, dl_50, dl_57, dl_67, dl_68, dl_74, dl_75, dl_79, dl_80, dl_99, dl_100, dl_200, dl_210, dl_224, dl_255, dl_289, dl_900, dl_1000, dl_1728, dl_65536, dl_65537, nI_add, pk_mul, pk_sub, pk_div, pk_rem, ds_rem2, nI_clamp, nI_leI, nI_ltI, nI_eq, ds_m1_eq, ds_eq_m1, ds_m2_eq, ds_eq_m2, ds_m1_le, ds_le_m1, ds_m1_lt, ds_lt_m1, ds_in_N, ds_bo0, ds_bo1, if_pos, if_neg, Nat.not_le, Nat.not_lt, not_true_eq_false, not_false_eq_true, if_true, if_false, ne_eq, Option.some.injEq, Prod.mk.injEq, Value.int.injEq, true_and, and_true, and_self, ite_self, Bool.not_eq_true, Bool.not_eq_false, Bool.true_eq_false, Bool.false_eq_true, reduceCtorEq, Nat.zero_add, Nat.reduceAdd, Nat.reduceMul, Nat.reduceSub, ds_setI_row, ds_setL_row, ds_rowI_self, ds_rowI_ne, ds_rowI_2, ds_rowI_rowI, ds_setS_1, ds_setS_21, ds_setS_self, ds_setS_ne, pk_us, pk_un, s_good, hs3, hw, hv, hr, q1, q5]
      · refine ⟨.int ds_m1, nI 2, ds_rowI z 0 (upd (z.1 0) 10 (nI 2)), ?_, dk_qC_no z _, fun z0 hM0 => ⟨ds_rowI (dk_zg z0) 90 (upd ((dk_zg z0).1 90) 11 (nI 2)), ?_, dk_qM_no z0 _⟩⟩
        · rw [c_Sea_decadeOf, b_Sea_decadeOf_0]
          simp (disch := first | assumption | omega | rfl | decide) only [ds_cI, ds_cV, ds_cL, ds_cR, ds_nn, ds_isK_t, ds_isA_t, ds_chk_t, ds_chkN, ds_nz_t, ds_nzN, ds_isB_t, ds_isB_bo, ↓dl_m1, ↓dl_m2, dl_0, dl_1, dl_2, dl_3, dl_4, dl_5, dl_6, dl_7, dl_8, dl_9, dl_10, dl_11, dl_12, dl_13, dl_14, dl_15, dl_16, dl_20, dl_24, dl_31, dl_50, dl_57, dl_67, dl_68, dl_74, dl_75, dl_79, dl_80, dl_99, dl_100, dl_200, dl_210, dl_224, dl_255, dl_289, dl_900, dl_1000, dl_1728, dl_65536, dl_65537, nI_add, pk_mul, pk_sub, pk_div, pk_rem, ds_rem2, nI_clamp, nI_leI, nI_ltI, nI_eq, ds_m1_eq, ds_eq_m1, ds_m2_eq, ds_eq_m2, ds_m1_le, ds_le_m1, ds_m1_lt, ds_lt_m1, ds_in_N, ds_bo0, ds_bo1, if_pos, if_neg, Nat.not_le, Nat.not_lt, not_true_eq_false, not_false_eq_true, if_true, if_false, ne_eq, Option.some.injEq, Prod.mk.injEq, Value.int.injEq, true_and, and_true, and_self, ite_self, Bool.not_eq_true, Bool.not_eq_false, Bool.true_eq_false, Bool.false_eq_true, reduceCtorEq, Nat.zero_add, Nat.reduceAdd, Nat.reduceMul, Nat.reduceSub, ds_setI_row, ds_setL_row, ds_rowI_self, ds_rowI_ne, ds_rowI_2, ds_rowI_rowI, ds_setS_1, ds_setS_21, ds_setS_self, ds_setS_ne, pk_us, pk_un, s_refuse, hs, hv, hd, hr]
        · have hMg := dk_zg_HM hM0
          have hsg := hMg.2.1
          rw [c_Mod_decadeOf, b_Mod_decadeOf_0]
          simp (disch := first | assumption | omega | rfl | decide) only [ds_cI, ds_cV, ds_cL, ds_cR, ds_nn, ds_isK_t, ds_isA_t, ds_chk_t, ds_chkN, ds_nz_t, ds_nzN, ds_isB_t, ds_isB_bo, ↓dl_m1, ↓dl_m2, dl_0, dl_1, dl_2, dl_3, dl_4, dl_5, dl_6, dl_7, dl_8, dl_9, dl_10, dl_11, dl_12, dl_13, dl_14, dl_15, dl_16, dl_20, dl_24, dl_31, dl_50, dl_57, dl_67, dl_68, dl_74, dl_75, dl_79, dl_80, dl_99, dl_100, dl_200, dl_210, dl_224, dl_255, dl_289, dl_900, dl_1000, dl_1728, dl_65536, dl_65537, nI_add, pk_mul, pk_sub, pk_div, pk_rem, ds_rem2, nI_clamp, nI_leI, nI_ltI, nI_eq, ds_m1_eq, ds_eq_m1, ds_m2_eq, ds_eq_m2, ds_m1_le, ds_le_m1, ds_m1_lt, ds_lt_m1, ds_in_N, ds_bo0, ds_bo1, if_pos, if_neg, Nat.not_le, Nat.not_lt, not_true_eq_false, not_false_eq_true, if_true, if_false, ne_eq, Option.some.injEq, Prod.mk.injEq, Value.int.injEq, true_and, and_true, and_self, ite_self, Bool.not_eq_true, Bool.not_eq_false, Bool.true_eq_false, Bool.false_eq_true, reduceCtorEq, Nat.zero_add, Nat.reduceAdd, Nat.reduceMul, Nat.reduceSub, ds_setI_row, ds_setL_row, ds_rowI_self, ds_rowI_ne, ds_rowI_2, ds_rowI_rowI, ds_setS_1, ds_setS_21, ds_setS_self, ds_setS_ne, pk_us, pk_un, s_good, s_no, hsg, hs2 _ hMg, hw, hv, hr]
    · have h4 := h0 4 (by decide)
      omega
  · refine ⟨.int ds_m1, nI 1, ds_rowI z 0 (upd (z.1 0) 10 (nI 1)), ?_, dk_qC_no z _, fun z0 hM0 => ⟨ds_rowI (dk_zg z0) 90 (upd ((dk_zg z0).1 90) 11 (nI 1)), ?_, dk_qM_no z0 _⟩⟩
    · rw [c_Sea_decadeOf, b_Sea_decadeOf_0]
      simp (disch := first | assumption | omega | rfl | decide) only [ds_cI, ds_cV, ds_cL, ds_cR, ds_nn, ds_isK_t, ds_isA_t, ds_chk_t, ds_chkN, ds_nz_t, ds_nzN, ds_isB_t, ds_isB_bo, ↓dl_m1, ↓dl_m2, dl_0, dl_1, dl_2, dl_3, dl_4, dl_5, dl_6, dl_7, dl_8, dl_9, dl_10, dl_11, dl_12, dl_13, dl_14, dl_15, dl_16, dl_20, dl_24, dl_31, dl_50, dl_57, dl_67, dl_68, dl_74, dl_75, dl_79, dl_80, dl_99, dl_100, dl_200, dl_210, dl_224, dl_255, dl_289, dl_900, dl_1000, dl_1728, dl_65536, dl_65537, nI_add, pk_mul, pk_sub, pk_div, pk_rem, ds_rem2, nI_clamp, nI_leI, nI_ltI, nI_eq, ds_m1_eq, ds_eq_m1, ds_m2_eq, ds_eq_m2, ds_m1_le, ds_le_m1, ds_m1_lt, ds_lt_m1, ds_in_N, ds_bo0, ds_bo1, if_pos, if_neg, Nat.not_le, Nat.not_lt, not_true_eq_false, not_false_eq_true, if_true, if_false, ne_eq, Option.some.injEq, Prod.mk.injEq, Value.int.injEq, true_and, and_true, and_self, ite_self, Bool.not_eq_true, Bool.not_eq_false, Bool.true_eq_false, Bool.false_eq_true, reduceCtorEq, Nat.zero_add, Nat.reduceAdd, Nat.reduceMul, Nat.reduceSub, ds_setI_row, ds_setL_row, ds_rowI_self, ds_rowI_ne, ds_rowI_2, ds_rowI_rowI, ds_setS_1, ds_setS_21, ds_setS_self, ds_setS_ne, pk_us, pk_un, s_refuse, hs, hv]
    · have hMg := dk_zg_HM hM0
      have hsg := hMg.2.1
      rw [c_Mod_decadeOf, b_Mod_decadeOf_0]
      simp (disch := first | assumption | omega | rfl | decide) only [ds_cI, ds_cV, ds_cL, ds_cR, ds_nn, ds_isK_t, ds_isA_t, ds_chk_t, ds_chkN, ds_nz_t, ds_nzN, ds_isB_t, ds_isB_bo, ↓dl_m1, ↓dl_m2, dl_0, dl_1, dl_2, dl_3, dl_4, dl_5, dl_6, dl_7, dl_8, dl_9, dl_10, dl_11, dl_12, dl_13, dl_14, dl_15, dl_16, dl_20, dl_24, dl_31, dl_50, dl_57, dl_67, dl_68, dl_74, dl_75, dl_79, dl_80, dl_99, dl_100, dl_200, dl_210, dl_224, dl_255, dl_289, dl_900, dl_1000, dl_1728, dl_65536, dl_65537, nI_add, pk_mul, pk_sub, pk_div, pk_rem, ds_rem2, nI_clamp, nI_leI, nI_ltI, nI_eq, ds_m1_eq, ds_eq_m1, ds_m2_eq, ds_eq_m2, ds_m1_le, ds_le_m1, ds_m1_lt, ds_lt_m1, ds_in_N, ds_bo0, ds_bo1, if_pos, if_neg, Nat.not_le, Nat.not_lt, not_true_eq_false, not_false_eq_true, if_true, if_false, ne_eq, Option.some.injEq, Prod.mk.injEq, Value.int.injEq, true_and, and_true, and_self, ite_self, Bool.not_eq_true, Bool.not_eq_false, Bool.true_eq_false, Bool.false_eq_true, reduceCtorEq, Nat.zero_add, Nat.reduceAdd, Nat.reduceMul, Nat.reduceSub, ds_setI_row, ds_setL_row, ds_rowI_self, ds_rowI_ne, ds_rowI_2, ds_rowI_rowI, ds_setS_1, ds_setS_21, ds_setS_self, ds_setS_ne, pk_us, pk_un, s_good, s_no, hsg, hs2 _ hMg, hw, hv]
