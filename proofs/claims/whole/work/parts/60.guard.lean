/-! what calls share: class -/
theorem s_answer (d : Nat) (x : Int32) (z : ds_St) : ds_call (d + 1) j_Sea_answer [.ref 0, .int x] z = some (some (.int x), ds_rowI z 0 (upd (z.1 0) 10 (nI 0))) := by
  rw [c_Sea_answer, b_Sea_answer_0]
  simp (disch := first | assumption | omega | rfl | decide) only [ds_cI, ds_cV, ds_cL, ds_cR, ds_nn, ds_isK_t, ds_isA_t, ds_chk_t, ds_chkN, ds_nz_t, ds_nzN, ds_isB_t, ds_isB_bo, ↓dl_m1, ↓dl_m2, dl_0, dl_1, dl_2, dl_3, dl_4, dl_5, dl_6, dl_7, dl_8, dl_9, dl_10, dl_11, dl_12, dl_13, dl_14, dl_15, dl_16, dl_20, dl_24, dl_31, dl_50, dl_57, dl_67, dl_68, dl_74, dl_75, dl_79, dl_80, dl_99, dl_100, dl_200, dl_210, dl_224, dl_255, dl_289, dl_900, dl_1000, dl_1728, dl_65536, dl_65537, nI_add, pk_mul, pk_sub, pk_div, pk_rem, ds_rem2, nI_clamp, nI_leI, nI_ltI, nI_eq, ds_m1_eq, ds_eq_m1, ds_m2_eq, ds_eq_m2, ds_m1_le, ds_le_m1, ds_m1_lt, ds_lt_m1, ds_in_N, ds_bo0, ds_bo1, if_pos, if_neg, Nat.not_le, Nat.not_lt, not_true_eq_false, not_false_eq_true, if_true, if_false, ne_eq, Option.some.injEq, Prod.mk.injEq, Value.int.injEq, true_and, and_true, and_self, ite_self, Bool.not_eq_true, Bool.not_eq_false, Bool.true_eq_false, Bool.false_eq_true, reduceCtorEq, Nat.zero_add, Nat.reduceAdd, Nat.reduceMul, Nat.reduceSub, ds_setI_row, ds_setL_row, ds_rowI_self, ds_rowI_ne, ds_rowI_2, ds_rowI_rowI, ds_setS_1, ds_setS_21, ds_setS_self, ds_setS_ne, pk_us, pk_un]
theorem s_refuse (d : Nat) (x : Int32) (z : ds_St) : ds_call (d + 1) j_Sea_refuse [.ref 0, .int x] z = some (some (.int ds_m1), ds_rowI z 0 (upd (z.1 0) 10 x)) := by
  rw [c_Sea_refuse, b_Sea_refuse_0]
  simp (disch := first | assumption | omega | rfl | decide) only [ds_cI, ds_cV, ds_cL, ds_cR, ds_nn, ds_isK_t, ds_isA_t, ds_chk_t, ds_chkN, ds_nz_t, ds_nzN, ds_isB_t, ds_isB_bo, ↓dl_m1, ↓dl_m2, dl_0, dl_1, dl_2, dl_3, dl_4, dl_5, dl_6, dl_7, dl_8, dl_9, dl_10, dl_11, dl_12, dl_13, dl_14, dl_15, dl_16, dl_20, dl_24, dl_31, dl_50, dl_57, dl_67, dl_68, dl_74, dl_75, dl_79, dl_80, dl_99, dl_100, dl_200, dl_210, dl_224, dl_255, dl_289, dl_900, dl_1000, dl_1728, dl_65536, dl_65537, nI_add, pk_mul, pk_sub, pk_div, pk_rem, ds_rem2, nI_clamp, nI_leI, nI_ltI, nI_eq, ds_m1_eq, ds_eq_m1, ds_m2_eq, ds_eq_m2, ds_m1_le, ds_le_m1, ds_m1_lt, ds_lt_m1, ds_in_N, ds_bo0, ds_bo1, if_pos, if_neg, Nat.not_le, Nat.not_lt, not_true_eq_false, not_false_eq_true, if_true, if_false, ne_eq, Option.some.injEq, Prod.mk.injEq, Value.int.injEq, true_and, and_true, and_self, ite_self, Bool.not_eq_true, Bool.not_eq_false, Bool.true_eq_false, Bool.false_eq_true, reduceCtorEq, Nat.zero_add, Nat.reduceAdd, Nat.reduceMul, Nat.reduceSub, ds_setI_row, ds_setL_row, ds_rowI_self, ds_rowI_ne, ds_rowI_2, ds_rowI_rowI, ds_setS_1, ds_setS_21, ds_setS_self, ds_setS_ne, pk_us, pk_un]
theorem dk_n12 {D : Nat → Nat → Nat} {K : Nat → Nat} (hz : dk_Hz D K) : D 0 4 ≤ 12 ∧ K 12 ≤ 12 := by
  rcases hz with ⟨hD, hK⟩ | ⟨h0, h1, h2⟩
  · exact ⟨hD.2.2.2.2.1.2, hK.1⟩
  · have := h0 4 (by decide); omega
theorem s_hasSea (d t : Nat) (z : ds_St) (D : Nat → Nat → Nat) (K : Nat → Nat) (hC : dk_HC z t D K) (hz : dk_Hz D K) : ds_call (d + 1) j_Sea_hasSea [.ref 0] z = some (some (.int (ds_bo (decide (0 < D 0 4)))), z) := by
  obtain ⟨r0, hT, _⟩ := hC
  have hK := ds_Kt hT.1
  have t4 := hT.2.1.2.2.2.2.1
  have := (dk_n12 hz).1
  rw [c_Sea_hasSea, b_Sea_hasSea_0]
  by_cases h : 0 < D 0 4
  · simp (disch := first | assumption | omega | rfl | decide) only [ds_cI, ds_cV, ds_cL, ds_cR, ds_nn, ds_isK_t, ds_isA_t, ds_chk_t, ds_chkN, ds_nz_t, ds_nzN, ds_isB_t, ds_isB_bo, ↓dl_m1, ↓dl_m2, dl_0, dl_1, dl_2, dl_3, dl_4, dl_5, dl_6, dl_7, dl_8, dl_9, dl_10, dl_11, dl_12, dl_13, dl_14, dl_15, dl_16, dl_20, dl_24, dl_31, dl_50, dl_57, dl_67, dl_68, dl_74, dl_75, dl_79, dl_80, dl_99, dl_100, dl_200, dl_210, dl_224, dl_255, dl_289, dl_900, dl_1000, dl_1728, dl_65536, dl_65537, nI_add, pk_mul, pk_sub, pk_div, pk_rem, ds_rem2, nI_clamp, nI_leI, nI_ltI, nI_eq, ds_m1_eq, ds_eq_m1, ds_m2_eq, ds_eq_m2, ds_m1_le, ds_le_m1, ds_m1_lt, ds_lt_m1, ds_in_N, ds_bo0, ds_bo1, if_pos, if_neg, Nat.not_le, Nat.not_lt, not_true_eq_false, not_false_eq_true, if_true, if_false, ne_eq, Option.some.injEq, Prod.mk.injEq, Value.int.injEq, true_and, and_true, and_self, ite_self, Bool.not_eq_true, Bool.not_eq_false, Bool.true_eq_false, Bool.false_eq_true, reduceCtorEq, Nat.zero_add, Nat.reduceAdd, Nat.reduceMul, Nat.reduceSub, ds_setI_row, ds_setL_row, ds_rowI_self, ds_rowI_ne, ds_rowI_2, ds_rowI_rowI, ds_setS_1, ds_setS_21, ds_setS_self, ds_setS_ne, pk_us, pk_un, r0, t4]
    simp [h, ds_bo]
  · simp (disch := first | assumption | omega | rfl | decide) only [ds_cI, ds_cV, ds_cL, ds_cR, ds_nn, ds_isK_t, ds_isA_t, ds_chk_t, ds_chkN, ds_nz_t, ds_nzN, ds_isB_t, ds_isB_bo, ↓dl_m1, ↓dl_m2, dl_0, dl_1, dl_2, dl_3, dl_4, dl_5, dl_6, dl_7, dl_8, dl_9, dl_10, dl_11, dl_12, dl_13, dl_14, dl_15, dl_16, dl_20, dl_24, dl_31, dl_50, dl_57, dl_67, dl_68, dl_74, dl_75, dl_79, dl_80, dl_99, dl_100, dl_200, dl_210, dl_224, dl_255, dl_289, dl_900, dl_1000, dl_1728, dl_65536, dl_65537, nI_add, pk_mul, pk_sub, pk_div, pk_rem, ds_rem2, nI_clamp, nI_leI, nI_ltI, nI_eq, ds_m1_eq, ds_eq_m1, ds_m2_eq, ds_eq_m2, ds_m1_le, ds_le_m1, ds_m1_lt, ds_lt_m1, ds_in_N, ds_bo0, ds_bo1, if_pos, if_neg, Nat.not_le, Nat.not_lt, not_true_eq_false, not_false_eq_true, if_true, if_false, ne_eq, Option.some.injEq, Prod.mk.injEq, Value.int.injEq, true_and, and_true, and_self, ite_self, Bool.not_eq_true, Bool.not_eq_false, Bool.true_eq_false, Bool.false_eq_true, reduceCtorEq, Nat.zero_add, Nat.reduceAdd, Nat.reduceMul, Nat.reduceSub, ds_setI_row, ds_setL_row, ds_rowI_self, ds_rowI_ne, ds_rowI_2, ds_rowI_rowI, ds_setS_1, ds_setS_21, ds_setS_self, ds_setS_ne, pk_us, pk_un, r0, t4]
    simp [h, ds_bo]
theorem dk_rngbo (x : Int32) (n : Nat) (z : ds_St) : (if x < 0 then some (some (.int 0), z) else if nI n ≤ x then some (some (.int 0), z) else some (some (.int 1), z)) = (some (some (.int (ds_bo (dk_rng x n))), z) : Option ds_Out) := by
  unfold dk_rng
  by_cases h1 : x < 0
  · have h1' : x < nI 0 := h1
    rw [if_pos h1, decide_eq_true h1']
    rfl
  · have h1' : ¬ x < nI 0 := h1
    rw [if_neg h1, decide_eq_false h1']
    by_cases h2 : nI n ≤ x
    · rw [if_pos h2, decide_eq_true h2]
      rfl
    · rw [if_neg h2, decide_eq_false h2]
      rfl
theorem s_isIsland (d t : Nat) (x : Int32) (z : ds_St) (D : Nat → Nat → Nat) (K : Nat → Nat) (hC : dk_HC z t D K) : ds_call (d + 1) j_Sea_isIsland [.ref 0, .int x] z = some (some (.int (ds_bo (dk_rng x (D 0 4)))), z) := by
  obtain ⟨r0, hT, _⟩ := hC
  have hK := ds_Kt hT.1
  have t4 := hT.2.1.2.2.2.2.1
  rw [c_Sea_isIsland, b_Sea_isIsland_0, r0, ds_isK_t hK, t4]
  exact (congrArg ds_nn (dk_rngbo x _ z)).trans rfl
theorem s_isPlace (d t : Nat) (x : Int32) (z : ds_St) (D : Nat → Nat → Nat) (K : Nat → Nat) (hC : dk_HC z t D K) : ds_call (d + 1) j_Sea_isPlace [.ref 0, .int x] z = some (some (.int (ds_bo (dk_rng x (K 12)))), z) := by
  obtain ⟨r0, hT, e2, _⟩ := hC
  rw [c_Sea_isPlace, b_Sea_isPlace_0, e2]
  exact (congrArg ds_nn (dk_rngbo x _ z)).trans rfl
def dk_mo (c : Nat) : Nat := if c = 0 then 0 else c + 2
theorem s_isMove (d t : Nat) (x : Int32) (z : ds_St) (D : Nat → Nat → Nat) (K : Nat → Nat) (hC : dk_HC z t D K) (hz : dk_Hz D K) : ds_call (d + 2) j_Sea_isMove [.ref 0, .int x] z = some (some (.int (ds_bo (dk_rng x (dk_mo (K 12))))), z) := by
  obtain ⟨r0, hT, e2, _⟩ := hC
  have := (dk_n12 hz).2
  rw [c_Sea_isMove, b_Sea_isMove_0, e2]
  have e := ds_cI_t (f := fun r1 z1 => if r1 ≤ x then some (some (.int 0), z1) else some (some (.int 1), z1)) (s_movesOf d (K 12) z (by omega))
  rw [e]
  exact (congrArg ds_nn (dk_rngbo x (dk_mo (K 12)) z)).trans rfl
theorem s_isGood (d : Nat) (x : Int32) (z : ds_St) : ds_call (d + 1) j_Sea_isGood [.int x] z = some (some (.int (ds_bo (dk_rng x 4))), z) := by
  rw [c_Sea_isGood, b_Sea_isGood_0]
  exact (congrArg ds_nn (dk_rngbo x 4 z)).trans rfl
theorem dk_HC_dk {z : ds_St} {t : Nat} {D : Nat → Nat → Nat} {K : Nat → Nat} (hC : dk_HC z t D K) (hK : dk_okK D K) : dk_dk z 61 K (K 12) (D 0 4) := ⟨.inl rfl, hC.2.2.1, hK.1, hC.2.2.2.1, hK.2.1⟩
theorem s_chartOf (d t e c : Nat) (z : ds_St) (D : Nat → Nat → Nat) (C : Nat → Nat) (r0 : z.2.2 0 = t) (hT : dk_tC z t D) (hD : dk_ok D) (he : dk_dk z e C c (D 0 4)) : ∃ z', ds_call (d + 4) j_Sea_chartOf [.ref 0, .ref e] z = some (some (.ref 67), z') ∧ dk_ch z' t D (min (D 0 0 * D 0 1) c) C ∧ dk_fr 67 70 z z' ∧ dk_tC z' t D := by
  obtain ⟨z', s1, s2, s3⟩ := s_show d t e c z D C hT hD he
  refine ⟨z', ?_, s2, s3, dk_tC_fr hT s3 (by decide)⟩
  rw [c_Sea_chartOf, b_Sea_chartOf_0, r0]
  simp (disch := first | assumption | omega | rfl | decide) only [ds_cI, ds_cV, ds_cL, ds_cR, ds_nn, ds_isK_t, ds_isA_t, ds_chk_t, ds_chkN, ds_nz_t, ds_nzN, ds_isB_t, ds_isB_bo, ↓dl_m1, ↓dl_m2, dl_0, dl_1, dl_2, dl_3, dl_4, dl_5, dl_6, dl_7, dl_8, dl_9, dl_10, dl_11, dl_12, dl_13, dl_14, dl_15, dl_16, dl_20, dl_24, dl_31, dl_50, dl_57, dl_67, dl_68, dl_74, dl_75, dl_79, dl_80, dl_99, dl_100, dl_200, dl_210, dl_224, dl_255, dl_289, dl_900, dl_1000, dl_1728, dl_65536, dl_65537, nI_add, pk_mul, pk_sub, pk_div, pk_rem, ds_rem2, nI_clamp, nI_leI, nI_ltI, nI_eq, ds_m1_eq, ds_eq_m1, ds_m2_eq, ds_eq_m2, ds_m1_le, ds_le_m1, ds_m1_lt, ds_lt_m1, ds_in_N, ds_bo0, ds_bo1, if_pos, if_neg, Nat.not_le, Nat.not_lt, not_true_eq_false, not_false_eq_true, if_true, if_false, ne_eq, Option.some.injEq, Prod.mk.injEq, Value.int.injEq, true_and, and_true, and_self, ite_self, Bool.not_eq_true, Bool.not_eq_false, Bool.true_eq_false, Bool.false_eq_true, reduceCtorEq, Nat.zero_add, Nat.reduceAdd, Nat.reduceMul, Nat.reduceSub, ds_setI_row, ds_setL_row, ds_rowI_self, ds_rowI_ne, ds_rowI_2, ds_rowI_rowI, ds_setS_1, ds_setS_21, ds_setS_self, ds_setS_ne, pk_us, pk_un, s1]
theorem s_allTrades (d t L : Nat) (z : ds_St) (D : Nat → Nat → Nat) (C : Nat → Nat) (hT : dk_tC z t D) (hD : dk_ok D) (hC : dk_ch z t D L C) : ds_call (d + 5) j_Chart_allTrades [.ref 67] z = some (some (.int (nI (dk_tr D C L (fun _ => true)))), z) := by
  have e := s_tradesOf d t L ds_m1 (fun _ => true) z D C hT hD hC (.inl ⟨rfl, fun _ => rfl⟩)
  rw [c_Chart_allTrades, b_Chart_allTrades_0]
  simp (disch := first | assumption | omega | rfl | decide) only [ds_cI, ds_cV, ds_cL, ds_cR, ds_nn, ds_isK_t, ds_isA_t, ds_chk_t, ds_chkN, ds_nz_t, ds_nzN, ds_isB_t, ds_isB_bo, ↓dl_m1, ↓dl_m2, dl_0, dl_1, dl_2, dl_3, dl_4, dl_5, dl_6, dl_7, dl_8, dl_9, dl_10, dl_11, dl_12, dl_13, dl_14, dl_15, dl_16, dl_20, dl_24, dl_31, dl_50, dl_57, dl_67, dl_68, dl_74, dl_75, dl_79, dl_80, dl_99, dl_100, dl_200, dl_210, dl_224, dl_255, dl_289, dl_900, dl_1000, dl_1728, dl_65536, dl_65537, nI_add, pk_mul, pk_sub, pk_div, pk_rem, ds_rem2, nI_clamp, nI_leI, nI_ltI, nI_eq, ds_m1_eq, ds_eq_m1, ds_m2_eq, ds_eq_m2, ds_m1_le, ds_le_m1, ds_m1_lt, ds_lt_m1, ds_in_N, ds_bo0, ds_bo1, if_pos, if_neg, Nat.not_le, Nat.not_lt, not_true_eq_false, not_false_eq_true, if_true, if_false, ne_eq, Option.some.injEq, Prod.mk.injEq, Value.int.injEq, true_and, and_true, and_self, ite_self, Bool.not_eq_true, Bool.not_eq_false, Bool.true_eq_false, Bool.false_eq_true, reduceCtorEq, Nat.zero_add, Nat.reduceAdd, Nat.reduceMul, Nat.reduceSub, ds_setI_row, ds_setL_row, ds_rowI_self, ds_rowI_ne, ds_rowI_2, ds_rowI_rowI, ds_setS_1, ds_setS_21, ds_setS_self, ds_setS_ne, pk_us, pk_un, e]
theorem dk_qC_row {z z' : ds_St} (v : Int32) (h : dk_fr 64 80 z z') : dk_qC z (ds_rowI z' 0 (upd (z'.1 0) 10 v)) v := by
  refine ⟨fun p h1 h2 => ?_, ?_, fun j hj => h.2 j hj⟩
  · rw [ds_rowI_ne _ _ (by omega)]; exact h.1 p h2
  · rw [ds_rowI_self, h.1 0 (by decide)]
theorem dk_qC_no (z : ds_St) (v : Int32) : dk_qC z (ds_rowI z 0 (upd (z.1 0) 10 v)) v := dk_qC_row v (dk_fr_refl _ _ _)
/-! what calls share: model -/
def dk_zg (z : ds_St) : ds_St := ds_rowI z 90 (upd (upd (z.1 90) 0 (nI 0)) 11 (nI 0))
theorem s_good (d : Nat) (z : ds_St) : ds_call (d + 1) j_Mod_good [.ref 90] z = some (none, dk_zg z) := by
  rw [c_Mod_good, b_Mod_good_0]
  unfold dk_zg
  simp (disch := first | assumption | omega | rfl | decide) only [ds_cI, ds_cV, ds_cL, ds_cR, ds_nn, ds_isK_t, ds_isA_t, ds_chk_t, ds_chkN, ds_nz_t, ds_nzN, ds_isB_t, ds_isB_bo, ↓dl_m1, ↓dl_m2, dl_0, dl_1, dl_2, dl_3, dl_4, dl_5, dl_6, dl_7, dl_8, dl_9, dl_10, dl_11, dl_12, dl_13, dl_14, dl_15, dl_16, dl_20, dl_24, dl_31, dl_50, dl_57, dl_67, dl_68, dl_74, dl_75, dl_79, dl_80, dl_99, dl_100, dl_200, dl_210, dl_224, dl_255, dl_289, dl_900, dl_1000, dl_1728, dl_65536, dl_65537, nI_add, pk_mul, pk_sub, pk_div, pk_rem, ds_rem2, nI_clamp, nI_leI, nI_ltI, nI_eq, ds_m1_eq, ds_eq_m1, ds_m2_eq, ds_eq_m2, ds_m1_le, ds_le_m1, ds_m1_lt, ds_lt_m1, ds_in_N, ds_bo0, ds_bo1, if_pos, if_neg, Nat.not_le, Nat.not_lt, not_true_eq_false, not_false_eq_true, if_true, if_false, ne_eq, Option.some.injEq, Prod.mk.injEq, Value.int.injEq, true_and, and_true, and_self, ite_self, Bool.not_eq_true, Bool.not_eq_false, Bool.true_eq_false, Bool.false_eq_true, reduceCtorEq, Nat.zero_add, Nat.reduceAdd, Nat.reduceMul, Nat.reduceSub, ds_setI_row, ds_setL_row, ds_rowI_self, ds_rowI_ne, ds_rowI_2, ds_rowI_rowI, ds_setS_1, ds_setS_21, ds_setS_self, ds_setS_ne, pk_us, pk_un]
theorem dk_zg_ne (z : ds_St) {p : Nat} (h : p ≠ 90) : (dk_zg z).1 p = z.1 p := ds_rowI_ne _ _ h
theorem dk_zg_k (z : ds_St) {k : Nat} (h0 : k ≠ 0) (h11 : k ≠ 11) : (dk_zg z).1 90 k = z.1 90 k := by
  unfold dk_zg
  rw [ds_rowI_self, pk_un h11, pk_un h0]
theorem dk_zg_HM {z : ds_St} {D : Nat → Nat → Nat} {K : Nat → Nat} (h : dk_HM z D K) : dk_HM (dk_zg z) D K := dk_HM_q h (dk_zg_ne z (by decide)) (dk_zg_ne z (by decide)) (dk_zg_k z (by decide) (by decide))
/-- what the model's reckoning may change behind good() -/
def dk_fm (z z1 : ds_St) : Prop := (∀ p, p < 98 → p ≠ 90 → z1.1 p = z.1 p) ∧ (∀ k, k = 2 ∨ k = 9 ∨ k = 10 ∨ k = 11 ∨ k = 14 ∨ k = 20 ∨ k = 21 → z1.1 90 k = z.1 90 k) ∧ (∀ j, j < 2 → z1.2.2 j = z.2.2 j)
theorem dk_fm_refl (z : ds_St) : dk_fm z z := ⟨fun _ _ _ => rfl, fun _ _ => rfl, fun _ _ => rfl⟩
theorem dk_fm_trans {z z1 z2 : ds_St} (h : dk_fm z z1) (h2 : dk_fm z1 z2) : dk_fm z z2 := ⟨fun p a b => (h2.1 p a b).trans (h.1 p a b), fun k a => (h2.2.1 k a).trans (h.2.1 k a), fun j a => (h2.2.2 j a).trans (h.2.2 j a)⟩
theorem dk_fm_row {z z1 : ds_St} {p : Nat} (f : Nat → Int32) (h : dk_fm z z1) (hp : 98 ≤ p) : dk_fm z (ds_rowI z1 p f) := ⟨fun q a b => by rw [ds_rowI_ne _ _ (by omega)]; exact h.1 q a b, fun k a => by rw [ds_rowI_ne _ _ (by omega)]; exact h.2.1 k a, fun j a => h.2.2 j a⟩
theorem dk_fm_fld {z z1 : ds_St} {k : Nat} (v : Int32) (h : dk_fm z z1) (hk : ¬ (k = 2 ∨ k = 9 ∨ k = 10 ∨ k = 11 ∨ k = 14 ∨ k = 20 ∨ k = 21)) : dk_fm z (ds_rowI z1 90 (upd (z1.1 90) k v)) := ⟨fun q a b => by rw [ds_rowI_ne _ _ b]; exact h.1 q a b, fun j a => by rw [ds_rowI_self, pk_un (by omega)]; exact h.2.1 j a, fun j a => h.2.2 j a⟩
theorem dk_qM_ok {z z2 : ds_St} (h : dk_fm (dk_zg z) z2) : dk_qM z z2 (nI 0) := by
  refine ⟨fun p a b => by rw [h.1 p a b, dk_zg_ne z b], fun k a => by rw [h.2.1 k (by omega), dk_zg_k z (by omega) (by omega)], ?_, fun j a => h.2.2 j a⟩
  rw [h.2.1 11 (by decide)]
  unfold dk_zg
  rw [ds_rowI_self, pk_us]
theorem dk_qM_no (z : ds_St) (v : Int32) : dk_qM z (ds_rowI (dk_zg z) 90 (upd ((dk_zg z).1 90) 11 v)) v := by
  refine ⟨fun p a b => by rw [ds_rowI_ne _ _ b, dk_zg_ne z b], fun k a => by rw [ds_rowI_self, pk_un (by omega), dk_zg_k z (by omega) (by omega)], by rw [ds_rowI_self, pk_us], fun j a => rfl⟩
theorem s_no (d : Nat) (x : Int32) (z : ds_St) : ds_call (d + 1) j_Mod_no [.ref 90, .int x] z = some (some (.int ds_m1), ds_rowI z 90 (upd (z.1 90) 11 x)) := by
  rw [c_Mod_no, b_Mod_no_0]
  simp (disch := first | assumption | omega | rfl | decide) only [ds_cI, ds_cV, ds_cL, ds_cR, ds_nn, ds_isK_t, ds_isA_t, ds_chk_t, ds_chkN, ds_nz_t, ds_nzN, ds_isB_t, ds_isB_bo, ↓dl_m1, ↓dl_m2, dl_0, dl_1, dl_2, dl_3, dl_4, dl_5, dl_6, dl_7, dl_8, dl_9, dl_10, dl_11, dl_12, dl_13, dl_14, dl_15, dl_16, dl_20, dl_24, dl_31, dl_50, dl_57, dl_67, dl_68, dl_74, dl_75, dl_79, dl_80, dl_99, dl_100, dl_200, dl_210, dl_224, dl_255, dl_289, dl_900, dl_1000, dl_1728, dl_65536, dl_65537, nI_add, pk_mul, pk_sub, pk_div, pk_rem, ds_rem2, nI_clamp, nI_leI, nI_ltI, nI_eq, ds_m1_eq, ds_eq_m1, ds_m2_eq, ds_eq_m2, ds_m1_le, ds_le_m1, ds_m1_lt, ds_lt_m1, ds_in_N, ds_bo0, ds_bo1, if_pos, if_neg, Nat.not_le, Nat.not_lt, not_true_eq_false, not_false_eq_true, if_true, if_false, ne_eq, Option.some.injEq, Prod.mk.injEq, Value.int.injEq, true_and, and_true, and_self, ite_self, Bool.not_eq_true, Bool.not_eq_false, Bool.true_eq_false, Bool.false_eq_true, reduceCtorEq, Nat.zero_add, Nat.reduceAdd, Nat.reduceMul, Nat.reduceSub, ds_setI_row, ds_setL_row, ds_rowI_self, ds_rowI_ne, ds_rowI_2, ds_rowI_rowI, ds_setS_1, ds_setS_21, ds_setS_self, ds_setS_ne, pk_us, pk_un]
theorem s_in_rng (d n : Nat) (x : Int32) (z : ds_St) (h1 : 1 ≤ n) (hn : n < 2 ^ 31) : ds_call (d + 1) j_Mod_in [.int x, .int (nI 0), .int (nI (n - 1))] z = some (some (.int (ds_bo (dk_rng x n))), z) := by
  rw [c_Mod_in, b_Mod_in_0]
  have e : (nI (n - 1) < x) = (nI n ≤ x) := by
    apply propext
    rw [Int32.lt_iff_toInt_lt, Int32.le_iff_toInt_le, nI_toInt (by omega), nI_toInt hn]
    omega
  simp only [e]
  exact (congrArg ds_nn (dk_rngbo x n z)).trans rfl
theorem s_misIsland (d : Nat) (x : Int32) (z : ds_St) (D : Nat → Nat → Nat) (K : Nat → Nat) (hM : dk_HM z D K) (hz : dk_Hz D K) : ds_call (d + 2) j_Mod_isIsland [.ref 90, .int x] z = some (some (.int (ds_bo (dk_rng x (D 0 4)))), z) := by
  obtain ⟨hT, e1, _⟩ := hM
  have m4 := hT.1.2.2.2.2.1
  have n12 := (dk_n12 hz).1
  rw [c_Mod_isIsland, b_Mod_isIsland_0]
  by_cases h : 0 < D 0 4
  · have e := s_in_rng d (D 0 4) x z h (by omega)
    simp (disch := first | assumption | omega | rfl | decide) only [ds_cI, ds_cV, ds_cL, ds_cR, ds_nn, ds_isK_t, ds_isA_t, ds_chk_t, ds_chkN, ds_nz_t, ds_nzN, ds_isB_t, ds_isB_bo, ↓dl_m1, ↓dl_m2, dl_0, dl_1, dl_2, dl_3, dl_4, dl_5, dl_6, dl_7, dl_8, dl_9, dl_10, dl_11, dl_12, dl_13, dl_14, dl_15, dl_16, dl_20, dl_24, dl_31, dl_50, dl_57, dl_67, dl_68, dl_74, dl_75, dl_79, dl_80, dl_99, dl_100, dl_200, dl_210, dl_224, dl_255, dl_289, dl_900, dl_1000, dl_1728, dl_65536, dl_65537, nI_add, pk_mul, pk_sub, pk_div, pk_rem, ds_rem2, nI_clamp, nI_leI, nI_ltI, nI_eq, ds_m1_eq, ds_eq_m1, ds_m2_eq, ds_eq_m2, ds_m1_le, ds_le_m1, ds_m1_lt, ds_lt_m1, ds_in_N, ds_bo0, ds_bo1, if_pos, if_neg, Nat.not_le, Nat.not_lt, not_true_eq_false, not_false_eq_true, if_true, if_false, ne_eq, Option.some.injEq, Prod.mk.injEq, Value.int.injEq, true_and, and_true, and_self, ite_self, Bool.not_eq_true, Bool.not_eq_false, Bool.true_eq_false, Bool.false_eq_true, reduceCtorEq, Nat.zero_add, Nat.reduceAdd, Nat.reduceMul, Nat.reduceSub, ds_setI_row, ds_setL_row, ds_rowI_self, ds_rowI_ne, ds_rowI_2, ds_rowI_rowI, ds_setS_1, ds_setS_21, ds_setS_self, ds_setS_ne, pk_us, pk_un, e1, h, decide_true, m4, e]
    cases dk_rng x (D 0 4) <;> rfl
  · have h0 : D 0 4 = 0 := by omega
    rw [h0, dk_rng_0]
    rw [h0] at e1
    simp (disch := first | assumption | omega | rfl | decide) only [ds_cI, ds_cV, ds_cL, ds_cR, ds_nn, ds_isK_t, ds_isA_t, ds_chk_t, ds_chkN, ds_nz_t, ds_nzN, ds_isB_t, ds_isB_bo, ↓dl_m1, ↓dl_m2, dl_0, dl_1, dl_2, dl_3, dl_4, dl_5, dl_6, dl_7, dl_8, dl_9, dl_10, dl_11, dl_12, dl_13, dl_14, dl_15, dl_16, dl_20, dl_24, dl_31, dl_50, dl_57, dl_67, dl_68, dl_74, dl_75, dl_79, dl_80, dl_99, dl_100, dl_200, dl_210, dl_224, dl_255, dl_289, dl_900, dl_1000, dl_1728, dl_65536, dl_65537, nI_add, pk_mul, pk_sub, pk_div, pk_rem, ds_rem2, nI_clamp, nI_leI, nI_ltI, nI_eq, ds_m1_eq, ds_eq_m1, ds_m2_eq, ds_eq_m2, ds_m1_le, ds_le_m1, ds_m1_lt, ds_lt_m1, ds_in_N, ds_bo0, ds_bo1, if_pos, if_neg, Nat.not_le, Nat.not_lt, not_true_eq_false, not_false_eq_true, if_true, if_false, ne_eq, Option.some.injEq, Prod.mk.injEq, Value.int.injEq, true_and, and_true, and_self, ite_self, Bool.not_eq_true, Bool.not_eq_false, Bool.true_eq_false, Bool.false_eq_true, reduceCtorEq, Nat.zero_add, Nat.reduceAdd, Nat.reduceMul, Nat.reduceSub, ds_setI_row, ds_setL_row, ds_rowI_self, ds_rowI_ne, ds_rowI_2, ds_rowI_rowI, ds_setS_1, ds_setS_21, ds_setS_self, ds_setS_ne, pk_us, pk_un, e1, decide_false, Nat.lt_irrefl]
    rfl
theorem s_misMove (d : Nat) (x : Int32) (z : ds_St) (D : Nat → Nat → Nat) (K : Nat → Nat) (hM : dk_HM z D K) (hz : dk_Hz D K) : ds_call (d + 2) j_Mod_isMove [.ref 90, .int x] z = some (some (.int (ds_bo (dk_rng x (dk_mo (K 12))))), z) := by
  obtain ⟨hT, e1, hr⟩ := hM
  have n12 := (dk_n12 hz).2
  have e2 := s_mmovesOf d (K 12) 95 z rfl rfl hr.2.1
  rw [c_Mod_isMove, b_Mod_isMove_0]
  rcases hz with ⟨hD, hK⟩ | ⟨h0, h1, _⟩
  · have n2 := hD.2.2.2.2.1.1
    have hk : 2 ≤ K 12 := by rcases hK.2.2 with h | h <;> omega
    have e := s_in_rng d (K 12 + 2) x z (by omega) (by omega)
    have hm : dk_mo (K 12) = K 12 + 2 := by unfold dk_mo; rw [if_neg (by omega)]
    have h : 0 < D 0 4 := by omega
    rw [hm]
    simp (disch := first | assumption | omega | rfl | decide) only [ds_cI, ds_cV, ds_cL, ds_cR, ds_nn, ds_isK_t, ds_isA_t, ds_chk_t, ds_chkN, ds_nz_t, ds_nzN, ds_isB_t, ds_isB_bo, ↓dl_m1, ↓dl_m2, dl_0, dl_1, dl_2, dl_3, dl_4, dl_5, dl_6, dl_7, dl_8, dl_9, dl_10, dl_11, dl_12, dl_13, dl_14, dl_15, dl_16, dl_20, dl_24, dl_31, dl_50, dl_57, dl_67, dl_68, dl_74, dl_75, dl_79, dl_80, dl_99, dl_100, dl_200, dl_210, dl_224, dl_255, dl_289, dl_900, dl_1000, dl_1728, dl_65536, dl_65537, nI_add, pk_mul, pk_sub, pk_div, pk_rem, ds_rem2, nI_clamp, nI_leI, nI_ltI, nI_eq, ds_m1_eq, ds_eq_m1, ds_m2_eq, ds_eq_m2, ds_m1_le, ds_le_m1, ds_m1_lt, ds_lt_m1, ds_in_N, ds_bo0, ds_bo1, if_pos, if_neg, Nat.not_le, Nat.not_lt, not_true_eq_false, not_false_eq_true, if_true, if_false, ne_eq, Option.some.injEq, Prod.mk.injEq, Value.int.injEq, true_and, and_true, and_self, ite_self, Bool.not_eq_true, Bool.not_eq_false, Bool.true_eq_false, Bool.false_eq_true, reduceCtorEq, Nat.zero_add, Nat.reduceAdd, Nat.reduceMul, Nat.reduceSub, ds_setI_row, ds_setL_row, ds_rowI_self, ds_rowI_ne, ds_rowI_2, ds_rowI_rowI, ds_setS_1, ds_setS_21, ds_setS_self, ds_setS_ne, pk_us, pk_un, e1, h, decide_true, e2, e]
    cases dk_rng x (K 12 + 2) <;> rfl
  · have h4 := h0 4 (by decide)
    rw [h1]
    rw [h4] at e1
    have : dk_mo 0 = 0 := rfl
    rw [this, dk_rng_0]
    simp (disch := first | assumption | omega | rfl | decide) only [ds_cI, ds_cV, ds_cL, ds_cR, ds_nn, ds_isK_t, ds_isA_t, ds_chk_t, ds_chkN, ds_nz_t, ds_nzN, ds_isB_t, ds_isB_bo, ↓dl_m1, ↓dl_m2, dl_0, dl_1, dl_2, dl_3, dl_4, dl_5, dl_6, dl_7, dl_8, dl_9, dl_10, dl_11, dl_12, dl_13, dl_14, dl_15, dl_16, dl_20, dl_24, dl_31, dl_50, dl_57, dl_67, dl_68, dl_74, dl_75, dl_79, dl_80, dl_99, dl_100, dl_200, dl_210, dl_224, dl_255, dl_289, dl_900, dl_1000, dl_1728, dl_65536, dl_65537, nI_add, pk_mul, pk_sub, pk_div, pk_rem, ds_rem2, nI_clamp, nI_leI, nI_ltI, nI_eq, ds_m1_eq, ds_eq_m1, ds_m2_eq, ds_eq_m2, ds_m1_le, ds_le_m1, ds_m1_lt, ds_lt_m1, ds_in_N, ds_bo0, ds_bo1, if_pos, if_neg, Nat.not_le, Nat.not_lt, not_true_eq_false, not_false_eq_true, if_true, if_false, ne_eq, Option.some.injEq, Prod.mk.injEq, Value.int.injEq, true_and, and_true, and_self, ite_self, Bool.not_eq_true, Bool.not_eq_false, Bool.true_eq_false, Bool.false_eq_true, reduceCtorEq, Nat.zero_add, Nat.reduceAdd, Nat.reduceMul, Nat.reduceSub, ds_setI_row, ds_setL_row, ds_rowI_self, ds_rowI_ne, ds_rowI_2, ds_rowI_rowI, ds_setS_1, ds_setS_21, ds_setS_self, ds_setS_ne, pk_us, pk_un, e1, decide_false, Nat.lt_irrefl]
    rfl
theorem dk_HM_dm {z : ds_St} {D : Nat → Nat → Nat} {K : Nat → Nat} (hM : dk_HM z D K) (hK : dk_okK D K) : dk_dm z 95 K (K 12) (D 0 4) := by
  obtain ⟨hT, e1, h1, h2, h3⟩ := hM
  exact ⟨.inl rfl, by simpa using h2, hK.1, fun p hp => by simpa using h1 p hp, hK.2.1⟩
