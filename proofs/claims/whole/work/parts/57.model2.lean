/-- the model's deck in a row -/
def dk_dm (z : ds_St) (x : Nat) (C : Nat → Nat) (c n : Nat) : Prop := (x = 95 ∨ x = 100 ∨ x = 101) ∧ z.1 x 12 = nI c ∧ c ≤ 12 ∧ (∀ p, p < c → z.1 x p = nI (C p)) ∧ dk_inj C c n
theorem dk_Kx {x : Nat} (h : x = 95 ∨ x = 100 ∨ x = 101) : ds_K x = 11 := by rcases h with rfl | rfl | rfl <;> rfl
theorem dk_Nx {x : Nat} (h : x = 95 ∨ x = 100 ∨ x = 101) : ds_N x = 14 := by rcases h with rfl | rfl | rfl <;> rfl
theorem ds_fnd_some {f : Nat → Int32} {i : Int32} : ∀ (m p k : Nat), p ≤ k → k < p + m → f k = i → (∀ j, p ≤ j → j < k → f j ≠ i) → ds_fnd f i p m = some k := by
  intro m
  induction m with
  | zero => intro p k h1 h2; omega
  | succ m ih =>
    intro p k h1 h2 h3 h4
    unfold ds_fnd
    by_cases h : f p = i
    · rw [if_pos h]
      rcases Nat.lt_or_ge p k with h5 | h5
      · exact absurd h (h4 p (by omega) h5)
      · have : p = k := by omega
        rw [this]
    · rw [if_neg h]
      apply ih
      · rcases Nat.lt_or_ge p k with h5 | h5
        · omega
        · have : p = k := by omega
          subst this
          exact absurd h3 h
      · omega
      · exact h3
      · intro j h5 h6
        exact h4 j (by omega) h6
theorem ds_fnd_none {f : Nat → Int32} {i : Int32} : ∀ (m p : Nat), (∀ j, p ≤ j → j < p + m → f j ≠ i) → ds_fnd f i p m = none := by
  intro m
  induction m with
  | zero => intro p h; rfl
  | succ m ih =>
    intro p h
    unfold ds_fnd
    rw [if_neg (h p (by omega) (by omega)), ih (p + 1) (fun j h1 h2 => h j (by omega) (by omega))]
theorem s_placeIn_y (d x c n p : Nat) (z : ds_St) (C : Nat → Nat) (hm : dk_dm z x C c n) (hn : n ≤ 12) (hp : p < c) : ds_call (d + 1) j_Mod_placeIn [.ref x, .int (nI (C p))] z = some (some (.int (nI p)), z) := by
  obtain ⟨hx, h2, h3, h4, h5⟩ := hm
  rw [s_placeIn d c x (nI (C p)) z (dk_Kx hx) (dk_Nx hx) h2 h3]
  have hl := h5.1 p hp
  rw [ds_fnd_some c 0 p (by omega) (by omega) (h4 p hp) (fun j _ hj q => by
    rw [h4 j (by omega), nI_eq (by have := h5.1 j (by omega); omega) (by omega)] at q
    have := h5.2 j p (by omega) hp q
    omega)]
  rfl
theorem s_placeIn_n (d x c n i : Nat) (z : ds_St) (C : Nat → Nat) (hm : dk_dm z x C c n) (hn : n ≤ 12) (hi : i < 2 ^ 31) (hp : ∀ p, p < c → C p ≠ i) : ds_call (d + 1) j_Mod_placeIn [.ref x, .int (nI i)] z = some (some (.int ds_m2), z) := by
  obtain ⟨hx, h2, h3, h4, h5⟩ := hm
  rw [s_placeIn d c x (nI i) z (dk_Kx hx) (dk_Nx hx) h2 h3]
  rw [ds_fnd_none c 0 (fun j _ hj q => by
    rw [h4 j (by omega), nI_eq (by have := h5.1 j (by omega); omega) hi] at q
    exact hp j (by omega) q)]
  rfl
theorem dk_has (C : Nat → Nat) (c i : Nat) : (∃ p, p < c ∧ C p = i) ∨ (∀ p, p < c → C p ≠ i) := by
  rcases Classical.em (∃ p, p < c ∧ C p = i) with h | h
  · exact .inl h
  · exact .inr (fun p hp q => h ⟨p, hp, q⟩)
theorem s_areBeside_m2 (d c : Nat) (y : Int32) (z : ds_St) (D : Nat → Nat → Nat) (hM : dk_tM z D) (hD : dk_ok D) : ds_call (d + 2) j_Mod_areBeside [.ref 90, .int ds_m2, .int y, .int (nI c)] z = some (some (.int (ds_bo false)), z) := by
  have e2 := s_mroom d z D hM
  rw [c_Mod_areBeside, b_Mod_areBeside_0]
  simp (disch := first | assumption | omega | rfl | decide) only [ds_cI, ds_cV, ds_cL, ds_cR, ds_nn, ds_isK_t, ds_isA_t, ds_chk_t, ds_chkN, ds_nz_t, ds_nzN, ds_isB_t, ds_isB_bo, ↓dl_m1, ↓dl_m2, dl_0, dl_1, dl_2, dl_3, dl_4, dl_5, dl_6, dl_7, dl_8, dl_9, dl_10, dl_11, dl_12, dl_13, dl_14, dl_15, dl_16, dl_20, dl_24, dl_31, dl_50, dl_57, dl_67, dl_68, dl_74, dl_75, dl_79, dl_80, dl_99, dl_100, dl_200, dl_210, dl_224, dl_255, dl_289, dl_900, dl_1000, dl_1728, dl_65536, dl_65537, nI_add, pk_mul, pk_sub, pk_div, pk_rem, ds_rem2, nI_clamp, nI_leI, nI_ltI, nI_eq, ds_m1_eq, ds_eq_m1, ds_m2_eq, ds_eq_m2, ds_m1_le, ds_le_m1, ds_m1_lt, ds_lt_m1, ds_in_N, ds_bo0, ds_bo1, if_pos, if_neg, Nat.not_le, Nat.not_lt, not_true_eq_false, not_false_eq_true, if_true, if_false, ne_eq, Option.some.injEq, Prod.mk.injEq, Value.int.injEq, true_and, and_true, and_self, ite_self, Bool.not_eq_true, Bool.not_eq_false, Bool.true_eq_false, Bool.false_eq_true, reduceCtorEq, Nat.zero_add, Nat.reduceAdd, Nat.reduceMul, Nat.reduceSub, ds_setI_row, ds_setL_row, ds_rowI_self, ds_rowI_ne, ds_rowI_2, ds_rowI_rowI, ds_setS_1, ds_setS_21, ds_setS_self, ds_setS_ne, pk_us, pk_un, e2, s_in_m2]
  rfl
theorem s_areBeside_m2' (d p c : Nat) (z : ds_St) (D : Nat → Nat → Nat) (hM : dk_tM z D) (hD : dk_ok D) (hp : p < 2 ^ 31) : ds_call (d + 2) j_Mod_areBeside [.ref 90, .int (nI p), .int ds_m2, .int (nI c)] z = some (some (.int (ds_bo false)), z) := by
  have e2 := s_mroom d z D hM
  have e3 := fun a b c => s_inN d a b c z
  obtain ⟨⟨w2, w4⟩, ⟨g2, g3⟩, o2, o3, _⟩ := hD
  have hR : D 0 0 * D 0 1 ≤ 12 := Nat.mul_le_mul w4 g3
  have hR2 : 2 * 2 ≤ D 0 0 * D 0 1 := Nat.mul_le_mul w2 g2
  rw [c_Mod_areBeside, b_Mod_areBeside_0]
  simp (disch := first | assumption | omega | rfl | decide) only [ds_cI, ds_cV, ds_cL, ds_cR, ds_nn, ds_isK_t, ds_isA_t, ds_chk_t, ds_chkN, ds_nz_t, ds_nzN, ds_isB_t, ds_isB_bo, ↓dl_m1, ↓dl_m2, dl_0, dl_1, dl_2, dl_3, dl_4, dl_5, dl_6, dl_7, dl_8, dl_9, dl_10, dl_11, dl_12, dl_13, dl_14, dl_15, dl_16, dl_20, dl_24, dl_31, dl_50, dl_57, dl_67, dl_68, dl_74, dl_75, dl_79, dl_80, dl_99, dl_100, dl_200, dl_210, dl_224, dl_255, dl_289, dl_900, dl_1000, dl_1728, dl_65536, dl_65537, nI_add, pk_mul, pk_sub, pk_div, pk_rem, ds_rem2, nI_clamp, nI_leI, nI_ltI, nI_eq, ds_m1_eq, ds_eq_m1, ds_m2_eq, ds_eq_m2, ds_m1_le, ds_le_m1, ds_m1_lt, ds_lt_m1, ds_in_N, ds_bo0, ds_bo1, if_pos, if_neg, Nat.not_le, Nat.not_lt, not_true_eq_false, not_false_eq_true, if_true, if_false, ne_eq, Option.some.injEq, Prod.mk.injEq, Value.int.injEq, true_and, and_true, and_self, ite_self, Bool.not_eq_true, Bool.not_eq_false, Bool.true_eq_false, Bool.false_eq_true, reduceCtorEq, Nat.zero_add, Nat.reduceAdd, Nat.reduceMul, Nat.reduceSub, ds_setI_row, ds_setL_row, ds_rowI_self, ds_rowI_ne, ds_rowI_2, ds_rowI_rowI, ds_setS_1, ds_setS_21, ds_setS_self, ds_setS_ne, pk_us, pk_un, e2, s_in_m2, e3]
  rfl
theorem s_beBeside (d x c i j : Nat) (z : ds_St) (D : Nat → Nat → Nat) (C : Nat → Nat) (hM : dk_tM z D) (hD : dk_ok D) (hm : dk_dm z x C c (D 0 4)) (hi : i < 2 ^ 31) (hj : j < 2 ^ 31) : ds_call (d + 3) j_Mod_beBeside [.ref 90, .ref x, .int (nI i), .int (nI j)] z = some (some (.int (ds_bo (dk_be (dk_A D) C c i j))), z) := by
  have n12 : D 0 4 ≤ 12 := hD.2.2.2.2.1.2
  have e1 := fun p => s_placeIn_y (d + 1) x c (D 0 4) p z C hm n12
  have e2 := fun i => s_placeIn_n (d + 1) x c (D 0 4) i z C hm n12
  have e3 := fun p q => s_areBeside d p q c z D hM hD
  have e4 := fun y => s_areBeside_m2 d c y z D hM hD
  have e5 := fun p => s_areBeside_m2' d p c z D hM hD
  have hK := dk_Kx hm.1
  have hN := dk_Nx hm.1
  have h12 := hm.2.1
  have hc := hm.2.2.1
  have hin := hm.2.2.2.2
  rw [c_Mod_beBeside, b_Mod_beBeside_0]
  rcases dk_has C c i with ⟨p, hp, rfl⟩ | hni
  · rcases dk_has C c j with ⟨q, hq, rfl⟩ | hnj
    · rw [dk_be_at hin hp hq]
      simp (disch := first | assumption | omega | rfl | decide) only [ds_cI, ds_cV, ds_cL, ds_cR, ds_nn, ds_isK_t, ds_isA_t, ds_chk_t, ds_chkN, ds_nz_t, ds_nzN, ds_isB_t, ds_isB_bo, ↓dl_m1, ↓dl_m2, dl_0, dl_1, dl_2, dl_3, dl_4, dl_5, dl_6, dl_7, dl_8, dl_9, dl_10, dl_11, dl_12, dl_13, dl_14, dl_15, dl_16, dl_20, dl_24, dl_31, dl_50, dl_57, dl_67, dl_68, dl_74, dl_75, dl_79, dl_80, dl_99, dl_100, dl_200, dl_210, dl_224, dl_255, dl_289, dl_900, dl_1000, dl_1728, dl_65536, dl_65537, nI_add, pk_mul, pk_sub, pk_div, pk_rem, ds_rem2, nI_clamp, nI_leI, nI_ltI, nI_eq, ds_m1_eq, ds_eq_m1, ds_m2_eq, ds_eq_m2, ds_m1_le, ds_le_m1, ds_m1_lt, ds_lt_m1, ds_in_N, ds_bo0, ds_bo1, if_pos, if_neg, Nat.not_le, Nat.not_lt, not_true_eq_false, not_false_eq_true, if_true, if_false, ne_eq, Option.some.injEq, Prod.mk.injEq, Value.int.injEq, true_and, and_true, and_self, ite_self, Bool.not_eq_true, Bool.not_eq_false, Bool.true_eq_false, Bool.false_eq_true, reduceCtorEq, Nat.zero_add, Nat.reduceAdd, Nat.reduceMul, Nat.reduceSub, ds_setI_row, ds_setL_row, ds_rowI_self, ds_rowI_ne, ds_rowI_2, ds_rowI_rowI, ds_setS_1, ds_setS_21, ds_setS_self, ds_setS_ne, pk_us, pk_un, e1, hN, h12, e3]
      simp [hp, hq]
    · have h5 := e2 j hj hnj
      rw [dk_be_sym (dk_A_sym D), dk_be_no hnj]
      simp (disch := first | assumption | omega | rfl | decide) only [ds_cI, ds_cV, ds_cL, ds_cR, ds_nn, ds_isK_t, ds_isA_t, ds_chk_t, ds_chkN, ds_nz_t, ds_nzN, ds_isB_t, ds_isB_bo, ↓dl_m1, ↓dl_m2, dl_0, dl_1, dl_2, dl_3, dl_4, dl_5, dl_6, dl_7, dl_8, dl_9, dl_10, dl_11, dl_12, dl_13, dl_14, dl_15, dl_16, dl_20, dl_24, dl_31, dl_50, dl_57, dl_67, dl_68, dl_74, dl_75, dl_79, dl_80, dl_99, dl_100, dl_200, dl_210, dl_224, dl_255, dl_289, dl_900, dl_1000, dl_1728, dl_65536, dl_65537, nI_add, pk_mul, pk_sub, pk_div, pk_rem, ds_rem2, nI_clamp, nI_leI, nI_ltI, nI_eq, ds_m1_eq, ds_eq_m1, ds_m2_eq, ds_eq_m2, ds_m1_le, ds_le_m1, ds_m1_lt, ds_lt_m1, ds_in_N, ds_bo0, ds_bo1, if_pos, if_neg, Nat.not_le, Nat.not_lt, not_true_eq_false, not_false_eq_true, if_true, if_false, ne_eq, Option.some.injEq, Prod.mk.injEq, Value.int.injEq, true_and, and_true, and_self, ite_self, Bool.not_eq_true, Bool.not_eq_false, Bool.true_eq_false, Bool.false_eq_true, reduceCtorEq, Nat.zero_add, Nat.reduceAdd, Nat.reduceMul, Nat.reduceSub, ds_setI_row, ds_setL_row, ds_rowI_self, ds_rowI_ne, ds_rowI_2, ds_rowI_rowI, ds_setS_1, ds_setS_21, ds_setS_self, ds_setS_ne, pk_us, pk_un, e1, h5, hN, h12, e5]
  · have h5 := e2 i hi hni
    rw [dk_be_no hni]
    rcases dk_has C c j with ⟨q, hq, rfl⟩ | hnj
    · simp (disch := first | assumption | omega | rfl | decide) only [ds_cI, ds_cV, ds_cL, ds_cR, ds_nn, ds_isK_t, ds_isA_t, ds_chk_t, ds_chkN, ds_nz_t, ds_nzN, ds_isB_t, ds_isB_bo, ↓dl_m1, ↓dl_m2, dl_0, dl_1, dl_2, dl_3, dl_4, dl_5, dl_6, dl_7, dl_8, dl_9, dl_10, dl_11, dl_12, dl_13, dl_14, dl_15, dl_16, dl_20, dl_24, dl_31, dl_50, dl_57, dl_67, dl_68, dl_74, dl_75, dl_79, dl_80, dl_99, dl_100, dl_200, dl_210, dl_224, dl_255, dl_289, dl_900, dl_1000, dl_1728, dl_65536, dl_65537, nI_add, pk_mul, pk_sub, pk_div, pk_rem, ds_rem2, nI_clamp, nI_leI, nI_ltI, nI_eq, ds_m1_eq, ds_eq_m1, ds_m2_eq, ds_eq_m2, ds_m1_le, ds_le_m1, ds_m1_lt, ds_lt_m1, ds_in_N, ds_bo0, ds_bo1, if_pos, if_neg, Nat.not_le, Nat.not_lt, not_true_eq_false, not_false_eq_true, if_true, if_false, ne_eq, Option.some.injEq, Prod.mk.injEq, Value.int.injEq, true_and, and_true, and_self, ite_self, Bool.not_eq_true, Bool.not_eq_false, Bool.true_eq_false, Bool.false_eq_true, reduceCtorEq, Nat.zero_add, Nat.reduceAdd, Nat.reduceMul, Nat.reduceSub, ds_setI_row, ds_setL_row, ds_rowI_self, ds_rowI_ne, ds_rowI_2, ds_rowI_rowI, ds_setS_1, ds_setS_21, ds_setS_self, ds_setS_ne, pk_us, pk_un, e1, h5, hN, h12, e4]
    · have h6 := e2 j hj hnj
      simp (disch := first | assumption | omega | rfl | decide) only [ds_cI, ds_cV, ds_cL, ds_cR, ds_nn, ds_isK_t, ds_isA_t, ds_chk_t, ds_chkN, ds_nz_t, ds_nzN, ds_isB_t, ds_isB_bo, ↓dl_m1, ↓dl_m2, dl_0, dl_1, dl_2, dl_3, dl_4, dl_5, dl_6, dl_7, dl_8, dl_9, dl_10, dl_11, dl_12, dl_13, dl_14, dl_15, dl_16, dl_20, dl_24, dl_31, dl_50, dl_57, dl_67, dl_68, dl_74, dl_75, dl_79, dl_80, dl_99, dl_100, dl_200, dl_210, dl_224, dl_255, dl_289, dl_900, dl_1000, dl_1728, dl_65536, dl_65537, nI_add, pk_mul, pk_sub, pk_div, pk_rem, ds_rem2, nI_clamp, nI_leI, nI_ltI, nI_eq, ds_m1_eq, ds_eq_m1, ds_m2_eq, ds_eq_m2, ds_m1_le, ds_le_m1, ds_m1_lt, ds_lt_m1, ds_in_N, ds_bo0, ds_bo1, if_pos, if_neg, Nat.not_le, Nat.not_lt, not_true_eq_false, not_false_eq_true, if_true, if_false, ne_eq, Option.some.injEq, Prod.mk.injEq, Value.int.injEq, true_and, and_true, and_self, ite_self, Bool.not_eq_true, Bool.not_eq_false, Bool.true_eq_false, Bool.false_eq_true, reduceCtorEq, Nat.zero_add, Nat.reduceAdd, Nat.reduceMul, Nat.reduceSub, ds_setI_row, ds_setL_row, ds_rowI_self, ds_rowI_ne, ds_rowI_2, ds_rowI_rowI, ds_setS_1, ds_setS_21, ds_setS_self, ds_setS_ne, pk_us, pk_un, h5, h6, hN, h12, e4]
/-- what islands i and j trade -/
def dk_ti (D : Nat → Nat → Nat) (C : Nat → Nat) (c i j : Nat) : Nat := if dk_be (dk_A D) C c i j = true then dk_wor D i j else 0
theorem s_tradeOf (d x c i j : Nat) (z : ds_St) (D : Nat → Nat → Nat) (C : Nat → Nat) (hM : dk_tM z D) (hD : dk_ok D) (hm : dk_dm z x C c (D 0 4)) (hi : i < D 0 4) (hj : j < D 0 4) : ds_call (d + 4) j_Mod_tradeOf [.ref 90, .ref x, .int (nI i), .int (nI j)] z = some (some (.int (nI (dk_ti D C c i j))), z) := by
  have n12 : D 0 4 ≤ 12 := hD.2.2.2.2.1.2
  have e1 := fun i => s_mjoker (d + 1) i z D hM hD
  have e2 := fun i w => s_of (d + 2) i w z D hM hD
  have e3 := s_beBeside d x c i j z D C hM hD hm (by omega) (by omega)
  obtain ⟨b1, b2, _, _⟩ := hD.2.2.2.2.2.2.2.2.1 i hi
  obtain ⟨c1, c2, _, _⟩ := hD.2.2.2.2.2.2.2.2.1 j hj
  have o2 := hD.2.2.1
  have m2 := hM.1.2.2.1
  rw [c_Mod_tradeOf, b_Mod_tradeOf_0]
  unfold dk_ti dk_wor
  by_cases q1 : D 1 i = 2
  · have q1' : (D 1 i == 2) = true := by simpa using q1
    simp (disch := first | assumption | omega | rfl | decide) only [ds_cI, ds_cV, ds_cL, ds_cR, ds_nn, ds_isK_t, ds_isA_t, ds_chk_t, ds_chkN, ds_nz_t, ds_nzN, ds_isB_t, ds_isB_bo, ↓dl_m1, ↓dl_m2, dl_0, dl_1, dl_2, dl_3, dl_4, dl_5, dl_6, dl_7, dl_8, dl_9, dl_10, dl_11, dl_12, dl_13, dl_14, dl_15, dl_16, dl_20, dl_24, dl_31, dl_50, dl_57, dl_67, dl_68, dl_74, dl_75, dl_79, dl_80, dl_99, dl_100, dl_200, dl_210, dl_224, dl_255, dl_289, dl_900, dl_1000, dl_1728, dl_65536, dl_65537, nI_add, pk_mul, pk_sub, pk_div, pk_rem, ds_rem2, nI_clamp, nI_leI, nI_ltI, nI_eq, ds_m1_eq, ds_eq_m1, ds_m2_eq, ds_eq_m2, ds_m1_le, ds_le_m1, ds_m1_lt, ds_lt_m1, ds_in_N, ds_bo0, ds_bo1, if_pos, if_neg, Nat.not_le, Nat.not_lt, not_true_eq_false, not_false_eq_true, if_true, if_false, ne_eq, Option.some.injEq, Prod.mk.injEq, Value.int.injEq, true_and, and_true, and_self, ite_self, Bool.not_eq_true, Bool.not_eq_false, Bool.true_eq_false, Bool.false_eq_true, reduceCtorEq, Nat.zero_add, Nat.reduceAdd, Nat.reduceMul, Nat.reduceSub, ds_setI_row, ds_setL_row, ds_rowI_self, ds_rowI_ne, ds_rowI_2, ds_rowI_rowI, ds_setS_1, ds_setS_21, ds_setS_self, ds_setS_ne, pk_us, pk_un, e1, q1']
  · have q1' : (D 1 i == 2) = false := by simpa using q1
    by_cases q2 : D 1 j = 2
    · have q2' : (D 1 j == 2) = true := by simpa using q2
      simp (disch := first | assumption | omega | rfl | decide) only [ds_cI, ds_cV, ds_cL, ds_cR, ds_nn, ds_isK_t, ds_isA_t, ds_chk_t, ds_chkN, ds_nz_t, ds_nzN, ds_isB_t, ds_isB_bo, ↓dl_m1, ↓dl_m2, dl_0, dl_1, dl_2, dl_3, dl_4, dl_5, dl_6, dl_7, dl_8, dl_9, dl_10, dl_11, dl_12, dl_13, dl_14, dl_15, dl_16, dl_20, dl_24, dl_31, dl_50, dl_57, dl_67, dl_68, dl_74, dl_75, dl_79, dl_80, dl_99, dl_100, dl_200, dl_210, dl_224, dl_255, dl_289, dl_900, dl_1000, dl_1728, dl_65536, dl_65537, nI_add, pk_mul, pk_sub, pk_div, pk_rem, ds_rem2, nI_clamp, nI_leI, nI_ltI, nI_eq, ds_m1_eq, ds_eq_m1, ds_m2_eq, ds_eq_m2, ds_m1_le, ds_le_m1, ds_m1_lt, ds_lt_m1, ds_in_N, ds_bo0, ds_bo1, if_pos, if_neg, Nat.not_le, Nat.not_lt, not_true_eq_false, not_false_eq_true, if_true, if_false, ne_eq, Option.some.injEq, Prod.mk.injEq, Value.int.injEq, true_and, and_true, and_self, ite_self, Bool.not_eq_true, Bool.not_eq_false, Bool.true_eq_false, Bool.false_eq_true, reduceCtorEq, Nat.zero_add, Nat.reduceAdd, Nat.reduceMul, Nat.reduceSub, ds_setI_row, ds_setL_row, ds_rowI_self, ds_rowI_ne, ds_rowI_2, ds_rowI_rowI, ds_setS_1, ds_setS_21, ds_setS_self, ds_setS_ne, pk_us, pk_un, e1, q1', q2']
    · have q2' : (D 1 j == 2) = false := by simpa using q2
      by_cases q3 : D 2 i = D 2 j
      · cases h : dk_be (dk_A D) C c i j
        · simp (disch := first | assumption | omega | rfl | decide) only [ds_cI, ds_cV, ds_cL, ds_cR, ds_nn, ds_isK_t, ds_isA_t, ds_chk_t, ds_chkN, ds_nz_t, ds_nzN, ds_isB_t, ds_isB_bo, ↓dl_m1, ↓dl_m2, dl_0, dl_1, dl_2, dl_3, dl_4, dl_5, dl_6, dl_7, dl_8, dl_9, dl_10, dl_11, dl_12, dl_13, dl_14, dl_15, dl_16, dl_20, dl_24, dl_31, dl_50, dl_57, dl_67, dl_68, dl_74, dl_75, dl_79, dl_80, dl_99, dl_100, dl_200, dl_210, dl_224, dl_255, dl_289, dl_900, dl_1000, dl_1728, dl_65536, dl_65537, nI_add, pk_mul, pk_sub, pk_div, pk_rem, ds_rem2, nI_clamp, nI_leI, nI_ltI, nI_eq, ds_m1_eq, ds_eq_m1, ds_m2_eq, ds_eq_m2, ds_m1_le, ds_le_m1, ds_m1_lt, ds_lt_m1, ds_in_N, ds_bo0, ds_bo1, if_pos, if_neg, Nat.not_le, Nat.not_lt, not_true_eq_false, not_false_eq_true, if_true, if_false, ne_eq, Option.some.injEq, Prod.mk.injEq, Value.int.injEq, true_and, and_true, and_self, ite_self, Bool.not_eq_true, Bool.not_eq_false, Bool.true_eq_false, Bool.false_eq_true, reduceCtorEq, Nat.zero_add, Nat.reduceAdd, Nat.reduceMul, Nat.reduceSub, ds_setI_row, ds_setL_row, ds_rowI_self, ds_rowI_ne, ds_rowI_2, ds_rowI_rowI, ds_setS_1, ds_setS_21, ds_setS_self, ds_setS_ne, pk_us, pk_un, e1, q1', q2', e2, q3, e3, h]
        · simp (disch := first | assumption | omega | rfl | decide) only [ds_cI, ds_cV, ds_cL, ds_cR, ds_nn, ds_isK_t, ds_isA_t, ds_chk_t, ds_chkN, ds_nz_t, ds_nzN, ds_isB_t, ds_isB_bo, ↓dl_m1, ↓dl_m2, dl_0, dl_1, dl_2, dl_3, dl_4, dl_5, dl_6, dl_7, dl_8, dl_9, dl_10, dl_11, dl_12, dl_13, dl_14, dl_15, dl_16, dl_20, dl_24, dl_31, dl_50, dl_57, dl_67, dl_68, dl_74, dl_75, dl_79, dl_80, dl_99, dl_100, dl_200, dl_210, dl_224, dl_255, dl_289, dl_900, dl_1000, dl_1728, dl_65536, dl_65537, nI_add, pk_mul, pk_sub, pk_div, pk_rem, ds_rem2, nI_clamp, nI_leI, nI_ltI, nI_eq, ds_m1_eq, ds_eq_m1, ds_m2_eq, ds_eq_m2, ds_m1_le, ds_le_m1, ds_m1_lt, ds_lt_m1, ds_in_N, ds_bo0, ds_bo1, if_pos, if_neg, Nat.not_le, Nat.not_lt, not_true_eq_false, not_false_eq_true, if_true, if_false, ne_eq, Option.some.injEq, Prod.mk.injEq, Value.int.injEq, true_and, and_true, and_self, ite_self, Bool.not_eq_true, Bool.not_eq_false, Bool.true_eq_false, Bool.false_eq_true, reduceCtorEq, Nat.zero_add, Nat.reduceAdd, Nat.reduceMul, Nat.reduceSub, ds_setI_row, ds_setL_row, ds_rowI_self, ds_rowI_ne, ds_rowI_2, ds_rowI_rowI, ds_setS_1, ds_setS_21, ds_setS_self, ds_setS_ne, pk_us, pk_un, e1, q1', q2', e2, e3, h, m2, b_Mod_tradeOf_63]
          by_cases q4 : D 2 i = D 0 2 <;> by_cases q5 : D 1 i = 1 <;> by_cases q6 : D 1 j = 1 <;> simp_all
      · simp (disch := first | assumption | omega | rfl | decide) only [ds_cI, ds_cV, ds_cL, ds_cR, ds_nn, ds_isK_t, ds_isA_t, ds_chk_t, ds_chkN, ds_nz_t, ds_nzN, ds_isB_t, ds_isB_bo, ↓dl_m1, ↓dl_m2, dl_0, dl_1, dl_2, dl_3, dl_4, dl_5, dl_6, dl_7, dl_8, dl_9, dl_10, dl_11, dl_12, dl_13, dl_14, dl_15, dl_16, dl_20, dl_24, dl_31, dl_50, dl_57, dl_67, dl_68, dl_74, dl_75, dl_79, dl_80, dl_99, dl_100, dl_200, dl_210, dl_224, dl_255, dl_289, dl_900, dl_1000, dl_1728, dl_65536, dl_65537, nI_add, pk_mul, pk_sub, pk_div, pk_rem, ds_rem2, nI_clamp, nI_leI, nI_ltI, nI_eq, ds_m1_eq, ds_eq_m1, ds_m2_eq, ds_eq_m2, ds_m1_le, ds_le_m1, ds_m1_lt, ds_lt_m1, ds_in_N, ds_bo0, ds_bo1, if_pos, if_neg, Nat.not_le, Nat.not_lt, not_true_eq_false, not_false_eq_true, if_true, if_false, ne_eq, Option.some.injEq, Prod.mk.injEq, Value.int.injEq, true_and, and_true, and_self, ite_self, Bool.not_eq_true, Bool.not_eq_false, Bool.true_eq_false, Bool.false_eq_true, reduceCtorEq, Nat.zero_add, Nat.reduceAdd, Nat.reduceMul, Nat.reduceSub, ds_setI_row, ds_setL_row, ds_rowI_self, ds_rowI_ne, ds_rowI_2, ds_rowI_rowI, ds_setS_1, ds_setS_21, ds_setS_self, ds_setS_ne, pk_us, pk_un, e1, q1', q2', e2, q3]
        simp [q3]
def dk_trm (D : Nat → Nat → Nat) (C : Nat → Nat) (c : Nat) (G : Nat → Bool) : Nat := dk_sum (fun i => dk_sum (fun j => if G i = true then dk_ti D C c i j else 0) i) (D 0 4)
theorem s_tradesIn (d x c : Nat) (y : Int32) (G : Nat → Bool) (z : ds_St) (D : Nat → Nat → Nat) (C : Nat → Nat) (hM : dk_tM z D) (hD : dk_ok D) (hm : dk_dm z x C c (D 0 4)) (hy : dk_gd D y G) : ds_call (d + 5) j_Mod_tradesIn [.ref 90, .ref x, .int y] z = some (some (.int (nI (dk_trm D C c G))), z) := by
  have n12 : D 0 4 ≤ 12 := hD.2.2.2.2.1.2
  have e1 := fun i j => s_tradeOf d x c i j z D C hM hD hm
  have e2 := fun i w => s_of (d + 3) i w z D hM hD
  have oi := hD.2.2.2.2.2.2.2.2.1
  have m4 := hM.1.2.2.2.2.1
  rw [c_Mod_tradesIn, b_Mod_tradesIn_0]
  have up := ds_up (F := fun i => ds_Rw ds_c_Mod_tradesIn ds_u_Mod_tradesIn (ds_call (d + 4)) 5 [some (.ref 90), some (.ref x), some (.int y), some (.int (nI (dk_sum (fun i => dk_sum (fun j => if G i = true then dk_ti D C c i j else 0) i) i))), some (.int (nI i)), none] [] z) (n := D 0 4) 0 (by
    intro i _ hi
    have bi := (oi i hi).2.1
    rw [b_Mod_tradesIn_5]
    simp (disch := first | assumption | omega | rfl | decide) only [ds_cI, ds_cV, ds_cL, ds_cR, ds_nn, ds_isK_t, ds_isA_t, ds_chk_t, ds_chkN, ds_nz_t, ds_nzN, ds_isB_t, ds_isB_bo, ↓dl_m1, ↓dl_m2, dl_0, dl_1, dl_2, dl_3, dl_4, dl_5, dl_6, dl_7, dl_8, dl_9, dl_10, dl_11, dl_12, dl_13, dl_14, dl_15, dl_16, dl_20, dl_24, dl_31, dl_50, dl_57, dl_67, dl_68, dl_74, dl_75, dl_79, dl_80, dl_99, dl_100, dl_200, dl_210, dl_224, dl_255, dl_289, dl_900, dl_1000, dl_1728, dl_65536, dl_65537, nI_add, pk_mul, pk_sub, pk_div, pk_rem, ds_rem2, nI_clamp, nI_leI, nI_ltI, nI_eq, ds_m1_eq, ds_eq_m1, ds_m2_eq, ds_eq_m2, ds_m1_le, ds_le_m1, ds_m1_lt, ds_lt_m1, ds_in_N, ds_bo0, ds_bo1, if_pos, if_neg, Nat.not_le, Nat.not_lt, not_true_eq_false, not_false_eq_true, if_true, if_false, ne_eq, Option.some.injEq, Prod.mk.injEq, Value.int.injEq, true_and, and_true, and_self, ite_self, Bool.not_eq_true, Bool.not_eq_false, Bool.true_eq_false, Bool.false_eq_true, reduceCtorEq, Nat.zero_add, Nat.reduceAdd, Nat.reduceMul, Nat.reduceSub, ds_setI_row, ds_setL_row, ds_rowI_self, ds_rowI_ne, ds_rowI_2, ds_rowI_rowI, ds_setS_1, ds_setS_21, ds_setS_self, ds_setS_ne, pk_us, pk_un, m4]
    have up2 := ds_up (F := fun k => ds_Rw ds_c_Mod_tradesIn ds_u_Mod_tradesIn (ds_call (d + 4)) 19 [some (.ref 90), some (.ref x), some (.int y), some (.int (nI (dk_sum (fun i => dk_sum (fun j => if G i = true then dk_ti D C c i j else 0) i) i + dk_sum (fun j => if G i = true then dk_ti D C c i j else 0) k))), some (.int (nI i)), some (.int (nI k))] [] z) (n := i) 0 (by
      intro k _ hk
      rw [b_Mod_tradesIn_19]
      simp only [dk_sum]
      rcases hy with ⟨rfl, hG⟩ | ⟨g, hg, rfl, hG⟩
      · have hG1 := hG i
        simp (disch := first | assumption | omega | rfl | decide) only [ds_cI, ds_cV, ds_cL, ds_cR, ds_nn, ds_isK_t, ds_isA_t, ds_chk_t, ds_chkN, ds_nz_t, ds_nzN, ds_isB_t, ds_isB_bo, ↓dl_m1, ↓dl_m2, dl_0, dl_1, dl_2, dl_3, dl_4, dl_5, dl_6, dl_7, dl_8, dl_9, dl_10, dl_11, dl_12, dl_13, dl_14, dl_15, dl_16, dl_20, dl_24, dl_31, dl_50, dl_57, dl_67, dl_68, dl_74, dl_75, dl_79, dl_80, dl_99, dl_100, dl_200, dl_210, dl_224, dl_255, dl_289, dl_900, dl_1000, dl_1728, dl_65536, dl_65537, nI_add, pk_mul, pk_sub, pk_div, pk_rem, ds_rem2, nI_clamp, nI_leI, nI_ltI, nI_eq, ds_m1_eq, ds_eq_m1, ds_m2_eq, ds_eq_m2, ds_m1_le, ds_le_m1, ds_m1_lt, ds_lt_m1, ds_in_N, ds_bo0, ds_bo1, if_pos, if_neg, Nat.not_le, Nat.not_lt, not_true_eq_false, not_false_eq_true, if_true, if_false, ne_eq, Option.some.injEq, Prod.mk.injEq, Value.int.injEq, true_and, and_true, and_self, ite_self, Bool.not_eq_true, Bool.not_eq_false, Bool.true_eq_false, Bool.false_eq_true, reduceCtorEq, Nat.zero_add, Nat.reduceAdd, Nat.reduceMul, Nat.reduceSub, ds_setI_row, ds_setL_row, ds_rowI_self, ds_rowI_ne, ds_rowI_2, ds_rowI_rowI, ds_setS_1, ds_setS_21, ds_setS_self, ds_setS_ne, pk_us, pk_un, b_Mod_tradesIn_42, e1, hG1, Nat.add_assoc, show ds_m1 < nI 0 from by decide]
      · have hG1 := hG i
        by_cases h5 : D 2 i = g
        · have h6 : (D 2 i == g) = true := by simpa using h5
          rw [h6] at hG1
          simp (disch := first | assumption | omega | rfl | decide) only [ds_cI, ds_cV, ds_cL, ds_cR, ds_nn, ds_isK_t, ds_isA_t, ds_chk_t, ds_chkN, ds_nz_t, ds_nzN, ds_isB_t, ds_isB_bo, ↓dl_m1, ↓dl_m2, dl_0, dl_1, dl_2, dl_3, dl_4, dl_5, dl_6, dl_7, dl_8, dl_9, dl_10, dl_11, dl_12, dl_13, dl_14, dl_15, dl_16, dl_20, dl_24, dl_31, dl_50, dl_57, dl_67, dl_68, dl_74, dl_75, dl_79, dl_80, dl_99, dl_100, dl_200, dl_210, dl_224, dl_255, dl_289, dl_900, dl_1000, dl_1728, dl_65536, dl_65537, nI_add, pk_mul, pk_sub, pk_div, pk_rem, ds_rem2, nI_clamp, nI_leI, nI_ltI, nI_eq, ds_m1_eq, ds_eq_m1, ds_m2_eq, ds_eq_m2, ds_m1_le, ds_le_m1, ds_m1_lt, ds_lt_m1, ds_in_N, ds_bo0, ds_bo1, if_pos, if_neg, Nat.not_le, Nat.not_lt, not_true_eq_false, not_false_eq_true, if_true, if_false, ne_eq, Option.some.injEq, Prod.mk.injEq, Value.int.injEq, true_and, and_true, and_self, ite_self, Bool.not_eq_true, Bool.not_eq_false, Bool.true_eq_false, Bool.false_eq_true, reduceCtorEq, Nat.zero_add, Nat.reduceAdd, Nat.reduceMul, Nat.reduceSub, ds_setI_row, ds_setL_row, ds_rowI_self, ds_rowI_ne, ds_rowI_2, ds_rowI_rowI, ds_setS_1, ds_setS_21, ds_setS_self, ds_setS_ne, pk_us, pk_un, b_Mod_tradesIn_42, e1, hG1, Nat.add_assoc, e2, h5]
        · have h6 : (D 2 i == g) = false := by simpa using h5
          rw [h6] at hG1
          simp (disch := first | assumption | omega | rfl | decide) only [ds_cI, ds_cV, ds_cL, ds_cR, ds_nn, ds_isK_t, ds_isA_t, ds_chk_t, ds_chkN, ds_nz_t, ds_nzN, ds_isB_t, ds_isB_bo, ↓dl_m1, ↓dl_m2, dl_0, dl_1, dl_2, dl_3, dl_4, dl_5, dl_6, dl_7, dl_8, dl_9, dl_10, dl_11, dl_12, dl_13, dl_14, dl_15, dl_16, dl_20, dl_24, dl_31, dl_50, dl_57, dl_67, dl_68, dl_74, dl_75, dl_79, dl_80, dl_99, dl_100, dl_200, dl_210, dl_224, dl_255, dl_289, dl_900, dl_1000, dl_1728, dl_65536, dl_65537, nI_add, pk_mul, pk_sub, pk_div, pk_rem, ds_rem2, nI_clamp, nI_leI, nI_ltI, nI_eq, ds_m1_eq, ds_eq_m1, ds_m2_eq, ds_eq_m2, ds_m1_le, ds_le_m1, ds_m1_lt, ds_lt_m1, ds_in_N, ds_bo0, ds_bo1, if_pos, if_neg, Nat.not_le, Nat.not_lt, not_true_eq_false, not_false_eq_true, if_true, if_false, ne_eq, Option.some.injEq, Prod.mk.injEq, Value.int.injEq, true_and, and_true, and_self, ite_self, Bool.not_eq_true, Bool.not_eq_false, Bool.true_eq_false, Bool.false_eq_true, reduceCtorEq, Nat.zero_add, Nat.reduceAdd, Nat.reduceMul, Nat.reduceSub, ds_setI_row, ds_setL_row, ds_rowI_self, ds_rowI_ne, ds_rowI_2, ds_rowI_rowI, ds_setS_1, ds_setS_21, ds_setS_self, ds_setS_ne, pk_us, pk_un, b_Mod_tradesIn_42, e1, hG1, Nat.add_zero, e2, h5]) (Nat.zero_le _)
    simp only [dk_sum, Nat.add_zero] at up2
    rw [up2, b_Mod_tradesIn_19]
    simp (disch := first | assumption | omega | rfl | decide) only [ds_cI, ds_cV, ds_cL, ds_cR, ds_nn, ds_isK_t, ds_isA_t, ds_chk_t, ds_chkN, ds_nz_t, ds_nzN, ds_isB_t, ds_isB_bo, ↓dl_m1, ↓dl_m2, dl_0, dl_1, dl_2, dl_3, dl_4, dl_5, dl_6, dl_7, dl_8, dl_9, dl_10, dl_11, dl_12, dl_13, dl_14, dl_15, dl_16, dl_20, dl_24, dl_31, dl_50, dl_57, dl_67, dl_68, dl_74, dl_75, dl_79, dl_80, dl_99, dl_100, dl_200, dl_210, dl_224, dl_255, dl_289, dl_900, dl_1000, dl_1728, dl_65536, dl_65537, nI_add, pk_mul, pk_sub, pk_div, pk_rem, ds_rem2, nI_clamp, nI_leI, nI_ltI, nI_eq, ds_m1_eq, ds_eq_m1, ds_m2_eq, ds_eq_m2, ds_m1_le, ds_le_m1, ds_m1_lt, ds_lt_m1, ds_in_N, ds_bo0, ds_bo1, if_pos, if_neg, Nat.not_le, Nat.not_lt, not_true_eq_false, not_false_eq_true, if_true, if_false, ne_eq, Option.some.injEq, Prod.mk.injEq, Value.int.injEq, true_and, and_true, and_self, ite_self, Bool.not_eq_true, Bool.not_eq_false, Bool.true_eq_false, Bool.false_eq_true, reduceCtorEq, Nat.zero_add, Nat.reduceAdd, Nat.reduceMul, Nat.reduceSub, ds_setI_row, ds_setL_row, ds_rowI_self, ds_rowI_ne, ds_rowI_2, ds_rowI_rowI, ds_setS_1, ds_setS_21, ds_setS_self, ds_setS_ne, pk_us, pk_un]
    simp only [dk_sum]) (Nat.zero_le _)
  simp only [dk_sum] at up
  simp (disch := first | assumption | omega | rfl | decide) only [ds_cI, ds_cV, ds_cL, ds_cR, ds_nn, ds_isK_t, ds_isA_t, ds_chk_t, ds_chkN, ds_nz_t, ds_nzN, ds_isB_t, ds_isB_bo, ↓dl_m1, ↓dl_m2, dl_0, dl_1, dl_2, dl_3, dl_4, dl_5, dl_6, dl_7, dl_8, dl_9, dl_10, dl_11, dl_12, dl_13, dl_14, dl_15, dl_16, dl_20, dl_24, dl_31, dl_50, dl_57, dl_67, dl_68, dl_74, dl_75, dl_79, dl_80, dl_99, dl_100, dl_200, dl_210, dl_224, dl_255, dl_289, dl_900, dl_1000, dl_1728, dl_65536, dl_65537, nI_add, pk_mul, pk_sub, pk_div, pk_rem, ds_rem2, nI_clamp, nI_leI, nI_ltI, nI_eq, ds_m1_eq, ds_eq_m1, ds_m2_eq, ds_eq_m2, ds_m1_le, ds_le_m1, ds_m1_lt, ds_lt_m1, ds_in_N, ds_bo0, ds_bo1, if_pos, if_neg, Nat.not_le, Nat.not_lt, not_true_eq_false, not_false_eq_true, if_true, if_false, ne_eq, Option.some.injEq, Prod.mk.injEq, Value.int.injEq, true_and, and_true, and_self, ite_self, Bool.not_eq_true, Bool.not_eq_false, Bool.true_eq_false, Bool.false_eq_true, reduceCtorEq, Nat.zero_add, Nat.reduceAdd, Nat.reduceMul, Nat.reduceSub, ds_setI_row, ds_setL_row, ds_rowI_self, ds_rowI_ne, ds_rowI_2, ds_rowI_rowI, ds_setS_1, ds_setS_21, ds_setS_self, ds_setS_ne, pk_us, pk_un]
  rw [up, b_Mod_tradesIn_5]
  simp (disch := first | assumption | omega | rfl | decide) only [ds_cI, ds_cV, ds_cL, ds_cR, ds_nn, ds_isK_t, ds_isA_t, ds_chk_t, ds_chkN, ds_nz_t, ds_nzN, ds_isB_t, ds_isB_bo, ↓dl_m1, ↓dl_m2, dl_0, dl_1, dl_2, dl_3, dl_4, dl_5, dl_6, dl_7, dl_8, dl_9, dl_10, dl_11, dl_12, dl_13, dl_14, dl_15, dl_16, dl_20, dl_24, dl_31, dl_50, dl_57, dl_67, dl_68, dl_74, dl_75, dl_79, dl_80, dl_99, dl_100, dl_200, dl_210, dl_224, dl_255, dl_289, dl_900, dl_1000, dl_1728, dl_65536, dl_65537, nI_add, pk_mul, pk_sub, pk_div, pk_rem, ds_rem2, nI_clamp, nI_leI, nI_ltI, nI_eq, ds_m1_eq, ds_eq_m1, ds_m2_eq, ds_eq_m2, ds_m1_le, ds_le_m1, ds_m1_lt, ds_lt_m1, ds_in_N, ds_bo0, ds_bo1, if_pos, if_neg, Nat.not_le, Nat.not_lt, not_true_eq_false, not_false_eq_true, if_true, if_false, ne_eq, Option.some.injEq, Prod.mk.injEq, Value.int.injEq, true_and, and_true, and_self, ite_self, Bool.not_eq_true, Bool.not_eq_false, Bool.true_eq_false, Bool.false_eq_true, reduceCtorEq, Nat.zero_add, Nat.reduceAdd, Nat.reduceMul, Nat.reduceSub, ds_setI_row, ds_setL_row, ds_rowI_self, ds_rowI_ne, ds_rowI_2, ds_rowI_rowI, ds_setS_1, ds_setS_21, ds_setS_self, ds_setS_ne, pk_us, pk_un, m4]
  rfl
def dk_wim (D : Nat → Nat → Nat) (C : Nat → Nat) (c : Nat) : Nat := dk_sum (fun w => dk_n (dk_be (dk_A D) C c (D 6 w) (D 7 w))) (D 0 6)
theorem s_wishesIn (d x c : Nat) (z : ds_St) (D : Nat → Nat → Nat) (C : Nat → Nat) (hM : dk_tM z D) (hD : dk_ok D) (hm : dk_dm z x C c (D 0 4)) : ds_call (d + 4) j_Mod_wishesIn [.ref 90, .ref x] z = some (some (.int (nI (dk_wim D C c))), z) := by
  have n12 : D 0 4 ≤ 12 := hD.2.2.2.2.1.2
  have e1 := fun i j => s_beBeside d x c i j z D C hM hD hm
  have hw := hM.2.2.2.1
  have o6 := hD.2.2.2.2.2.2.1
  have ow := hD.2.2.2.2.2.2.2.2.2.2.1
  have m6 := hM.1.2.2.2.2.2.2.1
  rw [c_Mod_wishesIn, b_Mod_wishesIn_0]
  have up := ds_up (F := fun k => ds_Rw ds_c_Mod_wishesIn ds_u_Mod_wishesIn (ds_call (d + 3)) 4 [some (.ref 90), some (.ref x), some (.int (nI (dk_sum (fun w => dk_n (dk_be (dk_A D) C c (D 6 w) (D 7 w))) k))), some (.int (nI k))] [] z) (n := D 0 6) 0 (by
    intro k _ hk
    obtain ⟨w1, w2⟩ := hw k hk
    obtain ⟨v1, v2, _⟩ := ow k hk
    rw [b_Mod_wishesIn_4]
    simp only [dk_sum, dk_n]
    cases h1 : dk_be (dk_A D) C c (D 6 k) (D 7 k) <;> simp (disch := first | assumption | omega | rfl | decide) only [ds_cI, ds_cV, ds_cL, ds_cR, ds_nn, ds_isK_t, ds_isA_t, ds_chk_t, ds_chkN, ds_nz_t, ds_nzN, ds_isB_t, ds_isB_bo, ↓dl_m1, ↓dl_m2, dl_0, dl_1, dl_2, dl_3, dl_4, dl_5, dl_6, dl_7, dl_8, dl_9, dl_10, dl_11, dl_12, dl_13, dl_14, dl_15, dl_16, dl_20, dl_24, dl_31, dl_50, dl_57, dl_67, dl_68, dl_74, dl_75, dl_79, dl_80, dl_99, dl_100, dl_200, dl_210, dl_224, dl_255, dl_289, dl_900, dl_1000, dl_1728, dl_65536, dl_65537, nI_add, pk_mul, pk_sub, pk_div, pk_rem, ds_rem2, nI_clamp, nI_leI, nI_ltI, nI_eq, ds_m1_eq, ds_eq_m1, ds_m2_eq, ds_eq_m2, ds_m1_le, ds_le_m1, ds_m1_lt, ds_lt_m1, ds_in_N, ds_bo0, ds_bo1, if_pos, if_neg, Nat.not_le, Nat.not_lt, not_true_eq_false, not_false_eq_true, if_true, if_false, ne_eq, Option.some.injEq, Prod.mk.injEq, Value.int.injEq, true_and, and_true, and_self, ite_self, Bool.not_eq_true, Bool.not_eq_false, Bool.true_eq_false, Bool.false_eq_true, reduceCtorEq, Nat.zero_add, Nat.reduceAdd, Nat.reduceMul, Nat.reduceSub, ds_setI_row, ds_setL_row, ds_rowI_self, ds_rowI_ne, ds_rowI_2, ds_rowI_rowI, ds_setS_1, ds_setS_21, ds_setS_self, ds_setS_ne, pk_us, pk_un, m6, w1, w2, e1, h1, Nat.add_zero]) (Nat.zero_le _)
  simp only [dk_sum] at up
  simp (disch := first | assumption | omega | rfl | decide) only [ds_cI, ds_cV, ds_cL, ds_cR, ds_nn, ds_isK_t, ds_isA_t, ds_chk_t, ds_chkN, ds_nz_t, ds_nzN, ds_isB_t, ds_isB_bo, ↓dl_m1, ↓dl_m2, dl_0, dl_1, dl_2, dl_3, dl_4, dl_5, dl_6, dl_7, dl_8, dl_9, dl_10, dl_11, dl_12, dl_13, dl_14, dl_15, dl_16, dl_20, dl_24, dl_31, dl_50, dl_57, dl_67, dl_68, dl_74, dl_75, dl_79, dl_80, dl_99, dl_100, dl_200, dl_210, dl_224, dl_255, dl_289, dl_900, dl_1000, dl_1728, dl_65536, dl_65537, nI_add, pk_mul, pk_sub, pk_div, pk_rem, ds_rem2, nI_clamp, nI_leI, nI_ltI, nI_eq, ds_m1_eq, ds_eq_m1, ds_m2_eq, ds_eq_m2, ds_m1_le, ds_le_m1, ds_m1_lt, ds_lt_m1, ds_in_N, ds_bo0, ds_bo1, if_pos, if_neg, Nat.not_le, Nat.not_lt, not_true_eq_false, not_false_eq_true, if_true, if_false, ne_eq, Option.some.injEq, Prod.mk.injEq, Value.int.injEq, true_and, and_true, and_self, ite_self, Bool.not_eq_true, Bool.not_eq_false, Bool.true_eq_false, Bool.false_eq_true, reduceCtorEq, Nat.zero_add, Nat.reduceAdd, Nat.reduceMul, Nat.reduceSub, ds_setI_row, ds_setL_row, ds_rowI_self, ds_rowI_ne, ds_rowI_2, ds_rowI_rowI, ds_setS_1, ds_setS_21, ds_setS_self, ds_setS_ne, pk_us, pk_un]
  rw [up, b_Mod_wishesIn_4]
  simp (disch := first | assumption | omega | rfl | decide) only [ds_cI, ds_cV, ds_cL, ds_cR, ds_nn, ds_isK_t, ds_isA_t, ds_chk_t, ds_chkN, ds_nz_t, ds_nzN, ds_isB_t, ds_isB_bo, ↓dl_m1, ↓dl_m2, dl_0, dl_1, dl_2, dl_3, dl_4, dl_5, dl_6, dl_7, dl_8, dl_9, dl_10, dl_11, dl_12, dl_13, dl_14, dl_15, dl_16, dl_20, dl_24, dl_31, dl_50, dl_57, dl_67, dl_68, dl_74, dl_75, dl_79, dl_80, dl_99, dl_100, dl_200, dl_210, dl_224, dl_255, dl_289, dl_900, dl_1000, dl_1728, dl_65536, dl_65537, nI_add, pk_mul, pk_sub, pk_div, pk_rem, ds_rem2, nI_clamp, nI_leI, nI_ltI, nI_eq, ds_m1_eq, ds_eq_m1, ds_m2_eq, ds_eq_m2, ds_m1_le, ds_le_m1, ds_m1_lt, ds_lt_m1, ds_in_N, ds_bo0, ds_bo1, if_pos, if_neg, Nat.not_le, Nat.not_lt, not_true_eq_false, not_false_eq_true, if_true, if_false, ne_eq, Option.some.injEq, Prod.mk.injEq, Value.int.injEq, true_and, and_true, and_self, ite_self, Bool.not_eq_true, Bool.not_eq_false, Bool.true_eq_false, Bool.false_eq_true, reduceCtorEq, Nat.zero_add, Nat.reduceAdd, Nat.reduceMul, Nat.reduceSub, ds_setI_row, ds_setL_row, ds_rowI_self, ds_rowI_ne, ds_rowI_2, ds_rowI_rowI, ds_setS_1, ds_setS_21, ds_setS_self, ds_setS_ne, pk_us, pk_un, m6]
  rfl
/-- island i lies in the sea -/
def dk_is (D : Nat → Nat → Nat) (C : Nat → Nat) (c i : Nat) : Bool := dk_any (fun p => C p == i) (min (D 0 0 * D 0 1) c)
theorem s_isInSea (d x c i : Nat) (z : ds_St) (D : Nat → Nat → Nat) (C : Nat → Nat) (hM : dk_tM z D) (hD : dk_ok D) (hm : dk_dm z x C c (D 0 4)) (hi : i < 2 ^ 31) : ds_call (d + 2) j_Mod_isInSea [.ref 90, .ref x, .int (nI i)] z = some (some (.int (ds_bo (dk_is D C c i))), z) := by
  have n12 : D 0 4 ≤ 12 := hD.2.2.2.2.1.2
  have e1 := fun p => s_placeIn_y d x c (D 0 4) p z C hm n12
  have e2 := fun i => s_placeIn_n d x c (D 0 4) i z C hm n12
  have e3 := s_mroom d z D hM
  have e4 := fun a b c => s_inN d a b c z
  obtain ⟨⟨w2, w4⟩, ⟨g2, g3⟩, o2, o3, _⟩ := hD
  have hR : D 0 0 * D 0 1 ≤ 12 := Nat.mul_le_mul w4 g3
  have hR2 : 2 * 2 ≤ D 0 0 * D 0 1 := Nat.mul_le_mul w2 g2
  have hc := hm.2.2.1
  have hin := hm.2.2.2.2
  rw [c_Mod_isInSea, b_Mod_isInSea_0]
  rcases dk_has C c i with ⟨p, hp, rfl⟩ | hni
  · simp (disch := first | assumption | omega | rfl | decide) only [ds_cI, ds_cV, ds_cL, ds_cR, ds_nn, ds_isK_t, ds_isA_t, ds_chk_t, ds_chkN, ds_nz_t, ds_nzN, ds_isB_t, ds_isB_bo, ↓dl_m1, ↓dl_m2, dl_0, dl_1, dl_2, dl_3, dl_4, dl_5, dl_6, dl_7, dl_8, dl_9, dl_10, dl_11, dl_12, dl_13, dl_14, dl_15, dl_16, dl_20, dl_24, dl_31, dl_50, dl_57, dl_67, dl_68, dl_74, dl_75, dl_79, dl_80, dl_99, dl_100, dl_200, dl_210, dl_224, dl_255, dl_289, dl_900, dl_1000, dl_1728, dl_65536, dl_65537, nI_add, pk_mul, pk_sub, pk_div, pk_rem, ds_rem2, nI_clamp, nI_leI, nI_ltI, nI_eq, ds_m1_eq, ds_eq_m1, ds_m2_eq, ds_eq_m2, ds_m1_le, ds_le_m1, ds_m1_lt, ds_lt_m1, ds_in_N, ds_bo0, ds_bo1, if_pos, if_neg, Nat.not_le, Nat.not_lt, not_true_eq_false, not_false_eq_true, if_true, if_false, ne_eq, Option.some.injEq, Prod.mk.injEq, Value.int.injEq, true_and, and_true, and_self, ite_self, Bool.not_eq_true, Bool.not_eq_false, Bool.true_eq_false, Bool.false_eq_true, reduceCtorEq, Nat.zero_add, Nat.reduceAdd, Nat.reduceMul, Nat.reduceSub, ds_setI_row, ds_setL_row, ds_rowI_self, ds_rowI_ne, ds_rowI_2, ds_rowI_rowI, ds_setS_1, ds_setS_21, ds_setS_self, ds_setS_ne, pk_us, pk_un, e1, e3, e4]
    have : (decide (0 ≤ p) && decide (p ≤ D 0 0 * D 0 1 - 1)) = dk_is D C c (C p) := by
      apply dk_boolext
      unfold dk_is
      rw [dk_any_iff]
      simp only [Nat.zero_le, decide_true, Bool.true_and, decide_eq_true_eq, beq_iff_eq]
      constructor
      · intro h
        exact ⟨p, by omega, rfl⟩
      · rintro ⟨q, h1, h2⟩
        have := hin.2 q p (by omega) hp h2
        omega
    rw [this]
  · have h5 := e2 i hi hni
    simp (disch := first | assumption | omega | rfl | decide) only [ds_cI, ds_cV, ds_cL, ds_cR, ds_nn, ds_isK_t, ds_isA_t, ds_chk_t, ds_chkN, ds_nz_t, ds_nzN, ds_isB_t, ds_isB_bo, ↓dl_m1, ↓dl_m2, dl_0, dl_1, dl_2, dl_3, dl_4, dl_5, dl_6, dl_7, dl_8, dl_9, dl_10, dl_11, dl_12, dl_13, dl_14, dl_15, dl_16, dl_20, dl_24, dl_31, dl_50, dl_57, dl_67, dl_68, dl_74, dl_75, dl_79, dl_80, dl_99, dl_100, dl_200, dl_210, dl_224, dl_255, dl_289, dl_900, dl_1000, dl_1728, dl_65536, dl_65537, nI_add, pk_mul, pk_sub, pk_div, pk_rem, ds_rem2, nI_clamp, nI_leI, nI_ltI, nI_eq, ds_m1_eq, ds_eq_m1, ds_m2_eq, ds_eq_m2, ds_m1_le, ds_le_m1, ds_m1_lt, ds_lt_m1, ds_in_N, ds_bo0, ds_bo1, if_pos, if_neg, Nat.not_le, Nat.not_lt, not_true_eq_false, not_false_eq_true, if_true, if_false, ne_eq, Option.some.injEq, Prod.mk.injEq, Value.int.injEq, true_and, and_true, and_self, ite_self, Bool.not_eq_true, Bool.not_eq_false, Bool.true_eq_false, Bool.false_eq_true, reduceCtorEq, Nat.zero_add, Nat.reduceAdd, Nat.reduceMul, Nat.reduceSub, ds_setI_row, ds_setL_row, ds_rowI_self, ds_rowI_ne, ds_rowI_2, ds_rowI_rowI, ds_setS_1, ds_setS_21, ds_setS_self, ds_setS_ne, pk_us, pk_un, h5, e3, s_in_m2]
    have : dk_is D C c i = false := by
      unfold dk_is
      rw [dk_any_f]
      intro p hp
      have := hni p (by omega)
      simpa using this
    rw [this]
