/-! the sea: who is beside whom -/
def dk_cor (W H p : Nat) : Bool := (p % W == 0 || p % W == W - 1) && (p / W == 0 || p / W == H - 1)
def dk_adj (W H T p q : Nat) : Bool := decide (p < W * H) && decide (q < W * H) && !(T == 1 && (dk_cor W H p || dk_cor W H q)) && ((p % W == q % W && (p / W == q / W + 1 || q / W == p / W + 1)) || (p / W == q / W && (p % W == q % W + 1 || q % W == p % W + 1)))
def dk_nb (W H T p : Nat) : Nat := ds_bs (fun q => dk_adj W H T p q) 12
theorem dk_nb_lt (W H T p : Nat) : dk_nb W H T p < 2 ^ 31 := ds_bs_lt31 _ (by decide)
theorem dk_nb_tb (W H T p k : Nat) : (dk_nb W H T p).testBit k = (decide (k < 12) && dk_adj W H T p k) := ds_bs_tb _ 12 k
/-- a told sea at t, as numbers: row 0 the counts, 1 kinds, 2 goods, 3 ranks, 4 persons, 5 the plan, 6 and 7 wishes, 8 and 9 shows -/
def dk_tC (z : ds_St) (t : Nat) (D : Nat → Nat → Nat) : Prop := (t = 10 ∨ t = 30) ∧ (z.1 t 0 = nI (D 0 0) ∧ z.1 t 1 = nI (D 0 1) ∧ z.1 t 2 = nI (D 0 2) ∧ z.1 t 3 = nI (D 0 3) ∧ z.1 t 4 = nI (D 0 4) ∧ z.1 t 9 = nI (D 0 5) ∧ z.1 t 11 = nI (D 0 6) ∧ z.1 t 14 = nI (D 0 7)) ∧ (∀ i, i < D 0 4 → z.1 (t + 1) i = nI (D 1 i) ∧ z.1 (t + 2) i = nI (D 2 i) ∧ z.1 (t + 3) i = nI (D 3 i) ∧ z.1 (t + 4) i = nI (D 4 i)) ∧ (∀ m, m < D 0 5 → z.1 (t + 5) m = nI (D 5 m)) ∧ (∀ m, m < D 0 6 → z.1 (t + 6) m = nI (D 6 m) ∧ z.1 (t + 7) m = nI (D 7 m)) ∧ (∀ m, m < D 0 7 → z.1 (t + 8) m = nI (D 8 m) ∧ z.1 (t + 9) m = nI (D 9 m)) ∧ (∀ p, p < 12 → z.1 (t + 10) p = nI (dk_nb (D 0 0) (D 0 1) (D 0 3) p))
/-- the bounds of a sea that was read -/
def dk_ok (D : Nat → Nat → Nat) : Prop := (2 ≤ D 0 0 ∧ D 0 0 ≤ 4) ∧ (2 ≤ D 0 1 ∧ D 0 1 ≤ 3) ∧ D 0 2 < 4 ∧ D 0 3 < 2 ∧ (2 ≤ D 0 4 ∧ D 0 4 ≤ 12) ∧ D 0 5 ≤ 10 ∧ D 0 6 ≤ 6 ∧ D 0 7 ≤ 6 ∧ (∀ i, i < D 0 4 → D 1 i < 3 ∧ D 2 i < 4 ∧ (1 ≤ D 3 i ∧ D 3 i ≤ 9) ∧ D 4 i < 100) ∧ (∀ m, m < D 0 5 → D 5 m < 14) ∧ (∀ m, m < D 0 6 → D 6 m < D 0 4 ∧ D 7 m < D 0 4 ∧ D 6 m ≠ D 7 m) ∧ (∀ m, m < D 0 7 → D 8 m < D 0 0 * D 0 1 ∧ D 9 m < D 0 4)
/-- the model's sea -/
def dk_tM (z : ds_St) (D : Nat → Nat → Nat) : Prop := (z.1 93 0 = nI (D 0 0) ∧ z.1 93 1 = nI (D 0 1) ∧ z.1 93 2 = nI (D 0 2) ∧ z.1 93 3 = nI (D 0 3) ∧ z.1 93 4 = nI (D 0 4) ∧ z.1 93 5 = nI (D 0 5) ∧ z.1 93 6 = nI (D 0 6) ∧ z.1 93 7 = nI (D 0 7)) ∧ (∀ i, i < D 0 4 → z.1 93 (9 + 4 * i + 0) = nI (D 1 i) ∧ z.1 93 (9 + 4 * i + 1) = nI (D 2 i) ∧ z.1 93 (9 + 4 * i + 2) = nI (D 3 i) ∧ z.1 93 (9 + 4 * i + 3) = nI (D 4 i)) ∧ (∀ m, m < D 0 5 → z.1 93 (57 + m) = nI (D 5 m)) ∧ (∀ m, m < D 0 6 → z.1 93 (67 + 2 * m) = nI (D 6 m) ∧ z.1 93 (67 + 2 * m + 1) = nI (D 7 m)) ∧ (∀ m, m < D 0 7 → z.1 93 (79 + 2 * m) = nI (D 8 m) ∧ z.1 93 (79 + 2 * m + 1) = nI (D 9 m))
theorem ds_Kt {t : Nat} (h : t = 10 ∨ t = 30) : ds_K t = 7 := by rcases h with rfl | rfl <;> rfl
theorem ds_Rt5 {t : Nat} {z : ds_St} (h : t = 10 ∨ t = 30) : ds_R z t 5 = t + 1 := by rcases h with rfl | rfl <;> rfl
theorem ds_Rt6 {t : Nat} {z : ds_St} (h : t = 10 ∨ t = 30) : ds_R z t 6 = t + 2 := by rcases h with rfl | rfl <;> rfl
theorem ds_Rt7 {t : Nat} {z : ds_St} (h : t = 10 ∨ t = 30) : ds_R z t 7 = t + 3 := by rcases h with rfl | rfl <;> rfl
theorem ds_Rt8 {t : Nat} {z : ds_St} (h : t = 10 ∨ t = 30) : ds_R z t 8 = t + 4 := by rcases h with rfl | rfl <;> rfl
theorem ds_Rt10 {t : Nat} {z : ds_St} (h : t = 10 ∨ t = 30) : ds_R z t 10 = t + 5 := by rcases h with rfl | rfl <;> rfl
theorem ds_Rt12 {t : Nat} {z : ds_St} (h : t = 10 ∨ t = 30) : ds_R z t 12 = t + 6 := by rcases h with rfl | rfl <;> rfl
theorem ds_Rt13 {t : Nat} {z : ds_St} (h : t = 10 ∨ t = 30) : ds_R z t 13 = t + 7 := by rcases h with rfl | rfl <;> rfl
theorem ds_Rt15 {t : Nat} {z : ds_St} (h : t = 10 ∨ t = 30) : ds_R z t 15 = t + 8 := by rcases h with rfl | rfl <;> rfl
theorem ds_Rt16 {t : Nat} {z : ds_St} (h : t = 10 ∨ t = 30) : ds_R z t 16 = t + 9 := by rcases h with rfl | rfl <;> rfl
theorem ds_Rt17 {t : Nat} {z : ds_St} (h : t = 10 ∨ t = 30) : ds_R z t 17 = t + 10 := by rcases h with rfl | rfl <;> rfl
theorem ds_Kti {t i : Nat} (h : t = 10 ∨ t = 30) (h1 : 1 ≤ i) (h2 : i ≤ 10) : ds_K (t + i) = 11 := by
  have : i = 1 ∨ i = 2 ∨ i = 3 ∨ i = 4 ∨ i = 5 ∨ i = 6 ∨ i = 7 ∨ i = 8 ∨ i = 9 ∨ i = 10 := by omega
  rcases h with rfl | rfl <;> rcases this with rfl | rfl | rfl | rfl | rfl | rfl | rfl | rfl | rfl | rfl <;> rfl
theorem ds_Nti {t i : Nat} (h : t = 10 ∨ t = 30) (h1 : i = 1 ∨ i = 2 ∨ i = 3 ∨ i = 4 ∨ i = 10) : ds_N (t + i) = 12 := by
  rcases h with rfl | rfl <;> rcases h1 with rfl | rfl | rfl | rfl | rfl <;> rfl
theorem ds_Nt5 {t : Nat} (h : t = 10 ∨ t = 30) : ds_N (t + 5) = 10 := by
  rcases h with rfl | rfl <;> rfl
theorem ds_Ntj {t i : Nat} (h : t = 10 ∨ t = 30) (h1 : i = 6 ∨ i = 7 ∨ i = 8 ∨ i = 9) : ds_N (t + i) = 6 := by
  rcases h with rfl | rfl <;> rcases h1 with rfl | rfl | rfl | rfl <;> rfl
/-- look at a small index -/
theorem s_lookN (d p i n : Nat) (z : ds_St) (hK : ds_K p = 11) (hN : ds_N p = n) (hn : n < 2 ^ 31) (hi : i < n) : ds_call (d + 1) j_Sea_look [.ref p, .int (nI i)] z = some (some (.int (z.1 p i)), z) := by
  rw [s_look d p (nI i) z hK (by rw [hN]; exact hn), ds_lookF_in (by rw [hN]; exact hi) (by rw [hN]; exact hn)]
theorem s_room (d t : Nat) (z : ds_St) (ht : t = 10 ∨ t = 30) : ds_call (d + 1) j_Told_room [.ref t] z = some (some (.int (z.1 t 0 * z.1 t 1)), z) := by
  rcases ht with rfl | rfl
  · rw [c_Told_room, b_Told_room_0_10]; rfl
  · rw [c_Told_room, b_Told_room_0_30]; rfl
theorem s_min (d : Nat) (x y : Nat) (z : ds_St) (hx : x < 2 ^ 31) (hy : y < 2 ^ 31) : ds_call (d + 1) j_Math_min [.int (nI x), .int (nI y)] z = some (some (.int (nI (min x y))), z) := by
  rw [c_Math_min, b_Math_min_0]
  by_cases h : x ≤ y
  · rw [Nat.min_eq_left h]
    simp (disch := first | assumption | omega | rfl | decide) only [ds_cI, ds_cV, ds_cL, ds_cR, ds_nn, ds_isK_t, ds_isA_t, ds_chk_t, ds_chkN, ds_nz_t, ds_nzN, ds_isB_t, ds_isB_bo, ↓dl_m1, ↓dl_m2, dl_0, dl_1, dl_2, dl_3, dl_4, dl_5, dl_6, dl_7, dl_8, dl_9, dl_10, dl_11, dl_12, dl_13, dl_14, dl_15, dl_16, dl_20, dl_24, dl_31, dl_50, dl_57, dl_67, dl_68, dl_74, dl_75, dl_79, dl_80, dl_99, dl_100, dl_200, dl_210, dl_224, dl_255, dl_289, dl_900, dl_1000, dl_1728, dl_65536, dl_65537, nI_add, pk_mul, pk_sub, pk_div, pk_rem, nI_clamp, nI_leI, nI_ltI, nI_eq, ds_m1_eq, ds_eq_m1, ds_m2_eq, ds_eq_m2, ds_m1_le, ds_le_m1, ds_m1_lt, ds_lt_m1, ds_in_N, ds_bo0, ds_bo1, if_pos, if_neg, Nat.not_le, Nat.not_lt, not_true_eq_false, not_false_eq_true, if_true, if_false, ne_eq, Option.some.injEq, Prod.mk.injEq, Value.int.injEq, true_and, and_true, and_self, ite_self, Bool.not_eq_true, Bool.not_eq_false, Bool.true_eq_false, Bool.false_eq_true, reduceCtorEq, ds_setI_row, ds_setL_row, ds_rowI_self, ds_rowI_ne, ds_rowI_2, ds_rowI_rowI, ds_setS_1, ds_setS_21, ds_setS_self, ds_setS_ne, pk_us, pk_un]
  · rw [Nat.min_eq_right (by omega)]
    simp (disch := first | assumption | omega | rfl | decide) only [ds_cI, ds_cV, ds_cL, ds_cR, ds_nn, ds_isK_t, ds_isA_t, ds_chk_t, ds_chkN, ds_nz_t, ds_nzN, ds_isB_t, ds_isB_bo, ↓dl_m1, ↓dl_m2, dl_0, dl_1, dl_2, dl_3, dl_4, dl_5, dl_6, dl_7, dl_8, dl_9, dl_10, dl_11, dl_12, dl_13, dl_14, dl_15, dl_16, dl_20, dl_24, dl_31, dl_50, dl_57, dl_67, dl_68, dl_74, dl_75, dl_79, dl_80, dl_99, dl_100, dl_200, dl_210, dl_224, dl_255, dl_289, dl_900, dl_1000, dl_1728, dl_65536, dl_65537, nI_add, pk_mul, pk_sub, pk_div, pk_rem, nI_clamp, nI_leI, nI_ltI, nI_eq, ds_m1_eq, ds_eq_m1, ds_m2_eq, ds_eq_m2, ds_m1_le, ds_le_m1, ds_m1_lt, ds_lt_m1, ds_in_N, ds_bo0, ds_bo1, if_pos, if_neg, Nat.not_le, Nat.not_lt, not_true_eq_false, not_false_eq_true, if_true, if_false, ne_eq, Option.some.injEq, Prod.mk.injEq, Value.int.injEq, true_and, and_true, and_self, ite_self, Bool.not_eq_true, Bool.not_eq_false, Bool.true_eq_false, Bool.false_eq_true, reduceCtorEq, ds_setI_row, ds_setL_row, ds_rowI_self, ds_rowI_ne, ds_rowI_2, ds_rowI_rowI, ds_setS_1, ds_setS_21, ds_setS_self, ds_setS_ne, pk_us, pk_un]
