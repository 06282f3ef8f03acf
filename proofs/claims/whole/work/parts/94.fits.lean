/-! rows of moves that fit: numbers -/
/-- the deck C behind the last r digits of y as moves -/
def dk_dg (n : Nat) : Nat → (Nat → Nat) → Nat → (Nat → Nat)
  | 0, C, _ => C
  | r + 1, C, y => dk_dg n r (dk_mk C (y / (n + 2) ^ r % (n + 2)) n) y
theorem dk_dg_mod (n : Nat) : ∀ r C x y, dk_dg n r C (x * (n + 2) ^ r + y) = dk_dg n r C y := by
  intro r
  induction r with
  | zero => intro C x y; rfl
  | succ r ih =>
    intro C x y
    simp only [dk_dg]
    have hp : 0 < (n + 2) ^ r := Nat.pow_pos (by omega)
    have e2 : x * (n + 2) ^ (r + 1) + y = (x * (n + 2)) * (n + 2) ^ r + y := by
      rw [Nat.pow_succ, Nat.mul_comm ((n + 2) ^ r) (n + 2), ← Nat.mul_assoc]
    have e1 : (x * (n + 2) ^ (r + 1) + y) / (n + 2) ^ r % (n + 2) = y / (n + 2) ^ r % (n + 2) := by
      rw [e2, Nat.mul_comm (x * (n + 2)) ((n + 2) ^ r), Nat.mul_add_div hp, Nat.mul_comm x (n + 2), Nat.mul_add_mod]
    rw [e1, e2, ih]
theorem dk_dg_top {n a r y : Nat} (C : Nat → Nat) (ha : a < n + 2) (hy : y < (n + 2) ^ r) : dk_dg n (r + 1) C (a * (n + 2) ^ r + y) = dk_dg n r (dk_mk C a n) y := by
  simp only [dk_dg]
  have hp : 0 < (n + 2) ^ r := Nat.pow_pos (by omega)
  have e1 : (a * (n + 2) ^ r + y) / (n + 2) ^ r % (n + 2) = a := by
    rw [Nat.mul_comm a, Nat.mul_add_div hp, Nat.div_eq_of_lt hy, Nat.add_zero, Nat.mod_eq_of_lt ha]
  rw [e1, dk_dg_mod]
/-- the place behind the last r digits of y as moves -/
def dk_ps (n : Nat) : Nat → Nat → Nat → Nat
  | 0, p, _ => p
  | r + 1, p, y => dk_ps n r (ds_mv (y / (n + 2) ^ r % (n + 2)) p n) y
theorem dk_mk_mv {C : Nat → Nat} {a n p : Nat} (ha : a < 14) (hn : n < 13) (hp : p < n) : dk_mk C a n (ds_mv a p n) = C p := by
  obtain ⟨h1, h2, h3, h4⟩ := dk_inv_ok a ha n hn p hp
  unfold dk_mk
  rw [if_pos h4, h3]
theorem dk_ps_ok {n : Nat} (hn : n ≤ 12) (y : Nat) : ∀ r C p, p < n → dk_ps n r p y < n ∧ dk_dg n r C y (dk_ps n r p y) = C p := by
  intro r
  induction r with
  | zero => intro C p hp; exact ⟨hp, rfl⟩
  | succ r ih =>
    intro C p hp
    have hd : y / (n + 2) ^ r % (n + 2) < n + 2 := Nat.mod_lt _ (by omega)
    obtain ⟨h1, h2, h3, h4⟩ := dk_inv_ok (y / (n + 2) ^ r % (n + 2)) (by omega) n (by omega) p hp
    obtain ⟨i1, i2⟩ := ih (dk_mk C (y / (n + 2) ^ r % (n + 2)) n) (ds_mv (y / (n + 2) ^ r % (n + 2)) p n) h4
    refine ⟨i1, ?_⟩
    rw [dk_mk_mv (by omega) (by omega) hp] at i2
    exact i2
theorem dk_dg_inj {n : Nat} (hn : n ≤ 12) (y : Nat) : ∀ r C, dk_inj C n n → dk_inj (dk_dg n r C y) n n := by
  intro r
  induction r with
  | zero => intro C h; exact h
  | succ r ih =>
    intro C h
    have hd : y / (n + 2) ^ r % (n + 2) < n + 2 := Nat.mod_lt _ (by omega)
    exact ih _ (dk_mk_inj (by omega) (by omega) h)
def dk_ft (D : Nat → Nat → Nat) (C : Nat → Nat) (s : Nat) : Bool := !(dk_any (fun s => !(dk_sw D C (D 0 4) s)) s)
def dk_F (D : Nat → Nat → Nat) (k y : Nat) : Bool := dk_ft D (dk_dg (D 0 4) k (dk_pl D (D 0 5)) y) (D 0 7)
theorem dk_cnt_0 (F : Nat → Bool) (X : Nat) : dk_sum (fun y => dk_n (F y)) X = 0 ↔ dk_any F X = false := by
  induction X with
  | zero => simp [dk_sum, dk_any]
  | succ X ih =>
    simp only [dk_sum, dk_any, Bool.or_eq_false_iff]
    cases h : F X
    · have e : dk_n false = 0 := rfl
      rw [e, Nat.add_zero, ih]
      simp
    · have e : dk_n true = 1 := rfl
      rw [e]
      simp
theorem dk_cnt_le (F : Nat → Bool) (X : Nat) : dk_sum (fun y => dk_n (F y)) X ≤ X := by
  have := dk_sum_le (f := fun y => dk_n (F y)) (b := 1) (n := X) (fun k _ => by unfold dk_n; split <;> omega)
  omega
/-! the class -/
theorem s_rowsOfMoves (d t k : Nat) (z : ds_St) (D : Nat → Nat → Nat) (hT : dk_tC z t D) (hD : dk_ok D) (r0 : z.2.2 0 = t) (hk : k ≤ 3) : ds_call (d + 2) j_Sea_rowsOfMoves [.ref 0, .int (nI k)] z = some (some (.int (nI ((D 0 4 + 2) ^ k))), z) := by
  have hKt := ds_Kt hT.1
  have t4 := hT.2.1.2.2.2.2.1
  have n12 := hD.2.2.2.2.1.2
  have n2 := hD.2.2.2.2.1.1
  have mv := s_movesOf d (D 0 4) z (by omega)
  rw [if_neg (by omega)] at mv
  have up := ds_up (F := fun j => ds_Rw ds_c_Sea_rowsOfMoves ds_u_Sea_rowsOfMoves (ds_call (d + 1)) 4 [some (.ref 0), some (.int (nI k)), some (.int (nI (((D 0 4 + 2) ^ j)))), some (.int (nI j))] [] z) (n := k) 0 (by
    intro j _ hj
    rw [b_Sea_rowsOfMoves_4, Nat.pow_succ]
    generalize (D 0 4 + 2) ^ j = P at *
    simp (disch := first | assumption | omega) only [ds_cI, ds_cV, ds_cL, ds_cR, ds_nn, ds_isK_t, ds_isA_t, ds_chk_t, ds_chkN, ds_nz_t, ds_nzN, ds_isB_t, ds_isB_bo, ↓dl_m1, ↓dl_m2, dl_0, dl_1, dl_2, dl_3, dl_4, dl_5, dl_6, dl_7, dl_8, dl_9, dl_10, dl_11, dl_12, dl_13, dl_14, dl_15, dl_16, dl_20, dl_24, dl_31, dl_50, dl_57, dl_67, dl_68, dl_74, dl_75, dl_79, dl_80, dl_99, dl_100, dl_200, dl_210, dl_224, dl_255, dl_289, dl_900, dl_1000, dl_1728, dl_65536, dl_65537, nI_add, pk_mul, pk_sub, pk_div, pk_rem, ds_rem2, nI_clamp, nI_leI, nI_ltI, nI_eq, ds_m1_eq, ds_eq_m1, ds_m2_eq, ds_eq_m2, ds_m1_le, ds_le_m1, ds_m1_lt, ds_lt_m1, ds_in_N, ds_bo0, ds_bo1, if_pos, if_neg, Nat.not_le, Nat.not_lt, not_true_eq_false, not_false_eq_true, if_true, if_false, ne_eq, Option.some.injEq, Prod.mk.injEq, Value.int.injEq, true_and, and_true, and_self, ite_self, Bool.not_eq_true, Bool.not_eq_false, Bool.true_eq_false, Bool.false_eq_true, reduceCtorEq, Nat.zero_add, Nat.reduceAdd, Nat.reduceMul, Nat.reduceSub, ds_setI_row, ds_setL_row, ds_rowI_self, ds_rowI_ne, ds_rowI_2, ds_rowI_rowI, ds_setS_1, ds_setS_21, ds_setS_self, ds_setS_ne, pk_us, pk_un, r0, t4, mv]) (Nat.zero_le _)
  try simp only at up
  rw [Nat.pow_zero] at up
  rw [c_Sea_rowsOfMoves, b_Sea_rowsOfMoves_0]
  simp (disch := first | assumption | omega) only [ds_cI, ds_cV, ds_cL, ds_cR, ds_nn, ds_isK_t, ds_isA_t, ds_chk_t, ds_chkN, ds_nz_t, ds_nzN, ds_isB_t, ds_isB_bo, ↓dl_m1, ↓dl_m2, dl_0, dl_1, dl_2, dl_3, dl_4, dl_5, dl_6, dl_7, dl_8, dl_9, dl_10, dl_11, dl_12, dl_13, dl_14, dl_15, dl_16, dl_20, dl_24, dl_31, dl_50, dl_57, dl_67, dl_68, dl_74, dl_75, dl_79, dl_80, dl_99, dl_100, dl_200, dl_210, dl_224, dl_255, dl_289, dl_900, dl_1000, dl_1728, dl_65536, dl_65537, nI_add, pk_mul, pk_sub, pk_div, pk_rem, ds_rem2, nI_clamp, nI_leI, nI_ltI, nI_eq, ds_m1_eq, ds_eq_m1, ds_m2_eq, ds_eq_m2, ds_m1_le, ds_le_m1, ds_m1_lt, ds_lt_m1, ds_in_N, ds_bo0, ds_bo1, if_pos, if_neg, Nat.not_le, Nat.not_lt, not_true_eq_false, not_false_eq_true, if_true, if_false, ne_eq, Option.some.injEq, Prod.mk.injEq, Value.int.injEq, true_and, and_true, and_self, ite_self, Bool.not_eq_true, Bool.not_eq_false, Bool.true_eq_false, Bool.false_eq_true, reduceCtorEq, Nat.zero_add, Nat.reduceAdd, Nat.reduceMul, Nat.reduceSub, ds_setI_row, ds_setL_row, ds_rowI_self, ds_rowI_ne, ds_rowI_2, ds_rowI_rowI, ds_setS_1, ds_setS_21, ds_setS_self, ds_setS_ne, pk_us, pk_un]
  rw [up, b_Sea_rowsOfMoves_4]
  generalize (D 0 4 + 2) ^ k = P at *
  simp (disch := first | assumption | omega) only [ds_cI, ds_cV, ds_cL, ds_cR, ds_nn, ds_isK_t, ds_isA_t, ds_chk_t, ds_chkN, ds_nz_t, ds_nzN, ds_isB_t, ds_isB_bo, ↓dl_m1, ↓dl_m2, dl_0, dl_1, dl_2, dl_3, dl_4, dl_5, dl_6, dl_7, dl_8, dl_9, dl_10, dl_11, dl_12, dl_13, dl_14, dl_15, dl_16, dl_20, dl_24, dl_31, dl_50, dl_57, dl_67, dl_68, dl_74, dl_75, dl_79, dl_80, dl_99, dl_100, dl_200, dl_210, dl_224, dl_255, dl_289, dl_900, dl_1000, dl_1728, dl_65536, dl_65537, nI_add, pk_mul, pk_sub, pk_div, pk_rem, ds_rem2, nI_clamp, nI_leI, nI_ltI, nI_eq, ds_m1_eq, ds_eq_m1, ds_m2_eq, ds_eq_m2, ds_m1_le, ds_le_m1, ds_m1_lt, ds_lt_m1, ds_in_N, ds_bo0, ds_bo1, if_pos, if_neg, Nat.not_le, Nat.not_lt, not_true_eq_false, not_false_eq_true, if_true, if_false, ne_eq, Option.some.injEq, Prod.mk.injEq, Value.int.injEq, true_and, and_true, and_self, ite_self, Bool.not_eq_true, Bool.not_eq_false, Bool.true_eq_false, Bool.false_eq_true, reduceCtorEq, Nat.zero_add, Nat.reduceAdd, Nat.reduceMul, Nat.reduceSub, ds_setI_row, ds_setL_row, ds_rowI_self, ds_rowI_ne, ds_rowI_2, ds_rowI_rowI, ds_setS_1, ds_setS_21, ds_setS_self, ds_setS_ne, pk_us, pk_un]
theorem s_moveOfRow (d t y b : Nat) (z : ds_St) (D : Nat → Nat → Nat) (hT : dk_tC z t D) (hD : dk_ok D) (r0 : z.2.2 0 = t) (hy : y < 2 ^ 31) (hb : b < 2 ^ 31) : ds_call (d + 2) j_Sea_moveOfRow [.ref 0, .int (nI y), .int (nI b)] z = some (some (.int (nI (y / (D 0 4 + 2) ^ b % (D 0 4 + 2)))), z) := by
  have hKt := ds_Kt hT.1
  have t4 := hT.2.1.2.2.2.2.1
  have n12 := hD.2.2.2.2.1.2
  have n2 := hD.2.2.2.2.1.1
  have mv := s_movesOf d (D 0 4) z (by omega)
  rw [if_neg (by omega)] at mv
  have hq : ∀ j, y / (D 0 4 + 2) ^ j < 2 ^ 31 := fun j => Nat.lt_of_le_of_lt (Nat.div_le_self _ _) hy
  have up := ds_up (F := fun j => ds_Rw ds_c_Sea_moveOfRow ds_u_Sea_moveOfRow (ds_call (d + 1)) 25 [none, none, some (.int (nI b)), some (.int (nI ((D 0 4 + 2)))), some (.int (nI ((y / (D 0 4 + 2) ^ j)))), some (.int (nI j))] [] z) (n := b) 0 (by
    intro j _ hj
    have h1 := hq j
    rw [b_Sea_moveOfRow_25, Nat.pow_succ, ← Nat.div_div_eq_div_mul]
    generalize y / (D 0 4 + 2) ^ j = q at *
    have ed := pk_div (a := q) (d := D 0 4 + 2) h1 (by omega) (by omega)
    generalize hQ : q / (D 0 4 + 2) = Q at *
    simp (disch := first | assumption | omega) only [ds_cI, ds_cV, ds_cL, ds_cR, ds_nn, ds_isK_t, ds_isA_t, ds_chk_t, ds_chkN, ds_nz_t, ds_nzN, ds_isB_t, ds_isB_bo, ↓dl_m1, ↓dl_m2, dl_0, dl_1, dl_2, dl_3, dl_4, dl_5, dl_6, dl_7, dl_8, dl_9, dl_10, dl_11, dl_12, dl_13, dl_14, dl_15, dl_16, dl_20, dl_24, dl_31, dl_50, dl_57, dl_67, dl_68, dl_74, dl_75, dl_79, dl_80, dl_99, dl_100, dl_200, dl_210, dl_224, dl_255, dl_289, dl_900, dl_1000, dl_1728, dl_65536, dl_65537, nI_add, pk_mul, pk_sub, pk_div, pk_rem, ds_rem2, nI_clamp, nI_leI, nI_ltI, nI_eq, ds_m1_eq, ds_eq_m1, ds_m2_eq, ds_eq_m2, ds_m1_le, ds_le_m1, ds_m1_lt, ds_lt_m1, ds_in_N, ds_bo0, ds_bo1, if_pos, if_neg, Nat.not_le, Nat.not_lt, not_true_eq_false, not_false_eq_true, if_true, if_false, ne_eq, Option.some.injEq, Prod.mk.injEq, Value.int.injEq, true_and, and_true, and_self, ite_self, Bool.not_eq_true, Bool.not_eq_false, Bool.true_eq_false, Bool.false_eq_true, reduceCtorEq, Nat.zero_add, Nat.reduceAdd, Nat.reduceMul, Nat.reduceSub, ds_setI_row, ds_setL_row, ds_rowI_self, ds_rowI_ne, ds_rowI_2, ds_rowI_rowI, ds_setS_1, ds_setS_21, ds_setS_self, ds_setS_ne, pk_us, pk_un, ed]) (Nat.zero_le _)
  try simp only at up
  rw [Nat.pow_zero, Nat.div_one] at up
  rw [c_Sea_moveOfRow, b_Sea_moveOfRow_0]
  simp (disch := first | assumption | omega) only [ds_cI, ds_cV, ds_cL, ds_cR, ds_nn, ds_isK_t, ds_isA_t, ds_chk_t, ds_chkN, ds_nz_t, ds_nzN, ds_isB_t, ds_isB_bo, ↓dl_m1, ↓dl_m2, dl_0, dl_1, dl_2, dl_3, dl_4, dl_5, dl_6, dl_7, dl_8, dl_9, dl_10, dl_11, dl_12, dl_13, dl_14, dl_15, dl_16, dl_20, dl_24, dl_31, dl_50, dl_57, dl_67, dl_68, dl_74, dl_75, dl_79, dl_80, dl_99, dl_100, dl_200, dl_210, dl_224, dl_255, dl_289, dl_900, dl_1000, dl_1728, dl_65536, dl_65537, nI_add, pk_mul, pk_sub, pk_div, pk_rem, ds_rem2, nI_clamp, nI_leI, nI_ltI, nI_eq, ds_m1_eq, ds_eq_m1, ds_m2_eq, ds_eq_m2, ds_m1_le, ds_le_m1, ds_m1_lt, ds_lt_m1, ds_in_N, ds_bo0, ds_bo1, if_pos, if_neg, Nat.not_le, Nat.not_lt, not_true_eq_false, not_false_eq_true, if_true, if_false, ne_eq, Option.some.injEq, Prod.mk.injEq, Value.int.injEq, true_and, and_true, and_self, ite_self, Bool.not_eq_true, Bool.not_eq_false, Bool.true_eq_false, Bool.false_eq_true, reduceCtorEq, Nat.zero_add, Nat.reduceAdd, Nat.reduceMul, Nat.reduceSub, ds_setI_row, ds_setL_row, ds_rowI_self, ds_rowI_ne, ds_rowI_2, ds_rowI_rowI, ds_setS_1, ds_setS_21, ds_setS_self, ds_setS_ne, pk_us, pk_un, r0, t4, mv]
  rw [up, b_Sea_moveOfRow_25]
  have h1 := hq b
  generalize y / (D 0 4 + 2) ^ b = q at *
  simp (disch := first | assumption | omega) only [ds_cI, ds_cV, ds_cL, ds_cR, ds_nn, ds_isK_t, ds_isA_t, ds_chk_t, ds_chkN, ds_nz_t, ds_nzN, ds_isB_t, ds_isB_bo, ↓dl_m1, ↓dl_m2, dl_0, dl_1, dl_2, dl_3, dl_4, dl_5, dl_6, dl_7, dl_8, dl_9, dl_10, dl_11, dl_12, dl_13, dl_14, dl_15, dl_16, dl_20, dl_24, dl_31, dl_50, dl_57, dl_67, dl_68, dl_74, dl_75, dl_79, dl_80, dl_99, dl_100, dl_200, dl_210, dl_224, dl_255, dl_289, dl_900, dl_1000, dl_1728, dl_65536, dl_65537, nI_add, pk_mul, pk_sub, pk_div, pk_rem, ds_rem2, nI_clamp, nI_leI, nI_ltI, nI_eq, ds_m1_eq, ds_eq_m1, ds_m2_eq, ds_eq_m2, ds_m1_le, ds_le_m1, ds_m1_lt, ds_lt_m1, ds_in_N, ds_bo0, ds_bo1, if_pos, if_neg, Nat.not_le, Nat.not_lt, not_true_eq_false, not_false_eq_true, if_true, if_false, ne_eq, Option.some.injEq, Prod.mk.injEq, Value.int.injEq, true_and, and_true, and_self, ite_self, Bool.not_eq_true, Bool.not_eq_false, Bool.true_eq_false, Bool.false_eq_true, reduceCtorEq, Nat.zero_add, Nat.reduceAdd, Nat.reduceMul, Nat.reduceSub, ds_setI_row, ds_setL_row, ds_rowI_self, ds_rowI_ne, ds_rowI_2, ds_rowI_rowI, ds_setS_1, ds_setS_21, ds_setS_self, ds_setS_ne, pk_us, pk_un]
theorem dk_powle {n k : Nat} (hn : n ≤ 12) (hk : k ≤ 3) : (n + 2) ^ k ≤ 2744 := by
  have h1 : (n + 2) ^ k ≤ 14 ^ k := Nat.pow_le_pow_left (by omega) k
  have h2 : 14 ^ k ≤ 14 ^ 3 := Nat.pow_le_pow_right (by decide) hk
  have h3 : 14 ^ 3 = 2744 := by decide
  omega
/-- how many moves stand behind, counted down -/
def dk_behind : Nat → Int32
  | 0 => ds_m1
  | r + 1 => nI r
theorem dk_behind_sub {k : Nat} (hk : k < 2 ^ 31) : nI k - nI 1 = dk_behind k := by
  cases k with
  | zero => rfl
  | succ k => exact pk_sub (by omega)
theorem dk_behind_dec (r : Nat) : nI r + ds_m1 = dk_behind r := by
  cases r with
  | zero => rfl
  | succ r => exact ds_add_m1 r
theorem s_rowFits (d t k y : Nat) (z : ds_St) (D : Nat → Nat → Nat) (C : Nat → Nat) (hT : dk_tC z t D) (hD : dk_ok D) (r0 : z.2.2 0 = t) (he : dk_dk z 64 C (D 0 4) (D 0 4)) (hk : k ≤ 3) (hy : y < (D 0 4 + 2) ^ k) : ds_call (d + 4) j_Sea_rowFits [.ref 0, .int (nI y), .int (nI k)] z = some (some (.int (ds_bo (dk_ft D (dk_dg (D 0 4) k C y) (D 0 7)))), z) := by
  have hKt := ds_Kt hT.1
  have ht := hT.1
  have t4 := hT.2.1.2.2.2.2.1
  have t14 := hT.2.1.2.2.2.2.2.2.2
  have hsh := hT.2.2.2.2.2.1
  have os := hD.2.2.2.2.2.2.2.2.2.2.2
  have o7 := hD.2.2.2.2.2.2.2.1
  have n12 := hD.2.2.2.2.1.2
  have n2 := hD.2.2.2.2.1.1
  have hR : D 0 0 * D 0 1 ≤ 12 := Nat.mul_le_mul hD.1.2 hD.2.1.2
  have hin := he.2.2.2.2
  have ple : ∀ r, r ≤ k → (D 0 4 + 2) ^ r ≤ 2744 := fun r hr => dk_powle n12 (by omega)
  have hyl := ple k (Nat.le_refl _)
  have mr := fun b => s_moveOfRow (d + 1) t y b z D hT hD r0 (by omega)
  have gt := fun a b => s_goesTo (d + 1) a b (D 0 4) z
  have inner : ∀ s r p, r ≤ k → p < D 0 4 → ds_Rw ds_c_Sea_rowFits ds_u_Sea_rowFits (ds_call (d + 3)) 38 [some (.ref 0), some (.int (nI y)), some (.int (nI k)), some (.int (nI s)), some (.int (nI p)), some (.int ((dk_behind r)))] [] z = ds_Rw ds_c_Sea_rowFits ds_u_Sea_rowFits (ds_call (d + 3)) 38 [some (.ref 0), some (.int (nI y)), some (.int (nI k)), some (.int (nI s)), some (.int (nI ((dk_ps (D 0 4) r p y)))), some (.int ds_m1)] [] z := by
    intro s r
    induction r with
    | zero =>
      intro p _ hp
      rfl
    | succ r ih =>
      intro p hr hp
      have e : dk_behind (r + 1) = nI r := rfl
      have hd : y / (D 0 4 + 2) ^ r % (D 0 4 + 2) < D 0 4 + 2 := Nat.mod_lt _ (by omega)
      have hm := (ds_gF_all (y / (D 0 4 + 2) ^ r % (D 0 4 + 2)) (by omega) (D 0 4) (by omega) p hp).2
      have ih' := ih (ds_mv (y / (D 0 4 + 2) ^ r % (D 0 4 + 2)) p (D 0 4)) (by omega) hm
      have m1 := mr r (by omega)
      have g1 := gt (y / (D 0 4 + 2) ^ r % (D 0 4 + 2)) p (by omega) (by omega) hp
      have ed := dk_behind_dec r
      have ep : dk_ps (D 0 4) (r + 1) p y = dk_ps (D 0 4) r (ds_mv (y / (D 0 4 + 2) ^ r % (D 0 4 + 2)) p (D 0 4)) y := rfl
      rw [ep, ← ih', e, b_Sea_rowFits_38]
      generalize ds_mv (y / (D 0 4 + 2) ^ r % (D 0 4 + 2)) p (D 0 4) = p2 at *
      generalize y / (D 0 4 + 2) ^ r % (D 0 4 + 2) = a at *
      generalize dk_behind r = w at *
      simp (disch := first | assumption | omega) only [ds_cI, ds_cV, ds_cL, ds_cR, ds_nn, ds_isK_t, ds_isA_t, ds_chk_t, ds_chkN, ds_nz_t, ds_nzN, ds_isB_t, ds_isB_bo, ↓dl_m1, ↓dl_m2, dl_0, dl_1, dl_2, dl_3, dl_4, dl_5, dl_6, dl_7, dl_8, dl_9, dl_10, dl_11, dl_12, dl_13, dl_14, dl_15, dl_16, dl_20, dl_24, dl_31, dl_50, dl_57, dl_67, dl_68, dl_74, dl_75, dl_79, dl_80, dl_99, dl_100, dl_200, dl_210, dl_224, dl_255, dl_289, dl_900, dl_1000, dl_1728, dl_65536, dl_65537, nI_add, pk_mul, pk_sub, pk_div, pk_rem, ds_rem2, nI_clamp, nI_leI, nI_ltI, nI_eq, ds_m1_eq, ds_eq_m1, ds_m2_eq, ds_eq_m2, ds_m1_le, ds_le_m1, ds_m1_lt, ds_lt_m1, ds_in_N, ds_bo0, ds_bo1, if_pos, if_neg, Nat.not_le, Nat.not_lt, not_true_eq_false, not_false_eq_true, if_true, if_false, ne_eq, Option.some.injEq, Prod.mk.injEq, Value.int.injEq, true_and, and_true, and_self, ite_self, Bool.not_eq_true, Bool.not_eq_false, Bool.true_eq_false, Bool.false_eq_true, reduceCtorEq, Nat.zero_add, Nat.reduceAdd, Nat.reduceMul, Nat.reduceSub, ds_setI_row, ds_setL_row, ds_rowI_self, ds_rowI_ne, ds_rowI_2, ds_rowI_rowI, ds_setS_1, ds_setS_21, ds_setS_self, ds_setS_ne, pk_us, pk_un, m1, r0, t4, g1, ed]
  have go : ∀ m s, s + m = D 0 7 → dk_ft D (dk_dg (D 0 4) k C y) s = true → ds_Rw ds_c_Sea_rowFits ds_u_Sea_rowFits (ds_call (d + 3)) 2 [some (.ref 0), some (.int (nI y)), some (.int (nI k)), some (.int (nI s)), none, none] [] z = some (some (.int (ds_bo (dk_ft D (dk_dg (D 0 4) k C y) (D 0 7)))), z) := by
    intro m
    induction m with
    | zero =>
      intro s hs hf
      have : s = D 0 7 := by omega
      subst this
      rw [hf, b_Sea_rowFits_2]
      simp (disch := first | assumption | omega) only [ds_cI, ds_cV, ds_cL, ds_cR, ds_nn, ds_isK_t, ds_isA_t, ds_chk_t, ds_chkN, ds_nz_t, ds_nzN, ds_isB_t, ds_isB_bo, ↓dl_m1, ↓dl_m2, dl_0, dl_1, dl_2, dl_3, dl_4, dl_5, dl_6, dl_7, dl_8, dl_9, dl_10, dl_11, dl_12, dl_13, dl_14, dl_15, dl_16, dl_20, dl_24, dl_31, dl_50, dl_57, dl_67, dl_68, dl_74, dl_75, dl_79, dl_80, dl_99, dl_100, dl_200, dl_210, dl_224, dl_255, dl_289, dl_900, dl_1000, dl_1728, dl_65536, dl_65537, nI_add, pk_mul, pk_sub, pk_div, pk_rem, ds_rem2, nI_clamp, nI_leI, nI_ltI, nI_eq, ds_m1_eq, ds_eq_m1, ds_m2_eq, ds_eq_m2, ds_m1_le, ds_le_m1, ds_m1_lt, ds_lt_m1, ds_in_N, ds_bo0, ds_bo1, if_pos, if_neg, Nat.not_le, Nat.not_lt, not_true_eq_false, not_false_eq_true, if_true, if_false, ne_eq, Option.some.injEq, Prod.mk.injEq, Value.int.injEq, true_and, and_true, and_self, ite_self, Bool.not_eq_true, Bool.not_eq_false, Bool.true_eq_false, Bool.false_eq_true, reduceCtorEq, Nat.zero_add, Nat.reduceAdd, Nat.reduceMul, Nat.reduceSub, ds_setI_row, ds_setL_row, ds_rowI_self, ds_rowI_ne, ds_rowI_2, ds_rowI_rowI, ds_setS_1, ds_setS_21, ds_setS_self, ds_setS_ne, pk_us, pk_un, r0, t14]
      rfl
    | succ m ih =>
      intro s hs hf
      obtain ⟨a1, a2⟩ := hsh s (by omega)
      obtain ⟨b1, b2⟩ := os s (by omega)
      obtain ⟨p, hp, hpC⟩ := dk_surj hin b2
      have pl := s_placeOf_y (d + 1) 64 (D 0 4) (D 0 4) p z C he n12 hp
      rw [hpC] at pl
      obtain ⟨o1, o2⟩ := dk_ps_ok n12 y k C p hp
      have ig := inner s k p (Nat.le_refl _) hp
      have hinj := dk_dg_inj n12 y k C hin
      have lk8 := s_look6 (d + 2) t 8 s z ht (by decide) (by omega)
      have lk9 := s_look6 (d + 2) t 9 s z ht (by decide) (by omega)
      rw [a1] at lk8
      rw [a2] at lk9
      have ed := dk_behind_sub (k := k) (by omega)
      have sw : dk_sw D (dk_dg (D 0 4) k C y) (D 0 4) s = decide (dk_ps (D 0 4) k p y = D 8 s) := by
        apply dk_boolext
        unfold dk_sw
        rw [Bool.and_eq_true, decide_eq_true_eq, decide_eq_true_eq, beq_iff_eq]
        constructor
        · rintro ⟨w1, w2⟩
          exact hinj.2 _ _ o1 w1 (by rw [o2, w2, hpC])
        · intro w
          exact ⟨by rw [← w]; exact o1, by rw [← w, o2, hpC]⟩
      have fs : dk_ft D (dk_dg (D 0 4) k C y) (s + 1) = decide (dk_ps (D 0 4) k p y = D 8 s) := by
        have hf' : dk_any (fun s => !(dk_sw D (dk_dg (D 0 4) k C y) (D 0 4) s)) s = false := by
          unfold dk_ft at hf
          simpa using hf
        unfold dk_ft
        simp only [dk_any]
        rw [hf', sw]
        simp
      rw [b_Sea_rowFits_2]
      by_cases q : dk_ps (D 0 4) k p y = D 8 s
      · rw [decide_eq_true q] at fs
        have ih' := ih (s + 1) (by omega) fs
        rw [q] at ig
        generalize dk_ft D (dk_dg (D 0 4) k C y) (D 0 7) = R at *
        generalize dk_behind k = w at *
        simp (disch := first | assumption | omega) only [ds_cI, ds_cV, ds_cL, ds_cR, ds_nn, ds_isK_t, ds_isA_t, ds_chk_t, ds_chkN, ds_nz_t, ds_nzN, ds_isB_t, ds_isB_bo, ↓dl_m1, ↓dl_m2, dl_0, dl_1, dl_2, dl_3, dl_4, dl_5, dl_6, dl_7, dl_8, dl_9, dl_10, dl_11, dl_12, dl_13, dl_14, dl_15, dl_16, dl_20, dl_24, dl_31, dl_50, dl_57, dl_67, dl_68, dl_74, dl_75, dl_79, dl_80, dl_99, dl_100, dl_200, dl_210, dl_224, dl_255, dl_289, dl_900, dl_1000, dl_1728, dl_65536, dl_65537, nI_add, pk_mul, pk_sub, pk_div, pk_rem, ds_rem2, nI_clamp, nI_leI, nI_ltI, nI_eq, ds_m1_eq, ds_eq_m1, ds_m2_eq, ds_eq_m2, ds_m1_le, ds_le_m1, ds_m1_lt, ds_lt_m1, ds_in_N, ds_bo0, ds_bo1, if_pos, if_neg, Nat.not_le, Nat.not_lt, not_true_eq_false, not_false_eq_true, if_true, if_false, ne_eq, Option.some.injEq, Prod.mk.injEq, Value.int.injEq, true_and, and_true, and_self, ite_self, Bool.not_eq_true, Bool.not_eq_false, Bool.true_eq_false, Bool.false_eq_true, reduceCtorEq, Nat.zero_add, Nat.reduceAdd, Nat.reduceMul, Nat.reduceSub, ds_setI_row, ds_setL_row, ds_rowI_self, ds_rowI_ne, ds_rowI_2, ds_rowI_rowI, ds_setS_1, ds_setS_21, ds_setS_self, ds_setS_ne, pk_us, pk_un, r0, t14, ds_Rt16, lk9, pl, ed, ig]
        rw [b_Sea_rowFits_38]
        simp (disch := first | assumption | omega) only [ds_cI, ds_cV, ds_cL, ds_cR, ds_nn, ds_isK_t, ds_isA_t, ds_chk_t, ds_chkN, ds_nz_t, ds_nzN, ds_isB_t, ds_isB_bo, ↓dl_m1, ↓dl_m2, dl_0, dl_1, dl_2, dl_3, dl_4, dl_5, dl_6, dl_7, dl_8, dl_9, dl_10, dl_11, dl_12, dl_13, dl_14, dl_15, dl_16, dl_20, dl_24, dl_31, dl_50, dl_57, dl_67, dl_68, dl_74, dl_75, dl_79, dl_80, dl_99, dl_100, dl_200, dl_210, dl_224, dl_255, dl_289, dl_900, dl_1000, dl_1728, dl_65536, dl_65537, nI_add, pk_mul, pk_sub, pk_div, pk_rem, ds_rem2, nI_clamp, nI_leI, nI_ltI, nI_eq, ds_m1_eq, ds_eq_m1, ds_m2_eq, ds_eq_m2, ds_m1_le, ds_le_m1, ds_m1_lt, ds_lt_m1, ds_in_N, ds_bo0, ds_bo1, if_pos, if_neg, Nat.not_le, Nat.not_lt, not_true_eq_false, not_false_eq_true, if_true, if_false, ne_eq, Option.some.injEq, Prod.mk.injEq, Value.int.injEq, true_and, and_true, and_self, ite_self, Bool.not_eq_true, Bool.not_eq_false, Bool.true_eq_false, Bool.false_eq_true, reduceCtorEq, Nat.zero_add, Nat.reduceAdd, Nat.reduceMul, Nat.reduceSub, ds_setI_row, ds_setL_row, ds_rowI_self, ds_rowI_ne, ds_rowI_2, ds_rowI_rowI, ds_setS_1, ds_setS_21, ds_setS_self, ds_setS_ne, pk_us, pk_un, r0, ds_Rt15, lk8, ih']
      · rw [decide_eq_false q] at fs
        have fe : dk_ft D (dk_dg (D 0 4) k C y) (D 0 7) = false := by
          unfold dk_ft at fs ⊢
          rw [Bool.not_eq_false'] at fs ⊢
          rw [dk_any_iff] at fs ⊢
          obtain ⟨w, w1, w2⟩ := fs
          exact ⟨w, by omega, w2⟩
        rw [fe]
        generalize dk_ps (D 0 4) k p y = e at *
        generalize dk_behind k = w at *
        simp (disch := first | assumption | omega) only [ds_cI, ds_cV, ds_cL, ds_cR, ds_nn, ds_isK_t, ds_isA_t, ds_chk_t, ds_chkN, ds_nz_t, ds_nzN, ds_isB_t, ds_isB_bo, ↓dl_m1, ↓dl_m2, dl_0, dl_1, dl_2, dl_3, dl_4, dl_5, dl_6, dl_7, dl_8, dl_9, dl_10, dl_11, dl_12, dl_13, dl_14, dl_15, dl_16, dl_20, dl_24, dl_31, dl_50, dl_57, dl_67, dl_68, dl_74, dl_75, dl_79, dl_80, dl_99, dl_100, dl_200, dl_210, dl_224, dl_255, dl_289, dl_900, dl_1000, dl_1728, dl_65536, dl_65537, nI_add, pk_mul, pk_sub, pk_div, pk_rem, ds_rem2, nI_clamp, nI_leI, nI_ltI, nI_eq, ds_m1_eq, ds_eq_m1, ds_m2_eq, ds_eq_m2, ds_m1_le, ds_le_m1, ds_m1_lt, ds_lt_m1, ds_in_N, ds_bo0, ds_bo1, if_pos, if_neg, Nat.not_le, Nat.not_lt, not_true_eq_false, not_false_eq_true, if_true, if_false, ne_eq, Option.some.injEq, Prod.mk.injEq, Value.int.injEq, true_and, and_true, and_self, ite_self, Bool.not_eq_true, Bool.not_eq_false, Bool.true_eq_false, Bool.false_eq_true, reduceCtorEq, Nat.zero_add, Nat.reduceAdd, Nat.reduceMul, Nat.reduceSub, ds_setI_row, ds_setL_row, ds_rowI_self, ds_rowI_ne, ds_rowI_2, ds_rowI_rowI, ds_setS_1, ds_setS_21, ds_setS_self, ds_setS_ne, pk_us, pk_un, r0, t14, ds_Rt16, lk9, pl, ed, ig]
        rw [b_Sea_rowFits_38]
        simp (disch := first | assumption | omega) only [ds_cI, ds_cV, ds_cL, ds_cR, ds_nn, ds_isK_t, ds_isA_t, ds_chk_t, ds_chkN, ds_nz_t, ds_nzN, ds_isB_t, ds_isB_bo, ↓dl_m1, ↓dl_m2, dl_0, dl_1, dl_2, dl_3, dl_4, dl_5, dl_6, dl_7, dl_8, dl_9, dl_10, dl_11, dl_12, dl_13, dl_14, dl_15, dl_16, dl_20, dl_24, dl_31, dl_50, dl_57, dl_67, dl_68, dl_74, dl_75, dl_79, dl_80, dl_99, dl_100, dl_200, dl_210, dl_224, dl_255, dl_289, dl_900, dl_1000, dl_1728, dl_65536, dl_65537, nI_add, pk_mul, pk_sub, pk_div, pk_rem, ds_rem2, nI_clamp, nI_leI, nI_ltI, nI_eq, ds_m1_eq, ds_eq_m1, ds_m2_eq, ds_eq_m2, ds_m1_le, ds_le_m1, ds_m1_lt, ds_lt_m1, ds_in_N, ds_bo0, ds_bo1, if_pos, if_neg, Nat.not_le, Nat.not_lt, not_true_eq_false, not_false_eq_true, if_true, if_false, ne_eq, Option.some.injEq, Prod.mk.injEq, Value.int.injEq, true_and, and_true, and_self, ite_self, Bool.not_eq_true, Bool.not_eq_false, Bool.true_eq_false, Bool.false_eq_true, reduceCtorEq, Nat.zero_add, Nat.reduceAdd, Nat.reduceMul, Nat.reduceSub, ds_setI_row, ds_setL_row, ds_rowI_self, ds_rowI_ne, ds_rowI_2, ds_rowI_rowI, ds_setS_1, ds_setS_21, ds_setS_self, ds_setS_ne, pk_us, pk_un, r0, ds_Rt15, lk8, q]
        rfl
  have g := go (D 0 7) 0 (by omega) rfl
  rw [c_Sea_rowFits, b_Sea_rowFits_0]
  generalize dk_ft D (dk_dg (D 0 4) k C y) (D 0 7) = R at *
  simp (disch := first | assumption | omega) only [ds_cI, ds_cV, ds_cL, ds_cR, ds_nn, ds_isK_t, ds_isA_t, ds_chk_t, ds_chkN, ds_nz_t, ds_nzN, ds_isB_t, ds_isB_bo, ↓dl_m1, ↓dl_m2, dl_0, dl_1, dl_2, dl_3, dl_4, dl_5, dl_6, dl_7, dl_8, dl_9, dl_10, dl_11, dl_12, dl_13, dl_14, dl_15, dl_16, dl_20, dl_24, dl_31, dl_50, dl_57, dl_67, dl_68, dl_74, dl_75, dl_79, dl_80, dl_99, dl_100, dl_200, dl_210, dl_224, dl_255, dl_289, dl_900, dl_1000, dl_1728, dl_65536, dl_65537, nI_add, pk_mul, pk_sub, pk_div, pk_rem, ds_rem2, nI_clamp, nI_leI, nI_ltI, nI_eq, ds_m1_eq, ds_eq_m1, ds_m2_eq, ds_eq_m2, ds_m1_le, ds_le_m1, ds_m1_lt, ds_lt_m1, ds_in_N, ds_bo0, ds_bo1, if_pos, if_neg, Nat.not_le, Nat.not_lt, not_true_eq_false, not_false_eq_true, if_true, if_false, ne_eq, Option.some.injEq, Prod.mk.injEq, Value.int.injEq, true_and, and_true, and_self, ite_self, Bool.not_eq_true, Bool.not_eq_false, Bool.true_eq_false, Bool.false_eq_true, reduceCtorEq, Nat.zero_add, Nat.reduceAdd, Nat.reduceMul, Nat.reduceSub, ds_setI_row, ds_setL_row, ds_rowI_self, ds_rowI_ne, ds_rowI_2, ds_rowI_rowI, ds_setS_1, ds_setS_21, ds_setS_self, ds_setS_ne, pk_us, pk_un, g]
