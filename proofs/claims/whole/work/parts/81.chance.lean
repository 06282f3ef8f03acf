/-! chances: rows of longs -/
theorem dL_0 : (0 : Int64) = lN 0 := rfl
theorem dL_1 : (1 : Int64) = lN 1 := rfl
theorem dL_100 : (100 : Int64) = lN 100 := rfl
theorem lgc_ge (x y : Int64) : (nI 0 ≤ lg_cmp x y) = (y ≤ x) := propext (lg_cmp_ge x y)
theorem lgc_le (x y : Int64) : (lg_cmp x y ≤ nI 0) = (x ≤ y) := propext (lg_cmp_le x y)
theorem lgc_gt (x y : Int64) : (nI 0 < lg_cmp x y) = (y < x) := propext (lg_cmp_gt x y)
theorem lgc_lt (x y : Int64) : (lg_cmp x y < nI 0) = (x < y) := propext (lg_cmp_lt x y)
theorem lgc_eq (x y : Int64) : (lg_cmp x y = nI 0) = (x = y) := propext (lg_cmp_eq x y)
theorem ds_rowL_1 (z : ds_St) (p : Nat) (f : Nat → Int64) : (ds_rowL z p f).1 = z.1 := rfl
theorem ds_rowL_22 (z : ds_St) (p : Nat) (f : Nat → Int64) : (ds_rowL z p f).2.2 = z.2.2 := rfl
theorem ds_rowL_self (z : ds_St) (p : Nat) (f : Nat → Int64) : (ds_rowL z p f).2.1 p = f := by simp [ds_rowL]
theorem ds_rowL_ne (z : ds_St) {p q : Nat} (f : Nat → Int64) (h : q ≠ p) : (ds_rowL z p f).2.1 q = z.2.1 q := by simp [ds_rowL, h]
theorem ds_rowL_rowL (z : ds_St) (p : Nat) (f g : Nat → Int64) : ds_rowL (ds_rowL z p f) p g = ds_rowL z p g := by
  unfold ds_rowL
  refine Prod.ext rfl (Prod.ext ?_ rfl)
  funext q
  by_cases h : q = p <;> simp [h]
theorem ds_rowL_id (z : ds_St) (p : Nat) : ds_rowL z p (z.2.1 p) = z := by
  unfold ds_rowL
  refine Prod.ext rfl (Prod.ext ?_ rfl)
  funext q
  by_cases h : q = p <;> simp [h]
theorem ds_nzLN {p : Nat} {a : Option ds_Out} (h : 0 < p) (hn : p < 2 ^ 63) : ds_nzL (lN p) a = a := by
  unfold ds_nzL
  have e : ¬ lN p = 0 := by
    rw [dL_0, pk_lEQ hn (by decide)]
    omega
  rw [decide_eq_false e]
theorem s_fill76 (d : Nat) (z : ds_St) : ds_call (d + 1) j_Arrays_fillL [.ref 76, .long (lN 0)] z = some (none, ds_rowL z 76 (fun j => if j < 12 then lN 0 else z.2.1 76 j)) := by
  let zk : Nat → ds_St := fun k => ds_rowL z 76 (fun j => if j < k then lN 0 else z.2.1 76 j)
  have eN : ds_N 76 = 12 := rfl
  have hK : ds_K 76 = 12 := rfl
  have up := ds_up (F := fun k => ds_Rw ds_c_Arrays_fillL ds_u_Arrays_fillL (ds_call (d + 0)) 6 [some (.ref 76), some (.long (lN 0)), none, some (.int (nI k)), some (.int (nI 12))] [] (zk k)) (n := 12) 0 (by
    intro k _ hk
    rw [b_Arrays_fillL_6]
    have er : ds_rowL (zk k) 76 (vp_updL ((zk k).2.1 76) k (lN 0)) = zk (k + 1) := by
      simp only [zk]
      rw [ds_rowL_rowL, ds_rowL_self]
      congr 1
      funext j
      dsimp only [vp_updL]
      by_cases h : j = k
      · rw [if_pos h, if_pos (by omega)]
      · rw [if_neg h]
        by_cases h2 : j < k
        · rw [if_pos h2, if_pos (by omega)]
        · rw [if_neg h2, if_neg (by omega)]
    simp (disch := first | assumption | omega) only [ds_cI, ds_cV, ds_cL, ds_cR, ds_nn, ds_isK_t, ds_isA_t, ds_chk_t, ds_chkN, ds_nz_t, ds_nzN, ds_isB_t, ds_isB_bo, ↓dl_m1, ↓dl_m2, dl_0, dl_1, dl_2, dl_3, dl_4, dl_5, dl_6, dl_7, dl_8, dl_9, dl_10, dl_11, dl_12, dl_13, dl_14, dl_15, dl_16, dl_20, dl_24, dl_31, dl_50, dl_57, dl_67, dl_68, dl_74, dl_75, dl_79, dl_80, dl_99, dl_100, dl_200, dl_210, dl_224, dl_255, dl_289, dl_900, dl_1000, dl_1728, dl_65536, dl_65537, nI_add, pk_mul, pk_sub, pk_div, pk_rem, ds_rem2, nI_clamp, nI_leI, nI_ltI, nI_eq, ds_m1_eq, ds_eq_m1, ds_m2_eq, ds_eq_m2, ds_m1_le, ds_le_m1, ds_m1_lt, ds_lt_m1, ds_in_N, ds_bo0, ds_bo1, if_pos, if_neg, Nat.not_le, Nat.not_lt, not_true_eq_false, not_false_eq_true, if_true, if_false, ne_eq, Option.some.injEq, Prod.mk.injEq, Value.int.injEq, true_and, and_true, and_self, ite_self, Bool.not_eq_true, Bool.not_eq_false, Bool.true_eq_false, Bool.false_eq_true, reduceCtorEq, Nat.zero_add, Nat.reduceAdd, Nat.reduceMul, Nat.reduceSub, ds_setI_row, ds_setL_row, ds_rowI_self, ds_rowI_ne, ds_rowI_2, ds_rowI_rowI, ds_setS_1, ds_setS_21, ds_setS_self, ds_setS_ne, pk_us, pk_un, eN, er]) (by decide)
  have z0 : zk 0 = z := by
    simp only [zk, Nat.not_lt_zero, if_false]
    exact ds_rowL_id z 76
  try simp only at up
  rw [z0] at up
  have hA : ∀ a, ds_isA 76 a = a := fun a => rfl
  have e12 : Int32.ofNat 12 = nI 12 := rfl
  have up' : ds_Rw ds_c_Arrays_fillL ds_u_Arrays_fillL (ds_call d) 6 [some (.ref 76), some (.long (lN 0)), none, some (.int (nI 0)), some (.int (nI 12))] [] z = _ := up
  rw [c_Arrays_fillL, b_Arrays_fillL_0, hA, eN, e12, dl_0, up', b_Arrays_fillL_6]
  simp (disch := first | assumption | omega) only [ds_cI, ds_cV, ds_cL, ds_cR, ds_nn, ds_isK_t, ds_isA_t, ds_chk_t, ds_chkN, ds_nz_t, ds_nzN, ds_isB_t, ds_isB_bo, ↓dl_m1, ↓dl_m2, dl_0, dl_1, dl_2, dl_3, dl_4, dl_5, dl_6, dl_7, dl_8, dl_9, dl_10, dl_11, dl_12, dl_13, dl_14, dl_15, dl_16, dl_20, dl_24, dl_31, dl_50, dl_57, dl_67, dl_68, dl_74, dl_75, dl_79, dl_80, dl_99, dl_100, dl_200, dl_210, dl_224, dl_255, dl_289, dl_900, dl_1000, dl_1728, dl_65536, dl_65537, nI_add, pk_mul, pk_sub, pk_div, pk_rem, ds_rem2, nI_clamp, nI_leI, nI_ltI, nI_eq, ds_m1_eq, ds_eq_m1, ds_m2_eq, ds_eq_m2, ds_m1_le, ds_le_m1, ds_m1_lt, ds_lt_m1, ds_in_N, ds_bo0, ds_bo1, if_pos, if_neg, Nat.not_le, Nat.not_lt, not_true_eq_false, not_false_eq_true, if_true, if_false, ne_eq, Option.some.injEq, Prod.mk.injEq, Value.int.injEq, true_and, and_true, and_self, ite_self, Bool.not_eq_true, Bool.not_eq_false, Bool.true_eq_false, Bool.false_eq_true, reduceCtorEq, Nat.zero_add, Nat.reduceAdd, Nat.reduceMul, Nat.reduceSub, ds_setI_row, ds_setL_row, ds_rowI_self, ds_rowI_ne, ds_rowI_2, ds_rowI_rowI, ds_setS_1, ds_setS_21, ds_setS_self, ds_setS_ne, pk_us, pk_un]
  rfl
def dk_w2 (c : Nat) (W : Nat → Nat) (p : Nat) (g : Nat → Nat) : Nat → Nat → Nat
  | 0 => g
  | m + 1 => fun q => dk_w2 c W p g m q + (if ds_mv m p c = q then W p else 0)
def dk_w1 (c : Nat) (W : Nat → Nat) : Nat → Nat → Nat
  | 0 => fun _ => 0
  | p + 1 => dk_w2 c W p (dk_w1 c W p) (c + 2)
def dk_ww (c p0 : Nat) : Nat → Nat → Nat
  | 0 => fun q => if q = p0 then 1 else 0
  | k + 1 => dk_w1 c (dk_ww c p0 k) c
theorem dk_w2_le {c : Nat} {W : Nat → Nat} {p b : Nat} {g : Nat → Nat} (hW : W p ≤ b) : ∀ m q, dk_w2 c W p g m q ≤ g q + m * b := by
  intro m
  induction m with
  | zero => intro q; simp [dk_w2]
  | succ m ih =>
    intro q
    have := ih q
    simp only [dk_w2]
    rw [Nat.succ_mul]
    split <;> omega
theorem dk_w1_le {c : Nat} {W : Nat → Nat} {b : Nat} (hW : ∀ q, W q ≤ b) : ∀ p q, dk_w1 c W p q ≤ p * ((c + 2) * b) := by
  intro p
  induction p with
  | zero => intro q; simp [dk_w1]
  | succ p ih =>
    intro q
    have h1 := ih q
    have h2 := dk_w2_le (c := c) (g := dk_w1 c W p) (hW p) (c + 2) q
    show dk_w2 c W p (dk_w1 c W p) (c + 2) q ≤ _
    rw [Nat.succ_mul]
    omega
theorem dk_ww_le {c p0 : Nat} (hc : c ≤ 12) : ∀ k q, dk_ww c p0 k q ≤ 168 ^ k := by
  intro k
  induction k with
  | zero => intro q; simp only [dk_ww]; split <;> simp
  | succ k ih =>
    intro q
    have h := dk_w1_le (c := c) ih c q
    have h2 : c * ((c + 2) * 168 ^ k) ≤ 12 * (14 * 168 ^ k) := Nat.mul_le_mul hc (Nat.mul_le_mul_right _ (by omega))
    rw [Nat.pow_succ]
    show dk_w1 c (dk_ww c p0 k) c q ≤ _
    omega
/-- the class's chances: ways W, R rows in all -/
def dk_ct (z : ds_St) (c : Nat) (W : Nat → Nat) (R : Nat) : Prop := z.1 75 2 = nI c ∧ z.2.1 75 3 = lN R ∧ ∀ q, q < 12 → z.2.1 76 q = lN (W q)
theorem s_goOn (d c R : Nat) (W : Nat → Nat) (z : ds_St) (hc : c ≤ 12) (h1 : 1 ≤ c) (h : dk_ct z c W R) : ∃ z', ds_call (d + 3) j_Chances_goOn [.ref 75] z = some (none, z') ∧ dk_ct z' c (dk_w1 c W c) (R * (c + 2)) ∧ z'.1 = z.1 ∧ z'.2.2 = z.2.2 := by
  obtain ⟨e1, e2, e3⟩ := h
  have ki : (if c = 0 then 0 else c + 2) = c + 2 := if_neg (by omega)
  have inner : ∀ m b p z, b + m = c + 2 → p < c → z.1 75 2 = nI c → (∀ q, q < 12 → z.2.1 77 q = lN (W q)) → (∀ q, q < 12 → z.2.1 76 q = lN (dk_w2 c W p (dk_w1 c W p) b q)) → ∃ z', ds_Rw ds_c_Chances_goOn ds_u_Chances_goOn (ds_call (d + 2)) 44 [some (.ref 75), some (.int (nI p)), some (.int (nI b))] [] z = ds_Rw ds_c_Chances_goOn ds_u_Chances_goOn (ds_call (d + 2)) 25 [some (.ref 75), some (.int (nI ((p + 1)))), none] [] z' ∧ z'.1 = z.1 ∧ z'.2.2 = z.2.2 ∧ z'.2.1 75 = z.2.1 75 ∧ (∀ q, q < 12 → z'.2.1 77 q = lN (W q)) ∧ (∀ q, q < 12 → z'.2.1 76 q = lN (dk_w1 c W (p + 1) q)) := by
    intro m
    induction m with
    | zero =>
      intro b p z hb hp e1 e77 e76
      have : b = c + 2 := by omega
      subst this
      have mv := s_movesOf (d + 1) c z (by omega)
      rw [ki] at mv
      refine ⟨z, ?_, rfl, rfl, rfl, e77, e76⟩
      rw [b_Chances_goOn_44]
      simp (disch := first | assumption | omega) only [ds_cI, ds_cV, ds_cL, ds_cR, ds_nn, ds_isK_t, ds_isA_t, ds_chk_t, ds_chkN, ds_nz_t, ds_nzN, ds_isB_t, ds_isB_bo, ↓dl_m1, ↓dl_m2, dl_0, dl_1, dl_2, dl_3, dl_4, dl_5, dl_6, dl_7, dl_8, dl_9, dl_10, dl_11, dl_12, dl_13, dl_14, dl_15, dl_16, dl_20, dl_24, dl_31, dl_50, dl_57, dl_67, dl_68, dl_74, dl_75, dl_79, dl_80, dl_99, dl_100, dl_200, dl_210, dl_224, dl_255, dl_289, dl_900, dl_1000, dl_1728, dl_65536, dl_65537, nI_add, pk_mul, pk_sub, pk_div, pk_rem, ds_rem2, nI_clamp, nI_leI, nI_ltI, nI_eq, ds_m1_eq, ds_eq_m1, ds_m2_eq, ds_eq_m2, ds_m1_le, ds_le_m1, ds_m1_lt, ds_lt_m1, ds_in_N, ds_bo0, ds_bo1, if_pos, if_neg, Nat.not_le, Nat.not_lt, not_true_eq_false, not_false_eq_true, if_true, if_false, ne_eq, Option.some.injEq, Prod.mk.injEq, Value.int.injEq, true_and, and_true, and_self, ite_self, Bool.not_eq_true, Bool.not_eq_false, Bool.true_eq_false, Bool.false_eq_true, reduceCtorEq, Nat.zero_add, Nat.reduceAdd, Nat.reduceMul, Nat.reduceSub, ds_setI_row, ds_setL_row, ds_rowI_self, ds_rowI_ne, ds_rowI_2, ds_rowI_rowI, ds_setS_1, ds_setS_21, ds_setS_self, ds_setS_ne, pk_us, pk_un, e1, mv]
    | succ m ih =>
      intro b p z hb hp e1 e77 e76
      have mv := s_movesOf (d + 1) c z (by omega)
      rw [ki] at mv
      have g := s_goesTo d b p c z (by omega) (by omega) hp
      have hm := (ds_gF_all b (by omega) c (by omega) p hp).2
      have w := e77 p (by omega)
      have t := e76 (ds_mv b p c) (by omega)
      let z1 := ds_rowL z 76 (vp_updL (z.2.1 76) (ds_mv b p c) (lN (dk_w2 c W p (dk_w1 c W p) b (ds_mv b p c) + W p)))
      have s1 : ds_call (d + 2) j_Chances_add [.ref 75, .int (nI (ds_mv b p c)), .long (lN (W p))] z = some (none, z1) := by
        rw [c_Chances_add, b_Chances_add_0]
        simp (disch := first | assumption | omega) only [ds_cI, ds_cV, ds_cL, ds_cR, ds_nn, ds_isK_t, ds_isA_t, ds_chk_t, ds_chkN, ds_nz_t, ds_nzN, ds_isB_t, ds_isB_bo, ↓dl_m1, ↓dl_m2, dl_0, dl_1, dl_2, dl_3, dl_4, dl_5, dl_6, dl_7, dl_8, dl_9, dl_10, dl_11, dl_12, dl_13, dl_14, dl_15, dl_16, dl_20, dl_24, dl_31, dl_50, dl_57, dl_67, dl_68, dl_74, dl_75, dl_79, dl_80, dl_99, dl_100, dl_200, dl_210, dl_224, dl_255, dl_289, dl_900, dl_1000, dl_1728, dl_65536, dl_65537, nI_add, pk_mul, pk_sub, pk_div, pk_rem, ds_rem2, nI_clamp, nI_leI, nI_ltI, nI_eq, ds_m1_eq, ds_eq_m1, ds_m2_eq, ds_eq_m2, ds_m1_le, ds_le_m1, ds_m1_lt, ds_lt_m1, ds_in_N, ds_bo0, ds_bo1, if_pos, if_neg, Nat.not_le, Nat.not_lt, not_true_eq_false, not_false_eq_true, if_true, if_false, ne_eq, Option.some.injEq, Prod.mk.injEq, Value.int.injEq, true_and, and_true, and_self, ite_self, Bool.not_eq_true, Bool.not_eq_false, Bool.true_eq_false, Bool.false_eq_true, reduceCtorEq, Nat.zero_add, Nat.reduceAdd, Nat.reduceMul, Nat.reduceSub, ds_setI_row, ds_setL_row, ds_rowI_self, ds_rowI_ne, ds_rowI_2, ds_rowI_rowI, ds_setS_1, ds_setS_21, ds_setS_self, ds_setS_ne, pk_us, pk_un, t, lN_add]
        rfl
      obtain ⟨z2, q1, q2, q3, q4, q5, q6⟩ := ih (b + 1) p z1 (by omega) hp e1 (fun q hq => by simp only [z1]; rw [ds_rowL_ne _ _ (by decide)]; exact e77 q hq) (fun q hq => by
        simp only [z1, dk_w2]
        rw [ds_rowL_self]
        by_cases h : q = ds_mv b p c
        · rw [h, pk_uLs, if_pos rfl]
        · rw [pk_uLn h, e76 q hq, if_neg (fun h2 => h h2.symm), Nat.add_zero])
      refine ⟨z2, ?_, q2, q3, by rw [q4]; simp only [z1]; rw [ds_rowL_ne _ _ (by decide)], q5, q6⟩
      clear_value z1
      rw [← q1, b_Chances_goOn_44]
      simp (disch := first | assumption | omega) only [ds_cI, ds_cV, ds_cL, ds_cR, ds_nn, ds_isK_t, ds_isA_t, ds_chk_t, ds_chkN, ds_nz_t, ds_nzN, ds_isB_t, ds_isB_bo, ↓dl_m1, ↓dl_m2, dl_0, dl_1, dl_2, dl_3, dl_4, dl_5, dl_6, dl_7, dl_8, dl_9, dl_10, dl_11, dl_12, dl_13, dl_14, dl_15, dl_16, dl_20, dl_24, dl_31, dl_50, dl_57, dl_67, dl_68, dl_74, dl_75, dl_79, dl_80, dl_99, dl_100, dl_200, dl_210, dl_224, dl_255, dl_289, dl_900, dl_1000, dl_1728, dl_65536, dl_65537, nI_add, pk_mul, pk_sub, pk_div, pk_rem, ds_rem2, nI_clamp, nI_leI, nI_ltI, nI_eq, ds_m1_eq, ds_eq_m1, ds_m2_eq, ds_eq_m2, ds_m1_le, ds_le_m1, ds_m1_lt, ds_lt_m1, ds_in_N, ds_bo0, ds_bo1, if_pos, if_neg, Nat.not_le, Nat.not_lt, not_true_eq_false, not_false_eq_true, if_true, if_false, ne_eq, Option.some.injEq, Prod.mk.injEq, Value.int.injEq, true_and, and_true, and_self, ite_self, Bool.not_eq_true, Bool.not_eq_false, Bool.true_eq_false, Bool.false_eq_true, reduceCtorEq, Nat.zero_add, Nat.reduceAdd, Nat.reduceMul, Nat.reduceSub, ds_setI_row, ds_setL_row, ds_rowI_self, ds_rowI_ne, ds_rowI_2, ds_rowI_rowI, ds_setS_1, ds_setS_21, ds_setS_self, ds_setS_ne, pk_us, pk_un, e1, mv, g, w, s1]
  have outer : ∀ m p z, p + m = c → z.1 75 2 = nI c → (∀ q, q < 12 → z.2.1 77 q = lN (W q)) → (∀ q, q < 12 → z.2.1 76 q = lN (dk_w1 c W p q)) → ∃ z', ds_Rw ds_c_Chances_goOn ds_u_Chances_goOn (ds_call (d + 2)) 25 [some (.ref 75), some (.int (nI p)), none] [] z = ds_Rw ds_c_Chances_goOn ds_u_Chances_goOn (ds_call (d + 2)) 86 [some (.ref 75), none, none] [] z' ∧ z'.1 = z.1 ∧ z'.2.2 = z.2.2 ∧ z'.2.1 75 = z.2.1 75 ∧ (∀ q, q < 12 → z'.2.1 76 q = lN (dk_w1 c W c q)) := by
    intro m
    induction m with
    | zero =>
      intro p z hp e1 e77 e76
      have : p = c := by omega
      subst this
      refine ⟨z, ?_, rfl, rfl, rfl, e76⟩
      rw [b_Chances_goOn_25]
      simp (disch := first | assumption | omega) only [ds_cI, ds_cV, ds_cL, ds_cR, ds_nn, ds_isK_t, ds_isA_t, ds_chk_t, ds_chkN, ds_nz_t, ds_nzN, ds_isB_t, ds_isB_bo, ↓dl_m1, ↓dl_m2, dl_0, dl_1, dl_2, dl_3, dl_4, dl_5, dl_6, dl_7, dl_8, dl_9, dl_10, dl_11, dl_12, dl_13, dl_14, dl_15, dl_16, dl_20, dl_24, dl_31, dl_50, dl_57, dl_67, dl_68, dl_74, dl_75, dl_79, dl_80, dl_99, dl_100, dl_200, dl_210, dl_224, dl_255, dl_289, dl_900, dl_1000, dl_1728, dl_65536, dl_65537, nI_add, pk_mul, pk_sub, pk_div, pk_rem, ds_rem2, nI_clamp, nI_leI, nI_ltI, nI_eq, ds_m1_eq, ds_eq_m1, ds_m2_eq, ds_eq_m2, ds_m1_le, ds_le_m1, ds_m1_lt, ds_lt_m1, ds_in_N, ds_bo0, ds_bo1, if_pos, if_neg, Nat.not_le, Nat.not_lt, not_true_eq_false, not_false_eq_true, if_true, if_false, ne_eq, Option.some.injEq, Prod.mk.injEq, Value.int.injEq, true_and, and_true, and_self, ite_self, Bool.not_eq_true, Bool.not_eq_false, Bool.true_eq_false, Bool.false_eq_true, reduceCtorEq, Nat.zero_add, Nat.reduceAdd, Nat.reduceMul, Nat.reduceSub, ds_setI_row, ds_setL_row, ds_rowI_self, ds_rowI_ne, ds_rowI_2, ds_rowI_rowI, ds_setS_1, ds_setS_21, ds_setS_self, ds_setS_ne, pk_us, pk_un, e1]
    | succ m ih =>
      intro p z hp e1 e77 e76
      obtain ⟨z1, s1, s2, s3, s4, s5, s6⟩ := inner (c + 2) 0 p z (by omega) (by omega) e1 e77 e76
      obtain ⟨z2, q1, q2, q3, q4, q5⟩ := ih (p + 1) z1 (by omega) (by rw [s2]; exact e1) s5 s6
      refine ⟨z2, ?_, q2.trans s2, q3.trans s3, q4.trans s4, q5⟩
      rw [← q1, b_Chances_goOn_25]
      simp (disch := first | assumption | omega) only [ds_cI, ds_cV, ds_cL, ds_cR, ds_nn, ds_isK_t, ds_isA_t, ds_chk_t, ds_chkN, ds_nz_t, ds_nzN, ds_isB_t, ds_isB_bo, ↓dl_m1, ↓dl_m2, dl_0, dl_1, dl_2, dl_3, dl_4, dl_5, dl_6, dl_7, dl_8, dl_9, dl_10, dl_11, dl_12, dl_13, dl_14, dl_15, dl_16, dl_20, dl_24, dl_31, dl_50, dl_57, dl_67, dl_68, dl_74, dl_75, dl_79, dl_80, dl_99, dl_100, dl_200, dl_210, dl_224, dl_255, dl_289, dl_900, dl_1000, dl_1728, dl_65536, dl_65537, nI_add, pk_mul, pk_sub, pk_div, pk_rem, ds_rem2, nI_clamp, nI_leI, nI_ltI, nI_eq, ds_m1_eq, ds_eq_m1, ds_m2_eq, ds_eq_m2, ds_m1_le, ds_le_m1, ds_m1_lt, ds_lt_m1, ds_in_N, ds_bo0, ds_bo1, if_pos, if_neg, Nat.not_le, Nat.not_lt, not_true_eq_false, not_false_eq_true, if_true, if_false, ne_eq, Option.some.injEq, Prod.mk.injEq, Value.int.injEq, true_and, and_true, and_self, ite_self, Bool.not_eq_true, Bool.not_eq_false, Bool.true_eq_false, Bool.false_eq_true, reduceCtorEq, Nat.zero_add, Nat.reduceAdd, Nat.reduceMul, Nat.reduceSub, ds_setI_row, ds_setL_row, ds_rowI_self, ds_rowI_ne, ds_rowI_2, ds_rowI_rowI, ds_setS_1, ds_setS_21, ds_setS_self, ds_setS_ne, pk_us, pk_un, e1, s1]
  let z1 := ds_rowL (ds_rowL z 77 (va_cpy (z.2.1 76) (z.2.1 77) 0 0 12)) 76 (fun j => if j < 12 then lN 0 else z.2.1 76 j)
  have f1 : ds_call (d + 2) j_Arrays_fillL [.ref 76, .long (lN 0)] (ds_rowL z 77 (va_cpy (z.2.1 76) (z.2.1 77) 0 0 12)) = some (none, z1) := by
    rw [s_fill76]
    simp only [z1]
    rw [ds_rowL_ne _ _ (by decide)]
  obtain ⟨z2, q1, q2, q3, q4, q5⟩ := outer c 0 z1 (by omega) e1 (fun q hq => by simp only [z1]; rw [ds_rowL_ne _ _ (by decide), ds_rowL_self, pk_cpy_in (by omega) (by omega)]; simpa using e3 q hq) (fun q hq => by simp only [z1]; rw [ds_rowL_self, if_pos hq]; rfl)
  have z175 : z1.2.1 75 = z.2.1 75 := by simp only [z1]; rw [ds_rowL_ne _ _ (by decide), ds_rowL_ne _ _ (by decide)]
  have z11 : z1.1 = z.1 := rfl
  have z122 : z1.2.2 = z.2.2 := rfl
  clear_value z1
  have mv := s_movesOf (d + 1) c z2 (by omega)
  rw [ki] at mv
  have c2 : z2.1 75 2 = nI c := by rw [q2, z11]; exact e1
  have r2 : z2.2.1 75 3 = lN R := by rw [q4, z175]; exact e2
  refine ⟨ds_rowL z2 75 (vp_updL (z2.2.1 75) 3 (lN (R * (c + 2)))), ?_, ⟨c2, by rw [ds_rowL_self, pk_uLs], fun q hq => by rw [ds_rowL_ne _ _ (by decide)]; exact q5 q hq⟩, by rw [ds_rowL_1, q2, z11], by rw [ds_rowL_22, q3, z122]⟩
  have f1' : ds_call (d + 2) j_Arrays_fillL [.ref 76, .long 0] (ds_rowL z 77 (va_cpy (z.2.1 76) (z.2.1 77) 0 0 12)) = some (none, z1) := f1
  rw [c_Chances_goOn, b_Chances_goOn_0, ds_cV_t f1', dl_0, q1, b_Chances_goOn_86]
  simp (disch := first | assumption | omega) only [ds_cI, ds_cV, ds_cL, ds_cR, ds_nn, ds_isK_t, ds_isA_t, ds_chk_t, ds_chkN, ds_nz_t, ds_nzN, ds_isB_t, ds_isB_bo, ↓dl_m1, ↓dl_m2, dl_0, dl_1, dl_2, dl_3, dl_4, dl_5, dl_6, dl_7, dl_8, dl_9, dl_10, dl_11, dl_12, dl_13, dl_14, dl_15, dl_16, dl_20, dl_24, dl_31, dl_50, dl_57, dl_67, dl_68, dl_74, dl_75, dl_79, dl_80, dl_99, dl_100, dl_200, dl_210, dl_224, dl_255, dl_289, dl_900, dl_1000, dl_1728, dl_65536, dl_65537, nI_add, pk_mul, pk_sub, pk_div, pk_rem, ds_rem2, nI_clamp, nI_leI, nI_ltI, nI_eq, ds_m1_eq, ds_eq_m1, ds_m2_eq, ds_eq_m2, ds_m1_le, ds_le_m1, ds_m1_lt, ds_lt_m1, ds_in_N, ds_bo0, ds_bo1, if_pos, if_neg, Nat.not_le, Nat.not_lt, not_true_eq_false, not_false_eq_true, if_true, if_false, ne_eq, Option.some.injEq, Prod.mk.injEq, Value.int.injEq, true_and, and_true, and_self, ite_self, Bool.not_eq_true, Bool.not_eq_false, Bool.true_eq_false, Bool.false_eq_true, reduceCtorEq, Nat.zero_add, Nat.reduceAdd, Nat.reduceMul, Nat.reduceSub, ds_setI_row, ds_setL_row, ds_rowI_self, ds_rowI_ne, ds_rowI_2, ds_rowI_rowI, ds_setS_1, ds_setS_21, ds_setS_self, ds_setS_ne, pk_us, pk_un, c2, mv, r2, nI_l, lN_mul]
theorem s_begin (d c p : Nat) (z : ds_St) (hc : c ≤ 12) (hp : p < 12) : ∃ z', ds_call (d + 2) j_Chances_begin [.ref 75, .int (nI p), .int (nI c)] z = some (none, z') ∧ dk_ct z' c (dk_ww c p 0) 1 ∧ dk_fr 75 78 z z' := by
  have e := s_min d c 12 z (by omega) (by decide)
  rw [Nat.min_eq_left hc] at e
  let z1 := ds_rowL (ds_rowI z 75 (upd (z.1 75) 2 (nI c))) 75 (vp_updL (z.2.1 75) 3 (lN 1))
  have f := s_fill76 d z1
  let z2 := ds_rowL z1 76 (fun j => if j < 12 then lN 0 else z1.2.1 76 j)
  refine ⟨ds_rowL z2 76 (vp_updL (z2.2.1 76) p (lN 1)), ?_, ⟨?_, ?_, ?_⟩, ?_⟩
  · have f' : ds_call (d + 1) j_Arrays_fillL [.ref 76, .long (lN 0)] z1 = some (none, z2) := f
    have ez : ds_rowL (ds_rowI z 75 (upd (z.1 75) 2 (nI c))) 75 (vp_updL (z.2.1 75) 3 (lN 1)) = z1 := rfl
    clear_value z2 z1
    rw [c_Chances_begin, b_Chances_begin_0]
    simp (disch := first | assumption | omega) only [ds_cI, ds_cV, ds_cL, ds_cR, ds_nn, ds_isK_t, ds_isA_t, ds_chk_t, ds_chkN, ds_nz_t, ds_nzN, ds_isB_t, ds_isB_bo, ↓dl_m1, ↓dl_m2, dl_0, dl_1, dl_2, dl_3, dl_4, dl_5, dl_6, dl_7, dl_8, dl_9, dl_10, dl_11, dl_12, dl_13, dl_14, dl_15, dl_16, dl_20, dl_24, dl_31, dl_50, dl_57, dl_67, dl_68, dl_74, dl_75, dl_79, dl_80, dl_99, dl_100, dl_200, dl_210, dl_224, dl_255, dl_289, dl_900, dl_1000, dl_1728, dl_65536, dl_65537, nI_add, pk_mul, pk_sub, pk_div, pk_rem, ds_rem2, nI_clamp, nI_leI, nI_ltI, nI_eq, ds_m1_eq, ds_eq_m1, ds_m2_eq, ds_eq_m2, ds_m1_le, ds_le_m1, ds_m1_lt, ds_lt_m1, ds_in_N, ds_bo0, ds_bo1, if_pos, if_neg, Nat.not_le, Nat.not_lt, not_true_eq_false, not_false_eq_true, if_true, if_false, ne_eq, Option.some.injEq, Prod.mk.injEq, Value.int.injEq, true_and, and_true, and_self, ite_self, Bool.not_eq_true, Bool.not_eq_false, Bool.true_eq_false, Bool.false_eq_true, reduceCtorEq, Nat.zero_add, Nat.reduceAdd, Nat.reduceMul, Nat.reduceSub, ds_setI_row, ds_setL_row, ds_rowI_self, ds_rowI_ne, ds_rowI_2, ds_rowI_rowI, ds_setS_1, ds_setS_21, ds_setS_self, ds_setS_ne, pk_us, pk_un, e, dL_0, dL_1, ez, f']
  · show (ds_rowI z 75 (upd (z.1 75) 2 (nI c))).1 75 2 = _
    rw [ds_rowI_self, pk_us]
  · simp only [z2, z1]
    rw [ds_rowL_ne _ _ (by decide), ds_rowL_ne _ _ (by decide), ds_rowL_self, pk_uLs]
  · intro q hq
    rw [ds_rowL_self]
    simp only [dk_ww]
    by_cases h : q = p
    · rw [h, pk_uLs, if_pos rfl]
    · rw [pk_uLn h, if_neg h]
      simp only [z2]
      rw [ds_rowL_self, if_pos hq]
  · exact ⟨fun q hq => by show (ds_rowI z 75 (upd (z.1 75) 2 (nI c))).1 q = _; rw [ds_rowI_ne _ _ (by omega)], fun j hj => rfl⟩
