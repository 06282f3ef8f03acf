/-! bytes fed -/
theorem dk_byte_low (x : Int32) : (x &&& 255).toInt8 = x.toInt8 := by
  apply Int8.toBitVec_inj.mp
  rw [Int32.toBitVec_toInt8, Int32.toBitVec_toInt8, Int32.toBitVec_and]
  apply BitVec.eq_of_getLsbD_eq
  intro i hi
  have hm : ∀ i, i < 8 → (255 : Int32).toBitVec.getLsbD i = true := by decide
  rw [BitVec.getLsbD_signExtend, BitVec.getLsbD_signExtend, if_pos (by omega), if_pos (by omega), BitVec.getLsbD_and, hm i hi, Bool.and_true]
/-- the i-th byte of a word, the highest first -/
def dk_by (x : Int32) (i : Nat) : Nat := (x >>> (nI (24 - 8 * i) &&& nI 31)).toBitVec.toNat % 256
theorem dk_by_lt (x : Int32) (i : Nat) : dk_by x i < 256 := Nat.mod_lt _ (by decide)
theorem dk_by_m (x : Int32) (i : Nat) : (x >>> (nI (24 - 8 * i) &&& nI 31)) &&& nI 255 = nI (dk_by x i) := pk_and _ 8 (by decide)
theorem dk_by_c (x : Int32) (i : Nat) : vp_nar .byte ((x >>> (nI (24 - 8 * i) &&& nI 31)).toInt8.toInt32) = (nI (dk_by x i)).toInt8.toInt32 := by
  rw [pk_vb, ← dk_by_m]
  congr 1
  exact (dk_byte_low _).symm
theorem dk_sh (i : Nat) (hi : i < 3) : nI (24 - 8 * i) + (-8) = nI (24 - 8 * (i + 1)) := by
  have : i = 0 ∨ i = 1 ∨ i = 2 := by omega
  rcases this with rfl | rfl | rfl <;> decide
def dk_cb (x : Int32) (i : Nat) : Int32 := (nI (dk_by x i)).toInt8.toInt32
theorem s_lengthen (d f : Nat) (x : Int32) (z : ds_St) (hf : f + 4 ≤ 900) (e1 : z.1 1 1 = nI f) : ∃ z', ds_call (d + 1) j_Reader_lengthen [.ref 1, .int x] z = some (none, z') ∧ z'.1 1 1 = nI (f + 4) ∧ (∀ j, z'.1 2 j = if f ≤ j ∧ j < f + 4 then dk_cb x (j - f) else z.1 2 j) ∧ (∀ p, p ≠ 1 → p ≠ 2 → z'.1 p = z.1 p) ∧ z'.2 = z.2 := by
  let zk : Nat → ds_St := fun k => ds_rowI (ds_rowI z 2 (fun j => if f ≤ j ∧ j < f + k then dk_cb x (j - f) else z.1 2 j)) 1 (upd (z.1 1) 1 (nI (f + k)))
  have step : ∀ k, k < 4 → ds_Rw ds_c_Reader_lengthen ds_u_Reader_lengthen (ds_call d) 3 [some (.ref 1), some (.int x), some (.int (nI (24 - 8 * k)))] [] (zk k) = ds_Rw ds_c_Reader_lengthen ds_u_Reader_lengthen (ds_call d) 3 [some (.ref 1), some (.int x), some (.int (nI (24 - 8 * k) + (-8)))] [] (zk (k + 1)) := by
    intro k hk
    have c1 : (zk k).1 1 1 = nI (f + k) := by simp only [zk]; rw [ds_rowI_self, pk_us]
    have er : ds_setI (ds_setI (zk k) 2 (f + k) (dk_cb x k)) 1 1 (nI (f + k + 1)) = zk (k + 1) := by
      simp only [ds_setI_row, zk]
      rw [ds_rowI_ne _ _ (show (1 : Nat) ≠ 2 by decide), ds_rowI_ne _ _ (show (2 : Nat) ≠ 1 by decide), ds_rowI_self, ds_rowI_self, ds_rowI_comm (ds_rowI z 2 _) _ _ (show (1 : Nat) ≠ 2 by decide), ds_rowI_rowI, ds_rowI_rowI]
      have e1 : upd (upd (z.1 1) 1 (nI (f + k))) 1 (nI (f + k + 1)) = upd (z.1 1) 1 (nI (f + (k + 1))) := by
        funext j
        unfold upd
        by_cases h : j = 1
        · rw [if_pos h, if_pos h]; rfl
        · rw [if_neg h, if_neg h, if_neg h]
      rw [e1]
      congr 1
      apply ds_rowI_congr
      intro j
      dsimp only [upd]
      by_cases h : j = f + k
      · rw [if_pos h, if_pos (by omega), h, Nat.add_sub_cancel_left]
      · rw [if_neg h]
        by_cases h2 : f ≤ j ∧ j < f + k
        · rw [if_pos h2, if_pos (by omega)]
        · rw [if_neg h2, if_neg (by omega)]
    rw [b_Reader_lengthen_3, c1]
    have g1 : ¬ nI (24 - 8 * k) < 0 := nI_pos (by omega)
    have g2 : ¬ nI (f + k) < 0 := nI_pos (by omega)
    have g3 : ¬ (900 : Int32) ≤ nI (f + k) := nI_ge (b := 900) (by omega) (by decide)
    rw [if_neg g1, if_neg g2, if_neg g3, ds_chkN (by omega) (by decide), nI_clamp (by omega)]
    have g4 := dk_by_c x k
    have g5 : (31 : Int32) = nI 31 := rfl
    rw [g5, g4, nI_1]
    have er' := er
    unfold dk_cb at er'
    rw [er']
  have zz : zk 0 = z := by
    simp only [zk]
    have e2 : (fun j => if f ≤ j ∧ j < f + 0 then dk_cb x (j - f) else z.1 2 j) = z.1 2 := by
      funext j
      rw [if_neg (by omega)]
    have e3 : upd (z.1 1) 1 (nI (f + 0)) = z.1 1 := by
      funext j
      unfold upd
      by_cases h : j = 1
      · rw [if_pos h, h, Nat.add_zero, e1]
      · rw [if_neg h]
    rw [e2, ds_rowI_id, e3, ds_rowI_id]
  refine ⟨zk 4, ?_, ?_, ?_, ?_, rfl⟩
  · have s0 := step 0 (by decide)
    have s1 := step 1 (by decide)
    have s2 := step 2 (by decide)
    have s3 := step 3 (by decide)
    rw [dk_sh 0 (by decide)] at s0
    rw [dk_sh 1 (by decide)] at s1
    rw [dk_sh 2 (by decide)] at s2
    rw [zz] at s0
    have e24 : (24 : Int32) = nI (24 - 8 * 0) := rfl
    rw [c_Reader_lengthen, b_Reader_lengthen_0, e24, s0, s1, s2, s3, b_Reader_lengthen_3, if_pos (by decide)]
    rfl
  · simp only [zk]; rw [ds_rowI_self, pk_us]
  · intro j
    simp only [zk]
    rw [ds_rowI_ne _ _ (by decide), ds_rowI_self]
  · intro p h1 h2
    simp only [zk]
    rw [ds_rowI_ne _ _ h1, ds_rowI_ne _ _ h2]
/-- the word that holds the k-th byte -/
def dk_wd (a b c e g : Int32) (k : Nat) : Int32 := if k < 4 then a else if k < 8 then b else if k < 12 then c else if k < 16 then e else g
theorem s_mfeed (d f : Nat) (a b c e g : Int32) (z : ds_St) (hf : f + 20 ≤ 900) (e1 : z.1 90 2 = nI f) : ∃ z', ds_Rw ds_c_Mod_feed ds_u_Mod_feed (ds_call (d + 0)) 23 [some (.ref 90), some (.int a), some (.int b), some (.int c), some (.int e), some (.int g), some (.int (nI 0)), none] [] z = some (some (.int (nI (f + 20))), z') ∧ z'.1 90 = upd (z.1 90) 2 (nI (f + 20)) ∧ (∀ j, z'.1 91 j = if f ≤ j ∧ j < f + 20 then nI (dk_by (dk_wd a b c e g (j - f)) ((j - f) % 4)) else z.1 91 j) ∧ (∀ p, p ≠ 90 → p ≠ 91 → z'.1 p = z.1 p) ∧ z'.2 = z.2 := by
  let zk : Nat → ds_St := fun k => ds_rowI (ds_rowI z 91 (fun j => if f ≤ j ∧ j < f + k then nI (dk_by (dk_wd a b c e g (j - f)) ((j - f) % 4)) else z.1 91 j)) 90 (upd (z.1 90) 2 (nI (f + k)))
  have up := ds_up (F := fun k => ds_Rw ds_c_Mod_feed ds_u_Mod_feed (ds_call (d + 0)) 23 [some (.ref 90), some (.int a), some (.int b), some (.int c), some (.int e), some (.int g), some (.int (nI k)), none] [] (zk k)) (n := 20) 0 (by
    intro k _ hk
    have c1 : (zk k).1 90 2 = nI (f + k) := by simp only [zk]; rw [ds_rowI_self, pk_us]
    have er : ds_setI (ds_setI (zk k) 91 (f + k) (nI (dk_by (dk_wd a b c e g k) (k % 4)))) 90 2 (nI (f + k + 1)) = zk (k + 1) := by
      simp only [ds_setI_row, zk]
      rw [ds_rowI_ne _ _ (show (90 : Nat) ≠ 91 by decide), ds_rowI_ne _ _ (show (91 : Nat) ≠ 90 by decide), ds_rowI_self, ds_rowI_self, ds_rowI_comm (ds_rowI z 91 _) _ _ (show (90 : Nat) ≠ 91 by decide), ds_rowI_rowI, ds_rowI_rowI]
      have e1 : upd (upd (z.1 90) 2 (nI (f + k))) 2 (nI (f + k + 1)) = upd (z.1 90) 2 (nI (f + (k + 1))) := by
        funext j
        unfold upd
        by_cases h : j = 2
        · rw [if_pos h, if_pos h]; rfl
        · rw [if_neg h, if_neg h, if_neg h]
      rw [e1]
      congr 1
      apply ds_rowI_congr
      intro j
      dsimp only [upd]
      by_cases h : j = f + k
      · rw [if_pos h, if_pos (by omega), h, Nat.add_sub_cancel_left]
      · rw [if_neg h]
        by_cases h2 : f ≤ j ∧ j < f + k
        · rw [if_pos h2, if_pos (by omega)]
        · rw [if_neg h2, if_neg (by omega)]
    have h76 : ∀ w, dk_wd a b c e g k = w → ds_Rw ds_c_Mod_feed ds_u_Mod_feed (ds_call (d + 0)) 76 [some (.ref 90), some (.int a), some (.int b), some (.int c), some (.int e), some (.int g), some (.int (nI k)), none] [.int w] (zk k) = ds_Rw ds_c_Mod_feed ds_u_Mod_feed (ds_call (d + 0)) 23 [some (.ref 90), some (.int a), some (.int b), some (.int c), some (.int e), some (.int g), some (.int (nI ((k + 1)))), none] [] (zk (k + 1)) := by
      intro w hw
      rw [b_Mod_feed_76, c1, ds_chkN (by omega) (by decide), nI_clamp (by omega)]
      have e4 : nI k - nI k / 4 * 4 = nI (k % 4) := by
        have := pk_rem (a := k) (d := 4) (by omega) (by decide) (by decide)
        exact this
      have e5 : (24 : Int32) - 8 * nI (k % 4) = nI (24 - 8 * (k % 4)) := by
        have h8 : (8 : Int32) * nI (k % 4) = nI (8 * (k % 4)) := pk_mul 8 (k % 4)
        rw [h8]
        exact pk_sub (a := 24) (b := 8 * (k % 4)) (by omega)
      have e6 := dk_by_m w (k % 4)
      have g5 : (31 : Int32) = nI 31 := rfl
      have g6 : (255 : Int32) = nI 255 := rfl
      rw [e4, e5, g5, g6, e6, nI_1, nI_1, ← hw, er]
    rw [b_Mod_feed_23]
    by_cases q1 : k < 4
    · have hh := h76 a (by unfold dk_wd; rw [if_pos q1])
      simp (disch := first | assumption | omega) only [ds_cI, ds_cV, ds_cL, ds_cR, ds_nn, ds_isK_t, ds_isA_t, ds_chk_t, ds_chkN, ds_nz_t, ds_nzN, ds_isB_t, ds_isB_bo, ↓dl_m1, ↓dl_m2, dl_0, dl_1, dl_2, dl_3, dl_4, dl_5, dl_6, dl_7, dl_8, dl_9, dl_10, dl_11, dl_12, dl_13, dl_14, dl_15, dl_16, dl_20, dl_24, dl_31, dl_50, dl_57, dl_67, dl_68, dl_74, dl_75, dl_79, dl_80, dl_99, dl_100, dl_200, dl_210, dl_224, dl_255, dl_289, dl_900, dl_1000, dl_1728, dl_65536, dl_65537, nI_add, pk_mul, pk_sub, pk_div, pk_rem, ds_rem2, nI_clamp, nI_leI, nI_ltI, nI_eq, ds_m1_eq, ds_eq_m1, ds_m2_eq, ds_eq_m2, ds_m1_le, ds_le_m1, ds_m1_lt, ds_lt_m1, ds_in_N, ds_bo0, ds_bo1, if_pos, if_neg, Nat.not_le, Nat.not_lt, not_true_eq_false, not_false_eq_true, if_true, if_false, ne_eq, Option.some.injEq, Prod.mk.injEq, Value.int.injEq, true_and, and_true, and_self, ite_self, Bool.not_eq_true, Bool.not_eq_false, Bool.true_eq_false, Bool.false_eq_true, reduceCtorEq, Nat.zero_add, Nat.reduceAdd, Nat.reduceMul, Nat.reduceSub, ds_setI_row, ds_setL_row, ds_rowI_self, ds_rowI_ne, ds_rowI_2, ds_rowI_rowI, ds_setS_1, ds_setS_21, ds_setS_self, ds_setS_ne, pk_us, pk_un, hh]
    · by_cases q2 : k < 8
      · have hh := h76 b (by unfold dk_wd; rw [if_neg q1, if_pos q2])
        simp (disch := first | assumption | omega) only [ds_cI, ds_cV, ds_cL, ds_cR, ds_nn, ds_isK_t, ds_isA_t, ds_chk_t, ds_chkN, ds_nz_t, ds_nzN, ds_isB_t, ds_isB_bo, ↓dl_m1, ↓dl_m2, dl_0, dl_1, dl_2, dl_3, dl_4, dl_5, dl_6, dl_7, dl_8, dl_9, dl_10, dl_11, dl_12, dl_13, dl_14, dl_15, dl_16, dl_20, dl_24, dl_31, dl_50, dl_57, dl_67, dl_68, dl_74, dl_75, dl_79, dl_80, dl_99, dl_100, dl_200, dl_210, dl_224, dl_255, dl_289, dl_900, dl_1000, dl_1728, dl_65536, dl_65537, nI_add, pk_mul, pk_sub, pk_div, pk_rem, ds_rem2, nI_clamp, nI_leI, nI_ltI, nI_eq, ds_m1_eq, ds_eq_m1, ds_m2_eq, ds_eq_m2, ds_m1_le, ds_le_m1, ds_m1_lt, ds_lt_m1, ds_in_N, ds_bo0, ds_bo1, if_pos, if_neg, Nat.not_le, Nat.not_lt, not_true_eq_false, not_false_eq_true, if_true, if_false, ne_eq, Option.some.injEq, Prod.mk.injEq, Value.int.injEq, true_and, and_true, and_self, ite_self, Bool.not_eq_true, Bool.not_eq_false, Bool.true_eq_false, Bool.false_eq_true, reduceCtorEq, Nat.zero_add, Nat.reduceAdd, Nat.reduceMul, Nat.reduceSub, ds_setI_row, ds_setL_row, ds_rowI_self, ds_rowI_ne, ds_rowI_2, ds_rowI_rowI, ds_setS_1, ds_setS_21, ds_setS_self, ds_setS_ne, pk_us, pk_un, hh]
      · by_cases q3 : k < 12
        · have hh := h76 c (by unfold dk_wd; rw [if_neg q1, if_neg q2, if_pos q3])
          simp (disch := first | assumption | omega) only [ds_cI, ds_cV, ds_cL, ds_cR, ds_nn, ds_isK_t, ds_isA_t, ds_chk_t, ds_chkN, ds_nz_t, ds_nzN, ds_isB_t, ds_isB_bo, ↓dl_m1, ↓dl_m2, dl_0, dl_1, dl_2, dl_3, dl_4, dl_5, dl_6, dl_7, dl_8, dl_9, dl_10, dl_11, dl_12, dl_13, dl_14, dl_15, dl_16, dl_20, dl_24, dl_31, dl_50, dl_57, dl_67, dl_68, dl_74, dl_75, dl_79, dl_80, dl_99, dl_100, dl_200, dl_210, dl_224, dl_255, dl_289, dl_900, dl_1000, dl_1728, dl_65536, dl_65537, nI_add, pk_mul, pk_sub, pk_div, pk_rem, ds_rem2, nI_clamp, nI_leI, nI_ltI, nI_eq, ds_m1_eq, ds_eq_m1, ds_m2_eq, ds_eq_m2, ds_m1_le, ds_le_m1, ds_m1_lt, ds_lt_m1, ds_in_N, ds_bo0, ds_bo1, if_pos, if_neg, Nat.not_le, Nat.not_lt, not_true_eq_false, not_false_eq_true, if_true, if_false, ne_eq, Option.some.injEq, Prod.mk.injEq, Value.int.injEq, true_and, and_true, and_self, ite_self, Bool.not_eq_true, Bool.not_eq_false, Bool.true_eq_false, Bool.false_eq_true, reduceCtorEq, Nat.zero_add, Nat.reduceAdd, Nat.reduceMul, Nat.reduceSub, ds_setI_row, ds_setL_row, ds_rowI_self, ds_rowI_ne, ds_rowI_2, ds_rowI_rowI, ds_setS_1, ds_setS_21, ds_setS_self, ds_setS_ne, pk_us, pk_un, hh]
        · by_cases q4 : k < 16
          · have hh := h76 e (by unfold dk_wd; rw [if_neg q1, if_neg q2, if_neg q3, if_pos q4])
            simp (disch := first | assumption | omega) only [ds_cI, ds_cV, ds_cL, ds_cR, ds_nn, ds_isK_t, ds_isA_t, ds_chk_t, ds_chkN, ds_nz_t, ds_nzN, ds_isB_t, ds_isB_bo, ↓dl_m1, ↓dl_m2, dl_0, dl_1, dl_2, dl_3, dl_4, dl_5, dl_6, dl_7, dl_8, dl_9, dl_10, dl_11, dl_12, dl_13, dl_14, dl_15, dl_16, dl_20, dl_24, dl_31, dl_50, dl_57, dl_67, dl_68, dl_74, dl_75, dl_79, dl_80, dl_99, dl_100, dl_200, dl_210, dl_224, dl_255, dl_289, dl_900, dl_1000, dl_1728, dl_65536, dl_65537, nI_add, pk_mul, pk_sub, pk_div, pk_rem, ds_rem2, nI_clamp, nI_leI, nI_ltI, nI_eq, ds_m1_eq, ds_eq_m1, ds_m2_eq, ds_eq_m2, ds_m1_le, ds_le_m1, ds_m1_lt, ds_lt_m1, ds_in_N, ds_bo0, ds_bo1, if_pos, if_neg, Nat.not_le, Nat.not_lt, not_true_eq_false, not_false_eq_true, if_true, if_false, ne_eq, Option.some.injEq, Prod.mk.injEq, Value.int.injEq, true_and, and_true, and_self, ite_self, Bool.not_eq_true, Bool.not_eq_false, Bool.true_eq_false, Bool.false_eq_true, reduceCtorEq, Nat.zero_add, Nat.reduceAdd, Nat.reduceMul, Nat.reduceSub, ds_setI_row, ds_setL_row, ds_rowI_self, ds_rowI_ne, ds_rowI_2, ds_rowI_rowI, ds_setS_1, ds_setS_21, ds_setS_self, ds_setS_ne, pk_us, pk_un, hh]
          · have hh := h76 g (by unfold dk_wd; rw [if_neg q1, if_neg q2, if_neg q3, if_neg q4])
            simp (disch := first | assumption | omega) only [ds_cI, ds_cV, ds_cL, ds_cR, ds_nn, ds_isK_t, ds_isA_t, ds_chk_t, ds_chkN, ds_nz_t, ds_nzN, ds_isB_t, ds_isB_bo, ↓dl_m1, ↓dl_m2, dl_0, dl_1, dl_2, dl_3, dl_4, dl_5, dl_6, dl_7, dl_8, dl_9, dl_10, dl_11, dl_12, dl_13, dl_14, dl_15, dl_16, dl_20, dl_24, dl_31, dl_50, dl_57, dl_67, dl_68, dl_74, dl_75, dl_79, dl_80, dl_99, dl_100, dl_200, dl_210, dl_224, dl_255, dl_289, dl_900, dl_1000, dl_1728, dl_65536, dl_65537, nI_add, pk_mul, pk_sub, pk_div, pk_rem, ds_rem2, nI_clamp, nI_leI, nI_ltI, nI_eq, ds_m1_eq, ds_eq_m1, ds_m2_eq, ds_eq_m2, ds_m1_le, ds_le_m1, ds_m1_lt, ds_lt_m1, ds_in_N, ds_bo0, ds_bo1, if_pos, if_neg, Nat.not_le, Nat.not_lt, not_true_eq_false, not_false_eq_true, if_true, if_false, ne_eq, Option.some.injEq, Prod.mk.injEq, Value.int.injEq, true_and, and_true, and_self, ite_self, Bool.not_eq_true, Bool.not_eq_false, Bool.true_eq_false, Bool.false_eq_true, reduceCtorEq, Nat.zero_add, Nat.reduceAdd, Nat.reduceMul, Nat.reduceSub, ds_setI_row, ds_setL_row, ds_rowI_self, ds_rowI_ne, ds_rowI_2, ds_rowI_rowI, ds_setS_1, ds_setS_21, ds_setS_self, ds_setS_ne, pk_us, pk_un, hh]) (by decide)
  have zz : zk 0 = z := by
    simp only [zk]
    have e2 : (fun j => if f ≤ j ∧ j < f + 0 then nI (dk_by (dk_wd a b c e g (j - f)) ((j - f) % 4)) else z.1 91 j) = z.1 91 := by
      funext j
      rw [if_neg (by omega)]
    have e3 : upd (z.1 90) 2 (nI (f + 0)) = z.1 90 := by
      funext j
      unfold upd
      by_cases h : j = 2
      · rw [if_pos h, h, Nat.add_zero, e1]
      · rw [if_neg h]
    rw [e2, ds_rowI_id, e3, ds_rowI_id]
  refine ⟨zk 20, ?_, ?_, ?_, ?_, rfl⟩
  · try simp only at up
    rw [zz] at up
    have c1 : (zk 20).1 90 2 = nI (f + 20) := by simp only [zk]; rw [ds_rowI_self, pk_us]
    clear_value zk
    rw [up, b_Mod_feed_23]
    simp (disch := first | assumption | omega) only [ds_cI, ds_cV, ds_cL, ds_cR, ds_nn, ds_isK_t, ds_isA_t, ds_chk_t, ds_chkN, ds_nz_t, ds_nzN, ds_isB_t, ds_isB_bo, ↓dl_m1, ↓dl_m2, dl_0, dl_1, dl_2, dl_3, dl_4, dl_5, dl_6, dl_7, dl_8, dl_9, dl_10, dl_11, dl_12, dl_13, dl_14, dl_15, dl_16, dl_20, dl_24, dl_31, dl_50, dl_57, dl_67, dl_68, dl_74, dl_75, dl_79, dl_80, dl_99, dl_100, dl_200, dl_210, dl_224, dl_255, dl_289, dl_900, dl_1000, dl_1728, dl_65536, dl_65537, nI_add, pk_mul, pk_sub, pk_div, pk_rem, ds_rem2, nI_clamp, nI_leI, nI_ltI, nI_eq, ds_m1_eq, ds_eq_m1, ds_m2_eq, ds_eq_m2, ds_m1_le, ds_le_m1, ds_m1_lt, ds_lt_m1, ds_in_N, ds_bo0, ds_bo1, if_pos, if_neg, Nat.not_le, Nat.not_lt, not_true_eq_false, not_false_eq_true, if_true, if_false, ne_eq, Option.some.injEq, Prod.mk.injEq, Value.int.injEq, true_and, and_true, and_self, ite_self, Bool.not_eq_true, Bool.not_eq_false, Bool.true_eq_false, Bool.false_eq_true, reduceCtorEq, Nat.zero_add, Nat.reduceAdd, Nat.reduceMul, Nat.reduceSub, ds_setI_row, ds_setL_row, ds_rowI_self, ds_rowI_ne, ds_rowI_2, ds_rowI_rowI, ds_setS_1, ds_setS_21, ds_setS_self, ds_setS_ne, pk_us, pk_un, c1]
  · simp only [zk]; rw [ds_rowI_self]
  · intro j
    simp only [zk]
    rw [ds_rowI_ne _ _ (by decide), ds_rowI_self]
  · intro p h1 h2
    simp only [zk]
    rw [ds_rowI_ne _ _ h1, ds_rowI_ne _ _ h2]
