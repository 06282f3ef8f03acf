theorem dk_wd_by (a b c e g : Int32) (k : Nat) (i : Nat) (hi : i < 5) (h1 : 4 * i ≤ k) (h2 : k < 4 * i + 4) : dk_wd a b c e g k = (if i = 0 then a else if i = 1 then b else if i = 2 then c else if i = 3 then e else g) ∧ k % 4 = k - 4 * i := by
  unfold dk_wd
  have : i = 0 ∨ i = 1 ∨ i = 2 ∨ i = 3 ∨ i = 4 := by omega
  rcases this with rfl | rfl | rfl | rfl | rfl
  · rw [if_pos (by omega)]; exact ⟨rfl, by omega⟩
  · rw [if_neg (by omega), if_pos (by omega)]; exact ⟨rfl, by omega⟩
  · rw [if_neg (by omega), if_neg (by omega), if_pos (by omega)]; exact ⟨rfl, by omega⟩
  · rw [if_neg (by omega), if_neg (by omega), if_neg (by omega), if_pos (by omega)]; exact ⟨rfl, by omega⟩
  · rw [if_neg (by omega), if_neg (by omega), if_neg (by omega), if_neg (by omega)]; exact ⟨rfl, by omega⟩
theorem k_feed (d : Nat) (a b c e g : Int32) (z : ds_St) (h : dk_Inv z) : ∃ v z1 z2, ds_call (d + 20) j_Sea_feed [.ref 0, .int a, .int b, .int c, .int e, .int g] z = some (some v, z1) ∧ ds_call (d + 20) j_Mod_feed [.ref 90, .int a, .int b, .int c, .int e, .int g] z1 = some (some v, z2) ∧ dk_Inv z2 := by
  have h0 := h
  obtain ⟨t, t', D, K, U, u, M, m, f, B, hc, hm, ho, e1, e2, e3⟩ := h0
  have a3 : z.1 1 1 = nI f := hc.2.2.2.2.2.1
  have b3 : z.1 90 2 = nI f := hm.2.2.2.2.2.1
  have hB := hc.2.2.2.2.2.2
  have hBm := hm.2.2.2.2.2.2
  have f9 := ho.2.1
  by_cases hf : f + 20 ≤ 900
  · obtain ⟨z1, s1, c1, t1, o1, r1⟩ := s_lengthen (d + 18) f a z (by omega) a3
    obtain ⟨z2, s2, c2, t2, o2, r2⟩ := s_lengthen (d + 18) (f + 4) b z1 (by omega) c1
    obtain ⟨z3, s3, c3, t3, o3, r3⟩ := s_lengthen (d + 18) (f + 4 + 4) c z2 (by omega) c2
    obtain ⟨z4, s4, c4, t4, o4, r4⟩ := s_lengthen (d + 18) (f + 4 + 4 + 4) e z3 (by omega) c3
    obtain ⟨z5, s5, c5, t5, o5, r5⟩ := s_lengthen (d + 18) (f + 4 + 4 + 4 + 4) g z4 (by omega) c4
    have oo : ∀ p, p ≠ 1 → p ≠ 2 → z5.1 p = z.1 p := fun p h1 h2 => by rw [o5 p h1 h2, o4 p h1 h2, o3 p h1 h2, o2 p h1 h2, o1 p h1 h2]
    have rr : z5.2 = z.2 := by rw [r5, r4, r3, r2, r1]
    let B' : Nat → Nat := fun j => if j < f then B j else dk_by (dk_wd a b c e g (j - f)) ((j - f) % 4)
    have tt : ∀ j, j < f + 20 → z5.1 2 j = (nI (B' j)).toInt8.toInt32 := by
      intro j hj
      simp only [B']
      rw [t5]
      by_cases h5 : f + 4 + 4 + 4 + 4 ≤ j ∧ j < f + 4 + 4 + 4 + 4 + 4
      · obtain ⟨w1, w2⟩ := dk_wd_by a b c e g (j - f) 4 (by decide) (by omega) (by omega)
        rw [if_pos h5, if_neg (by omega), w1, w2, show j - f - 4 * 4 = j - (f + 4 + 4 + 4 + 4) by omega]
        rfl
      · rw [if_neg h5, t4]
        by_cases h4 : f + 4 + 4 + 4 ≤ j ∧ j < f + 4 + 4 + 4 + 4
        · obtain ⟨w1, w2⟩ := dk_wd_by a b c e g (j - f) 3 (by decide) (by omega) (by omega)
          rw [if_pos h4, if_neg (by omega), w1, w2, show j - f - 4 * 3 = j - (f + 4 + 4 + 4) by omega]
          rfl
        · rw [if_neg h4, t3]
          by_cases h3 : f + 4 + 4 ≤ j ∧ j < f + 4 + 4 + 4
          · obtain ⟨w1, w2⟩ := dk_wd_by a b c e g (j - f) 2 (by decide) (by omega) (by omega)
            rw [if_pos h3, if_neg (by omega), w1, w2, show j - f - 4 * 2 = j - (f + 4 + 4) by omega]
            rfl
          · rw [if_neg h3, t2]
            by_cases h2 : f + 4 ≤ j ∧ j < f + 4 + 4
            · obtain ⟨w1, w2⟩ := dk_wd_by a b c e g (j - f) 1 (by decide) (by omega) (by omega)
              rw [if_pos h2, if_neg (by omega), w1, w2, show j - f - 4 * 1 = j - (f + 4) by omega]
              rfl
            · rw [if_neg h2, t1]
              by_cases h1 : f ≤ j ∧ j < f + 4
              · obtain ⟨w1, w2⟩ := dk_wd_by a b c e g (j - f) 0 (by decide) (by omega) (by omega)
                rw [if_pos h1, if_neg (by omega), w1, w2, show j - f - 4 * 0 = j - f by omega]
                rfl
              · rw [if_neg h1, if_pos (by omega)]
                exact hB j (by omega)
    have b5 : (ds_rowI z5 90 (upd (z5.1 90) 0 (nI 0))).1 90 2 = nI f := by rw [ds_rowI_self, pk_un (by decide), oo 90 (by decide) (by decide)]; exact b3
    obtain ⟨y, q1, q2, q3, q4, q5⟩ := s_mfeed (d + 19) f a b c e g (ds_rowI z5 90 (upd (z5.1 90) 0 (nI 0))) hf b5
    refine ⟨.int (nI (f + 20)), z5, y, ?_, ?_, ?_⟩
    · rw [c_Sea_feed, b_Sea_feed_0]
      have c5' : z5.1 1 1 = nI (f + 20) := c5
      simp (disch := first | assumption | omega) only [ds_cI, ds_cV, ds_cL, ds_cR, ds_nn, ds_isK_t, ds_isA_t, ds_chk_t, ds_chkN, ds_nz_t, ds_nzN, ds_isB_t, ds_isB_bo, ↓dl_m1, ↓dl_m2, dl_0, dl_1, dl_2, dl_3, dl_4, dl_5, dl_6, dl_7, dl_8, dl_9, dl_10, dl_11, dl_12, dl_13, dl_14, dl_15, dl_16, dl_20, dl_24, dl_31, dl_50, dl_57, dl_67, dl_68, dl_74, dl_75, dl_79, dl_80, dl_99, dl_100, dl_200, dl_210, dl_224, dl_255, dl_289, dl_900, dl_1000, dl_1728, dl_65536, dl_65537, nI_add, pk_mul, pk_sub, pk_div, pk_rem, ds_rem2, nI_clamp, nI_leI, nI_ltI, nI_eq, ds_m1_eq, ds_eq_m1, ds_m2_eq, ds_eq_m2, ds_m1_le, ds_le_m1, ds_m1_lt, ds_lt_m1, ds_in_N, ds_bo0, ds_bo1, if_pos, if_neg, Nat.not_le, Nat.not_lt, not_true_eq_false, not_false_eq_true, if_true, if_false, ne_eq, Option.some.injEq, Prod.mk.injEq, Value.int.injEq, true_and, and_true, and_self, ite_self, Bool.not_eq_true, Bool.not_eq_false, Bool.true_eq_false, Bool.false_eq_true, reduceCtorEq, Nat.zero_add, Nat.reduceAdd, Nat.reduceMul, Nat.reduceSub, ds_setI_row, ds_setL_row, ds_rowI_self, ds_rowI_ne, ds_rowI_2, ds_rowI_rowI, ds_setS_1, ds_setS_21, ds_setS_self, ds_setS_ne, pk_us, pk_un, a3, s1, s2, s3, s4, s5, c5']
    · have b5' : z5.1 90 2 = nI f := by rw [oo 90 (by decide) (by decide)]; exact b3
      have q1' : ds_Rw ds_c_Mod_feed ds_u_Mod_feed (ds_call (d + 19)) 23 [some (.ref 90), some (.int a), some (.int b), some (.int c), some (.int e), some (.int g), some (.int (nI 0)), none] [] (ds_rowI z5 90 (upd (z5.1 90) 0 (nI 0))) = some (some (.int (nI (f + 20))), y) := q1
      rw [c_Mod_feed, b_Mod_feed_0]
      simp (disch := first | assumption | omega) only [ds_cI, ds_cV, ds_cL, ds_cR, ds_nn, ds_isK_t, ds_isA_t, ds_chk_t, ds_chkN, ds_nz_t, ds_nzN, ds_isB_t, ds_isB_bo, ↓dl_m1, ↓dl_m2, dl_0, dl_1, dl_2, dl_3, dl_4, dl_5, dl_6, dl_7, dl_8, dl_9, dl_10, dl_11, dl_12, dl_13, dl_14, dl_15, dl_16, dl_20, dl_24, dl_31, dl_50, dl_57, dl_67, dl_68, dl_74, dl_75, dl_79, dl_80, dl_99, dl_100, dl_200, dl_210, dl_224, dl_255, dl_289, dl_900, dl_1000, dl_1728, dl_65536, dl_65537, nI_add, pk_mul, pk_sub, pk_div, pk_rem, ds_rem2, nI_clamp, nI_leI, nI_ltI, nI_eq, ds_m1_eq, ds_eq_m1, ds_m2_eq, ds_eq_m2, ds_m1_le, ds_le_m1, ds_m1_lt, ds_lt_m1, ds_in_N, ds_bo0, ds_bo1, if_pos, if_neg, Nat.not_le, Nat.not_lt, not_true_eq_false, not_false_eq_true, if_true, if_false, ne_eq, Option.some.injEq, Prod.mk.injEq, Value.int.injEq, true_and, and_true, and_self, ite_self, Bool.not_eq_true, Bool.not_eq_false, Bool.true_eq_false, Bool.false_eq_true, reduceCtorEq, Nat.zero_add, Nat.reduceAdd, Nat.reduceMul, Nat.reduceSub, ds_setI_row, ds_setL_row, ds_rowI_self, ds_rowI_ne, ds_rowI_2, ds_rowI_rowI, ds_setS_1, ds_setS_21, ds_setS_self, ds_setS_ne, pk_us, pk_un, b5', q1']
    · have yo : ∀ p, p ≠ 1 → p ≠ 2 → p ≠ 90 → p ≠ 91 → y.1 p = z.1 p := fun p h1 h2 h3 h4 => by rw [q4 p h3 h4, ds_rowI_ne _ _ h3, oo p h1 h2]
      have yr : ∀ j, y.2.2 j = z.2.2 j := fun j => by rw [q5]; show z5.2.2 j = _; rw [rr]
      have y9 : ∀ k, k ≠ 0 → k ≠ 2 → y.1 90 k = z.1 90 k := fun k h1 h2 => by rw [q2, pk_un h2, ds_rowI_self, pk_un h1, oo 90 (by decide) (by decide)]
      refine ⟨t, t', D, K, U, u, M, m, f + 20, B', ?_, ?_, ⟨ho.1, hf, fun k hk => ?_⟩, ?_, ?_, ?_⟩
      · obtain ⟨i1, i2, i3, i4, i5, i6⟩ := hc
        unfold dk_IC
        rw [yr 0, yr 1, yo 61 (by decide) (by decide) (by decide) (by decide), yo 62 (by decide) (by decide) (by decide) (by decide), yo 80 (by decide) (by decide) (by decide) (by decide), yo 81 (by decide) (by decide) (by decide) (by decide), yo 82 (by decide) (by decide) (by decide) (by decide), yo 83 (by decide) (by decide) (by decide) (by decide)]
        refine ⟨i1, ?_, i3, i4, i5, ?_, fun k hk => ?_⟩
        · obtain ⟨ht, u0, u1, u2, u3, u4, u5⟩ := i2
          unfold dk_tC
          rw [yo t (by omega) (by omega) (by omega) (by omega), yo (t + 1) (by omega) (by omega) (by omega) (by omega), yo (t + 2) (by omega) (by omega) (by omega) (by omega), yo (t + 3) (by omega) (by omega) (by omega) (by omega), yo (t + 4) (by omega) (by omega) (by omega) (by omega), yo (t + 5) (by omega) (by omega) (by omega) (by omega), yo (t + 6) (by omega) (by omega) (by omega) (by omega), yo (t + 7) (by omega) (by omega) (by omega) (by omega), yo (t + 8) (by omega) (by omega) (by omega) (by omega), yo (t + 9) (by omega) (by omega) (by omega) (by omega), yo (t + 10) (by omega) (by omega) (by omega) (by omega)]
          exact ⟨ht, u0, u1, u2, u3, u4, u5⟩
        · rw [q4 1 (by decide) (by decide), ds_rowI_ne _ _ (by decide)]; exact c5
        · rw [q4 2 (by decide) (by decide), ds_rowI_ne _ _ (by decide)]; exact tt k hk
      · obtain ⟨i1, i2, i3, i4, i5, i6⟩ := hm
        unfold dk_IM
        rw [y9 14 (by decide) (by decide), y9 20 (by decide) (by decide), y9 21 (by decide) (by decide), yo 95 (by decide) (by decide) (by decide) (by decide), yo 96 (by decide) (by decide) (by decide) (by decide), yo 97 (by decide) (by decide) (by decide) (by decide)]
        refine ⟨dk_tM_eq i1 (yo 93 (by decide) (by decide) (by decide) (by decide)), i2, i3, i4, i5, by rw [q2, pk_us], fun k hk => ?_⟩
        rw [q3]
        simp only [B']
        by_cases h1 : f ≤ k ∧ k < f + 20
        · rw [if_pos h1, if_neg (by omega)]
        · rw [if_neg h1, if_pos (by omega), ds_rowI_ne _ _ (by decide), oo 91 (by decide) (by decide)]
          exact hBm k (by omega)
      · simp only [B']
        split
        · exact ho.2.2 k (by assumption)
        · exact dk_by_lt _ _
      · rw [yo 0 (by decide) (by decide) (by decide) (by decide), y9 11 (by decide) (by decide)]; exact e1
      · rw [yo 0 (by decide) (by decide) (by decide) (by decide), y9 9 (by decide) (by decide)]; exact e2
      · rw [yo 0 (by decide) (by decide) (by decide) (by decide), y9 10 (by decide) (by decide)]; exact e3
  · refine ⟨.int ds_m1, z, _, ?_, ?_, dk_Inv_t (nI 0) h⟩
    · rw [c_Sea_feed, b_Sea_feed_0]
      simp (disch := first | assumption | omega) only [ds_cI, ds_cV, ds_cL, ds_cR, ds_nn, ds_isK_t, ds_isA_t, ds_chk_t, ds_chkN, ds_nz_t, ds_nzN, ds_isB_t, ds_isB_bo, ↓dl_m1, ↓dl_m2, dl_0, dl_1, dl_2, dl_3, dl_4, dl_5, dl_6, dl_7, dl_8, dl_9, dl_10, dl_11, dl_12, dl_13, dl_14, dl_15, dl_16, dl_20, dl_24, dl_31, dl_50, dl_57, dl_67, dl_68, dl_74, dl_75, dl_79, dl_80, dl_99, dl_100, dl_200, dl_210, dl_224, dl_255, dl_289, dl_900, dl_1000, dl_1728, dl_65536, dl_65537, nI_add, pk_mul, pk_sub, pk_div, pk_rem, ds_rem2, nI_clamp, nI_leI, nI_ltI, nI_eq, ds_m1_eq, ds_eq_m1, ds_m2_eq, ds_eq_m2, ds_m1_le, ds_le_m1, ds_m1_lt, ds_lt_m1, ds_in_N, ds_bo0, ds_bo1, if_pos, if_neg, Nat.not_le, Nat.not_lt, not_true_eq_false, not_false_eq_true, if_true, if_false, ne_eq, Option.some.injEq, Prod.mk.injEq, Value.int.injEq, true_and, and_true, and_self, ite_self, Bool.not_eq_true, Bool.not_eq_false, Bool.true_eq_false, Bool.false_eq_true, reduceCtorEq, Nat.zero_add, Nat.reduceAdd, Nat.reduceMul, Nat.reduceSub, ds_setI_row, ds_setL_row, ds_rowI_self, ds_rowI_ne, ds_rowI_2, ds_rowI_rowI, ds_setS_1, ds_setS_21, ds_setS_self, ds_setS_ne, pk_us, pk_un, a3]
    · rw [c_Mod_feed, b_Mod_feed_0]
      simp (disch := first | assumption | omega) only [ds_cI, ds_cV, ds_cL, ds_cR, ds_nn, ds_isK_t, ds_isA_t, ds_chk_t, ds_chkN, ds_nz_t, ds_nzN, ds_isB_t, ds_isB_bo, ↓dl_m1, ↓dl_m2, dl_0, dl_1, dl_2, dl_3, dl_4, dl_5, dl_6, dl_7, dl_8, dl_9, dl_10, dl_11, dl_12, dl_13, dl_14, dl_15, dl_16, dl_20, dl_24, dl_31, dl_50, dl_57, dl_67, dl_68, dl_74, dl_75, dl_79, dl_80, dl_99, dl_100, dl_200, dl_210, dl_224, dl_255, dl_289, dl_900, dl_1000, dl_1728, dl_65536, dl_65537, nI_add, pk_mul, pk_sub, pk_div, pk_rem, ds_rem2, nI_clamp, nI_leI, nI_ltI, nI_eq, ds_m1_eq, ds_eq_m1, ds_m2_eq, ds_eq_m2, ds_m1_le, ds_le_m1, ds_m1_lt, ds_lt_m1, ds_in_N, ds_bo0, ds_bo1, if_pos, if_neg, Nat.not_le, Nat.not_lt, not_true_eq_false, not_false_eq_true, if_true, if_false, ne_eq, Option.some.injEq, Prod.mk.injEq, Value.int.injEq, true_and, and_true, and_self, ite_self, Bool.not_eq_true, Bool.not_eq_false, Bool.true_eq_false, Bool.false_eq_true, reduceCtorEq, Nat.zero_add, Nat.reduceAdd, Nat.reduceMul, Nat.reduceSub, ds_setI_row, ds_setL_row, ds_rowI_self, ds_rowI_ne, ds_rowI_2, ds_rowI_rowI, ds_setS_1, ds_setS_21, ds_setS_self, ds_setS_ne, pk_us, pk_un, b3]
/-! the led ones: the class's throw is the outcome null of its run -/
theorem k_led (d : Nat) (x : Int32) (z : ds_St) (h : dk_Inv z) : (∃ i z2, ds_call (d + 20) j_Sea_led [.ref 0, .int x] z = some (some (.int (nI i)), z) ∧ ds_call (d + 20) j_Mod_led [.ref 90, .int x] z = some (some (.int (nI i)), z2) ∧ dk_Inv z2 ∧ z2 = ds_rowI z 90 (upd (z.1 90) 0 (nI 0))) ∨ (∃ z2, ds_Rw ds_c_Sea_led ds_u_Sea_led (ds_call (d + 19)) 0 [some (.ref 0), some (.int x), none, none] [] z = some (some .null, z) ∧ ds_call (d + 20) j_Mod_led [.ref 90, .int x] z = some (some (.int (nI 0)), z2) ∧ dk_Inv z2 ∧ z2 = ds_rowI z 90 (upd (z.1 90) 0 (nI 1))) := by
  have h0 := h
  obtain ⟨t, t', D, K, U, u, M, m, f, B, hc, hm, ho, e1, e2, e3⟩ := h0
  have hC := dk_IC_HC hc
  have hM := dk_IM_HM hm
  have hz := dk_OK_Hz ho
  have n12 := (dk_n12 hz).1
  have r0 := hC.1
  have ht := hC.2.1.1
  have hKt := ds_Kt ht
  have t4 := hC.2.1.2.1.2.2.2.2.1
  have hsg := hM.2.1
  have m4 := hM.1.1.2.2.2.2.1
  suffices hh : (∃ i, (ds_Rw ds_c_Sea_led ds_u_Sea_led (ds_call (d + 19)) 4 [some (.ref 0), some (.int x), some (.int (nI 0)), some (.int (nI 0))] [] z = some (some (.int (nI i)), z)) ∧ (ds_Rw ds_c_Mod_led ds_u_Mod_led (ds_call (d + 19)) 4 [some (.ref 90), some (.int x), some (.int (nI 0)), some (.int (nI 0))] [] z = some (some (.int (nI i)), ds_rowI z 90 (upd (z.1 90) 0 (nI 0))))) ∨ ((ds_Rw ds_c_Sea_led ds_u_Sea_led (ds_call (d + 19)) 4 [some (.ref 0), some (.int x), some (.int (nI 0)), some (.int (nI 0))] [] z = some (some .null, z)) ∧ (ds_Rw ds_c_Mod_led ds_u_Mod_led (ds_call (d + 19)) 4 [some (.ref 90), some (.int x), some (.int (nI 0)), some (.int (nI 0))] [] z = some (some (.int (nI 0)), ds_rowI z 90 (upd (z.1 90) 0 (nI 1))))) by
    rcases hh with ⟨i, a1, a2⟩ | ⟨a1, a2⟩
    · refine .inl ⟨i, _, ?_, ?_, dk_Inv_t (nI 0) h, rfl⟩
      · rw [c_Sea_led, b_Sea_led_0]
        simp (disch := first | assumption | omega) only [ds_cI, ds_cV, ds_cL, ds_cR, ds_nn, ds_isK_t, ds_isA_t, ds_chk_t, ds_chkN, ds_nz_t, ds_nzN, ds_isB_t, ds_isB_bo, ↓dl_m1, ↓dl_m2, dl_0, dl_1, dl_2, dl_3, dl_4, dl_5, dl_6, dl_7, dl_8, dl_9, dl_10, dl_11, dl_12, dl_13, dl_14, dl_15, dl_16, dl_20, dl_24, dl_31, dl_50, dl_57, dl_67, dl_68, dl_74, dl_75, dl_79, dl_80, dl_99, dl_100, dl_200, dl_210, dl_224, dl_255, dl_289, dl_900, dl_1000, dl_1728, dl_65536, dl_65537, nI_add, pk_mul, pk_sub, pk_div, pk_rem, ds_rem2, nI_clamp, nI_leI, nI_ltI, nI_eq, ds_m1_eq, ds_eq_m1, ds_m2_eq, ds_eq_m2, ds_m1_le, ds_le_m1, ds_m1_lt, ds_lt_m1, ds_in_N, ds_bo0, ds_bo1, if_pos, if_neg, Nat.not_le, Nat.not_lt, not_true_eq_false, not_false_eq_true, if_true, if_false, ne_eq, Option.some.injEq, Prod.mk.injEq, Value.int.injEq, true_and, and_true, and_self, ite_self, Bool.not_eq_true, Bool.not_eq_false, Bool.true_eq_false, Bool.false_eq_true, reduceCtorEq, Nat.zero_add, Nat.reduceAdd, Nat.reduceMul, Nat.reduceSub, ds_setI_row, ds_setL_row, ds_rowI_self, ds_rowI_ne, ds_rowI_2, ds_rowI_rowI, ds_setS_1, ds_setS_21, ds_setS_self, ds_setS_ne, pk_us, pk_un, a1]
      · rw [c_Mod_led, b_Mod_led_0]
        simp (disch := first | assumption | omega) only [ds_cI, ds_cV, ds_cL, ds_cR, ds_nn, ds_isK_t, ds_isA_t, ds_chk_t, ds_chkN, ds_nz_t, ds_nzN, ds_isB_t, ds_isB_bo, ↓dl_m1, ↓dl_m2, dl_0, dl_1, dl_2, dl_3, dl_4, dl_5, dl_6, dl_7, dl_8, dl_9, dl_10, dl_11, dl_12, dl_13, dl_14, dl_15, dl_16, dl_20, dl_24, dl_31, dl_50, dl_57, dl_67, dl_68, dl_74, dl_75, dl_79, dl_80, dl_99, dl_100, dl_200, dl_210, dl_224, dl_255, dl_289, dl_900, dl_1000, dl_1728, dl_65536, dl_65537, nI_add, pk_mul, pk_sub, pk_div, pk_rem, ds_rem2, nI_clamp, nI_leI, nI_ltI, nI_eq, ds_m1_eq, ds_eq_m1, ds_m2_eq, ds_eq_m2, ds_m1_le, ds_le_m1, ds_m1_lt, ds_lt_m1, ds_in_N, ds_bo0, ds_bo1, if_pos, if_neg, Nat.not_le, Nat.not_lt, not_true_eq_false, not_false_eq_true, if_true, if_false, ne_eq, Option.some.injEq, Prod.mk.injEq, Value.int.injEq, true_and, and_true, and_self, ite_self, Bool.not_eq_true, Bool.not_eq_false, Bool.true_eq_false, Bool.false_eq_true, reduceCtorEq, Nat.zero_add, Nat.reduceAdd, Nat.reduceMul, Nat.reduceSub, ds_setI_row, ds_setL_row, ds_rowI_self, ds_rowI_ne, ds_rowI_2, ds_rowI_rowI, ds_setS_1, ds_setS_21, ds_setS_self, ds_setS_ne, pk_us, pk_un, a2]
    · refine .inr ⟨_, ?_, ?_, dk_Inv_t (nI 1) h, rfl⟩
      · rw [b_Sea_led_0]
        simp (disch := first | assumption | omega) only [ds_cI, ds_cV, ds_cL, ds_cR, ds_nn, ds_isK_t, ds_isA_t, ds_chk_t, ds_chkN, ds_nz_t, ds_nzN, ds_isB_t, ds_isB_bo, ↓dl_m1, ↓dl_m2, dl_0, dl_1, dl_2, dl_3, dl_4, dl_5, dl_6, dl_7, dl_8, dl_9, dl_10, dl_11, dl_12, dl_13, dl_14, dl_15, dl_16, dl_20, dl_24, dl_31, dl_50, dl_57, dl_67, dl_68, dl_74, dl_75, dl_79, dl_80, dl_99, dl_100, dl_200, dl_210, dl_224, dl_255, dl_289, dl_900, dl_1000, dl_1728, dl_65536, dl_65537, nI_add, pk_mul, pk_sub, pk_div, pk_rem, ds_rem2, nI_clamp, nI_leI, nI_ltI, nI_eq, ds_m1_eq, ds_eq_m1, ds_m2_eq, ds_eq_m2, ds_m1_le, ds_le_m1, ds_m1_lt, ds_lt_m1, ds_in_N, ds_bo0, ds_bo1, if_pos, if_neg, Nat.not_le, Nat.not_lt, not_true_eq_false, not_false_eq_true, if_true, if_false, ne_eq, Option.some.injEq, Prod.mk.injEq, Value.int.injEq, true_and, and_true, and_self, ite_self, Bool.not_eq_true, Bool.not_eq_false, Bool.true_eq_false, Bool.false_eq_true, reduceCtorEq, Nat.zero_add, Nat.reduceAdd, Nat.reduceMul, Nat.reduceSub, ds_setI_row, ds_setL_row, ds_rowI_self, ds_rowI_ne, ds_rowI_2, ds_rowI_rowI, ds_setS_1, ds_setS_21, ds_setS_self, ds_setS_ne, pk_us, pk_un, a1]
      · rw [c_Mod_led, b_Mod_led_0]
        simp (disch := first | assumption | omega) only [ds_cI, ds_cV, ds_cL, ds_cR, ds_nn, ds_isK_t, ds_isA_t, ds_chk_t, ds_chkN, ds_nz_t, ds_nzN, ds_isB_t, ds_isB_bo, ↓dl_m1, ↓dl_m2, dl_0, dl_1, dl_2, dl_3, dl_4, dl_5, dl_6, dl_7, dl_8, dl_9, dl_10, dl_11, dl_12, dl_13, dl_14, dl_15, dl_16, dl_20, dl_24, dl_31, dl_50, dl_57, dl_67, dl_68, dl_74, dl_75, dl_79, dl_80, dl_99, dl_100, dl_200, dl_210, dl_224, dl_255, dl_289, dl_900, dl_1000, dl_1728, dl_65536, dl_65537, nI_add, pk_mul, pk_sub, pk_div, pk_rem, ds_rem2, nI_clamp, nI_leI, nI_ltI, nI_eq, ds_m1_eq, ds_eq_m1, ds_m2_eq, ds_eq_m2, ds_m1_le, ds_le_m1, ds_m1_lt, ds_lt_m1, ds_in_N, ds_bo0, ds_bo1, if_pos, if_neg, Nat.not_le, Nat.not_lt, not_true_eq_false, not_false_eq_true, if_true, if_false, ne_eq, Option.some.injEq, Prod.mk.injEq, Value.int.injEq, true_and, and_true, and_self, ite_self, Bool.not_eq_true, Bool.not_eq_false, Bool.true_eq_false, Bool.false_eq_true, reduceCtorEq, Nat.zero_add, Nat.reduceAdd, Nat.reduceMul, Nat.reduceSub, ds_setI_row, ds_setL_row, ds_rowI_self, ds_rowI_ne, ds_rowI_2, ds_rowI_rowI, ds_setS_1, ds_setS_21, ds_setS_self, ds_setS_ne, pk_us, pk_un, a2]
  rcases hz with ⟨hD, hK⟩ | ⟨h0, hc0, hp0⟩
  · have hn : 0 < D 0 4 := by have := hD.2.2.2.2.1.1; omega
    have hR : D 0 0 * D 0 1 ≤ 12 := Nat.mul_le_mul hD.1.2 hD.2.1.2
    have rm := s_room (d + 18) t z ht
    rw [hC.2.1.2.1.1, hC.2.1.2.1.2.1, pk_mul] at rm
    have mrm := s_mroom (d + 18) z D hM.1
    have go : ∀ m k j, k + m = D 0 4 → j ≤ k → (∃ i, (ds_Rw ds_c_Sea_led ds_u_Sea_led (ds_call (d + 19)) 4 [some (.ref 0), some (.int x), some (.int (nI j)), some (.int (nI k))] [] z = some (some (.int (nI i)), z)) ∧ (ds_Rw ds_c_Mod_led ds_u_Mod_led (ds_call (d + 19)) 4 [some (.ref 90), some (.int x), some (.int (nI j)), some (.int (nI k))] [] z = some (some (.int (nI i)), ds_rowI z 90 (upd (z.1 90) 0 (nI 0))))) ∨ ((ds_Rw ds_c_Sea_led ds_u_Sea_led (ds_call (d + 19)) 4 [some (.ref 0), some (.int x), some (.int (nI j)), some (.int (nI k))] [] z = some (some .null, z)) ∧ (ds_Rw ds_c_Mod_led ds_u_Mod_led (ds_call (d + 19)) 4 [some (.ref 90), some (.int x), some (.int (nI j)), some (.int (nI k))] [] z = some (some (.int (nI 0)), ds_rowI z 90 (upd (z.1 90) 0 (nI 1))))) := by
      intro m
      induction m with
      | zero =>
        intro k j hk hj
        refine .inr ⟨?_, ?_⟩
        · rw [b_Sea_led_4]
          simp (disch := first | assumption | omega) only [ds_cI, ds_cV, ds_cL, ds_cR, ds_nn, ds_isK_t, ds_isA_t, ds_chk_t, ds_chkN, ds_nz_t, ds_nzN, ds_isB_t, ds_isB_bo, ↓dl_m1, ↓dl_m2, dl_0, dl_1, dl_2, dl_3, dl_4, dl_5, dl_6, dl_7, dl_8, dl_9, dl_10, dl_11, dl_12, dl_13, dl_14, dl_15, dl_16, dl_20, dl_24, dl_31, dl_50, dl_57, dl_67, dl_68, dl_74, dl_75, dl_79, dl_80, dl_99, dl_100, dl_200, dl_210, dl_224, dl_255, dl_289, dl_900, dl_1000, dl_1728, dl_65536, dl_65537, nI_add, pk_mul, pk_sub, pk_div, pk_rem, ds_rem2, nI_clamp, nI_leI, nI_ltI, nI_eq, ds_m1_eq, ds_eq_m1, ds_m2_eq, ds_eq_m2, ds_m1_le, ds_le_m1, ds_m1_lt, ds_lt_m1, ds_in_N, ds_bo0, ds_bo1, if_pos, if_neg, Nat.not_le, Nat.not_lt, not_true_eq_false, not_false_eq_true, if_true, if_false, ne_eq, Option.some.injEq, Prod.mk.injEq, Value.int.injEq, true_and, and_true, and_self, ite_self, Bool.not_eq_true, Bool.not_eq_false, Bool.true_eq_false, Bool.false_eq_true, reduceCtorEq, Nat.zero_add, Nat.reduceAdd, Nat.reduceMul, Nat.reduceSub, ds_setI_row, ds_setL_row, ds_rowI_self, ds_rowI_ne, ds_rowI_2, ds_rowI_rowI, ds_setS_1, ds_setS_21, ds_setS_self, ds_setS_ne, pk_us, pk_un, r0, t4]
        · rw [b_Mod_led_4]
          simp (disch := first | assumption | omega) only [ds_cI, ds_cV, ds_cL, ds_cR, ds_nn, ds_isK_t, ds_isA_t, ds_chk_t, ds_chkN, ds_nz_t, ds_nzN, ds_isB_t, ds_isB_bo, ↓dl_m1, ↓dl_m2, dl_0, dl_1, dl_2, dl_3, dl_4, dl_5, dl_6, dl_7, dl_8, dl_9, dl_10, dl_11, dl_12, dl_13, dl_14, dl_15, dl_16, dl_20, dl_24, dl_31, dl_50, dl_57, dl_67, dl_68, dl_74, dl_75, dl_79, dl_80, dl_99, dl_100, dl_200, dl_210, dl_224, dl_255, dl_289, dl_900, dl_1000, dl_1728, dl_65536, dl_65537, nI_add, pk_mul, pk_sub, pk_div, pk_rem, ds_rem2, nI_clamp, nI_leI, nI_ltI, nI_eq, ds_m1_eq, ds_eq_m1, ds_m2_eq, ds_eq_m2, ds_m1_le, ds_le_m1, ds_m1_lt, ds_lt_m1, ds_in_N, ds_bo0, ds_bo1, if_pos, if_neg, Nat.not_le, Nat.not_lt, not_true_eq_false, not_false_eq_true, if_true, if_false, ne_eq, Option.some.injEq, Prod.mk.injEq, Value.int.injEq, true_and, and_true, and_self, ite_self, Bool.not_eq_true, Bool.not_eq_false, Bool.true_eq_false, Bool.false_eq_true, reduceCtorEq, Nat.zero_add, Nat.reduceAdd, Nat.reduceMul, Nat.reduceSub, ds_setI_row, ds_setL_row, ds_rowI_self, ds_rowI_ne, ds_rowI_2, ds_rowI_rowI, ds_setS_1, ds_setS_21, ds_setS_self, ds_setS_ne, pk_us, pk_un, hsg, hn, decide_true, m4]
      | succ m ih =>
        intro k j hk hj
        rcases dk_has K (K 12) k with ⟨p, hp, hpk⟩ | hno
        · have s1 := s_placeOf_y (d + 17) 61 (K 12) (D 0 4) p z K (dk_HC_dk hC hK) n12 hp
          have s2 := s_placeIn_y (d + 18) 95 (K 12) (D 0 4) p z K (dk_HM_dm hM hK) n12 hp
          rw [hpk] at s1 s2
          have k12 := hK.1
          by_cases q : p < D 0 0 * D 0 1
          · have i := ih (k + 1) j (by omega) (by omega)
            rw [b_Sea_led_4, b_Mod_led_4]
            generalize D 0 0 * D 0 1 = R at *
            simp (disch := first | assumption | omega) only [ds_cI, ds_cV, ds_cL, ds_cR, ds_nn, ds_isK_t, ds_isA_t, ds_chk_t, ds_chkN, ds_nz_t, ds_nzN, ds_isB_t, ds_isB_bo, ↓dl_m1, ↓dl_m2, dl_0, dl_1, dl_2, dl_3, dl_4, dl_5, dl_6, dl_7, dl_8, dl_9, dl_10, dl_11, dl_12, dl_13, dl_14, dl_15, dl_16, dl_20, dl_24, dl_31, dl_50, dl_57, dl_67, dl_68, dl_74, dl_75, dl_79, dl_80, dl_99, dl_100, dl_200, dl_210, dl_224, dl_255, dl_289, dl_900, dl_1000, dl_1728, dl_65536, dl_65537, nI_add, pk_mul, pk_sub, pk_div, pk_rem, ds_rem2, nI_clamp, nI_leI, nI_ltI, nI_eq, ds_m1_eq, ds_eq_m1, ds_m2_eq, ds_eq_m2, ds_m1_le, ds_le_m1, ds_m1_lt, ds_lt_m1, ds_in_N, ds_bo0, ds_bo1, if_pos, if_neg, Nat.not_le, Nat.not_lt, not_true_eq_false, not_false_eq_true, if_true, if_false, ne_eq, Option.some.injEq, Prod.mk.injEq, Value.int.injEq, true_and, and_true, and_self, ite_self, Bool.not_eq_true, Bool.not_eq_false, Bool.true_eq_false, Bool.false_eq_true, reduceCtorEq, Nat.zero_add, Nat.reduceAdd, Nat.reduceMul, Nat.reduceSub, ds_setI_row, ds_setL_row, ds_rowI_self, ds_rowI_ne, ds_rowI_2, ds_rowI_rowI, ds_setS_1, ds_setS_21, ds_setS_self, ds_setS_ne, pk_us, pk_un, r0, t4, s1, rm, hsg, hn, decide_true, m4, s2, mrm, q]
            exact i
          · by_cases q2 : nI j = x
            · refine .inl ⟨k, ?_, ?_⟩
              · rw [b_Sea_led_4]
                generalize D 0 0 * D 0 1 = R at *
                simp (disch := first | assumption | omega) only [ds_cI, ds_cV, ds_cL, ds_cR, ds_nn, ds_isK_t, ds_isA_t, ds_chk_t, ds_chkN, ds_nz_t, ds_nzN, ds_isB_t, ds_isB_bo, ↓dl_m1, ↓dl_m2, dl_0, dl_1, dl_2, dl_3, dl_4, dl_5, dl_6, dl_7, dl_8, dl_9, dl_10, dl_11, dl_12, dl_13, dl_14, dl_15, dl_16, dl_20, dl_24, dl_31, dl_50, dl_57, dl_67, dl_68, dl_74, dl_75, dl_79, dl_80, dl_99, dl_100, dl_200, dl_210, dl_224, dl_255, dl_289, dl_900, dl_1000, dl_1728, dl_65536, dl_65537, nI_add, pk_mul, pk_sub, pk_div, pk_rem, ds_rem2, nI_clamp, nI_leI, nI_ltI, nI_eq, ds_m1_eq, ds_eq_m1, ds_m2_eq, ds_eq_m2, ds_m1_le, ds_le_m1, ds_m1_lt, ds_lt_m1, ds_in_N, ds_bo0, ds_bo1, if_pos, if_neg, Nat.not_le, Nat.not_lt, not_true_eq_false, not_false_eq_true, if_true, if_false, ne_eq, Option.some.injEq, Prod.mk.injEq, Value.int.injEq, true_and, and_true, and_self, ite_self, Bool.not_eq_true, Bool.not_eq_false, Bool.true_eq_false, Bool.false_eq_true, reduceCtorEq, Nat.zero_add, Nat.reduceAdd, Nat.reduceMul, Nat.reduceSub, ds_setI_row, ds_setL_row, ds_rowI_self, ds_rowI_ne, ds_rowI_2, ds_rowI_rowI, ds_setS_1, ds_setS_21, ds_setS_self, ds_setS_ne, pk_us, pk_un, r0, t4, s1, rm, q, q2]
              · rw [b_Mod_led_4]
                generalize D 0 0 * D 0 1 = R at *
                simp (disch := first | assumption | omega) only [ds_cI, ds_cV, ds_cL, ds_cR, ds_nn, ds_isK_t, ds_isA_t, ds_chk_t, ds_chkN, ds_nz_t, ds_nzN, ds_isB_t, ds_isB_bo, ↓dl_m1, ↓dl_m2, dl_0, dl_1, dl_2, dl_3, dl_4, dl_5, dl_6, dl_7, dl_8, dl_9, dl_10, dl_11, dl_12, dl_13, dl_14, dl_15, dl_16, dl_20, dl_24, dl_31, dl_50, dl_57, dl_67, dl_68, dl_74, dl_75, dl_79, dl_80, dl_99, dl_100, dl_200, dl_210, dl_224, dl_255, dl_289, dl_900, dl_1000, dl_1728, dl_65536, dl_65537, nI_add, pk_mul, pk_sub, pk_div, pk_rem, ds_rem2, nI_clamp, nI_leI, nI_ltI, nI_eq, ds_m1_eq, ds_eq_m1, ds_m2_eq, ds_eq_m2, ds_m1_le, ds_le_m1, ds_m1_lt, ds_lt_m1, ds_in_N, ds_bo0, ds_bo1, if_pos, if_neg, Nat.not_le, Nat.not_lt, not_true_eq_false, not_false_eq_true, if_true, if_false, ne_eq, Option.some.injEq, Prod.mk.injEq, Value.int.injEq, true_and, and_true, and_self, ite_self, Bool.not_eq_true, Bool.not_eq_false, Bool.true_eq_false, Bool.false_eq_true, reduceCtorEq, Nat.zero_add, Nat.reduceAdd, Nat.reduceMul, Nat.reduceSub, ds_setI_row, ds_setL_row, ds_rowI_self, ds_rowI_ne, ds_rowI_2, ds_rowI_rowI, ds_setS_1, ds_setS_21, ds_setS_self, ds_setS_ne, pk_us, pk_un, hsg, hn, decide_true, m4, s2, mrm, q, q2]
            · have i := ih (k + 1) (j + 1) (by omega) (by omega)
              rw [b_Sea_led_4, b_Mod_led_4]
              generalize D 0 0 * D 0 1 = R at *
              simp (disch := first | assumption | omega) only [ds_cI, ds_cV, ds_cL, ds_cR, ds_nn, ds_isK_t, ds_isA_t, ds_chk_t, ds_chkN, ds_nz_t, ds_nzN, ds_isB_t, ds_isB_bo, ↓dl_m1, ↓dl_m2, dl_0, dl_1, dl_2, dl_3, dl_4, dl_5, dl_6, dl_7, dl_8, dl_9, dl_10, dl_11, dl_12, dl_13, dl_14, dl_15, dl_16, dl_20, dl_24, dl_31, dl_50, dl_57, dl_67, dl_68, dl_74, dl_75, dl_79, dl_80, dl_99, dl_100, dl_200, dl_210, dl_224, dl_255, dl_289, dl_900, dl_1000, dl_1728, dl_65536, dl_65537, nI_add, pk_mul, pk_sub, pk_div, pk_rem, ds_rem2, nI_clamp, nI_leI, nI_ltI, nI_eq, ds_m1_eq, ds_eq_m1, ds_m2_eq, ds_eq_m2, ds_m1_le, ds_le_m1, ds_m1_lt, ds_lt_m1, ds_in_N, ds_bo0, ds_bo1, if_pos, if_neg, Nat.not_le, Nat.not_lt, not_true_eq_false, not_false_eq_true, if_true, if_false, ne_eq, Option.some.injEq, Prod.mk.injEq, Value.int.injEq, true_and, and_true, and_self, ite_self, Bool.not_eq_true, Bool.not_eq_false, Bool.true_eq_false, Bool.false_eq_true, reduceCtorEq, Nat.zero_add, Nat.reduceAdd, Nat.reduceMul, Nat.reduceSub, ds_setI_row, ds_setL_row, ds_rowI_self, ds_rowI_ne, ds_rowI_2, ds_rowI_rowI, ds_setS_1, ds_setS_21, ds_setS_self, ds_setS_ne, pk_us, pk_un, r0, t4, s1, rm, hsg, hn, decide_true, m4, s2, mrm, q, q2]
              exact i
        · have s1 := s_placeOf_n (d + 17) 61 (K 12) (D 0 4) k z K (dk_HC_dk hC hK) n12 (by omega) hno
          have s2 := s_placeIn_n (d + 18) 95 (K 12) (D 0 4) k z K (dk_HM_dm hM hK) n12 (by omega) hno
          have i := ih (k + 1) j (by omega) (by omega)
          rw [b_Sea_led_4, b_Mod_led_4]
          generalize D 0 0 * D 0 1 = R at *
          simp (disch := first | assumption | omega) only [ds_cI, ds_cV, ds_cL, ds_cR, ds_nn, ds_isK_t, ds_isA_t, ds_chk_t, ds_chkN, ds_nz_t, ds_nzN, ds_isB_t, ds_isB_bo, ↓dl_m1, ↓dl_m2, dl_0, dl_1, dl_2, dl_3, dl_4, dl_5, dl_6, dl_7, dl_8, dl_9, dl_10, dl_11, dl_12, dl_13, dl_14, dl_15, dl_16, dl_20, dl_24, dl_31, dl_50, dl_57, dl_67, dl_68, dl_74, dl_75, dl_79, dl_80, dl_99, dl_100, dl_200, dl_210, dl_224, dl_255, dl_289, dl_900, dl_1000, dl_1728, dl_65536, dl_65537, nI_add, pk_mul, pk_sub, pk_div, pk_rem, ds_rem2, nI_clamp, nI_leI, nI_ltI, nI_eq, ds_m1_eq, ds_eq_m1, ds_m2_eq, ds_eq_m2, ds_m1_le, ds_le_m1, ds_m1_lt, ds_lt_m1, ds_in_N, ds_bo0, ds_bo1, if_pos, if_neg, Nat.not_le, Nat.not_lt, not_true_eq_false, not_false_eq_true, if_true, if_false, ne_eq, Option.some.injEq, Prod.mk.injEq, Value.int.injEq, true_and, and_true, and_self, ite_self, Bool.not_eq_true, Bool.not_eq_false, Bool.true_eq_false, Bool.false_eq_true, reduceCtorEq, Nat.zero_add, Nat.reduceAdd, Nat.reduceMul, Nat.reduceSub, ds_setI_row, ds_setL_row, ds_rowI_self, ds_rowI_ne, ds_rowI_2, ds_rowI_rowI, ds_setS_1, ds_setS_21, ds_setS_self, ds_setS_ne, pk_us, pk_un, r0, t4, s1, rm, hsg, hn, decide_true, m4, s2, mrm, ds_le_m2, ds_m1_lt]
          exact i
    exact go (D 0 4) 0 0 (by omega) (by omega)
  · have h4 := h0 4 (by decide)
    rw [h4] at t4 hsg
    refine .inr ⟨?_, ?_⟩
    · rw [b_Sea_led_4]
      simp (disch := first | assumption | omega) only [ds_cI, ds_cV, ds_cL, ds_cR, ds_nn, ds_isK_t, ds_isA_t, ds_chk_t, ds_chkN, ds_nz_t, ds_nzN, ds_isB_t, ds_isB_bo, ↓dl_m1, ↓dl_m2, dl_0, dl_1, dl_2, dl_3, dl_4, dl_5, dl_6, dl_7, dl_8, dl_9, dl_10, dl_11, dl_12, dl_13, dl_14, dl_15, dl_16, dl_20, dl_24, dl_31, dl_50, dl_57, dl_67, dl_68, dl_74, dl_75, dl_79, dl_80, dl_99, dl_100, dl_200, dl_210, dl_224, dl_255, dl_289, dl_900, dl_1000, dl_1728, dl_65536, dl_65537, nI_add, pk_mul, pk_sub, pk_div, pk_rem, ds_rem2, nI_clamp, nI_leI, nI_ltI, nI_eq, ds_m1_eq, ds_eq_m1, ds_m2_eq, ds_eq_m2, ds_m1_le, ds_le_m1, ds_m1_lt, ds_lt_m1, ds_in_N, ds_bo0, ds_bo1, if_pos, if_neg, Nat.not_le, Nat.not_lt, not_true_eq_false, not_false_eq_true, if_true, if_false, ne_eq, Option.some.injEq, Prod.mk.injEq, Value.int.injEq, true_and, and_true, and_self, ite_self, Bool.not_eq_true, Bool.not_eq_false, Bool.true_eq_false, Bool.false_eq_true, reduceCtorEq, Nat.zero_add, Nat.reduceAdd, Nat.reduceMul, Nat.reduceSub, ds_setI_row, ds_setL_row, ds_rowI_self, ds_rowI_ne, ds_rowI_2, ds_rowI_rowI, ds_setS_1, ds_setS_21, ds_setS_self, ds_setS_ne, pk_us, pk_un, r0, t4]
    · rw [b_Mod_led_4]
      simp (disch := first | assumption | omega) only [ds_cI, ds_cV, ds_cL, ds_cR, ds_nn, ds_isK_t, ds_isA_t, ds_chk_t, ds_chkN, ds_nz_t, ds_nzN, ds_isB_t, ds_isB_bo, ↓dl_m1, ↓dl_m2, dl_0, dl_1, dl_2, dl_3, dl_4, dl_5, dl_6, dl_7, dl_8, dl_9, dl_10, dl_11, dl_12, dl_13, dl_14, dl_15, dl_16, dl_20, dl_24, dl_31, dl_50, dl_57, dl_67, dl_68, dl_74, dl_75, dl_79, dl_80, dl_99, dl_100, dl_200, dl_210, dl_224, dl_255, dl_289, dl_900, dl_1000, dl_1728, dl_65536, dl_65537, nI_add, pk_mul, pk_sub, pk_div, pk_rem, ds_rem2, nI_clamp, nI_leI, nI_ltI, nI_eq, ds_m1_eq, ds_eq_m1, ds_m2_eq, ds_eq_m2, ds_m1_le, ds_le_m1, ds_m1_lt, ds_lt_m1, ds_in_N, ds_bo0, ds_bo1, if_pos, if_neg, Nat.not_le, Nat.not_lt, not_true_eq_false, not_false_eq_true, if_true, if_false, ne_eq, Option.some.injEq, Prod.mk.injEq, Value.int.injEq, true_and, and_true, and_self, ite_self, Bool.not_eq_true, Bool.not_eq_false, Bool.true_eq_false, Bool.false_eq_true, reduceCtorEq, Nat.zero_add, Nat.reduceAdd, Nat.reduceMul, Nat.reduceSub, ds_setI_row, ds_setL_row, ds_rowI_self, ds_rowI_ne, ds_rowI_2, ds_rowI_rowI, ds_setS_1, ds_setS_21, ds_setS_self, ds_setS_ne, pk_us, pk_un, hsg, Nat.lt_irrefl, decide_false]
