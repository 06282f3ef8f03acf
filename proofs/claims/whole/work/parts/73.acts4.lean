theorem k_image (d : Nat) (z : ds_St) (h : dk_Inv z) : ∃ v z1 z2, ds_call (d + 20) j_Sea_image [.ref 0] z = some (some v, z1) ∧ ds_call (d + 20) j_Mod_image [.ref 90] z1 = some (some v, z2) ∧ dk_Inv z2 := by
  apply dk_both2 h
  intro t t' D K U u M m f B hc ho
  have hC := dk_IC_HC hc
  have hz := dk_OK_Hz ho
  have hs := s_hasSea (d + 18) t z D K hC hz
  have k12 := (dk_n12 hz).2
  obtain ⟨dc, ac, ic⟩ := dk_IC_de hc
  have e3 : z.1 82 3 = nI m := by obtain ⟨_, _, _, _, q, _⟩ := ic; exact q
  rcases ho.1 with ⟨hD, hK, hU, hM', hu, hm3⟩ | ⟨h0, hc0, hp0, hu0, hm0⟩
  · have hn : 0 < D 0 4 := by have := hD.2.2.2.2.1.1; omega
    by_cases hlt : m < 3
    · have hM12 : ∀ q, q < m → M q 12 ≤ 12 := fun q hq => (hM' q hq).1
      obtain ⟨z1, s1, s2, s3, s4⟩ := s_pushI (d + 16) m z K M k12 hM12 dc ic hlt
      have e4 : z1.1 82 3 = nI (m + 1) := by obtain ⟨_, _, _, _, q, _⟩ := s2; exact q
      refine ⟨.int (nI m), nI 0, ds_rowI z1 0 (upd (z1.1 0) 10 (nI 0)), K, U, u, (fun q => if q = m then K else M q), m + 1, ?_, ?_, ?_, ?_, ?_⟩
      · rw [c_Sea_image, b_Sea_image_0]
        simp (disch := first | assumption | omega | rfl | decide) only [ds_cI, ds_cV, ds_cL, ds_cR, ds_nn, ds_isK_t, ds_isA_t, ds_chk_t, ds_chkN, ds_nz_t, ds_nzN, ds_isB_t, ds_isB_bo, ↓dl_m1, ↓dl_m2, dl_0, dl_1, dl_2, dl_3, dl_4, dl_5, dl_6, dl_7, dl_8, dl_9, dl_10, dl_11, dl_12, dl_13, dl_14, dl_15, dl_16, dl_20, dl_24, dl_31, dl_50, dl_57, dl_67, dl_68, dl_74, dl_75, dl_79, dl_80, dl_99, dl_100, dl_200, dl_210, dl_224, dl_255, dl_289, dl_900, dl_1000, dl_1728, dl_65536, dl_65537, nI_add, pk_mul, pk_sub, pk_div, pk_rem, ds_rem2, nI_clamp, nI_leI, nI_ltI, nI_eq, ds_m1_eq, ds_eq_m1, ds_m2_eq, ds_eq_m2, ds_m1_le, ds_le_m1, ds_m1_lt, ds_lt_m1, ds_in_N, ds_bo0, ds_bo1, if_pos, if_neg, Nat.not_le, Nat.not_lt, not_true_eq_false, not_false_eq_true, if_true, if_false, ne_eq, Option.some.injEq, Prod.mk.injEq, Value.int.injEq, true_and, and_true, and_self, ite_self, Bool.not_eq_true, Bool.not_eq_false, Bool.true_eq_false, Bool.false_eq_true, reduceCtorEq, Nat.zero_add, Nat.reduceAdd, Nat.reduceMul, Nat.reduceSub, ds_setI_row, ds_setL_row, ds_rowI_self, ds_rowI_ne, ds_rowI_2, ds_rowI_rowI, ds_setS_1, ds_setS_21, ds_setS_self, ds_setS_ne, pk_us, pk_un, hs, hn, decide_true, e3, s1, e4, s_answer, Nat.add_sub_cancel]
      · refine dk_IC_mk hc (fun p x y => by rw [ds_rowI_ne _ _ (by omega)]; exact s3 p (by omega) (by omega)) (fun j hj => by show z1.2.2 j = _; rw [s4]) (dk_deC_eq dc ?_ ?_) (dk_acC_eq ac ?_ ?_) (dk_imC_eq s2 (ds_rowI_ne _ _ (by decide)) (ds_rowI_ne _ _ (by decide)))
        · rw [ds_rowI_ne _ _ (by decide), s3 61 (by decide) (by decide)]
        · rw [ds_rowI_ne _ _ (by decide), s3 62 (by decide) (by decide)]
        · rw [ds_rowI_ne _ _ (by decide), s3 80 (by decide) (by decide)]
        · rw [ds_rowI_ne _ _ (by decide), s3 81 (by decide) (by decide)]
      · refine ⟨fun p hp => by rw [ds_rowI_ne _ _ (by omega)]; exact s3 p (by omega) (by omega), ?_⟩
        rw [ds_rowI_self, s3 0 (by decide) (by decide)]
      · refine ⟨.inl ⟨hD, hK, hU, fun q hq => ?_, hu, by omega⟩, ho.2⟩
        dsimp only
        by_cases h2 : q = m
        · rw [if_pos h2]; exact hK
        · rw [if_neg h2]; exact hM' q (by omega)
      · intro z0 hm0
        have hmg := dk_IM_zg hm0
        have hsg := hmg.2.1
        obtain ⟨rd, ra, ri⟩ := dk_IM_de hmg
        have ri1 := ri.1
        have s6 := s_copy (d + 18) 95 97 0 (14 * m) 14 (dk_zg z0) rfl rfl (by decide) (by decide) (show 14 * m + 14 ≤ 42 by omega) (by decide)
        refine ⟨ds_rowI (ds_rowI (dk_zg z0) 97 (ds_cpF ((dk_zg z0).1 95) ((dk_zg z0).1 97) 0 (14 * m) 0 14)) 90 (upd ((dk_zg z0).1 90) 21 (nI (m + 1))), ?_, ?_, ?_⟩
        · rw [c_Mod_image, b_Mod_image_0]
          simp (disch := first | assumption | omega | rfl | decide) only [ds_cI, ds_cV, ds_cL, ds_cR, ds_nn, ds_isK_t, ds_isA_t, ds_chk_t, ds_chkN, ds_nz_t, ds_nzN, ds_isB_t, ds_isB_bo, ↓dl_m1, ↓dl_m2, dl_0, dl_1, dl_2, dl_3, dl_4, dl_5, dl_6, dl_7, dl_8, dl_9, dl_10, dl_11, dl_12, dl_13, dl_14, dl_15, dl_16, dl_20, dl_24, dl_31, dl_50, dl_57, dl_67, dl_68, dl_74, dl_75, dl_79, dl_80, dl_99, dl_100, dl_200, dl_210, dl_224, dl_255, dl_289, dl_900, dl_1000, dl_1728, dl_65536, dl_65537, nI_add, pk_mul, pk_sub, pk_div, pk_rem, ds_rem2, nI_clamp, nI_leI, nI_ltI, nI_eq, ds_m1_eq, ds_eq_m1, ds_m2_eq, ds_eq_m2, ds_m1_le, ds_le_m1, ds_m1_lt, ds_lt_m1, ds_in_N, ds_bo0, ds_bo1, if_pos, if_neg, Nat.not_le, Nat.not_lt, not_true_eq_false, not_false_eq_true, if_true, if_false, ne_eq, Option.some.injEq, Prod.mk.injEq, Value.int.injEq, true_and, and_true, and_self, ite_self, Bool.not_eq_true, Bool.not_eq_false, Bool.true_eq_false, Bool.false_eq_true, reduceCtorEq, Nat.zero_add, Nat.reduceAdd, Nat.reduceMul, Nat.reduceSub, ds_setI_row, ds_setL_row, ds_rowI_self, ds_rowI_ne, ds_rowI_2, ds_rowI_rowI, ds_setS_1, ds_setS_21, ds_setS_self, ds_setS_ne, pk_us, pk_un, s_good, hsg, hn, decide_true, ri1, s6, Nat.add_sub_cancel]
        · refine dk_IM_mk hm0 (by rw [ds_rowI_ne _ _ (by decide), ds_rowI_ne _ _ (by decide), dk_zg_ne z0 (by decide)]) (by rw [ds_rowI_ne _ _ (by decide), ds_rowI_ne _ _ (by decide), dk_zg_ne z0 (by decide)]) (fun k hk => by rw [ds_rowI_self, pk_un (by omega), dk_zg_k z0 (by omega) (by omega)]) (by rw [ds_rowI_ne _ _ (by decide), ds_rowI_ne _ _ (by decide)]; exact rd) (dk_acM_eq ra (by rw [ds_rowI_self, pk_un (by decide)]) (by rw [ds_rowI_ne _ _ (by decide), ds_rowI_ne _ _ (by decide)])) ⟨by rw [ds_rowI_self, pk_us], fun q hq => ?_⟩
          rw [ds_rowI_ne _ _ (by decide), ds_rowI_self]
          dsimp only
          by_cases h2 : q = m
          · rw [if_pos h2, h2]; exact dk_rwM_cp k12 rd
          · rw [if_neg h2]; exact dk_rwM_old (hM12 q (by omega)) h2 (ri.2 q (by omega))
        · refine dk_gM_ok (fun p hp => by rw [ds_rowI_ne _ _ (by omega), ds_rowI_ne _ _ (by omega), dk_zg_ne z0 (by omega)]) (fun k hk => by rw [ds_rowI_self, pk_un (by omega)]) (fun j hj => rfl)
    · have hm33 : m = 3 := by omega
      subst hm33
      refine ⟨.int ds_m1, nI 3, ds_rowI z 0 (upd (z.1 0) 10 (nI 3)), K, U, u, M, 3, ?_, dk_IC_no _ hc, dk_gC_no z _, ho, fun z0 hm0 => ⟨ds_rowI (dk_zg z0) 90 (upd ((dk_zg z0).1 90) 11 (nI 3)), ?_, dk_IM_no _ hm0, dk_gM_no z0 _⟩⟩
      · rw [c_Sea_image, b_Sea_image_0]
        simp (disch := first | assumption | omega | rfl | decide) only [ds_cI, ds_cV, ds_cL, ds_cR, ds_nn, ds_isK_t, ds_isA_t, ds_chk_t, ds_chkN, ds_nz_t, ds_nzN, ds_isB_t, ds_isB_bo, ↓dl_m1, ↓dl_m2, dl_0, dl_1, dl_2, dl_3, dl_4, dl_5, dl_6, dl_7, dl_8, dl_9, dl_10, dl_11, dl_12, dl_13, dl_14, dl_15, dl_16, dl_20, dl_24, dl_31, dl_50, dl_57, dl_67, dl_68, dl_74, dl_75, dl_79, dl_80, dl_99, dl_100, dl_200, dl_210, dl_224, dl_255, dl_289, dl_900, dl_1000, dl_1728, dl_65536, dl_65537, nI_add, pk_mul, pk_sub, pk_div, pk_rem, ds_rem2, nI_clamp, nI_leI, nI_ltI, nI_eq, ds_m1_eq, ds_eq_m1, ds_m2_eq, ds_eq_m2, ds_m1_le, ds_le_m1, ds_m1_lt, ds_lt_m1, ds_in_N, ds_bo0, ds_bo1, if_pos, if_neg, Nat.not_le, Nat.not_lt, not_true_eq_false, not_false_eq_true, if_true, if_false, ne_eq, Option.some.injEq, Prod.mk.injEq, Value.int.injEq, true_and, and_true, and_self, ite_self, Bool.not_eq_true, Bool.not_eq_false, Bool.true_eq_false, Bool.false_eq_true, reduceCtorEq, Nat.zero_add, Nat.reduceAdd, Nat.reduceMul, Nat.reduceSub, ds_setI_row, ds_setL_row, ds_rowI_self, ds_rowI_ne, ds_rowI_2, ds_rowI_rowI, ds_setS_1, ds_setS_21, ds_setS_self, ds_setS_ne, pk_us, pk_un, hs, hn, decide_true, e3, s_refuse]
      · have hmg := dk_IM_zg hm0
        have hsg := hmg.2.1
        have ri1 := (dk_IM_de hmg).2.2.1
        rw [c_Mod_image, b_Mod_image_0]
        simp (disch := first | assumption | omega | rfl | decide) only [ds_cI, ds_cV, ds_cL, ds_cR, ds_nn, ds_isK_t, ds_isA_t, ds_chk_t, ds_chkN, ds_nz_t, ds_nzN, ds_isB_t, ds_isB_bo, ↓dl_m1, ↓dl_m2, dl_0, dl_1, dl_2, dl_3, dl_4, dl_5, dl_6, dl_7, dl_8, dl_9, dl_10, dl_11, dl_12, dl_13, dl_14, dl_15, dl_16, dl_20, dl_24, dl_31, dl_50, dl_57, dl_67, dl_68, dl_74, dl_75, dl_79, dl_80, dl_99, dl_100, dl_200, dl_210, dl_224, dl_255, dl_289, dl_900, dl_1000, dl_1728, dl_65536, dl_65537, nI_add, pk_mul, pk_sub, pk_div, pk_rem, ds_rem2, nI_clamp, nI_leI, nI_ltI, nI_eq, ds_m1_eq, ds_eq_m1, ds_m2_eq, ds_eq_m2, ds_m1_le, ds_le_m1, ds_m1_lt, ds_lt_m1, ds_in_N, ds_bo0, ds_bo1, if_pos, if_neg, Nat.not_le, Nat.not_lt, not_true_eq_false, not_false_eq_true, if_true, if_false, ne_eq, Option.some.injEq, Prod.mk.injEq, Value.int.injEq, true_and, and_true, and_self, ite_self, Bool.not_eq_true, Bool.not_eq_false, Bool.true_eq_false, Bool.false_eq_true, reduceCtorEq, Nat.zero_add, Nat.reduceAdd, Nat.reduceMul, Nat.reduceSub, ds_setI_row, ds_setL_row, ds_rowI_self, ds_rowI_ne, ds_rowI_2, ds_rowI_rowI, ds_setS_1, ds_setS_21, ds_setS_self, ds_setS_ne, pk_us, pk_un, s_good, hsg, hn, decide_true, ri1, s_no]
  · have h4 := h0 4 (by decide)
    refine ⟨.int ds_m1, nI 1, ds_rowI z 0 (upd (z.1 0) 10 (nI 1)), K, U, u, M, m, ?_, dk_IC_no _ hc, dk_gC_no z _, ho, fun z0 hm0 => ⟨ds_rowI (dk_zg z0) 90 (upd ((dk_zg z0).1 90) 11 (nI 1)), ?_, dk_IM_no _ hm0, dk_gM_no z0 _⟩⟩
    · rw [c_Sea_image, b_Sea_image_0]
      simp (disch := first | assumption | omega | rfl | decide) only [ds_cI, ds_cV, ds_cL, ds_cR, ds_nn, ds_isK_t, ds_isA_t, ds_chk_t, ds_chkN, ds_nz_t, ds_nzN, ds_isB_t, ds_isB_bo, ↓dl_m1, ↓dl_m2, dl_0, dl_1, dl_2, dl_3, dl_4, dl_5, dl_6, dl_7, dl_8, dl_9, dl_10, dl_11, dl_12, dl_13, dl_14, dl_15, dl_16, dl_20, dl_24, dl_31, dl_50, dl_57, dl_67, dl_68, dl_74, dl_75, dl_79, dl_80, dl_99, dl_100, dl_200, dl_210, dl_224, dl_255, dl_289, dl_900, dl_1000, dl_1728, dl_65536, dl_65537, nI_add, pk_mul, pk_sub, pk_div, pk_rem, ds_rem2, nI_clamp, nI_leI, nI_ltI, nI_eq, ds_m1_eq, ds_eq_m1, ds_m2_eq, ds_eq_m2, ds_m1_le, ds_le_m1, ds_m1_lt, ds_lt_m1, ds_in_N, ds_bo0, ds_bo1, if_pos, if_neg, Nat.not_le, Nat.not_lt, not_true_eq_false, not_false_eq_true, if_true, if_false, ne_eq, Option.some.injEq, Prod.mk.injEq, Value.int.injEq, true_and, and_true, and_self, ite_self, Bool.not_eq_true, Bool.not_eq_false, Bool.true_eq_false, Bool.false_eq_true, reduceCtorEq, Nat.zero_add, Nat.reduceAdd, Nat.reduceMul, Nat.reduceSub, ds_setI_row, ds_setL_row, ds_rowI_self, ds_rowI_ne, ds_rowI_2, ds_rowI_rowI, ds_setS_1, ds_setS_21, ds_setS_self, ds_setS_ne, pk_us, pk_un, hs, h4, Nat.lt_irrefl, decide_false, s_refuse]
    · have hsg := (dk_IM_zg hm0).2.1
      rw [c_Mod_image, b_Mod_image_0]
      simp (disch := first | assumption | omega | rfl | decide) only [ds_cI, ds_cV, ds_cL, ds_cR, ds_nn, ds_isK_t, ds_isA_t, ds_chk_t, ds_chkN, ds_nz_t, ds_nzN, ds_isB_t, ds_isB_bo, ↓dl_m1, ↓dl_m2, dl_0, dl_1, dl_2, dl_3, dl_4, dl_5, dl_6, dl_7, dl_8, dl_9, dl_10, dl_11, dl_12, dl_13, dl_14, dl_15, dl_16, dl_20, dl_24, dl_31, dl_50, dl_57, dl_67, dl_68, dl_74, dl_75, dl_79, dl_80, dl_99, dl_100, dl_200, dl_210, dl_224, dl_255, dl_289, dl_900, dl_1000, dl_1728, dl_65536, dl_65537, nI_add, pk_mul, pk_sub, pk_div, pk_rem, ds_rem2, nI_clamp, nI_leI, nI_ltI, nI_eq, ds_m1_eq, ds_eq_m1, ds_m2_eq, ds_eq_m2, ds_m1_le, ds_le_m1, ds_m1_lt, ds_lt_m1, ds_in_N, ds_bo0, ds_bo1, if_pos, if_neg, Nat.not_le, Nat.not_lt, not_true_eq_false, not_false_eq_true, if_true, if_false, ne_eq, Option.some.injEq, Prod.mk.injEq, Value.int.injEq, true_and, and_true, and_self, ite_self, Bool.not_eq_true, Bool.not_eq_false, Bool.true_eq_false, Bool.false_eq_true, reduceCtorEq, Nat.zero_add, Nat.reduceAdd, Nat.reduceMul, Nat.reduceSub, ds_setI_row, ds_setL_row, ds_rowI_self, ds_rowI_ne, ds_rowI_2, ds_rowI_rowI, ds_setS_1, ds_setS_21, ds_setS_self, ds_setS_ne, pk_us, pk_un, s_good, hsg, h4, Nat.lt_irrefl, decide_false, s_no]
theorem k_back (d : Nat) (x : Int32) (z : ds_St) (h : dk_Inv z) : ∃ v z1 z2, ds_call (d + 20) j_Sea_back [.ref 0, .int x] z = some (some v, z1) ∧ ds_call (d + 20) j_Mod_back [.ref 90, .int x] z1 = some (some v, z2) ∧ dk_Inv z2 := by
  apply dk_both2 h
  intro t t' D K U u M m f B hc ho
  obtain ⟨dc, ac, ic⟩ := dk_IC_de hc
  have e3 : z.1 82 3 = nI m := by obtain ⟨_, _, _, _, q, _⟩ := ic; exact q
  have m3 : m ≤ 3 := by rcases ho.1 with ⟨_, _, _, _, _, q⟩ | ⟨_, _, _, _, q⟩ <;> omega
  have gin : ∀ z, ds_call (d + 19) j_Mod_in [.int x, .int (nI 0), .int (nI m - nI 1)] z = some (some (.int (ds_bo (dk_rng x m))), z) := by
    intro z
    rcases Nat.eq_zero_or_pos m with h0 | h0
    · subst h0
      rw [dk_rng_0, c_Mod_in, b_Mod_in_0]
      have e : nI 0 - nI 1 = ds_m1 := by decide
      rw [e, ← dl_0]
      by_cases q : x < 0
      · rw [if_pos q]; rfl
      · rw [if_neg q]
        obtain ⟨j, hj, rfl⟩ := nI_of q
        rw [if_pos (by rw [ds_m1_lt hj]; trivial)]
        rfl
    · rw [pk_sub (by omega)]
      exact s_in_rng (d + 18) m x z h0 (by omega)
  rcases Bool.eq_false_or_eq_true (dk_rng x m) with hr | hr
  · obtain ⟨i, hi, rfl⟩ := (dk_rng_iff (by omega)).mp hr
    rcases ho.1 with ⟨hD, hK, hU, hM', hu, hm3⟩ | ⟨h0, hc0, hp0, hu0, hm0⟩
    · have hM12 : ∀ q, q < m → M q 12 ≤ 12 := fun q hq => (hM' q hq).1
      obtain ⟨z1, s1, s2, s3, s4⟩ := s_backI (d + 16) m i z M hM12 ic hm3 hi
      have s5 : ds_call (d + 19) j_Shelf_empty [.ref 80] z1 = some (none, ds_rowI z1 80 (upd (upd (z1.1 80) 2 (nI 0)) 3 (nI 0))) := by
        rw [c_Shelf_empty, b_Shelf_empty_0_80]
        simp (disch := first | assumption | omega | rfl | decide) only [ds_cI, ds_cV, ds_cL, ds_cR, ds_nn, ds_isK_t, ds_isA_t, ds_chk_t, ds_chkN, ds_nz_t, ds_nzN, ds_isB_t, ds_isB_bo, ↓dl_m1, ↓dl_m2, dl_0, dl_1, dl_2, dl_3, dl_4, dl_5, dl_6, dl_7, dl_8, dl_9, dl_10, dl_11, dl_12, dl_13, dl_14, dl_15, dl_16, dl_20, dl_24, dl_31, dl_50, dl_57, dl_67, dl_68, dl_74, dl_75, dl_79, dl_80, dl_99, dl_100, dl_200, dl_210, dl_224, dl_255, dl_289, dl_900, dl_1000, dl_1728, dl_65536, dl_65537, nI_add, pk_mul, pk_sub, pk_div, pk_rem, ds_rem2, nI_clamp, nI_leI, nI_ltI, nI_eq, ds_m1_eq, ds_eq_m1, ds_m2_eq, ds_eq_m2, ds_m1_le, ds_le_m1, ds_m1_lt, ds_lt_m1, ds_in_N, ds_bo0, ds_bo1, if_pos, if_neg, Nat.not_le, Nat.not_lt, not_true_eq_false, not_false_eq_true, if_true, if_false, ne_eq, Option.some.injEq, Prod.mk.injEq, Value.int.injEq, true_and, and_true, and_self, ite_self, Bool.not_eq_true, Bool.not_eq_false, Bool.true_eq_false, Bool.false_eq_true, reduceCtorEq, Nat.zero_add, Nat.reduceAdd, Nat.reduceMul, Nat.reduceSub, ds_setI_row, ds_setL_row, ds_rowI_self, ds_rowI_ne, ds_rowI_2, ds_rowI_rowI, ds_setS_1, ds_setS_21, ds_setS_self, ds_setS_ne, pk_us, pk_un]
      refine ⟨.int (nI 1), nI 0, ds_rowI (ds_rowI z1 80 (upd (upd (z1.1 80) 2 (nI 0)) 3 (nI 0))) 0 (upd (z1.1 0) 10 (nI 0)), M i, U, 0, M, m, ?_, ?_, ?_, ⟨.inl ⟨hD, hM' i hi, fun q hq => by omega, hM', by omega, hm3⟩, ho.2⟩, ?_⟩
      · rw [c_Sea_back, b_Sea_back_0]
        simp (disch := first | assumption | omega | rfl | decide) only [ds_cI, ds_cV, ds_cL, ds_cR, ds_nn, ds_isK_t, ds_isA_t, ds_chk_t, ds_chkN, ds_nz_t, ds_nzN, ds_isB_t, ds_isB_bo, ↓dl_m1, ↓dl_m2, dl_0, dl_1, dl_2, dl_3, dl_4, dl_5, dl_6, dl_7, dl_8, dl_9, dl_10, dl_11, dl_12, dl_13, dl_14, dl_15, dl_16, dl_20, dl_24, dl_31, dl_50, dl_57, dl_67, dl_68, dl_74, dl_75, dl_79, dl_80, dl_99, dl_100, dl_200, dl_210, dl_224, dl_255, dl_289, dl_900, dl_1000, dl_1728, dl_65536, dl_65537, nI_add, pk_mul, pk_sub, pk_div, pk_rem, ds_rem2, nI_clamp, nI_leI, nI_ltI, nI_eq, ds_m1_eq, ds_eq_m1, ds_m2_eq, ds_eq_m2, ds_m1_le, ds_le_m1, ds_m1_lt, ds_lt_m1, ds_in_N, ds_bo0, ds_bo1, if_pos, if_neg, Nat.not_le, Nat.not_lt, not_true_eq_false, not_false_eq_true, if_true, if_false, ne_eq, Option.some.injEq, Prod.mk.injEq, Value.int.injEq, true_and, and_true, and_self, ite_self, Bool.not_eq_true, Bool.not_eq_false, Bool.true_eq_false, Bool.false_eq_true, reduceCtorEq, Nat.zero_add, Nat.reduceAdd, Nat.reduceMul, Nat.reduceSub, ds_setI_row, ds_setL_row, ds_rowI_self, ds_rowI_ne, ds_rowI_2, ds_rowI_rowI, ds_setS_1, ds_setS_21, ds_setS_self, ds_setS_ne, pk_us, pk_un, e3, s1, s5]
      · refine dk_IC_mk hc (fun p x y => by rw [ds_rowI_ne _ _ (by omega), ds_rowI_ne _ _ (by omega)]; exact s3 p (by omega) (by omega)) (fun j hj => by show z1.2.2 j = _; rw [s4]) (dk_deC_eq s2 ?_ ?_) ⟨0, by decide, ?_, ?_, ?_, fun q hq => by omega⟩ (dk_imC_eq ic ?_ ?_)
        · rw [ds_rowI_ne _ _ (by decide), ds_rowI_ne _ _ (by decide)]
        · rw [ds_rowI_ne _ _ (by decide), ds_rowI_ne _ _ (by decide)]
        · rw [ds_rowI_ne _ _ (by decide), ds_rowI_self, pk_un (by decide), pk_un (by decide), s3 80 (by decide) (by decide)]
          obtain ⟨_, _, q, _⟩ := ac
          exact q
        · rw [ds_rowI_ne _ _ (by decide), ds_rowI_self, pk_un (by decide), pk_us]
        · rw [ds_rowI_ne _ _ (by decide), ds_rowI_self, pk_us]
        · rw [ds_rowI_ne _ _ (by decide), ds_rowI_ne _ _ (by decide), s3 82 (by decide) (by decide)]
        · rw [ds_rowI_ne _ _ (by decide), ds_rowI_ne _ _ (by decide), s3 83 (by decide) (by decide)]
      · refine ⟨fun p hp => by rw [ds_rowI_ne _ _ (by omega), ds_rowI_ne _ _ (by omega)]; exact s3 p (by omega) (by omega), ?_⟩
        rw [ds_rowI_self, s3 0 (by decide) (by decide)]
      · intro z0 hm0
        have hmg := dk_IM_zg hm0
        obtain ⟨rd, ra, ri⟩ := dk_IM_de hmg
        have ri1 := ri.1
        have s6 := s_copy (d + 18) 97 95 (14 * i) 0 14 (dk_zg z0) rfl rfl (by decide) (show 14 * i + 14 ≤ 42 by omega) (by decide) (by decide)
        refine ⟨ds_rowI (ds_rowI (dk_zg z0) 95 (ds_cpF ((dk_zg z0).1 97) ((dk_zg z0).1 95) (14 * i) 0 0 14)) 90 (upd ((dk_zg z0).1 90) 20 (nI 0)), ?_, ?_, ?_⟩
        · have gi := gin (dk_zg z0)
          rw [c_Mod_back, b_Mod_back_0]
          rw [pk_sub (by omega)] at gi
          simp (disch := first | assumption | omega | rfl | decide) only [ds_cI, ds_cV, ds_cL, ds_cR, ds_nn, ds_isK_t, ds_isA_t, ds_chk_t, ds_chkN, ds_nz_t, ds_nzN, ds_isB_t, ds_isB_bo, ↓dl_m1, ↓dl_m2, dl_0, dl_1, dl_2, dl_3, dl_4, dl_5, dl_6, dl_7, dl_8, dl_9, dl_10, dl_11, dl_12, dl_13, dl_14, dl_15, dl_16, dl_20, dl_24, dl_31, dl_50, dl_57, dl_67, dl_68, dl_74, dl_75, dl_79, dl_80, dl_99, dl_100, dl_200, dl_210, dl_224, dl_255, dl_289, dl_900, dl_1000, dl_1728, dl_65536, dl_65537, nI_add, pk_mul, pk_sub, pk_div, pk_rem, ds_rem2, nI_clamp, nI_leI, nI_ltI, nI_eq, ds_m1_eq, ds_eq_m1, ds_m2_eq, ds_eq_m2, ds_m1_le, ds_le_m1, ds_m1_lt, ds_lt_m1, ds_in_N, ds_bo0, ds_bo1, if_pos, if_neg, Nat.not_le, Nat.not_lt, not_true_eq_false, not_false_eq_true, if_true, if_false, ne_eq, Option.some.injEq, Prod.mk.injEq, Value.int.injEq, true_and, and_true, and_self, ite_self, Bool.not_eq_true, Bool.not_eq_false, Bool.true_eq_false, Bool.false_eq_true, reduceCtorEq, Nat.zero_add, Nat.reduceAdd, Nat.reduceMul, Nat.reduceSub, ds_setI_row, ds_setL_row, ds_rowI_self, ds_rowI_ne, ds_rowI_2, ds_rowI_rowI, ds_setS_1, ds_setS_21, ds_setS_self, ds_setS_ne, pk_us, pk_un, s_good, ri1, gi, hr, s6]
        · refine dk_IM_mk hm0 (by rw [ds_rowI_ne _ _ (by decide), ds_rowI_ne _ _ (by decide), dk_zg_ne z0 (by decide)]) (by rw [ds_rowI_ne _ _ (by decide), ds_rowI_ne _ _ (by decide), dk_zg_ne z0 (by decide)]) (fun k hk => by rw [ds_rowI_self, pk_un (by omega), dk_zg_k z0 (by omega) (by omega)]) ?_ ⟨by rw [ds_rowI_self, pk_us], fun q hq => by omega⟩ (dk_imM_eq ri (by rw [ds_rowI_self, pk_un (by decide)]) (by rw [ds_rowI_ne _ _ (by decide), ds_rowI_ne _ _ (by decide)]))
          rw [ds_rowI_ne _ _ (by decide), ds_rowI_self]
          exact dk_rwM_cp (hM12 i hi) (ri.2 i hi)
        · refine dk_gM_ok (fun p hp => by rw [ds_rowI_ne _ _ (by omega), ds_rowI_ne _ _ (by omega), dk_zg_ne z0 (by omega)]) (fun k hk => by rw [ds_rowI_self, pk_un (by omega)]) (fun j hj => rfl)
    · omega
  · have hx := dk_rng_lt (by omega) hr
    refine ⟨.int (nI 0), nI 1, ds_rowI z 0 (upd (z.1 0) 10 (nI 1)), K, U, u, M, m, ?_, dk_IC_no _ hc, dk_gC_no z _, ho, fun z0 hm0 => ⟨ds_rowI (dk_zg z0) 90 (upd ((dk_zg z0).1 90) 11 (nI 1)), ?_, dk_IM_no _ hm0, dk_gM_no z0 _⟩⟩
    · rw [c_Sea_back, b_Sea_back_0]
      rcases hx with hx | ⟨hx, hx2⟩
      · simp (disch := first | assumption | omega | rfl | decide) only [ds_cI, ds_cV, ds_cL, ds_cR, ds_nn, ds_isK_t, ds_isA_t, ds_chk_t, ds_chkN, ds_nz_t, ds_nzN, ds_isB_t, ds_isB_bo, ↓dl_m1, ↓dl_m2, dl_0, dl_1, dl_2, dl_3, dl_4, dl_5, dl_6, dl_7, dl_8, dl_9, dl_10, dl_11, dl_12, dl_13, dl_14, dl_15, dl_16, dl_20, dl_24, dl_31, dl_50, dl_57, dl_67, dl_68, dl_74, dl_75, dl_79, dl_80, dl_99, dl_100, dl_200, dl_210, dl_224, dl_255, dl_289, dl_900, dl_1000, dl_1728, dl_65536, dl_65537, nI_add, pk_mul, pk_sub, pk_div, pk_rem, ds_rem2, nI_clamp, nI_leI, nI_ltI, nI_eq, ds_m1_eq, ds_eq_m1, ds_m2_eq, ds_eq_m2, ds_m1_le, ds_le_m1, ds_m1_lt, ds_lt_m1, ds_in_N, ds_bo0, ds_bo1, if_pos, if_neg, Nat.not_le, Nat.not_lt, not_true_eq_false, not_false_eq_true, if_true, if_false, ne_eq, Option.some.injEq, Prod.mk.injEq, Value.int.injEq, true_and, and_true, and_self, ite_self, Bool.not_eq_true, Bool.not_eq_false, Bool.true_eq_false, Bool.false_eq_true, reduceCtorEq, Nat.zero_add, Nat.reduceAdd, Nat.reduceMul, Nat.reduceSub, ds_setI_row, ds_setL_row, ds_rowI_self, ds_rowI_ne, ds_rowI_2, ds_rowI_rowI, ds_setS_1, ds_setS_21, ds_setS_self, ds_setS_ne, pk_us, pk_un, hx]
      · simp (disch := first | assumption | omega | rfl | decide) only [ds_cI, ds_cV, ds_cL, ds_cR, ds_nn, ds_isK_t, ds_isA_t, ds_chk_t, ds_chkN, ds_nz_t, ds_nzN, ds_isB_t, ds_isB_bo, ↓dl_m1, ↓dl_m2, dl_0, dl_1, dl_2, dl_3, dl_4, dl_5, dl_6, dl_7, dl_8, dl_9, dl_10, dl_11, dl_12, dl_13, dl_14, dl_15, dl_16, dl_20, dl_24, dl_31, dl_50, dl_57, dl_67, dl_68, dl_74, dl_75, dl_79, dl_80, dl_99, dl_100, dl_200, dl_210, dl_224, dl_255, dl_289, dl_900, dl_1000, dl_1728, dl_65536, dl_65537, nI_add, pk_mul, pk_sub, pk_div, pk_rem, ds_rem2, nI_clamp, nI_leI, nI_ltI, nI_eq, ds_m1_eq, ds_eq_m1, ds_m2_eq, ds_eq_m2, ds_m1_le, ds_le_m1, ds_m1_lt, ds_lt_m1, ds_in_N, ds_bo0, ds_bo1, if_pos, if_neg, Nat.not_le, Nat.not_lt, not_true_eq_false, not_false_eq_true, if_true, if_false, ne_eq, Option.some.injEq, Prod.mk.injEq, Value.int.injEq, true_and, and_true, and_self, ite_self, Bool.not_eq_true, Bool.not_eq_false, Bool.true_eq_false, Bool.false_eq_true, reduceCtorEq, Nat.zero_add, Nat.reduceAdd, Nat.reduceMul, Nat.reduceSub, ds_setI_row, ds_setL_row, ds_rowI_self, ds_rowI_ne, ds_rowI_2, ds_rowI_rowI, ds_setS_1, ds_setS_21, ds_setS_self, ds_setS_ne, pk_us, pk_un, hx, e3, hx2]
    · have ri1 := (dk_IM_de (dk_IM_zg hm0)).2.2.1
      have gi := gin (dk_zg z0)
      rw [c_Mod_back, b_Mod_back_0]
      simp only [ds_cV, s_good, ri1, dl_0, dl_1, ds_cI, gi, hr]
      simp (disch := first | assumption | omega | rfl | decide) only [ds_cI, ds_cV, ds_cL, ds_cR, ds_nn, ds_isK_t, ds_isA_t, ds_chk_t, ds_chkN, ds_nz_t, ds_nzN, ds_isB_t, ds_isB_bo, ↓dl_m1, ↓dl_m2, dl_0, dl_1, dl_2, dl_3, dl_4, dl_5, dl_6, dl_7, dl_8, dl_9, dl_10, dl_11, dl_12, dl_13, dl_14, dl_15, dl_16, dl_20, dl_24, dl_31, dl_50, dl_57, dl_67, dl_68, dl_74, dl_75, dl_79, dl_80, dl_99, dl_100, dl_200, dl_210, dl_224, dl_255, dl_289, dl_900, dl_1000, dl_1728, dl_65536, dl_65537, nI_add, pk_mul, pk_sub, pk_div, pk_rem, ds_rem2, nI_clamp, nI_leI, nI_ltI, nI_eq, ds_m1_eq, ds_eq_m1, ds_m2_eq, ds_eq_m2, ds_m1_le, ds_le_m1, ds_m1_lt, ds_lt_m1, ds_in_N, ds_bo0, ds_bo1, if_pos, if_neg, Nat.not_le, Nat.not_lt, not_true_eq_false, not_false_eq_true, if_true, if_false, ne_eq, Option.some.injEq, Prod.mk.injEq, Value.int.injEq, true_and, and_true, and_self, ite_self, Bool.not_eq_true, Bool.not_eq_false, Bool.true_eq_false, Bool.false_eq_true, reduceCtorEq, Nat.zero_add, Nat.reduceAdd, Nat.reduceMul, Nat.reduceSub, ds_setI_row, ds_setL_row, ds_rowI_self, ds_rowI_ne, ds_rowI_2, ds_rowI_rowI, ds_setS_1, ds_setS_21, ds_setS_self, ds_setS_ne, pk_us, pk_un, s_isNot, ds_isB_0]
