theorem dk_far_add {P : Nat → Bool} {k0 : Nat} (hk : k0 < 13) : dk_far (fun q => P q || q == k0) 0 13 = (if dk_far P 0 13 < nI 0 then nI k0 else if dk_far P 0 13 ≤ nI k0 then dk_far P 0 13 else nI k0) := by
  rcases dk_far_or P 13 with ⟨b, hb, h1, h2⟩ | h2
  · have e := dk_far_y h1 13 0 (Nat.zero_le _) (by omega) (fun q _ c => h2 q c)
    rw [e, if_neg (show ¬ nI b < nI 0 from nI_pos (by omega))]
    by_cases h : b ≤ k0
    · rw [if_pos (nI_le h (by omega))]
      exact dk_far_y (P := fun q => P q || q == k0) (b := b) (by simp [h1]) 13 0 (Nat.zero_le _) (by omega) (fun q _ c => by
        have hq : (q == k0) = false := by simp; omega
        show (P q || q == k0) = false
        rw [h2 q c, hq]; rfl)
    · rw [if_neg (nI_ge (by omega) (by omega))]
      exact dk_far_y (P := fun q => P q || q == k0) (b := k0) (by simp) 13 0 (Nat.zero_le _) (by omega) (fun q _ c => by
        have hq : (q == k0) = false := by simp; omega
        show (P q || q == k0) = false
        rw [h2 q (by omega), hq]; rfl)
  · have e := dk_far_n (P := P) 13 0 (fun q _ c => h2 q (by omega))
    rw [e, if_pos (by decide)]
    exact dk_far_y (P := fun q => P q || q == k0) (b := k0) (by simp) 13 0 (Nat.zero_le _) (by omega) (fun q _ c => by
        have hq : (q == k0) = false := by simp; omega
        show (P q || q == k0) = false
        rw [h2 q (by omega), hq]; rfl)
theorem k_nearest (d : Nat) (x y : Int32) (z : ds_St) (h : dk_Inv z) : ∃ v z1 z2, ds_call (d + 20) j_Sea_nearest [.ref 0, .int x, .int y] z = some (some v, z1) ∧ ds_call (d + 20) j_Mod_nearest [.ref 90, .int x, .int y] z1 = some (some v, z2) ∧ dk_Inv z2 := by
  apply dk_both h
  intro t D K hC hM hz
  have hs := s_isIsland (d + 18) t x z D K hC
  have hs2 := fun z hM => s_misIsland (d + 17) x z D K hM hz
  have hg := s_isGood (d + 18) y z
  have hg2 := fun z => s_in_rng (d + 18) 4 y z (by decide) (by decide)
  have n12 := (dk_n12 hz).1
  rcases Bool.eq_false_or_eq_true (dk_rng x (D 0 4)) with hr | hr
  · rcases Bool.eq_false_or_eq_true (dk_rng y 4) with hq | hq
    · obtain ⟨i, hi, rfl⟩ := (dk_rng_iff (by omega)).mp hr
      obtain ⟨g, hgg, rfl⟩ := (dk_rng_iff (by decide)).mp hq
      rcases hz with ⟨hD, hK⟩ | ⟨h0, hc0, hp0⟩
      · obtain ⟨z', s1, s2, s3, s4⟩ := s_chartOf (d + 15) t 61 (K 12) z D K hC.1 hC.2.1 hD (dk_HC_dk hC hK)
        have s5 := s_placeBit (d + 17) t _ i z' D K hD s2 (by omega)
        have s5' := s_placesOfGood (d + 16) t _ g z' D K s4 hD s2 hgg
        have s6 := s_bridges (d + 14) t i (fun p => (D 2 (K p) == g) && !(K p == i)) z' D K s4 hD hK s2 hi
        let cond : Nat → Bool := fun j => (D 2 j == g) && !(j == i)
        have e : dk_far (fun n => dk_any (fun p => (dk_le D K i n).1 (K p) && ((D 2 (K p) == g) && !(K p == i))) (min (D 0 0 * D 0 1) (K 12))) 0 13 = dk_far (fun n => dk_any (fun j => (dk_le D K i n).1 j && cond j) (D 0 4)) 0 13 := by
          apply dk_far_congr
          intro n _ _
          apply dk_boolext
          rw [dk_any_iff, dk_any_iff]
          constructor
          · rintro ⟨p, hp, hh⟩
            exact ⟨K p, hK.2.1.1 p (by omega), hh⟩
          · rintro ⟨j, hj, hh⟩
            have hh' := hh
            rw [Bool.and_eq_true] at hh'
            obtain ⟨p, hp, e⟩ := dk_le_in hh'.1
            refine ⟨p, hp, ?_⟩
            rw [e]; exact hh
        rw [e] at s6
        have i67 : ds_K 67 = 1 := rfl
        refine ⟨.int (dk_far (fun n => dk_any (fun j => (dk_le D K i n).1 j && cond j) (D 0 4)) 0 13), nI 0, ds_rowI z' 0 (upd (z'.1 0) 10 (nI 0)), ?_, dk_qC_row _ (dk_fr_mono s3 (by decide) (by decide)), fun z0 hM0 => ?_⟩
        · rw [c_Sea_nearest, b_Sea_nearest_0]
          clear_value cond
          generalize dk_far (fun n => dk_any (fun j => (dk_le D K i n).1 j && cond j) (D 0 4)) 0 13 = W at *
          simp (disch := first | assumption | omega) only [ds_cI, ds_cV, ds_cL, ds_cR, ds_nn, ds_isK_t, ds_isA_t, ds_chk_t, ds_chkN, ds_nz_t, ds_nzN, ds_isB_t, ds_isB_bo, ↓dl_m1, ↓dl_m2, dl_0, dl_1, dl_2, dl_3, dl_4, dl_5, dl_6, dl_7, dl_8, dl_9, dl_10, dl_11, dl_12, dl_13, dl_14, dl_15, dl_16, dl_20, dl_24, dl_31, dl_50, dl_57, dl_67, dl_68, dl_74, dl_75, dl_79, dl_80, dl_99, dl_100, dl_200, dl_210, dl_224, dl_255, dl_289, dl_900, dl_1000, dl_1728, dl_65536, dl_65537, nI_add, pk_mul, pk_sub, pk_div, pk_rem, ds_rem2, nI_clamp, nI_leI, nI_ltI, nI_eq, ds_m1_eq, ds_eq_m1, ds_m2_eq, ds_eq_m2, ds_m1_le, ds_le_m1, ds_m1_lt, ds_lt_m1, ds_in_N, ds_bo0, ds_bo1, if_pos, if_neg, Nat.not_le, Nat.not_lt, not_true_eq_false, not_false_eq_true, if_true, if_false, ne_eq, Option.some.injEq, Prod.mk.injEq, Value.int.injEq, true_and, and_true, and_self, ite_self, Bool.not_eq_true, Bool.not_eq_false, Bool.true_eq_false, Bool.false_eq_true, reduceCtorEq, Nat.zero_add, Nat.reduceAdd, Nat.reduceMul, Nat.reduceSub, ds_setI_row, ds_setL_row, ds_rowI_self, ds_rowI_ne, ds_rowI_2, ds_rowI_rowI, ds_setS_1, ds_setS_21, ds_setS_self, ds_setS_ne, pk_us, pk_un, hs, hr, hg, hq, s1, s5, s5', dk_andnot, s6, s_answer]
        · have hMg := dk_zg_HM hM0
          have a2 := hs2 _ hMg
          obtain ⟨y1, q1, q2, q3, q4⟩ := s_layBridges (d + 15) i _ D K hMg hD hK hi
          have hM1 : dk_HM y1 D K := dk_HM_q hMg (q3 93 (by decide)) (q3 95 (by decide)) (by rw [q3 90 (by decide)])
          have m4 := hM1.1.1.2.2.2.2.1
          have oi := hD.2.2.2.2.2.2.2.2.1
          have of := fun j w => s_of (d + 18) j w y1 D hM1.1 hD
          have up := ds_up (F := fun k => ds_Rw ds_c_Mod_nearest ds_u_Mod_nearest (ds_call (d + 19)) 38 [some (.ref 90), some (.int (nI i)), some (.int (nI g)), some (.int ((dk_far (fun n => dk_any (fun j => (dk_le D K i n).1 j && cond j) k) 0 13))), some (.int (nI k))] [] y1) (n := D 0 4) 0 (by
            intro k _ hk
            have vk := q2 k hk
            have bk := (oi k hk).2.1
            rw [b_Mod_nearest_38]
            have noadd : (∀ n, n < 13 → ((dk_le D K i n).1 k && cond k) = false) → dk_far (fun n => dk_any (fun j => (dk_le D K i n).1 j && cond j) (k + 1)) 0 13 = dk_far (fun n => dk_any (fun j => (dk_le D K i n).1 j && cond j) k) 0 13 := by
              intro hno
              apply dk_far_congr
              intro n _ hn
              simp only [dk_any]
              rw [hno n (by omega), Bool.or_false]
            by_cases h1 : k = i
            · have hcond : cond k = false := by simp [cond, h1]
              rw [noadd (fun n _ => by rw [hcond, Bool.and_false])]
              clear_value cond
              simp (disch := first | assumption | omega) only [ds_cI, ds_cV, ds_cL, ds_cR, ds_nn, ds_isK_t, ds_isA_t, ds_chk_t, ds_chkN, ds_nz_t, ds_nzN, ds_isB_t, ds_isB_bo, ↓dl_m1, ↓dl_m2, dl_0, dl_1, dl_2, dl_3, dl_4, dl_5, dl_6, dl_7, dl_8, dl_9, dl_10, dl_11, dl_12, dl_13, dl_14, dl_15, dl_16, dl_20, dl_24, dl_31, dl_50, dl_57, dl_67, dl_68, dl_74, dl_75, dl_79, dl_80, dl_99, dl_100, dl_200, dl_210, dl_224, dl_255, dl_289, dl_900, dl_1000, dl_1728, dl_65536, dl_65537, nI_add, pk_mul, pk_sub, pk_div, pk_rem, ds_rem2, nI_clamp, nI_leI, nI_ltI, nI_eq, ds_m1_eq, ds_eq_m1, ds_m2_eq, ds_eq_m2, ds_m1_le, ds_le_m1, ds_m1_lt, ds_lt_m1, ds_in_N, ds_bo0, ds_bo1, if_pos, if_neg, Nat.not_le, Nat.not_lt, not_true_eq_false, not_false_eq_true, if_true, if_false, ne_eq, Option.some.injEq, Prod.mk.injEq, Value.int.injEq, true_and, and_true, and_self, ite_self, Bool.not_eq_true, Bool.not_eq_false, Bool.true_eq_false, Bool.false_eq_true, reduceCtorEq, Nat.zero_add, Nat.reduceAdd, Nat.reduceMul, Nat.reduceSub, ds_setI_row, ds_setL_row, ds_rowI_self, ds_rowI_ne, ds_rowI_2, ds_rowI_rowI, ds_setS_1, ds_setS_21, ds_setS_self, ds_setS_ne, pk_us, pk_un, m4, h1]
            · by_cases h2 : D 2 k = g
              · have hcond : cond k = true := by simp [cond, h1, h2]
                obtain ⟨v1, v2⟩ := dk_vl_ok (D 0 4) (dk_be (dk_A D) K (K 12)) (fun i => D 1 i == 2) (fun i' => i' == i && dk_is D K (K 12) i) 12 k
                cases hrr : (dk_lv (D 0 4) (dk_be (dk_A D) K (K 12)) (fun i => D 1 i == 2) (fun i' => i' == i && dk_is D K (K 12) i) 12).2 k
                · rw [v1 hrr] at vk
                  rw [noadd (fun n hn => by
                    cases he : (dk_le D K i n).1 k
                    · rfl
                    · exfalso
                      have := dk_lv_mono (dk_lv_er he) (12 - n)
                      rw [show n + (12 - n) = 12 by omega, hrr] at this
                      exact absurd this (by decide))]
                  clear_value cond
                  simp (disch := first | assumption | omega) only [ds_cI, ds_cV, ds_cL, ds_cR, ds_nn, ds_isK_t, ds_isA_t, ds_chk_t, ds_chkN, ds_nz_t, ds_nzN, ds_isB_t, ds_isB_bo, ↓dl_m1, ↓dl_m2, dl_0, dl_1, dl_2, dl_3, dl_4, dl_5, dl_6, dl_7, dl_8, dl_9, dl_10, dl_11, dl_12, dl_13, dl_14, dl_15, dl_16, dl_20, dl_24, dl_31, dl_50, dl_57, dl_67, dl_68, dl_74, dl_75, dl_79, dl_80, dl_99, dl_100, dl_200, dl_210, dl_224, dl_255, dl_289, dl_900, dl_1000, dl_1728, dl_65536, dl_65537, nI_add, pk_mul, pk_sub, pk_div, pk_rem, ds_rem2, nI_clamp, nI_leI, nI_ltI, nI_eq, ds_m1_eq, ds_eq_m1, ds_m2_eq, ds_eq_m2, ds_m1_le, ds_le_m1, ds_m1_lt, ds_lt_m1, ds_in_N, ds_bo0, ds_bo1, if_pos, if_neg, Nat.not_le, Nat.not_lt, not_true_eq_false, not_false_eq_true, if_true, if_false, ne_eq, Option.some.injEq, Prod.mk.injEq, Value.int.injEq, true_and, and_true, and_self, ite_self, Bool.not_eq_true, Bool.not_eq_false, Bool.true_eq_false, Bool.false_eq_true, reduceCtorEq, Nat.zero_add, Nat.reduceAdd, Nat.reduceMul, Nat.reduceSub, ds_setI_row, ds_setL_row, ds_rowI_self, ds_rowI_ne, ds_rowI_2, ds_rowI_rowI, ds_setS_1, ds_setS_21, ds_setS_self, ds_setS_ne, pk_us, pk_un, m4, h1, of, h2, vk, show ds_m1 < nI 0 from by decide]
                · obtain ⟨k0, l1, l2, l3⟩ := v2 hrr
                  rw [l2] at vk
                  have eadd : dk_far (fun n => dk_any (fun j => (dk_le D K i n).1 j && cond j) (k + 1)) 0 13 = dk_far (fun n => dk_any (fun j => (dk_le D K i n).1 j && cond j) k || n == k0) 0 13 := by
                    apply dk_far_congr
                    intro n _ hn
                    simp only [dk_any]
                    rw [hcond, Bool.and_true]
                    congr 1
                    apply dk_boolext
                    constructor
                    · intro he
                      have := dk_lv_one he l3
                      simpa using this
                    · intro he
                      have : n = k0 := by simpa using he
                      rw [this]; exact l3
                  rw [eadd, dk_far_add (P := fun n => dk_any (fun j => (dk_le D K i n).1 j && cond j) k) (by omega)]
                  clear_value cond
                  generalize dk_far (fun n => dk_any (fun j => (dk_le D K i n).1 j && cond j) k) 0 13 = W at *
                  by_cases g1 : W < nI 0
                  · simp (disch := first | assumption | omega) only [ds_cI, ds_cV, ds_cL, ds_cR, ds_nn, ds_isK_t, ds_isA_t, ds_chk_t, ds_chkN, ds_nz_t, ds_nzN, ds_isB_t, ds_isB_bo, ↓dl_m1, ↓dl_m2, dl_0, dl_1, dl_2, dl_3, dl_4, dl_5, dl_6, dl_7, dl_8, dl_9, dl_10, dl_11, dl_12, dl_13, dl_14, dl_15, dl_16, dl_20, dl_24, dl_31, dl_50, dl_57, dl_67, dl_68, dl_74, dl_75, dl_79, dl_80, dl_99, dl_100, dl_200, dl_210, dl_224, dl_255, dl_289, dl_900, dl_1000, dl_1728, dl_65536, dl_65537, nI_add, pk_mul, pk_sub, pk_div, pk_rem, ds_rem2, nI_clamp, nI_leI, nI_ltI, nI_eq, ds_m1_eq, ds_eq_m1, ds_m2_eq, ds_eq_m2, ds_m1_le, ds_le_m1, ds_m1_lt, ds_lt_m1, ds_in_N, ds_bo0, ds_bo1, if_pos, if_neg, Nat.not_le, Nat.not_lt, not_true_eq_false, not_false_eq_true, if_true, if_false, ne_eq, Option.some.injEq, Prod.mk.injEq, Value.int.injEq, true_and, and_true, and_self, ite_self, Bool.not_eq_true, Bool.not_eq_false, Bool.true_eq_false, Bool.false_eq_true, reduceCtorEq, Nat.zero_add, Nat.reduceAdd, Nat.reduceMul, Nat.reduceSub, ds_setI_row, ds_setL_row, ds_rowI_self, ds_rowI_ne, ds_rowI_2, ds_rowI_rowI, ds_setS_1, ds_setS_21, ds_setS_self, ds_setS_ne, pk_us, pk_un, m4, h1, of, h2, vk, g1, b_Mod_nearest_91]
                  · by_cases g2 : W ≤ nI k0
                    · simp (disch := first | assumption | omega) only [ds_cI, ds_cV, ds_cL, ds_cR, ds_nn, ds_isK_t, ds_isA_t, ds_chk_t, ds_chkN, ds_nz_t, ds_nzN, ds_isB_t, ds_isB_bo, ↓dl_m1, ↓dl_m2, dl_0, dl_1, dl_2, dl_3, dl_4, dl_5, dl_6, dl_7, dl_8, dl_9, dl_10, dl_11, dl_12, dl_13, dl_14, dl_15, dl_16, dl_20, dl_24, dl_31, dl_50, dl_57, dl_67, dl_68, dl_74, dl_75, dl_79, dl_80, dl_99, dl_100, dl_200, dl_210, dl_224, dl_255, dl_289, dl_900, dl_1000, dl_1728, dl_65536, dl_65537, nI_add, pk_mul, pk_sub, pk_div, pk_rem, ds_rem2, nI_clamp, nI_leI, nI_ltI, nI_eq, ds_m1_eq, ds_eq_m1, ds_m2_eq, ds_eq_m2, ds_m1_le, ds_le_m1, ds_m1_lt, ds_lt_m1, ds_in_N, ds_bo0, ds_bo1, if_pos, if_neg, Nat.not_le, Nat.not_lt, not_true_eq_false, not_false_eq_true, if_true, if_false, ne_eq, Option.some.injEq, Prod.mk.injEq, Value.int.injEq, true_and, and_true, and_self, ite_self, Bool.not_eq_true, Bool.not_eq_false, Bool.true_eq_false, Bool.false_eq_true, reduceCtorEq, Nat.zero_add, Nat.reduceAdd, Nat.reduceMul, Nat.reduceSub, ds_setI_row, ds_setL_row, ds_rowI_self, ds_rowI_ne, ds_rowI_2, ds_rowI_rowI, ds_setS_1, ds_setS_21, ds_setS_self, ds_setS_ne, pk_us, pk_un, m4, h1, of, h2, vk, g1, g2, b_Mod_nearest_91]
                    · simp (disch := first | assumption | omega) only [ds_cI, ds_cV, ds_cL, ds_cR, ds_nn, ds_isK_t, ds_isA_t, ds_chk_t, ds_chkN, ds_nz_t, ds_nzN, ds_isB_t, ds_isB_bo, ↓dl_m1, ↓dl_m2, dl_0, dl_1, dl_2, dl_3, dl_4, dl_5, dl_6, dl_7, dl_8, dl_9, dl_10, dl_11, dl_12, dl_13, dl_14, dl_15, dl_16, dl_20, dl_24, dl_31, dl_50, dl_57, dl_67, dl_68, dl_74, dl_75, dl_79, dl_80, dl_99, dl_100, dl_200, dl_210, dl_224, dl_255, dl_289, dl_900, dl_1000, dl_1728, dl_65536, dl_65537, nI_add, pk_mul, pk_sub, pk_div, pk_rem, ds_rem2, nI_clamp, nI_leI, nI_ltI, nI_eq, ds_m1_eq, ds_eq_m1, ds_m2_eq, ds_eq_m2, ds_m1_le, ds_le_m1, ds_m1_lt, ds_lt_m1, ds_in_N, ds_bo0, ds_bo1, if_pos, if_neg, Nat.not_le, Nat.not_lt, not_true_eq_false, not_false_eq_true, if_true, if_false, ne_eq, Option.some.injEq, Prod.mk.injEq, Value.int.injEq, true_and, and_true, and_self, ite_self, Bool.not_eq_true, Bool.not_eq_false, Bool.true_eq_false, Bool.false_eq_true, reduceCtorEq, Nat.zero_add, Nat.reduceAdd, Nat.reduceMul, Nat.reduceSub, ds_setI_row, ds_setL_row, ds_rowI_self, ds_rowI_ne, ds_rowI_2, ds_rowI_rowI, ds_setS_1, ds_setS_21, ds_setS_self, ds_setS_ne, pk_us, pk_un, m4, h1, of, h2, vk, g1, g2, b_Mod_nearest_91]
              · have hcond : cond k = false := by simp [cond, h2]
                rw [noadd (fun n _ => by rw [hcond, Bool.and_false])]
                clear_value cond
                simp (disch := first | assumption | omega) only [ds_cI, ds_cV, ds_cL, ds_cR, ds_nn, ds_isK_t, ds_isA_t, ds_chk_t, ds_chkN, ds_nz_t, ds_nzN, ds_isB_t, ds_isB_bo, ↓dl_m1, ↓dl_m2, dl_0, dl_1, dl_2, dl_3, dl_4, dl_5, dl_6, dl_7, dl_8, dl_9, dl_10, dl_11, dl_12, dl_13, dl_14, dl_15, dl_16, dl_20, dl_24, dl_31, dl_50, dl_57, dl_67, dl_68, dl_74, dl_75, dl_79, dl_80, dl_99, dl_100, dl_200, dl_210, dl_224, dl_255, dl_289, dl_900, dl_1000, dl_1728, dl_65536, dl_65537, nI_add, pk_mul, pk_sub, pk_div, pk_rem, ds_rem2, nI_clamp, nI_leI, nI_ltI, nI_eq, ds_m1_eq, ds_eq_m1, ds_m2_eq, ds_eq_m2, ds_m1_le, ds_le_m1, ds_m1_lt, ds_lt_m1, ds_in_N, ds_bo0, ds_bo1, if_pos, if_neg, Nat.not_le, Nat.not_lt, not_true_eq_false, not_false_eq_true, if_true, if_false, ne_eq, Option.some.injEq, Prod.mk.injEq, Value.int.injEq, true_and, and_true, and_self, ite_self, Bool.not_eq_true, Bool.not_eq_false, Bool.true_eq_false, Bool.false_eq_true, reduceCtorEq, Nat.zero_add, Nat.reduceAdd, Nat.reduceMul, Nat.reduceSub, ds_setI_row, ds_setL_row, ds_rowI_self, ds_rowI_ne, ds_rowI_2, ds_rowI_rowI, ds_setS_1, ds_setS_21, ds_setS_self, ds_setS_ne, pk_us, pk_un, m4, h1, of, h2]) (Nat.zero_le _)
          have e0 : dk_far (fun n => dk_any (fun j => (dk_le D K i n).1 j && cond j) 0) 0 13 = ds_m2 := rfl
          try simp only at up
          rw [e0] at up
          refine ⟨y1, ?_, dk_qM_ok ⟨fun p a b => q3 p (by omega), fun k a => by rw [q3 90 (by decide)], fun k a => by rw [q4]⟩⟩
          rw [c_Mod_nearest, b_Mod_nearest_0]
          clear_value cond
          simp (disch := first | assumption | omega) only [ds_cI, ds_cV, ds_cL, ds_cR, ds_nn, ds_isK_t, ds_isA_t, ds_chk_t, ds_chkN, ds_nz_t, ds_nzN, ds_isB_t, ds_isB_bo, ↓dl_m1, ↓dl_m2, dl_0, dl_1, dl_2, dl_3, dl_4, dl_5, dl_6, dl_7, dl_8, dl_9, dl_10, dl_11, dl_12, dl_13, dl_14, dl_15, dl_16, dl_20, dl_24, dl_31, dl_50, dl_57, dl_67, dl_68, dl_74, dl_75, dl_79, dl_80, dl_99, dl_100, dl_200, dl_210, dl_224, dl_255, dl_289, dl_900, dl_1000, dl_1728, dl_65536, dl_65537, nI_add, pk_mul, pk_sub, pk_div, pk_rem, ds_rem2, nI_clamp, nI_leI, nI_ltI, nI_eq, ds_m1_eq, ds_eq_m1, ds_m2_eq, ds_eq_m2, ds_m1_le, ds_le_m1, ds_m1_lt, ds_lt_m1, ds_in_N, ds_bo0, ds_bo1, if_pos, if_neg, Nat.not_le, Nat.not_lt, not_true_eq_false, not_false_eq_true, if_true, if_false, ne_eq, Option.some.injEq, Prod.mk.injEq, Value.int.injEq, true_and, and_true, and_self, ite_self, Bool.not_eq_true, Bool.not_eq_false, Bool.true_eq_false, Bool.false_eq_true, reduceCtorEq, Nat.zero_add, Nat.reduceAdd, Nat.reduceMul, Nat.reduceSub, ds_setI_row, ds_setL_row, ds_rowI_self, ds_rowI_ne, ds_rowI_2, ds_rowI_rowI, ds_setS_1, ds_setS_21, ds_setS_self, ds_setS_ne, pk_us, pk_un, s_good, a2, hr, hg2, hq, q1]
          rw [up, b_Mod_nearest_38]
          generalize dk_far (fun n => dk_any (fun j => (dk_le D K i n).1 j && cond j) (D 0 4)) 0 13 = W at *
          simp (disch := first | assumption | omega) only [ds_cI, ds_cV, ds_cL, ds_cR, ds_nn, ds_isK_t, ds_isA_t, ds_chk_t, ds_chkN, ds_nz_t, ds_nzN, ds_isB_t, ds_isB_bo, ↓dl_m1, ↓dl_m2, dl_0, dl_1, dl_2, dl_3, dl_4, dl_5, dl_6, dl_7, dl_8, dl_9, dl_10, dl_11, dl_12, dl_13, dl_14, dl_15, dl_16, dl_20, dl_24, dl_31, dl_50, dl_57, dl_67, dl_68, dl_74, dl_75, dl_79, dl_80, dl_99, dl_100, dl_200, dl_210, dl_224, dl_255, dl_289, dl_900, dl_1000, dl_1728, dl_65536, dl_65537, nI_add, pk_mul, pk_sub, pk_div, pk_rem, ds_rem2, nI_clamp, nI_leI, nI_ltI, nI_eq, ds_m1_eq, ds_eq_m1, ds_m2_eq, ds_eq_m2, ds_m1_le, ds_le_m1, ds_m1_lt, ds_lt_m1, ds_in_N, ds_bo0, ds_bo1, if_pos, if_neg, Nat.not_le, Nat.not_lt, not_true_eq_false, not_false_eq_true, if_true, if_false, ne_eq, Option.some.injEq, Prod.mk.injEq, Value.int.injEq, true_and, and_true, and_self, ite_self, Bool.not_eq_true, Bool.not_eq_false, Bool.true_eq_false, Bool.false_eq_true, reduceCtorEq, Nat.zero_add, Nat.reduceAdd, Nat.reduceMul, Nat.reduceSub, ds_setI_row, ds_setL_row, ds_rowI_self, ds_rowI_ne, ds_rowI_2, ds_rowI_rowI, ds_setS_1, ds_setS_21, ds_setS_self, ds_setS_ne, pk_us, pk_un, m4]
      · have h4 := h0 4 (by decide)
        omega
    · refine ⟨.int ds_m1, nI 1, ds_rowI z 0 (upd (z.1 0) 10 (nI 1)), ?_, dk_qC_no z _, fun z0 hM0 => ⟨ds_rowI (dk_zg z0) 90 (upd ((dk_zg z0).1 90) 11 (nI 1)), ?_, dk_qM_no z0 _⟩⟩
      · rw [c_Sea_nearest, b_Sea_nearest_0]
        simp (disch := first | assumption | omega | rfl | decide) only [ds_cI, ds_cV, ds_cL, ds_cR, ds_nn, ds_isK_t, ds_isA_t, ds_chk_t, ds_chkN, ds_nz_t, ds_nzN, ds_isB_t, ds_isB_bo, ↓dl_m1, ↓dl_m2, dl_0, dl_1, dl_2, dl_3, dl_4, dl_5, dl_6, dl_7, dl_8, dl_9, dl_10, dl_11, dl_12, dl_13, dl_14, dl_15, dl_16, dl_20, dl_24, dl_31, dl_50, dl_57, dl_67, dl_68, dl_74, dl_75, dl_79, dl_80, dl_99, dl_100, dl_200, dl_210, dl_224, dl_255, dl_289, dl_900, dl_1000, dl_1728, dl_65536, dl_65537, nI_add, pk_mul, pk_sub, pk_div, pk_rem, ds_rem2, nI_clamp, nI_leI, nI_ltI, nI_eq, ds_m1_eq, ds_eq_m1, ds_m2_eq, ds_eq_m2, ds_m1_le, ds_le_m1, ds_m1_lt, ds_lt_m1, ds_in_N, ds_bo0, ds_bo1, if_pos, if_neg, Nat.not_le, Nat.not_lt, not_true_eq_false, not_false_eq_true, if_true, if_false, ne_eq, Option.some.injEq, Prod.mk.injEq, Value.int.injEq, true_and, and_true, and_self, ite_self, Bool.not_eq_true, Bool.not_eq_false, Bool.true_eq_false, Bool.false_eq_true, reduceCtorEq, Nat.zero_add, Nat.reduceAdd, Nat.reduceMul, Nat.reduceSub, ds_setI_row, ds_setL_row, ds_rowI_self, ds_rowI_ne, ds_rowI_2, ds_rowI_rowI, ds_setS_1, ds_setS_21, ds_setS_self, ds_setS_ne, pk_us, pk_un, s_refuse, hs, hr, hg, hq]
      · have hMg := dk_zg_HM hM0
        have hsg := hMg.2.1
        rw [c_Mod_nearest, b_Mod_nearest_0]
        simp (disch := first | assumption | omega | rfl | decide) only [ds_cI, ds_cV, ds_cL, ds_cR, ds_nn, ds_isK_t, ds_isA_t, ds_chk_t, ds_chkN, ds_nz_t, ds_nzN, ds_isB_t, ds_isB_bo, ↓dl_m1, ↓dl_m2, dl_0, dl_1, dl_2, dl_3, dl_4, dl_5, dl_6, dl_7, dl_8, dl_9, dl_10, dl_11, dl_12, dl_13, dl_14, dl_15, dl_16, dl_20, dl_24, dl_31, dl_50, dl_57, dl_67, dl_68, dl_74, dl_75, dl_79, dl_80, dl_99, dl_100, dl_200, dl_210, dl_224, dl_255, dl_289, dl_900, dl_1000, dl_1728, dl_65536, dl_65537, nI_add, pk_mul, pk_sub, pk_div, pk_rem, ds_rem2, nI_clamp, nI_leI, nI_ltI, nI_eq, ds_m1_eq, ds_eq_m1, ds_m2_eq, ds_eq_m2, ds_m1_le, ds_le_m1, ds_m1_lt, ds_lt_m1, ds_in_N, ds_bo0, ds_bo1, if_pos, if_neg, Nat.not_le, Nat.not_lt, not_true_eq_false, not_false_eq_true, if_true, if_false, ne_eq, Option.some.injEq, Prod.mk.injEq, Value.int.injEq, true_and, and_true, and_self, ite_self, Bool.not_eq_true, Bool.not_eq_false, Bool.true_eq_false, Bool.false_eq_true, reduceCtorEq, Nat.zero_add, Nat.reduceAdd, Nat.reduceMul, Nat.reduceSub, ds_setI_row, ds_setL_row, ds_rowI_self, ds_rowI_ne, ds_rowI_2, ds_rowI_rowI, ds_setS_1, ds_setS_21, ds_setS_self, ds_setS_ne, pk_us, pk_un, s_good, s_no, hsg, hs2 _ hMg, hr, hg2, hq]
  · refine ⟨.int ds_m1, nI 1, ds_rowI z 0 (upd (z.1 0) 10 (nI 1)), ?_, dk_qC_no z _, fun z0 hM0 => ⟨ds_rowI (dk_zg z0) 90 (upd ((dk_zg z0).1 90) 11 (nI 1)), ?_, dk_qM_no z0 _⟩⟩
    · rw [c_Sea_nearest, b_Sea_nearest_0]
      simp (disch := first | assumption | omega | rfl | decide) only [ds_cI, ds_cV, ds_cL, ds_cR, ds_nn, ds_isK_t, ds_isA_t, ds_chk_t, ds_chkN, ds_nz_t, ds_nzN, ds_isB_t, ds_isB_bo, ↓dl_m1, ↓dl_m2, dl_0, dl_1, dl_2, dl_3, dl_4, dl_5, dl_6, dl_7, dl_8, dl_9, dl_10, dl_11, dl_12, dl_13, dl_14, dl_15, dl_16, dl_20, dl_24, dl_31, dl_50, dl_57, dl_67, dl_68, dl_74, dl_75, dl_79, dl_80, dl_99, dl_100, dl_200, dl_210, dl_224, dl_255, dl_289, dl_900, dl_1000, dl_1728, dl_65536, dl_65537, nI_add, pk_mul, pk_sub, pk_div, pk_rem, ds_rem2, nI_clamp, nI_leI, nI_ltI, nI_eq, ds_m1_eq, ds_eq_m1, ds_m2_eq, ds_eq_m2, ds_m1_le, ds_le_m1, ds_m1_lt, ds_lt_m1, ds_in_N, ds_bo0, ds_bo1, if_pos, if_neg, Nat.not_le, Nat.not_lt, not_true_eq_false, not_false_eq_true, if_true, if_false, ne_eq, Option.some.injEq, Prod.mk.injEq, Value.int.injEq, true_and, and_true, and_self, ite_self, Bool.not_eq_true, Bool.not_eq_false, Bool.true_eq_false, Bool.false_eq_true, reduceCtorEq, Nat.zero_add, Nat.reduceAdd, Nat.reduceMul, Nat.reduceSub, ds_setI_row, ds_setL_row, ds_rowI_self, ds_rowI_ne, ds_rowI_2, ds_rowI_rowI, ds_setS_1, ds_setS_21, ds_setS_self, ds_setS_ne, pk_us, pk_un, s_refuse, hs, hr]
    · have hMg := dk_zg_HM hM0
      have hsg := hMg.2.1
      rw [c_Mod_nearest, b_Mod_nearest_0]
      simp (disch := first | assumption | omega | rfl | decide) only [ds_cI, ds_cV, ds_cL, ds_cR, ds_nn, ds_isK_t, ds_isA_t, ds_chk_t, ds_chkN, ds_nz_t, ds_nzN, ds_isB_t, ds_isB_bo, ↓dl_m1, ↓dl_m2, dl_0, dl_1, dl_2, dl_3, dl_4, dl_5, dl_6, dl_7, dl_8, dl_9, dl_10, dl_11, dl_12, dl_13, dl_14, dl_15, dl_16, dl_20, dl_24, dl_31, dl_50, dl_57, dl_67, dl_68, dl_74, dl_75, dl_79, dl_80, dl_99, dl_100, dl_200, dl_210, dl_224, dl_255, dl_289, dl_900, dl_1000, dl_1728, dl_65536, dl_65537, nI_add, pk_mul, pk_sub, pk_div, pk_rem, ds_rem2, nI_clamp, nI_leI, nI_ltI, nI_eq, ds_m1_eq, ds_eq_m1, ds_m2_eq, ds_eq_m2, ds_m1_le, ds_le_m1, ds_m1_lt, ds_lt_m1, ds_in_N, ds_bo0, ds_bo1, if_pos, if_neg, Nat.not_le, Nat.not_lt, not_true_eq_false, not_false_eq_true, if_true, if_false, ne_eq, Option.some.injEq, Prod.mk.injEq, Value.int.injEq, true_and, and_true, and_self, ite_self, Bool.not_eq_true, Bool.not_eq_false, Bool.true_eq_false, Bool.false_eq_true, reduceCtorEq, Nat.zero_add, Nat.reduceAdd, Nat.reduceMul, Nat.reduceSub, ds_setI_row, ds_setL_row, ds_rowI_self, ds_rowI_ne, ds_rowI_2, ds_rowI_rowI, ds_setS_1, ds_setS_21, ds_setS_self, ds_setS_ne, pk_us, pk_un, s_good, s_no, hsg, hs2 _ hMg, hr]
