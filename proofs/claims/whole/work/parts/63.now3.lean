/-! every island is in the deck, or palmed -/
theorem dk_sum_lt {f : Nat → Nat} {i0 : Nat} : ∀ {n : Nat}, (∀ k, k < n → f k ≤ 1) → i0 < n → f i0 = 0 → dk_sum f n < n := by
  intro n
  induction n with
  | zero => intro _ h; omega
  | succ n ih =>
    intro h1 h2 h3
    simp only [dk_sum]
    have hn := h1 n (by omega)
    by_cases h : i0 = n
    · subst h
      have := dk_sum_le (f := f) (b := 1) (n := i0) (fun k q => h1 k (by omega))
      omega
    · have := ih (fun k q => h1 k (by omega)) (by omega) h3
      omega
theorem dk_surj {C : Nat → Nat} {n i : Nat} (h : dk_inj C n n) (hi : i < n) : ∃ p, p < n ∧ C p = i := by
  rcases dk_has C n i with h1 | h1
  · exact h1
  · have e := dk_reix0 C (fun _ => 1) n n h
    have e2 : dk_sum (fun p => (fun _ => 1) (C p)) n = n := by
      have : ∀ m, dk_sum (fun _ => 1) m = m := by
        intro m
        induction m with
        | zero => rfl
        | succ m ih => simp only [dk_sum]; rw [ih]
      exact this n
    have := dk_sum_lt (f := fun i => if dk_any (fun p => C p == i) n = true then (fun _ => 1) i else 0) (i0 := i) (n := n) (fun k _ => by
      by_cases q : dk_any (fun p => C p == k) n = true
      · simp [q]
      · simp [q]) hi (by
      have : dk_any (fun p => C p == i) n = false := by
        rw [dk_any_f]
        intro p hp
        simpa using h1 p hp
      simp [this])
    exact absurd this (Nat.not_lt.mpr (Nat.le_of_eq (e.trans e2).symm))
theorem dk_in_deck {D : Nat → Nat → Nat} {K : Nat → Nat} {i : Nat} (hK : dk_okK D K) (hi : i < D 0 4) : (K 13 = i + 1 ∧ ∀ p, p < K 12 → K p ≠ i) ∨ (K 13 ≠ i + 1 ∧ ∃ p, p < K 12 ∧ K p = i) := by
  obtain ⟨h1, h2, h3⟩ := hK
  rcases h3 with ⟨h4, h5⟩ | ⟨h4, h5, h6, h8, h7⟩
  · right
    refine ⟨by omega, ?_⟩
    rw [← h5] at h2 hi
    exact dk_surj h2 hi
  · by_cases h : K 13 = i + 1
    · left
      refine ⟨h, fun p hp q => ?_⟩
      have := h7 p hp
      omega
    · right
      refine ⟨h, ?_⟩
      have hI : dk_inj (fun p => if p < K 12 then K p else K 13 - 1) (D 0 4) (D 0 4) := by
        refine ⟨fun p hp => ?_, fun p q hp hq => ?_⟩
        · by_cases a : p < K 12
          · simp only [a, if_true]; exact h2.1 p a
          · simp only [a, if_false]; omega
        · by_cases a : p < K 12 <;> by_cases b : q < K 12
          · simp only [a, b, if_true]; exact h2.2 p q a b
          · simp only [a, b, if_true, if_false]; intro e; have := h7 p a; omega
          · simp only [a, b, if_true, if_false]; intro e; have := h7 q b; omega
          · intro _; omega
      obtain ⟨p, hp, e⟩ := dk_surj hI hi
      by_cases a : p < K 12
      · simp only [a, if_true] at e
        exact ⟨p, a, e⟩
      · simp only [a, if_false] at e
        omega
theorem dk_pm_eq {i x : Nat} (hi : i < 2 ^ 30) (hx : x < 2 ^ 30) : (nI i = dk_pm x) = (x = i + 1) := by
  unfold dk_pm
  apply propext
  by_cases h : x = 0
  · rw [if_pos h, ds_eq_m1 (by omega)]
    constructor
    · intro q; exact q.elim
    · intro q; omega
  · rw [if_neg h, nI_eq (by omega) (by omega)]
    omega
theorem dk_K13 {D : Nat → Nat → Nat} {K : Nat → Nat} (hz : dk_Hz D K) : K 13 ≤ 12 := by
  have := (dk_n12 hz).1
  rcases hz with ⟨hD, hK⟩ | ⟨h0, h1, h2⟩
  · rcases hK.2.2 with h | h <;> omega
  · omega
theorem k_island (d : Nat) (x y : Int32) (z : ds_St) (h : dk_Inv z) : ∃ v z1 z2, ds_call (d + 20) j_Sea_island [.ref 0, .int x, .int y] z = some (some v, z1) ∧ ds_call (d + 20) j_Mod_island [.ref 90, .int x, .int y] z1 = some (some v, z2) ∧ dk_Inv z2 := by
  apply dk_both h
  intro t D K hC hM hz
  have hs := s_isIsland (d + 18) t x z D K hC
  have hs2 := fun z hM => s_misIsland (d + 17) x z D K hM hz
  have hg2 := fun z => s_in_rng (d + 18) 5 y z (by decide) (by decide)
  have n12 := (dk_n12 hz).1
  have k13 := dk_K13 hz
  have r0 := hC.1
  have ht := hC.2.1.1
  have hKt := ds_Kt ht
  rcases Bool.eq_false_or_eq_true (dk_rng x (D 0 4)) with hr | hr
  · obtain ⟨i, hi, rfl⟩ := (dk_rng_iff (by omega)).mp hr
    rcases hz with ⟨hD, hK⟩ | ⟨h0, hc0, hp0⟩
    · have g1 := dk_get1 hC.2.1 hi
      have g2 := dk_get2 hC.2.1 hi
      have g3 := dk_get3 hC.2.1 hi
      have g4 := dk_get4 hC.2.1 hi
      have e2 := fun w z (hM : dk_HM z D K) => s_of (d + 18) i w z D hM.1 hD hi
      rcases Bool.eq_false_or_eq_true (dk_rng y 5) with hq | hq
      · obtain ⟨w, hw, rfl⟩ := (dk_rng_iff (by decide)).mp hq
        have : w = 0 ∨ w = 1 ∨ w = 2 ∨ w = 3 ∨ w = 4 := by omega
        rcases this with rfl | rfl | rfl | rfl | rfl
        · refine ⟨.int (nI (D 1 i)), nI 0, ds_rowI z 0 (upd (z.1 0) 10 (nI 0)), ?_, dk_qC_row _ (dk_fr_refl _ _ _), fun z0 hM0 => ⟨dk_zg z0, ?_, dk_qM_ok (dk_fm_refl _)⟩⟩
          · rw [c_Sea_island, b_Sea_island_0]
            simp (disch := first | assumption | omega | rfl | decide) only [ds_cI, ds_cV, ds_cL, ds_cR, ds_nn, ds_isK_t, ds_isA_t, ds_chk_t, ds_chkN, ds_nz_t, ds_nzN, ds_isB_t, ds_isB_bo, ↓dl_m1, ↓dl_m2, dl_0, dl_1, dl_2, dl_3, dl_4, dl_5, dl_6, dl_7, dl_8, dl_9, dl_10, dl_11, dl_12, dl_13, dl_14, dl_15, dl_16, dl_20, dl_24, dl_31, dl_50, dl_57, dl_67, dl_68, dl_74, dl_75, dl_79, dl_80, dl_99, dl_100, dl_200, dl_210, dl_224, dl_255, dl_289, dl_900, dl_1000, dl_1728, dl_65536, dl_65537, nI_add, pk_mul, pk_sub, pk_div, pk_rem, ds_rem2, nI_clamp, nI_leI, nI_ltI, nI_eq, ds_m1_eq, ds_eq_m1, ds_m2_eq, ds_eq_m2, ds_m1_le, ds_le_m1, ds_m1_lt, ds_lt_m1, ds_in_N, ds_bo0, ds_bo1, if_pos, if_neg, Nat.not_le, Nat.not_lt, not_true_eq_false, not_false_eq_true, if_true, if_false, ne_eq, Option.some.injEq, Prod.mk.injEq, Value.int.injEq, true_and, and_true, and_self, ite_self, Bool.not_eq_true, Bool.not_eq_false, Bool.true_eq_false, Bool.false_eq_true, reduceCtorEq, Nat.zero_add, Nat.reduceAdd, Nat.reduceMul, Nat.reduceSub, ds_setI_row, ds_setL_row, ds_rowI_self, ds_rowI_ne, ds_rowI_2, ds_rowI_rowI, ds_setS_1, ds_setS_21, ds_setS_self, ds_setS_ne, pk_us, pk_un, s_answer, hs, hr, b_Sea_island_48, r0, ds_Rt5, s_lookT, g1]
          · have hMg := dk_zg_HM hM0
            have hsg := hMg.2.1
            rw [c_Mod_island, b_Mod_island_0]
            simp (disch := first | assumption | omega | rfl | decide) only [ds_cI, ds_cV, ds_cL, ds_cR, ds_nn, ds_isK_t, ds_isA_t, ds_chk_t, ds_chkN, ds_nz_t, ds_nzN, ds_isB_t, ds_isB_bo, ↓dl_m1, ↓dl_m2, dl_0, dl_1, dl_2, dl_3, dl_4, dl_5, dl_6, dl_7, dl_8, dl_9, dl_10, dl_11, dl_12, dl_13, dl_14, dl_15, dl_16, dl_20, dl_24, dl_31, dl_50, dl_57, dl_67, dl_68, dl_74, dl_75, dl_79, dl_80, dl_99, dl_100, dl_200, dl_210, dl_224, dl_255, dl_289, dl_900, dl_1000, dl_1728, dl_65536, dl_65537, nI_add, pk_mul, pk_sub, pk_div, pk_rem, ds_rem2, nI_clamp, nI_leI, nI_ltI, nI_eq, ds_m1_eq, ds_eq_m1, ds_m2_eq, ds_eq_m2, ds_m1_le, ds_le_m1, ds_m1_lt, ds_lt_m1, ds_in_N, ds_bo0, ds_bo1, if_pos, if_neg, Nat.not_le, Nat.not_lt, not_true_eq_false, not_false_eq_true, if_true, if_false, ne_eq, Option.some.injEq, Prod.mk.injEq, Value.int.injEq, true_and, and_true, and_self, ite_self, Bool.not_eq_true, Bool.not_eq_false, Bool.true_eq_false, Bool.false_eq_true, reduceCtorEq, Nat.zero_add, Nat.reduceAdd, Nat.reduceMul, Nat.reduceSub, ds_setI_row, ds_setL_row, ds_rowI_self, ds_rowI_ne, ds_rowI_2, ds_rowI_rowI, ds_setS_1, ds_setS_21, ds_setS_self, ds_setS_ne, pk_us, pk_un, s_good, hsg, hs2 _ hMg, hr, hg2, hq, e2 0 _ hMg (by decide)]
        · refine ⟨.int (nI (D 2 i)), nI 0, ds_rowI z 0 (upd (z.1 0) 10 (nI 0)), ?_, dk_qC_row _ (dk_fr_refl _ _ _), fun z0 hM0 => ⟨dk_zg z0, ?_, dk_qM_ok (dk_fm_refl _)⟩⟩
          · rw [c_Sea_island, b_Sea_island_0]
            simp (disch := first | assumption | omega | rfl | decide) only [ds_cI, ds_cV, ds_cL, ds_cR, ds_nn, ds_isK_t, ds_isA_t, ds_chk_t, ds_chkN, ds_nz_t, ds_nzN, ds_isB_t, ds_isB_bo, ↓dl_m1, ↓dl_m2, dl_0, dl_1, dl_2, dl_3, dl_4, dl_5, dl_6, dl_7, dl_8, dl_9, dl_10, dl_11, dl_12, dl_13, dl_14, dl_15, dl_16, dl_20, dl_24, dl_31, dl_50, dl_57, dl_67, dl_68, dl_74, dl_75, dl_79, dl_80, dl_99, dl_100, dl_200, dl_210, dl_224, dl_255, dl_289, dl_900, dl_1000, dl_1728, dl_65536, dl_65537, nI_add, pk_mul, pk_sub, pk_div, pk_rem, ds_rem2, nI_clamp, nI_leI, nI_ltI, nI_eq, ds_m1_eq, ds_eq_m1, ds_m2_eq, ds_eq_m2, ds_m1_le, ds_le_m1, ds_m1_lt, ds_lt_m1, ds_in_N, ds_bo0, ds_bo1, if_pos, if_neg, Nat.not_le, Nat.not_lt, not_true_eq_false, not_false_eq_true, if_true, if_false, ne_eq, Option.some.injEq, Prod.mk.injEq, Value.int.injEq, true_and, and_true, and_self, ite_self, Bool.not_eq_true, Bool.not_eq_false, Bool.true_eq_false, Bool.false_eq_true, reduceCtorEq, Nat.zero_add, Nat.reduceAdd, Nat.reduceMul, Nat.reduceSub, ds_setI_row, ds_setL_row, ds_rowI_self, ds_rowI_ne, ds_rowI_2, ds_rowI_rowI, ds_setS_1, ds_setS_21, ds_setS_self, ds_setS_ne, pk_us, pk_un, s_answer, hs, hr, b_Sea_island_64, r0, ds_Rt6, s_lookT, g2]
          · have hMg := dk_zg_HM hM0
            have hsg := hMg.2.1
            rw [c_Mod_island, b_Mod_island_0]
            simp (disch := first | assumption | omega | rfl | decide) only [ds_cI, ds_cV, ds_cL, ds_cR, ds_nn, ds_isK_t, ds_isA_t, ds_chk_t, ds_chkN, ds_nz_t, ds_nzN, ds_isB_t, ds_isB_bo, ↓dl_m1, ↓dl_m2, dl_0, dl_1, dl_2, dl_3, dl_4, dl_5, dl_6, dl_7, dl_8, dl_9, dl_10, dl_11, dl_12, dl_13, dl_14, dl_15, dl_16, dl_20, dl_24, dl_31, dl_50, dl_57, dl_67, dl_68, dl_74, dl_75, dl_79, dl_80, dl_99, dl_100, dl_200, dl_210, dl_224, dl_255, dl_289, dl_900, dl_1000, dl_1728, dl_65536, dl_65537, nI_add, pk_mul, pk_sub, pk_div, pk_rem, ds_rem2, nI_clamp, nI_leI, nI_ltI, nI_eq, ds_m1_eq, ds_eq_m1, ds_m2_eq, ds_eq_m2, ds_m1_le, ds_le_m1, ds_m1_lt, ds_lt_m1, ds_in_N, ds_bo0, ds_bo1, if_pos, if_neg, Nat.not_le, Nat.not_lt, not_true_eq_false, not_false_eq_true, if_true, if_false, ne_eq, Option.some.injEq, Prod.mk.injEq, Value.int.injEq, true_and, and_true, and_self, ite_self, Bool.not_eq_true, Bool.not_eq_false, Bool.true_eq_false, Bool.false_eq_true, reduceCtorEq, Nat.zero_add, Nat.reduceAdd, Nat.reduceMul, Nat.reduceSub, ds_setI_row, ds_setL_row, ds_rowI_self, ds_rowI_ne, ds_rowI_2, ds_rowI_rowI, ds_setS_1, ds_setS_21, ds_setS_self, ds_setS_ne, pk_us, pk_un, s_good, hsg, hs2 _ hMg, hr, hg2, hq, e2 1 _ hMg (by decide)]
        · refine ⟨.int (nI (D 3 i)), nI 0, ds_rowI z 0 (upd (z.1 0) 10 (nI 0)), ?_, dk_qC_row _ (dk_fr_refl _ _ _), fun z0 hM0 => ⟨dk_zg z0, ?_, dk_qM_ok (dk_fm_refl _)⟩⟩
          · rw [c_Sea_island, b_Sea_island_0]
            simp (disch := first | assumption | omega | rfl | decide) only [ds_cI, ds_cV, ds_cL, ds_cR, ds_nn, ds_isK_t, ds_isA_t, ds_chk_t, ds_chkN, ds_nz_t, ds_nzN, ds_isB_t, ds_isB_bo, ↓dl_m1, ↓dl_m2, dl_0, dl_1, dl_2, dl_3, dl_4, dl_5, dl_6, dl_7, dl_8, dl_9, dl_10, dl_11, dl_12, dl_13, dl_14, dl_15, dl_16, dl_20, dl_24, dl_31, dl_50, dl_57, dl_67, dl_68, dl_74, dl_75, dl_79, dl_80, dl_99, dl_100, dl_200, dl_210, dl_224, dl_255, dl_289, dl_900, dl_1000, dl_1728, dl_65536, dl_65537, nI_add, pk_mul, pk_sub, pk_div, pk_rem, ds_rem2, nI_clamp, nI_leI, nI_ltI, nI_eq, ds_m1_eq, ds_eq_m1, ds_m2_eq, ds_eq_m2, ds_m1_le, ds_le_m1, ds_m1_lt, ds_lt_m1, ds_in_N, ds_bo0, ds_bo1, if_pos, if_neg, Nat.not_le, Nat.not_lt, not_true_eq_false, not_false_eq_true, if_true, if_false, ne_eq, Option.some.injEq, Prod.mk.injEq, Value.int.injEq, true_and, and_true, and_self, ite_self, Bool.not_eq_true, Bool.not_eq_false, Bool.true_eq_false, Bool.false_eq_true, reduceCtorEq, Nat.zero_add, Nat.reduceAdd, Nat.reduceMul, Nat.reduceSub, ds_setI_row, ds_setL_row, ds_rowI_self, ds_rowI_ne, ds_rowI_2, ds_rowI_rowI, ds_setS_1, ds_setS_21, ds_setS_self, ds_setS_ne, pk_us, pk_un, s_answer, hs, hr, b_Sea_island_80, r0, ds_Rt7, s_lookT, g3]
          · have hMg := dk_zg_HM hM0
            have hsg := hMg.2.1
            rw [c_Mod_island, b_Mod_island_0]
            simp (disch := first | assumption | omega | rfl | decide) only [ds_cI, ds_cV, ds_cL, ds_cR, ds_nn, ds_isK_t, ds_isA_t, ds_chk_t, ds_chkN, ds_nz_t, ds_nzN, ds_isB_t, ds_isB_bo, ↓dl_m1, ↓dl_m2, dl_0, dl_1, dl_2, dl_3, dl_4, dl_5, dl_6, dl_7, dl_8, dl_9, dl_10, dl_11, dl_12, dl_13, dl_14, dl_15, dl_16, dl_20, dl_24, dl_31, dl_50, dl_57, dl_67, dl_68, dl_74, dl_75, dl_79, dl_80, dl_99, dl_100, dl_200, dl_210, dl_224, dl_255, dl_289, dl_900, dl_1000, dl_1728, dl_65536, dl_65537, nI_add, pk_mul, pk_sub, pk_div, pk_rem, ds_rem2, nI_clamp, nI_leI, nI_ltI, nI_eq, ds_m1_eq, ds_eq_m1, ds_m2_eq, ds_eq_m2, ds_m1_le, ds_le_m1, ds_m1_lt, ds_lt_m1, ds_in_N, ds_bo0, ds_bo1, if_pos, if_neg, Nat.not_le, Nat.not_lt, not_true_eq_false, not_false_eq_true, if_true, if_false, ne_eq, Option.some.injEq, Prod.mk.injEq, Value.int.injEq, true_and, and_true, and_self, ite_self, Bool.not_eq_true, Bool.not_eq_false, Bool.true_eq_false, Bool.false_eq_true, reduceCtorEq, Nat.zero_add, Nat.reduceAdd, Nat.reduceMul, Nat.reduceSub, ds_setI_row, ds_setL_row, ds_rowI_self, ds_rowI_ne, ds_rowI_2, ds_rowI_rowI, ds_setS_1, ds_setS_21, ds_setS_self, ds_setS_ne, pk_us, pk_un, s_good, hsg, hs2 _ hMg, hr, hg2, hq, e2 2 _ hMg (by decide)]
        · refine ⟨.int (nI (D 4 i)), nI 0, ds_rowI z 0 (upd (z.1 0) 10 (nI 0)), ?_, dk_qC_row _ (dk_fr_refl _ _ _), fun z0 hM0 => ⟨dk_zg z0, ?_, dk_qM_ok (dk_fm_refl _)⟩⟩
          · rw [c_Sea_island, b_Sea_island_0]
            simp (disch := first | assumption | omega | rfl | decide) only [ds_cI, ds_cV, ds_cL, ds_cR, ds_nn, ds_isK_t, ds_isA_t, ds_chk_t, ds_chkN, ds_nz_t, ds_nzN, ds_isB_t, ds_isB_bo, ↓dl_m1, ↓dl_m2, dl_0, dl_1, dl_2, dl_3, dl_4, dl_5, dl_6, dl_7, dl_8, dl_9, dl_10, dl_11, dl_12, dl_13, dl_14, dl_15, dl_16, dl_20, dl_24, dl_31, dl_50, dl_57, dl_67, dl_68, dl_74, dl_75, dl_79, dl_80, dl_99, dl_100, dl_200, dl_210, dl_224, dl_255, dl_289, dl_900, dl_1000, dl_1728, dl_65536, dl_65537, nI_add, pk_mul, pk_sub, pk_div, pk_rem, ds_rem2, nI_clamp, nI_leI, nI_ltI, nI_eq, ds_m1_eq, ds_eq_m1, ds_m2_eq, ds_eq_m2, ds_m1_le, ds_le_m1, ds_m1_lt, ds_lt_m1, ds_in_N, ds_bo0, ds_bo1, if_pos, if_neg, Nat.not_le, Nat.not_lt, not_true_eq_false, not_false_eq_true, if_true, if_false, ne_eq, Option.some.injEq, Prod.mk.injEq, Value.int.injEq, true_and, and_true, and_self, ite_self, Bool.not_eq_true, Bool.not_eq_false, Bool.true_eq_false, Bool.false_eq_true, reduceCtorEq, Nat.zero_add, Nat.reduceAdd, Nat.reduceMul, Nat.reduceSub, ds_setI_row, ds_setL_row, ds_rowI_self, ds_rowI_ne, ds_rowI_2, ds_rowI_rowI, ds_setS_1, ds_setS_21, ds_setS_self, ds_setS_ne, pk_us, pk_un, s_answer, hs, hr, b_Sea_island_96, r0, ds_Rt8, s_lookT, g4]
          · have hMg := dk_zg_HM hM0
            have hsg := hMg.2.1
            rw [c_Mod_island, b_Mod_island_0]
            simp (disch := first | assumption | omega | rfl | decide) only [ds_cI, ds_cV, ds_cL, ds_cR, ds_nn, ds_isK_t, ds_isA_t, ds_chk_t, ds_chkN, ds_nz_t, ds_nzN, ds_isB_t, ds_isB_bo, ↓dl_m1, ↓dl_m2, dl_0, dl_1, dl_2, dl_3, dl_4, dl_5, dl_6, dl_7, dl_8, dl_9, dl_10, dl_11, dl_12, dl_13, dl_14, dl_15, dl_16, dl_20, dl_24, dl_31, dl_50, dl_57, dl_67, dl_68, dl_74, dl_75, dl_79, dl_80, dl_99, dl_100, dl_200, dl_210, dl_224, dl_255, dl_289, dl_900, dl_1000, dl_1728, dl_65536, dl_65537, nI_add, pk_mul, pk_sub, pk_div, pk_rem, ds_rem2, nI_clamp, nI_leI, nI_ltI, nI_eq, ds_m1_eq, ds_eq_m1, ds_m2_eq, ds_eq_m2, ds_m1_le, ds_le_m1, ds_m1_lt, ds_lt_m1, ds_in_N, ds_bo0, ds_bo1, if_pos, if_neg, Nat.not_le, Nat.not_lt, not_true_eq_false, not_false_eq_true, if_true, if_false, ne_eq, Option.some.injEq, Prod.mk.injEq, Value.int.injEq, true_and, and_true, and_self, ite_self, Bool.not_eq_true, Bool.not_eq_false, Bool.true_eq_false, Bool.false_eq_true, reduceCtorEq, Nat.zero_add, Nat.reduceAdd, Nat.reduceMul, Nat.reduceSub, ds_setI_row, ds_setL_row, ds_rowI_self, ds_rowI_ne, ds_rowI_2, ds_rowI_rowI, ds_setS_1, ds_setS_21, ds_setS_self, ds_setS_ne, pk_us, pk_un, s_good, hsg, hs2 _ hMg, hr, hg2, hq, e2 3 _ hMg (by decide)]
        · have p3 := hC.2.2.2.2
          have pe := Iff.of_eq (dk_pm_eq (i := i) (x := K 13) (by omega) (by omega))
          rcases dk_in_deck hK hi with ⟨q1, q2⟩ | ⟨q1, p, hp, rfl⟩
          · have e5 := fun z (hM : dk_HM z D K) => s_placeIn_n (d + 18) 95 (K 12) (D 0 4) i z K (dk_HM_dm hM hK) n12 (by omega) q2
            have p3' : z.1 61 3 = nI i := by rw [p3]; exact (pe.mpr q1).symm
            refine ⟨.int (ds_m2), nI 0, ds_rowI z 0 (upd (z.1 0) 10 (nI 0)), ?_, dk_qC_row _ (dk_fr_refl _ _ _), fun z0 hM0 => ⟨dk_zg z0, ?_, dk_qM_ok (dk_fm_refl _)⟩⟩
            · rw [c_Sea_island, b_Sea_island_0]
              simp (disch := first | assumption | omega | rfl | decide) only [ds_cI, ds_cV, ds_cL, ds_cR, ds_nn, ds_isK_t, ds_isA_t, ds_chk_t, ds_chkN, ds_nz_t, ds_nzN, ds_isB_t, ds_isB_bo, ↓dl_m1, ↓dl_m2, dl_0, dl_1, dl_2, dl_3, dl_4, dl_5, dl_6, dl_7, dl_8, dl_9, dl_10, dl_11, dl_12, dl_13, dl_14, dl_15, dl_16, dl_20, dl_24, dl_31, dl_50, dl_57, dl_67, dl_68, dl_74, dl_75, dl_79, dl_80, dl_99, dl_100, dl_200, dl_210, dl_224, dl_255, dl_289, dl_900, dl_1000, dl_1728, dl_65536, dl_65537, nI_add, pk_mul, pk_sub, pk_div, pk_rem, ds_rem2, nI_clamp, nI_leI, nI_ltI, nI_eq, ds_m1_eq, ds_eq_m1, ds_m2_eq, ds_eq_m2, ds_m1_le, ds_le_m1, ds_m1_lt, ds_lt_m1, ds_in_N, ds_bo0, ds_bo1, if_pos, if_neg, Nat.not_le, Nat.not_lt, not_true_eq_false, not_false_eq_true, if_true, if_false, ne_eq, Option.some.injEq, Prod.mk.injEq, Value.int.injEq, true_and, and_true, and_self, ite_self, Bool.not_eq_true, Bool.not_eq_false, Bool.true_eq_false, Bool.false_eq_true, reduceCtorEq, Nat.zero_add, Nat.reduceAdd, Nat.reduceMul, Nat.reduceSub, ds_setI_row, ds_setL_row, ds_rowI_self, ds_rowI_ne, ds_rowI_2, ds_rowI_rowI, ds_setS_1, ds_setS_21, ds_setS_self, ds_setS_ne, pk_us, pk_un, s_answer, hs, hr, b_Sea_island_112, p3']
            · have hMg := dk_zg_HM hM0
              have hsg := hMg.2.1
              rw [c_Mod_island, b_Mod_island_0]
              simp (disch := first | assumption | omega | rfl | decide) only [ds_cI, ds_cV, ds_cL, ds_cR, ds_nn, ds_isK_t, ds_isA_t, ds_chk_t, ds_chkN, ds_nz_t, ds_nzN, ds_isB_t, ds_isB_bo, ↓dl_m1, ↓dl_m2, dl_0, dl_1, dl_2, dl_3, dl_4, dl_5, dl_6, dl_7, dl_8, dl_9, dl_10, dl_11, dl_12, dl_13, dl_14, dl_15, dl_16, dl_20, dl_24, dl_31, dl_50, dl_57, dl_67, dl_68, dl_74, dl_75, dl_79, dl_80, dl_99, dl_100, dl_200, dl_210, dl_224, dl_255, dl_289, dl_900, dl_1000, dl_1728, dl_65536, dl_65537, nI_add, pk_mul, pk_sub, pk_div, pk_rem, ds_rem2, nI_clamp, nI_leI, nI_ltI, nI_eq, ds_m1_eq, ds_eq_m1, ds_m2_eq, ds_eq_m2, ds_m1_le, ds_le_m1, ds_m1_lt, ds_lt_m1, ds_in_N, ds_bo0, ds_bo1, if_pos, if_neg, Nat.not_le, Nat.not_lt, not_true_eq_false, not_false_eq_true, if_true, if_false, ne_eq, Option.some.injEq, Prod.mk.injEq, Value.int.injEq, true_and, and_true, and_self, ite_self, Bool.not_eq_true, Bool.not_eq_false, Bool.true_eq_false, Bool.false_eq_true, reduceCtorEq, Nat.zero_add, Nat.reduceAdd, Nat.reduceMul, Nat.reduceSub, ds_setI_row, ds_setL_row, ds_rowI_self, ds_rowI_ne, ds_rowI_2, ds_rowI_rowI, ds_setS_1, ds_setS_21, ds_setS_self, ds_setS_ne, pk_us, pk_un, s_good, hsg, hs2 _ hMg, hr, hg2, hq, e5 _ hMg]
          · have e5 := fun z (hM : dk_HM z D K) => s_placeIn_y (d + 18) 95 (K 12) (D 0 4) p z K (dk_HM_dm hM hK) n12 hp
            have e6 := s_placeOf_y (d + 17) 61 (K 12) (D 0 4) p z K (dk_HC_dk hC hK) n12 hp
            have pn : ¬ nI (K p) = dk_pm (K 13) := fun h => q1 (pe.mp h)
            refine ⟨.int (nI p), nI 0, ds_rowI z 0 (upd (z.1 0) 10 (nI 0)), ?_, dk_qC_row _ (dk_fr_refl _ _ _), fun z0 hM0 => ⟨dk_zg z0, ?_, dk_qM_ok (dk_fm_refl _)⟩⟩
            · rw [c_Sea_island, b_Sea_island_0]
              simp (disch := first | assumption | omega | rfl | decide) only [ds_cI, ds_cV, ds_cL, ds_cR, ds_nn, ds_isK_t, ds_isA_t, ds_chk_t, ds_chkN, ds_nz_t, ds_nzN, ds_isB_t, ds_isB_bo, ↓dl_m1, ↓dl_m2, dl_0, dl_1, dl_2, dl_3, dl_4, dl_5, dl_6, dl_7, dl_8, dl_9, dl_10, dl_11, dl_12, dl_13, dl_14, dl_15, dl_16, dl_20, dl_24, dl_31, dl_50, dl_57, dl_67, dl_68, dl_74, dl_75, dl_79, dl_80, dl_99, dl_100, dl_200, dl_210, dl_224, dl_255, dl_289, dl_900, dl_1000, dl_1728, dl_65536, dl_65537, nI_add, pk_mul, pk_sub, pk_div, pk_rem, ds_rem2, nI_clamp, nI_leI, nI_ltI, nI_eq, ds_m1_eq, ds_eq_m1, ds_m2_eq, ds_eq_m2, ds_m1_le, ds_le_m1, ds_m1_lt, ds_lt_m1, ds_in_N, ds_bo0, ds_bo1, if_pos, if_neg, Nat.not_le, Nat.not_lt, not_true_eq_false, not_false_eq_true, if_true, if_false, ne_eq, Option.some.injEq, Prod.mk.injEq, Value.int.injEq, true_and, and_true, and_self, ite_self, Bool.not_eq_true, Bool.not_eq_false, Bool.true_eq_false, Bool.false_eq_true, reduceCtorEq, Nat.zero_add, Nat.reduceAdd, Nat.reduceMul, Nat.reduceSub, ds_setI_row, ds_setL_row, ds_rowI_self, ds_rowI_ne, ds_rowI_2, ds_rowI_rowI, ds_setS_1, ds_setS_21, ds_setS_self, ds_setS_ne, pk_us, pk_un, s_answer, hs, hr, b_Sea_island_112, p3, pn, e6]
            · have hMg := dk_zg_HM hM0
              have hsg := hMg.2.1
              rw [c_Mod_island, b_Mod_island_0]
              simp (disch := first | assumption | omega | rfl | decide) only [ds_cI, ds_cV, ds_cL, ds_cR, ds_nn, ds_isK_t, ds_isA_t, ds_chk_t, ds_chkN, ds_nz_t, ds_nzN, ds_isB_t, ds_isB_bo, ↓dl_m1, ↓dl_m2, dl_0, dl_1, dl_2, dl_3, dl_4, dl_5, dl_6, dl_7, dl_8, dl_9, dl_10, dl_11, dl_12, dl_13, dl_14, dl_15, dl_16, dl_20, dl_24, dl_31, dl_50, dl_57, dl_67, dl_68, dl_74, dl_75, dl_79, dl_80, dl_99, dl_100, dl_200, dl_210, dl_224, dl_255, dl_289, dl_900, dl_1000, dl_1728, dl_65536, dl_65537, nI_add, pk_mul, pk_sub, pk_div, pk_rem, ds_rem2, nI_clamp, nI_leI, nI_ltI, nI_eq, ds_m1_eq, ds_eq_m1, ds_m2_eq, ds_eq_m2, ds_m1_le, ds_le_m1, ds_m1_lt, ds_lt_m1, ds_in_N, ds_bo0, ds_bo1, if_pos, if_neg, Nat.not_le, Nat.not_lt, not_true_eq_false, not_false_eq_true, if_true, if_false, ne_eq, Option.some.injEq, Prod.mk.injEq, Value.int.injEq, true_and, and_true, and_self, ite_self, Bool.not_eq_true, Bool.not_eq_false, Bool.true_eq_false, Bool.false_eq_true, reduceCtorEq, Nat.zero_add, Nat.reduceAdd, Nat.reduceMul, Nat.reduceSub, ds_setI_row, ds_setL_row, ds_rowI_self, ds_rowI_ne, ds_rowI_2, ds_rowI_rowI, ds_setS_1, ds_setS_21, ds_setS_self, ds_setS_ne, pk_us, pk_un, s_good, hsg, hs2 _ hMg, hr, hg2, hq, e5 _ hMg]
      · have ne : ∀ k, k < 5 → ¬ y = nI k := by
          intro k hk q
          rw [(dk_rng_iff (by decide)).mpr ⟨k, hk, q⟩] at hq
          exact absurd hq (by decide)
        refine ⟨.int ds_m1, nI 1, ds_rowI z 0 (upd (z.1 0) 10 (nI 1)), ?_, dk_qC_no z _, fun z0 hM0 => ⟨ds_rowI (dk_zg z0) 90 (upd ((dk_zg z0).1 90) 11 (nI 1)), ?_, dk_qM_no z0 _⟩⟩
        · rw [c_Sea_island, b_Sea_island_0]
          simp (disch := first | assumption | omega | rfl | decide) only [ds_cI, ds_cV, ds_cL, ds_cR, ds_nn, ds_isK_t, ds_isA_t, ds_chk_t, ds_chkN, ds_nz_t, ds_nzN, ds_isB_t, ds_isB_bo, ↓dl_m1, ↓dl_m2, dl_0, dl_1, dl_2, dl_3, dl_4, dl_5, dl_6, dl_7, dl_8, dl_9, dl_10, dl_11, dl_12, dl_13, dl_14, dl_15, dl_16, dl_20, dl_24, dl_31, dl_50, dl_57, dl_67, dl_68, dl_74, dl_75, dl_79, dl_80, dl_99, dl_100, dl_200, dl_210, dl_224, dl_255, dl_289, dl_900, dl_1000, dl_1728, dl_65536, dl_65537, nI_add, pk_mul, pk_sub, pk_div, pk_rem, ds_rem2, nI_clamp, nI_leI, nI_ltI, nI_eq, ds_m1_eq, ds_eq_m1, ds_m2_eq, ds_eq_m2, ds_m1_le, ds_le_m1, ds_m1_lt, ds_lt_m1, ds_in_N, ds_bo0, ds_bo1, if_pos, if_neg, Nat.not_le, Nat.not_lt, not_true_eq_false, not_false_eq_true, if_true, if_false, ne_eq, Option.some.injEq, Prod.mk.injEq, Value.int.injEq, true_and, and_true, and_self, ite_self, Bool.not_eq_true, Bool.not_eq_false, Bool.true_eq_false, Bool.false_eq_true, reduceCtorEq, Nat.zero_add, Nat.reduceAdd, Nat.reduceMul, Nat.reduceSub, ds_setI_row, ds_setL_row, ds_rowI_self, ds_rowI_ne, ds_rowI_2, ds_rowI_rowI, ds_setS_1, ds_setS_21, ds_setS_self, ds_setS_ne, pk_us, pk_un, s_refuse, hs, hr, ne 0 (by decide), ne 1 (by decide), ne 2 (by decide), ne 3 (by decide), ne 4 (by decide)]
        · have hMg := dk_zg_HM hM0
          have hsg := hMg.2.1
          rw [c_Mod_island, b_Mod_island_0]
          simp (disch := first | assumption | omega | rfl | decide) only [ds_cI, ds_cV, ds_cL, ds_cR, ds_nn, ds_isK_t, ds_isA_t, ds_chk_t, ds_chkN, ds_nz_t, ds_nzN, ds_isB_t, ds_isB_bo, ↓dl_m1, ↓dl_m2, dl_0, dl_1, dl_2, dl_3, dl_4, dl_5, dl_6, dl_7, dl_8, dl_9, dl_10, dl_11, dl_12, dl_13, dl_14, dl_15, dl_16, dl_20, dl_24, dl_31, dl_50, dl_57, dl_67, dl_68, dl_74, dl_75, dl_79, dl_80, dl_99, dl_100, dl_200, dl_210, dl_224, dl_255, dl_289, dl_900, dl_1000, dl_1728, dl_65536, dl_65537, nI_add, pk_mul, pk_sub, pk_div, pk_rem, ds_rem2, nI_clamp, nI_leI, nI_ltI, nI_eq, ds_m1_eq, ds_eq_m1, ds_m2_eq, ds_eq_m2, ds_m1_le, ds_le_m1, ds_m1_lt, ds_lt_m1, ds_in_N, ds_bo0, ds_bo1, if_pos, if_neg, Nat.not_le, Nat.not_lt, not_true_eq_false, not_false_eq_true, if_true, if_false, ne_eq, Option.some.injEq, Prod.mk.injEq, Value.int.injEq, true_and, and_true, and_self, ite_self, Bool.not_eq_true, Bool.not_eq_false, Bool.true_eq_false, Bool.false_eq_true, reduceCtorEq, Nat.zero_add, Nat.reduceAdd, Nat.reduceMul, Nat.reduceSub, ds_setI_row, ds_setL_row, ds_rowI_self, ds_rowI_ne, ds_rowI_2, ds_rowI_rowI, ds_setS_1, ds_setS_21, ds_setS_self, ds_setS_ne, pk_us, pk_un, s_good, s_no, hsg, hs2 _ hMg, hr, hg2, hq]
    · have h4 := h0 4 (by decide)
      omega
  · refine ⟨.int ds_m1, nI 1, ds_rowI z 0 (upd (z.1 0) 10 (nI 1)), ?_, dk_qC_no z _, fun z0 hM0 => ⟨ds_rowI (dk_zg z0) 90 (upd ((dk_zg z0).1 90) 11 (nI 1)), ?_, dk_qM_no z0 _⟩⟩
    · rw [c_Sea_island, b_Sea_island_0]
      simp (disch := first | assumption | omega | rfl | decide) only [ds_cI, ds_cV, ds_cL, ds_cR, ds_nn, ds_isK_t, ds_isA_t, ds_chk_t, ds_chkN, ds_nz_t, ds_nzN, ds_isB_t, ds_isB_bo, ↓dl_m1, ↓dl_m2, dl_0, dl_1, dl_2, dl_3, dl_4, dl_5, dl_6, dl_7, dl_8, dl_9, dl_10, dl_11, dl_12, dl_13, dl_14, dl_15, dl_16, dl_20, dl_24, dl_31, dl_50, dl_57, dl_67, dl_68, dl_74, dl_75, dl_79, dl_80, dl_99, dl_100, dl_200, dl_210, dl_224, dl_255, dl_289, dl_900, dl_1000, dl_1728, dl_65536, dl_65537, nI_add, pk_mul, pk_sub, pk_div, pk_rem, ds_rem2, nI_clamp, nI_leI, nI_ltI, nI_eq, ds_m1_eq, ds_eq_m1, ds_m2_eq, ds_eq_m2, ds_m1_le, ds_le_m1, ds_m1_lt, ds_lt_m1, ds_in_N, ds_bo0, ds_bo1, if_pos, if_neg, Nat.not_le, Nat.not_lt, not_true_eq_false, not_false_eq_true, if_true, if_false, ne_eq, Option.some.injEq, Prod.mk.injEq, Value.int.injEq, true_and, and_true, and_self, ite_self, Bool.not_eq_true, Bool.not_eq_false, Bool.true_eq_false, Bool.false_eq_true, reduceCtorEq, Nat.zero_add, Nat.reduceAdd, Nat.reduceMul, Nat.reduceSub, ds_setI_row, ds_setL_row, ds_rowI_self, ds_rowI_ne, ds_rowI_2, ds_rowI_rowI, ds_setS_1, ds_setS_21, ds_setS_self, ds_setS_ne, pk_us, pk_un, s_refuse, hs, hr]
    · have hMg := dk_zg_HM hM0
      have hsg := hMg.2.1
      rw [c_Mod_island, b_Mod_island_0]
      simp (disch := first | assumption | omega | rfl | decide) only [ds_cI, ds_cV, ds_cL, ds_cR, ds_nn, ds_isK_t, ds_isA_t, ds_chk_t, ds_chkN, ds_nz_t, ds_nzN, ds_isB_t, ds_isB_bo, ↓dl_m1, ↓dl_m2, dl_0, dl_1, dl_2, dl_3, dl_4, dl_5, dl_6, dl_7, dl_8, dl_9, dl_10, dl_11, dl_12, dl_13, dl_14, dl_15, dl_16, dl_20, dl_24, dl_31, dl_50, dl_57, dl_67, dl_68, dl_74, dl_75, dl_79, dl_80, dl_99, dl_100, dl_200, dl_210, dl_224, dl_255, dl_289, dl_900, dl_1000, dl_1728, dl_65536, dl_65537, nI_add, pk_mul, pk_sub, pk_div, pk_rem, ds_rem2, nI_clamp, nI_leI, nI_ltI, nI_eq, ds_m1_eq, ds_eq_m1, ds_m2_eq, ds_eq_m2, ds_m1_le, ds_le_m1, ds_m1_lt, ds_lt_m1, ds_in_N, ds_bo0, ds_bo1, if_pos, if_neg, Nat.not_le, Nat.not_lt, not_true_eq_false, not_false_eq_true, if_true, if_false, ne_eq, Option.some.injEq, Prod.mk.injEq, Value.int.injEq, true_and, and_true, and_self, ite_self, Bool.not_eq_true, Bool.not_eq_false, Bool.true_eq_false, Bool.false_eq_true, reduceCtorEq, Nat.zero_add, Nat.reduceAdd, Nat.reduceMul, Nat.reduceSub, ds_setI_row, ds_setL_row, ds_rowI_self, ds_rowI_ne, ds_rowI_2, ds_rowI_rowI, ds_setS_1, ds_setS_21, ds_setS_self, ds_setS_ne, pk_us, pk_un, s_good, s_no, hsg, hs2 _ hMg, hr]
theorem dk_Inv_t {z : ds_St} (v : Int32) (h : dk_Inv z) : dk_Inv (ds_rowI z 90 (upd (z.1 90) 0 v)) := by
  obtain ⟨t, t', D, K, U, u, M, m, f, B, hc, hm, ho, e1, e2, e3⟩ := h
  refine ⟨t, t', D, K, U, u, M, m, f, B, ?_, ?_, ho, ?_, ?_, ?_⟩
  · exact dk_IC_q (v := v) hc (fun p x y => ds_rowI_ne _ _ (by omega)) (fun j hj => rfl)
  · exact dk_IM_q hm (fun p x y => ds_rowI_ne _ _ (by omega)) (fun k hk => by rw [ds_rowI_self, pk_un (by omega)])
  · rw [ds_rowI_ne _ _ (by decide), ds_rowI_self, pk_un (by decide)]; exact e1
  · rw [ds_rowI_ne _ _ (by decide), ds_rowI_self, pk_un (by decide)]; exact e2
  · rw [ds_rowI_ne _ _ (by decide), ds_rowI_self, pk_un (by decide)]; exact e3
theorem k_fault (d : Nat) (z : ds_St) (h : dk_Inv z) : ∃ v z1 z2, ds_call (d + 20) j_Sea_fault [.ref 0] z = some (some v, z1) ∧ ds_call (d + 20) j_Mod_fault [.ref 90] z1 = some (some v, z2) ∧ dk_Inv z2 := by
  refine ⟨.int (z.1 0 11), z, _, ?_, ?_, dk_Inv_t (nI 0) h⟩
  · rw [c_Sea_fault, b_Sea_fault_0]; rfl
  · rw [c_Mod_fault, b_Mod_fault_0]
    obtain ⟨t, t', D, K, U, u, M, m, f, B, hc, hm, ho, e1, e2, e3⟩ := h
    rw [e2]
    rfl
theorem k_trouble (d : Nat) (z : ds_St) (h : dk_Inv z) : ∃ v z1 z2, ds_call (d + 20) j_Sea_trouble [.ref 0] z = some (some v, z1) ∧ ds_call (d + 20) j_Mod_trouble [.ref 90] z1 = some (some v, z2) ∧ dk_Inv z2 := by
  refine ⟨.int (z.1 0 10), z, _, ?_, ?_, dk_Inv_t (nI 0) h⟩
  · rw [c_Sea_trouble, b_Sea_trouble_0]; rfl
  · rw [c_Mod_trouble, b_Mod_trouble_0]
    obtain ⟨t, t', D, K, U, u, M, m, f, B, hc, hm, ho, e1, e2, e3⟩ := h
    rw [e1]
    rfl
theorem k_where (d : Nat) (z : ds_St) (h : dk_Inv z) : ∃ v z1 z2, ds_call (d + 20) j_Sea_where [.ref 0] z = some (some v, z1) ∧ ds_call (d + 20) j_Mod_where [.ref 90] z1 = some (some v, z2) ∧ dk_Inv z2 := by
  have h0 := h
  obtain ⟨t, t', D, K, U, u, M, m, f, B, hc, hm, ho, e1, e2, e3⟩ := h0
  by_cases q : z.1 0 10 = 4
  · refine ⟨.int (z.1 90 10), z, _, ?_, ?_, dk_Inv_t (nI 0) h⟩
    · rw [c_Sea_where, b_Sea_where_0, if_neg (fun h => h q), e3]; rfl
    · rw [c_Mod_where, b_Mod_where_0, ← e1, if_neg (fun h => h q)]; rfl
  · refine ⟨.int (-1), z, _, ?_, ?_, dk_Inv_t (nI 0) h⟩
    · rw [c_Sea_where, b_Sea_where_0, if_pos q]; rfl
    · rw [c_Mod_where, b_Mod_where_0, ← e1, if_pos q]; rfl
theorem k_size (d : Nat) (x : Int32) (z : ds_St) (h : dk_Inv z) : ∃ v z1 z2, ds_call (d + 20) j_Sea_size [.ref 0, .int x] z = some (some v, z1) ∧ ds_call (d + 20) j_Mod_size [.ref 90, .int x] z1 = some (some v, z2) ∧ dk_Inv z2 := by
  have h0 := h
  obtain ⟨t, t', D, K, U, u, M, m, f, B, hc, hm, ho, e1, e2, e3⟩ := h0
  have hz := dk_OK_Hz ho
  have hC := dk_IC_HC hc
  have hM := dk_IM_HM hm
  have r0 := hC.1
  have hT := hC.2.1
  have hKt := ds_Kt hT.1
  obtain ⟨t0, t1, t2, t3, t4, t9, t11, t14⟩ := hT.2.1
  obtain ⟨m0, m1, m2, m3, m4, m5, m6, m7⟩ := hM.1.1
  have c1 := hC.2.2.1
  have hs := hM.2.1
  have a1 : z.1 80 3 = nI u := by obtain ⟨_, _, _, _, q, _⟩ := hc.2.2.2.1; exact q
  have a2 : z.1 82 3 = nI m := by obtain ⟨_, _, _, _, q, _⟩ := hc.2.2.2.2.1; exact q
  have a3 : z.1 1 1 = nI f := hc.2.2.2.2.2.1
  have b1 : z.1 90 20 = nI u := hm.2.2.2.1.1
  have b2 : z.1 90 21 = nI m := hm.2.2.2.2.1.1
  have b3 : z.1 90 2 = nI f := hm.2.2.2.2.2.1
  have b4 : z.1 95 12 = nI (K 12) := by have := hM.2.2.2.1; simpa using this
  have k12 := (dk_n12 hz).2
  have n12 := (dk_n12 hz).1
  have i7 := fun z => s_in_rng (d + 18) 8 x z (by decide) (by decide)
  have i11 := fun z => s_in_rng (d + 18) 12 x z (by decide) (by decide)
  have mv := s_movesOf (d + 18) (K 12) z (by omega)
  have mm := s_mmovesOf (d + 18) (K 12) 95 (ds_rowI z 90 (upd (z.1 90) 0 (nI 0))) rfl rfl (by rw [ds_rowI_ne _ _ (by decide)]; exact b4)
  suffices hh : ∃ v, ds_call (d + 20) j_Sea_size [.ref 0, .int x] z = some (some v, z) ∧ ds_call (d + 20) j_Mod_size [.ref 90, .int x] z = some (some v, ds_rowI z 90 (upd (z.1 90) 0 (nI 0))) by
    obtain ⟨v, g1, g2⟩ := hh
    exact ⟨v, z, _, g1, g2, dk_Inv_t (nI 0) h⟩
  rw [c_Sea_size, b_Sea_size_0, c_Mod_size, b_Mod_size_0]
  rcases Bool.eq_false_or_eq_true (dk_rng x 13) with hr | hr
  · obtain ⟨w, hw, rfl⟩ := (dk_rng_iff (by decide)).mp hr
    have r8 : w < 8 → dk_rng (nI w) 8 = true := fun q => (dk_rng_iff (by decide)).mpr ⟨w, q, rfl⟩
    have r8' : 8 ≤ w → dk_rng (nI w) 8 = false := fun q => by
      cases e : dk_rng (nI w) 8 with
      | false => rfl
      | true =>
        obtain ⟨i, hi, e⟩ := (dk_rng_iff (by decide)).mp e
        rw [nI_eq (by omega) (by omega)] at e
        omega
    have r12 : w < 12 → dk_rng (nI w) 12 = true := fun q => (dk_rng_iff (by decide)).mpr ⟨w, q, rfl⟩
    have hw' : w = 0 ∨ w = 1 ∨ w = 2 ∨ w = 3 ∨ w = 4 ∨ w = 5 ∨ w = 6 ∨ w = 7 ∨ w = 8 ∨ w = 9 ∨ w = 10 ∨ w = 11 ∨ w = 12 := by omega
    by_cases hn : 0 < D 0 4
    · have hk : K 12 ≠ 0 := by
        rcases hz with ⟨hD, hK⟩ | ⟨h0, _⟩
        · have := hD.2.2.2.2.1.1
          rcases hK.2.2 with h | h <;> omega
        · have := h0 4 (by decide); omega
      refine ⟨.int (if w = 0 then nI (D 0 0) else if w = 1 then nI (D 0 1) else if w = 2 then nI (D 0 2) else if w = 3 then nI (D 0 3) else if w = 4 then nI (D 0 4) else if w = 5 then nI (D 0 5) else if w = 6 then nI (D 0 6) else if w = 7 then nI (D 0 7) else if w = 8 then nI (K 12) else if w = 9 then nI (K 12 + 2) else if w = 10 then nI u else if w = 11 then nI m else nI f), ?_, ?_⟩
      · rcases hw' with rfl | rfl | rfl | rfl | rfl | rfl | rfl | rfl | rfl | rfl | rfl | rfl | rfl <;> simp (disch := first | assumption | omega | rfl | decide) only [ds_cI, ds_cV, ds_cL, ds_cR, ds_nn, ds_isK_t, ds_isA_t, ds_chk_t, ds_chkN, ds_nz_t, ds_nzN, ds_isB_t, ds_isB_bo, ↓dl_m1, ↓dl_m2, dl_0, dl_1, dl_2, dl_3, dl_4, dl_5, dl_6, dl_7, dl_8, dl_9, dl_10, dl_11, dl_12, dl_13, dl_14, dl_15, dl_16, dl_20, dl_24, dl_31, dl_50, dl_57, dl_67, dl_68, dl_74, dl_75, dl_79, dl_80, dl_99, dl_100, dl_200, dl_210, dl_224, dl_255, dl_289, dl_900, dl_1000, dl_1728, dl_65536, dl_65537, nI_add, pk_mul, pk_sub, pk_div, pk_rem, ds_rem2, nI_clamp, nI_leI, nI_ltI, nI_eq, ds_m1_eq, ds_eq_m1, ds_m2_eq, ds_eq_m2, ds_m1_le, ds_le_m1, ds_m1_lt, ds_lt_m1, ds_in_N, ds_bo0, ds_bo1, if_pos, if_neg, Nat.not_le, Nat.not_lt, not_true_eq_false, not_false_eq_true, if_true, if_false, ne_eq, Option.some.injEq, Prod.mk.injEq, Value.int.injEq, true_and, and_true, and_self, ite_self, Bool.not_eq_true, Bool.not_eq_false, Bool.true_eq_false, Bool.false_eq_true, reduceCtorEq, Nat.zero_add, Nat.reduceAdd, Nat.reduceMul, Nat.reduceSub, ds_setI_row, ds_setL_row, ds_rowI_self, ds_rowI_ne, ds_rowI_2, ds_rowI_rowI, ds_setS_1, ds_setS_21, ds_setS_self, ds_setS_ne, pk_us, pk_un, r0, t0, t1, t2, t3, t4, t9, t11, t14, c1, a1, a2, a3, mv, hk]
      · rcases hw' with rfl | rfl | rfl | rfl | rfl | rfl | rfl | rfl | rfl | rfl | rfl | rfl | rfl <;> simp (disch := first | assumption | omega | rfl | decide) only [ds_cI, ds_cV, ds_cL, ds_cR, ds_nn, ds_isK_t, ds_isA_t, ds_chk_t, ds_chkN, ds_nz_t, ds_nzN, ds_isB_t, ds_isB_bo, ↓dl_m1, ↓dl_m2, dl_0, dl_1, dl_2, dl_3, dl_4, dl_5, dl_6, dl_7, dl_8, dl_9, dl_10, dl_11, dl_12, dl_13, dl_14, dl_15, dl_16, dl_20, dl_24, dl_31, dl_50, dl_57, dl_67, dl_68, dl_74, dl_75, dl_79, dl_80, dl_99, dl_100, dl_200, dl_210, dl_224, dl_255, dl_289, dl_900, dl_1000, dl_1728, dl_65536, dl_65537, nI_add, pk_mul, pk_sub, pk_div, pk_rem, ds_rem2, nI_clamp, nI_leI, nI_ltI, nI_eq, ds_m1_eq, ds_eq_m1, ds_m2_eq, ds_eq_m2, ds_m1_le, ds_le_m1, ds_m1_lt, ds_lt_m1, ds_in_N, ds_bo0, ds_bo1, if_pos, if_neg, Nat.not_le, Nat.not_lt, not_true_eq_false, not_false_eq_true, if_true, if_false, ne_eq, Option.some.injEq, Prod.mk.injEq, Value.int.injEq, true_and, and_true, and_self, ite_self, Bool.not_eq_true, Bool.not_eq_false, Bool.true_eq_false, Bool.false_eq_true, reduceCtorEq, Nat.zero_add, Nat.reduceAdd, Nat.reduceMul, Nat.reduceSub, ds_setI_row, ds_setL_row, ds_rowI_self, ds_rowI_ne, ds_rowI_2, ds_rowI_rowI, ds_setS_1, ds_setS_21, ds_setS_self, ds_setS_ne, pk_us, pk_un, hs, hn, decide_true, i7, r8, r8', m0, m1, m2, m3, m4, m5, m6, m7, b1, b2, b3, b4, mm]
    · have h4 : D 0 4 = 0 := by omega
      rcases hz with ⟨hD, hK⟩ | ⟨h0, hc0, hp0⟩
      · have := hD.2.2.2.2.1.1
        omega
      · rcases ho.1 with ⟨hD, _⟩ | ⟨_, _, _, hu, hmm⟩
        · have := hD.2.2.2.2.1.1
          omega
        · subst hu
          subst hmm
          rw [hc0] at c1 mv
          refine ⟨.int (if w = 12 then nI f else nI 0), ?_, ?_⟩
          · rcases hw' with rfl | rfl | rfl | rfl | rfl | rfl | rfl | rfl | rfl | rfl | rfl | rfl | rfl <;> simp (disch := first | assumption | omega | rfl | decide) only [ds_cI, ds_cV, ds_cL, ds_cR, ds_nn, ds_isK_t, ds_isA_t, ds_chk_t, ds_chkN, ds_nz_t, ds_nzN, ds_isB_t, ds_isB_bo, ↓dl_m1, ↓dl_m2, dl_0, dl_1, dl_2, dl_3, dl_4, dl_5, dl_6, dl_7, dl_8, dl_9, dl_10, dl_11, dl_12, dl_13, dl_14, dl_15, dl_16, dl_20, dl_24, dl_31, dl_50, dl_57, dl_67, dl_68, dl_74, dl_75, dl_79, dl_80, dl_99, dl_100, dl_200, dl_210, dl_224, dl_255, dl_289, dl_900, dl_1000, dl_1728, dl_65536, dl_65537, nI_add, pk_mul, pk_sub, pk_div, pk_rem, ds_rem2, nI_clamp, nI_leI, nI_ltI, nI_eq, ds_m1_eq, ds_eq_m1, ds_m2_eq, ds_eq_m2, ds_m1_le, ds_le_m1, ds_m1_lt, ds_lt_m1, ds_in_N, ds_bo0, ds_bo1, if_pos, if_neg, Nat.not_le, Nat.not_lt, not_true_eq_false, not_false_eq_true, if_true, if_false, ne_eq, Option.some.injEq, Prod.mk.injEq, Value.int.injEq, true_and, and_true, and_self, ite_self, Bool.not_eq_true, Bool.not_eq_false, Bool.true_eq_false, Bool.false_eq_true, reduceCtorEq, Nat.zero_add, Nat.reduceAdd, Nat.reduceMul, Nat.reduceSub, ds_setI_row, ds_setL_row, ds_rowI_self, ds_rowI_ne, ds_rowI_2, ds_rowI_rowI, ds_setS_1, ds_setS_21, ds_setS_self, ds_setS_ne, pk_us, pk_un, r0, t0, t1, t2, t3, t4, t9, t11, t14, c1, a1, a2, a3, mv, h0]
          · rcases hw' with rfl | rfl | rfl | rfl | rfl | rfl | rfl | rfl | rfl | rfl | rfl | rfl | rfl <;> simp (disch := first | assumption | omega | rfl | decide) only [ds_cI, ds_cV, ds_cL, ds_cR, ds_nn, ds_isK_t, ds_isA_t, ds_chk_t, ds_chkN, ds_nz_t, ds_nzN, ds_isB_t, ds_isB_bo, ↓dl_m1, ↓dl_m2, dl_0, dl_1, dl_2, dl_3, dl_4, dl_5, dl_6, dl_7, dl_8, dl_9, dl_10, dl_11, dl_12, dl_13, dl_14, dl_15, dl_16, dl_20, dl_24, dl_31, dl_50, dl_57, dl_67, dl_68, dl_74, dl_75, dl_79, dl_80, dl_99, dl_100, dl_200, dl_210, dl_224, dl_255, dl_289, dl_900, dl_1000, dl_1728, dl_65536, dl_65537, nI_add, pk_mul, pk_sub, pk_div, pk_rem, ds_rem2, nI_clamp, nI_leI, nI_ltI, nI_eq, ds_m1_eq, ds_eq_m1, ds_m2_eq, ds_eq_m2, ds_m1_le, ds_le_m1, ds_m1_lt, ds_lt_m1, ds_in_N, ds_bo0, ds_bo1, if_pos, if_neg, Nat.not_le, Nat.not_lt, not_true_eq_false, not_false_eq_true, if_true, if_false, ne_eq, Option.some.injEq, Prod.mk.injEq, Value.int.injEq, true_and, and_true, and_self, ite_self, Bool.not_eq_true, Bool.not_eq_false, Bool.true_eq_false, Bool.false_eq_true, reduceCtorEq, Nat.zero_add, Nat.reduceAdd, Nat.reduceMul, Nat.reduceSub, ds_setI_row, ds_setL_row, ds_rowI_self, ds_rowI_ne, ds_rowI_2, ds_rowI_rowI, ds_setS_1, ds_setS_21, ds_setS_self, ds_setS_ne, pk_us, pk_un, hs, h4, Nat.lt_irrefl, decide_false, i11, r12, b3]
  · have ne : ∀ k, k < 13 → ¬ x = nI k := by
      intro k hk q
      rw [(dk_rng_iff (by decide)).mpr ⟨k, hk, q⟩] at hr
      exact absurd hr (by decide)
    have r8 : dk_rng x 8 = false := by
      cases e : dk_rng x 8 with
      | false => rfl
      | true =>
        obtain ⟨i, hi, e⟩ := (dk_rng_iff (by decide)).mp e
        exact absurd e (ne i (by omega))
    have r12 : dk_rng x 12 = false := by
      cases e : dk_rng x 12 with
      | false => rfl
      | true =>
        obtain ⟨i, hi, e⟩ := (dk_rng_iff (by decide)).mp e
        exact absurd e (ne i (by omega))
    refine ⟨.int ds_m1, ?_, ?_⟩
    · simp (disch := first | assumption | omega | rfl | decide) only [ds_cI, ds_cV, ds_cL, ds_cR, ds_nn, ds_isK_t, ds_isA_t, ds_chk_t, ds_chkN, ds_nz_t, ds_nzN, ds_isB_t, ds_isB_bo, ↓dl_m1, ↓dl_m2, dl_0, dl_1, dl_2, dl_3, dl_4, dl_5, dl_6, dl_7, dl_8, dl_9, dl_10, dl_11, dl_12, dl_13, dl_14, dl_15, dl_16, dl_20, dl_24, dl_31, dl_50, dl_57, dl_67, dl_68, dl_74, dl_75, dl_79, dl_80, dl_99, dl_100, dl_200, dl_210, dl_224, dl_255, dl_289, dl_900, dl_1000, dl_1728, dl_65536, dl_65537, nI_add, pk_mul, pk_sub, pk_div, pk_rem, ds_rem2, nI_clamp, nI_leI, nI_ltI, nI_eq, ds_m1_eq, ds_eq_m1, ds_m2_eq, ds_eq_m2, ds_m1_le, ds_le_m1, ds_m1_lt, ds_lt_m1, ds_in_N, ds_bo0, ds_bo1, if_pos, if_neg, Nat.not_le, Nat.not_lt, not_true_eq_false, not_false_eq_true, if_true, if_false, ne_eq, Option.some.injEq, Prod.mk.injEq, Value.int.injEq, true_and, and_true, and_self, ite_self, Bool.not_eq_true, Bool.not_eq_false, Bool.true_eq_false, Bool.false_eq_true, reduceCtorEq, Nat.zero_add, Nat.reduceAdd, Nat.reduceMul, Nat.reduceSub, ds_setI_row, ds_setL_row, ds_rowI_self, ds_rowI_ne, ds_rowI_2, ds_rowI_rowI, ds_setS_1, ds_setS_21, ds_setS_self, ds_setS_ne, pk_us, pk_un, ne 0 (by decide), ne 1 (by decide), ne 2 (by decide), ne 3 (by decide), ne 4 (by decide), ne 5 (by decide), ne 6 (by decide), ne 7 (by decide), ne 8 (by decide), ne 9 (by decide), ne 10 (by decide), ne 11 (by decide), ne 12 (by decide)]
    · rcases Bool.eq_false_or_eq_true (decide (0 < D 0 4)) with hn | hn
      · simp (disch := first | assumption | omega | rfl | decide) only [ds_cI, ds_cV, ds_cL, ds_cR, ds_nn, ds_isK_t, ds_isA_t, ds_chk_t, ds_chkN, ds_nz_t, ds_nzN, ds_isB_t, ds_isB_bo, ↓dl_m1, ↓dl_m2, dl_0, dl_1, dl_2, dl_3, dl_4, dl_5, dl_6, dl_7, dl_8, dl_9, dl_10, dl_11, dl_12, dl_13, dl_14, dl_15, dl_16, dl_20, dl_24, dl_31, dl_50, dl_57, dl_67, dl_68, dl_74, dl_75, dl_79, dl_80, dl_99, dl_100, dl_200, dl_210, dl_224, dl_255, dl_289, dl_900, dl_1000, dl_1728, dl_65536, dl_65537, nI_add, pk_mul, pk_sub, pk_div, pk_rem, ds_rem2, nI_clamp, nI_leI, nI_ltI, nI_eq, ds_m1_eq, ds_eq_m1, ds_m2_eq, ds_eq_m2, ds_m1_le, ds_le_m1, ds_m1_lt, ds_lt_m1, ds_in_N, ds_bo0, ds_bo1, if_pos, if_neg, Nat.not_le, Nat.not_lt, not_true_eq_false, not_false_eq_true, if_true, if_false, ne_eq, Option.some.injEq, Prod.mk.injEq, Value.int.injEq, true_and, and_true, and_self, ite_self, Bool.not_eq_true, Bool.not_eq_false, Bool.true_eq_false, Bool.false_eq_true, reduceCtorEq, Nat.zero_add, Nat.reduceAdd, Nat.reduceMul, Nat.reduceSub, ds_setI_row, ds_setL_row, ds_rowI_self, ds_rowI_ne, ds_rowI_2, ds_rowI_rowI, ds_setS_1, ds_setS_21, ds_setS_self, ds_setS_ne, pk_us, pk_un, hs, hn, i7, r8, ne 8 (by decide), ne 9 (by decide), ne 10 (by decide), ne 11 (by decide), ne 12 (by decide)]
      · simp (disch := first | assumption | omega | rfl | decide) only [ds_cI, ds_cV, ds_cL, ds_cR, ds_nn, ds_isK_t, ds_isA_t, ds_chk_t, ds_chkN, ds_nz_t, ds_nzN, ds_isB_t, ds_isB_bo, ↓dl_m1, ↓dl_m2, dl_0, dl_1, dl_2, dl_3, dl_4, dl_5, dl_6, dl_7, dl_8, dl_9, dl_10, dl_11, dl_12, dl_13, dl_14, dl_15, dl_16, dl_20, dl_24, dl_31, dl_50, dl_57, dl_67, dl_68, dl_74, dl_75, dl_79, dl_80, dl_99, dl_100, dl_200, dl_210, dl_224, dl_255, dl_289, dl_900, dl_1000, dl_1728, dl_65536, dl_65537, nI_add, pk_mul, pk_sub, pk_div, pk_rem, ds_rem2, nI_clamp, nI_leI, nI_ltI, nI_eq, ds_m1_eq, ds_eq_m1, ds_m2_eq, ds_eq_m2, ds_m1_le, ds_le_m1, ds_m1_lt, ds_lt_m1, ds_in_N, ds_bo0, ds_bo1, if_pos, if_neg, Nat.not_le, Nat.not_lt, not_true_eq_false, not_false_eq_true, if_true, if_false, ne_eq, Option.some.injEq, Prod.mk.injEq, Value.int.injEq, true_and, and_true, and_self, ite_self, Bool.not_eq_true, Bool.not_eq_false, Bool.true_eq_false, Bool.false_eq_true, reduceCtorEq, Nat.zero_add, Nat.reduceAdd, Nat.reduceMul, Nat.reduceSub, ds_setI_row, ds_setL_row, ds_rowI_self, ds_rowI_ne, ds_rowI_2, ds_rowI_rowI, ds_setS_1, ds_setS_21, ds_setS_self, ds_setS_ne, pk_us, pk_un, hs, hn, i11, r12, ne 12 (by decide)]
