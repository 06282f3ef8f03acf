theorem s_newName (d s : Nat) (z z0 : ds_St) (hs : Bool) (B : Nat → Nat) (n e : Nat) (Nm : Nat → List Nat) (D : Nat → Nat → Nat) (hO : dr_OM z B n e) (hS : dr_SM z0 hs Nm D z) (hn : dr_nok D Nm) (hd6 : D 0 6 ≤ 6) (hd7 : D 0 7 ≤ 6) (h22 : s < 22) : (dr_isn B n e = false → ds_call (d + 3) j_Mod_newName [.ref 90, .int (nI s)] z = some (none, dr_zw z 1 (dr_at B n e))) ∧ (dr_isn B n e = true → dr_has Nm (dr_wl B n e) = true → ds_call (d + 3) j_Mod_newName [.ref 90, .int (nI s)] z = some (none, dr_zw z 3 (dr_at B n e))) ∧ (dr_isn B n e = true → dr_has Nm (dr_wl B n e) = false → ∃ z', ds_call (d + 3) j_Mod_newName [.ref 90, .int (nI s)] z = some (none, z') ∧ dr_OM z' B n (dr_nx B n e) ∧ dr_SM z0 hs (dr_Nm Nm s (dr_wl B n e)) D z') := by
  have mn := s_mustName d z B n e hO
  have h13 := hO.1.1
  have h4 := hO.2.2.1
  refine ⟨fun q => ?_, fun q qh => ?_, fun q qh => ?_⟩
  · rw [q, if_neg (by decide)] at mn
    have x := dr_zw_13 z 1 (dr_at B n e)
    generalize dr_zw z 1 (dr_at B n e) = y at *
    rw [c_Mod_newName, b_Mod_newName_0]
    simp (disch := first | assumption | omega) only [ds_cI, ds_cV, ds_cL, ds_cR, ds_nn, ds_isK_t, ds_isA_t, ds_chk_t, ds_chkN, ds_nz_t, ds_nzN, ds_isB_t, ds_isB_bo, ↓dl_m1, ↓dl_m2, dl_0, dl_1, dl_2, dl_3, dl_4, dl_5, dl_6, dl_7, dl_8, dl_9, dl_10, dl_11, dl_12, dl_13, dl_14, dl_15, dl_16, dl_20, dl_24, dl_31, dl_50, dl_57, dl_67, dl_68, dl_74, dl_75, dl_79, dl_80, dl_99, dl_100, dl_200, dl_210, dl_224, dl_255, dl_289, dl_900, dl_1000, dl_1728, dl_65536, dl_65537, nI_add, pk_mul, pk_sub, pk_div, pk_rem, ds_rem2, nI_clamp, nI_leI, nI_ltI, nI_eq, ds_m1_eq, ds_eq_m1, ds_m2_eq, ds_eq_m2, ds_m1_le, ds_le_m1, ds_m1_lt, ds_lt_m1, ds_in_N, ds_bo0, ds_bo1, if_pos, if_neg, Nat.not_le, Nat.not_lt, not_true_eq_false, not_false_eq_true, if_true, if_false, ne_eq, Option.some.injEq, Prod.mk.injEq, Value.int.injEq, true_and, and_true, and_self, ite_self, Bool.not_eq_true, Bool.not_eq_false, Bool.true_eq_false, Bool.false_eq_true, reduceCtorEq, Nat.zero_add, Nat.reduceAdd, Nat.reduceMul, Nat.reduceSub, ds_setI_row, ds_setL_row, ds_rowI_self, ds_rowI_ne, ds_rowI_2, ds_rowI_rowI, ds_setS_1, ds_setS_21, ds_setS_self, ds_setS_ne, pk_us, pk_un, h13, mn, x]
  · rw [q, if_pos rfl] at mn
    have k1 := dr_isn_k q
    have fd := s_find (d + 1) z z0 B n e D Nm hO hS.2.1 hn k1
    rw [qh, if_pos rfl] at fd
    have sl := dr_used_lt hn.1 hn.2.1 (dr_slot_ok hn (dr_wl_ok hO.2.1 k1) qh).1
    have wr := s_wrong (d + 1) 3 (dr_at B n e) z h13
    have x := dr_zw_13 z 3 (dr_at B n e)
    generalize dr_at B n e = a at *
    generalize dr_zw z 3 a = y at *
    generalize dr_slot Nm (dr_wl B n e) = w at *
    rw [c_Mod_newName, b_Mod_newName_0]
    simp (disch := first | assumption | omega) only [ds_cI, ds_cV, ds_cL, ds_cR, ds_nn, ds_isK_t, ds_isA_t, ds_chk_t, ds_chkN, ds_nz_t, ds_nzN, ds_isB_t, ds_isB_bo, ↓dl_m1, ↓dl_m2, dl_0, dl_1, dl_2, dl_3, dl_4, dl_5, dl_6, dl_7, dl_8, dl_9, dl_10, dl_11, dl_12, dl_13, dl_14, dl_15, dl_16, dl_20, dl_24, dl_31, dl_50, dl_57, dl_67, dl_68, dl_74, dl_75, dl_79, dl_80, dl_99, dl_100, dl_200, dl_210, dl_224, dl_255, dl_289, dl_900, dl_1000, dl_1728, dl_65536, dl_65537, nI_add, pk_mul, pk_sub, pk_div, pk_rem, ds_rem2, nI_clamp, nI_leI, nI_ltI, nI_eq, ds_m1_eq, ds_eq_m1, ds_m2_eq, ds_eq_m2, ds_m1_le, ds_le_m1, ds_m1_lt, ds_lt_m1, ds_in_N, ds_bo0, ds_bo1, if_pos, if_neg, Nat.not_le, Nat.not_lt, not_true_eq_false, not_false_eq_true, if_true, if_false, ne_eq, Option.some.injEq, Prod.mk.injEq, Value.int.injEq, true_and, and_true, and_self, ite_self, Bool.not_eq_true, Bool.not_eq_false, Bool.true_eq_false, Bool.false_eq_true, reduceCtorEq, Nat.zero_add, Nat.reduceAdd, Nat.reduceMul, Nat.reduceSub, ds_setI_row, ds_setL_row, ds_rowI_self, ds_rowI_ne, ds_rowI_2, ds_rowI_rowI, ds_setS_1, ds_setS_21, ds_setS_self, ds_setS_ne, pk_us, pk_un, h13, mn, fd, h4, wr, x]
  · rw [q, if_pos rfl] at mn
    have k1 := dr_isn_k q
    have fd := s_find (d + 1) z z0 B n e D Nm hO hS.2.1 hn k1
    rw [qh, if_neg (by decide)] at fd
    have wd := dr_wl_ok hO.2.1 k1
    have wl8 := wd.2.1
    have m1lt : ds_m1 < nI 0 := by decide
    have loop : ∀ m k y, k + m = (dr_wl B n e).length → dr_OM y B n e → ∃ y', ds_Rw ds_c_Mod_newName ds_u_Mod_newName (ds_call (d + 2)) 45 [some (.ref 90), some (.int (nI s)), some (.int (nI k))] [] y = ds_Rw ds_c_Mod_newName ds_u_Mod_newName (ds_call (d + 2)) 45 [some (.ref 90), some (.int (nI s)), some (.int (nI (((dr_wl B n e).length))))] [] y' ∧ dr_OM y' B n e ∧ (∀ j, y'.1 94 j = if 113 + 8 * s + k ≤ j ∧ j < 113 + 8 * s + (dr_wl B n e).length then nI ((dr_wl B n e).getD (j - (113 + 8 * s)) 0) else y.1 94 j) ∧ (∀ p, p ≠ 94 → y'.1 p = y.1 p) ∧ y'.2 = y.2 := by
      intro m
      induction m with
      | zero =>
        intro k y hk hOy
        have : k = (dr_wl B n e).length := by omega
        subst this
        refine ⟨y, rfl, hOy, fun j => ?_, fun _ _ => rfl, rfl⟩
        rw [if_neg (by omega)]
      | succ m ih =>
        intro k y hk hOy
        obtain ⟨t8, tl⟩ := hOy.2.2.2.2.2.1 k1
        have tk := tl k (by omega)
        let y1 := ds_rowI y 94 (upd (y.1 94) (113 + 8 * s + k) (nI ((dr_wl B n e).getD k 0)))
        have y1e : ds_setI y 94 (113 + 8 * s + k) (nI ((dr_wl B n e).getD k 0)) = y1 := ds_setI_row _ _ _ _
        have g1 : ∀ j, y1.1 94 j = upd (y.1 94) (113 + 8 * s + k) (nI ((dr_wl B n e).getD k 0)) j := fun j => by
          show (ds_rowI y 94 (upd (y.1 94) (113 + 8 * s + k) (nI ((dr_wl B n e).getD k 0)))).1 94 j = _
          rw [ds_rowI_self]
        have gp : ∀ p, p ≠ 94 → y1.1 p = y.1 p := fun p hp => ds_rowI_ne _ _ hp
        have O1 : dr_OM y1 B n e := dr_OM_94 _ hOy
        have r2 : y1.2 = y.2 := rfl
        clear_value y1
        obtain ⟨y', w1, w2, w3, w4, w5⟩ := ih (k + 1) y1 (by omega) O1
        refine ⟨y', ?_, w2, fun j => ?_, fun p hp => (w4 p hp).trans (gp p hp), w5.trans r2⟩
        · rw [← w1, b_Mod_newName_45, t8]
          generalize (dr_wl B n e).getD k 0 = x at *
          generalize (dr_wl B n e).length = L at *
          simp (disch := first | assumption | omega) only [nI_leI, if_neg, Nat.not_le, ds_chkN, dl_113, dl_8, dl_1, pk_mul, nI_add, nI_clamp, tk, y1e]
        · rw [w3 j, g1]
          by_cases a : 113 + 8 * s + (k + 1) ≤ j ∧ j < 113 + 8 * s + (dr_wl B n e).length
          · rw [if_pos a, if_pos (by omega)]
          · rw [if_neg a]
            by_cases b : j = 113 + 8 * s + k
            · rw [b, pk_us, if_pos (by omega), show 113 + 8 * s + k - (113 + 8 * s) = k by omega]
            · rw [pk_un b, if_neg (by omega)]
    obtain ⟨y, w1, w2, w3, w4, w5⟩ := loop (dr_wl B n e).length 0 z (by omega) hO
    obtain ⟨t8, tl⟩ := w2.2.2.2.2.2.1 k1
    let y2 := ds_rowI y 94 (upd (y.1 94) (91 + s) (nI (dr_wl B n e).length))
    have y2e : ds_setI y 94 (91 + s) (nI (dr_wl B n e).length) = y2 := ds_setI_row _ _ _ _
    have g2 : ∀ j, y2.1 94 j = upd (y.1 94) (91 + s) (nI (dr_wl B n e).length) j := fun j => by
      show (ds_rowI y 94 (upd (y.1 94) (91 + s) (nI (dr_wl B n e).length))).1 94 j = _
      rw [ds_rowI_self]
    have gp : ∀ p, p ≠ 94 → y2.1 p = z.1 p := fun p hp => (ds_rowI_ne _ _ hp).trans (w4 p hp)
    have O2 : dr_OM y2 B n e := dr_OM_94 _ w2
    have r2 : y2.2 = z.2 := w5
    have low : ∀ j, j < 91 → y2.1 94 j = z.1 94 j := fun j hj => by rw [g2, pk_un (by omega), w3, if_neg (by omega)]
    have S2 : dr_SM z0 hs (dr_Nm Nm s (dr_wl B n e)) D y2 := by
      obtain ⟨⟨c8, c0, ⟨c4, c5, c6, c7⟩, ci, cm, cw, cs⟩, cn, cg, c9, c10⟩ := hS
      have d4 := hn.1
      have d5 := hn.2.1
      refine ⟨⟨by rw [low 8 (by decide)]; exact c8, fun q => ?_, ⟨by rw [low 4 (by decide)]; exact c4, by rw [low 5 (by decide)]; exact c5, by rw [low 6 (by decide)]; exact c6, by rw [low 7 (by decide)]; exact c7⟩, fun i hi => ?_, fun i hi => ?_, fun i hi => ?_, fun i hi => ?_⟩, fun j hj => ?_, ⟨fun p a b c e => (gp p e).trans (cg.1 p a b c e), fun k a => by rw [gp 90 (by decide)]; exact cg.2.1 k a, r2.trans cg.2.2⟩, by rw [gp 90 (by decide)]; exact c9, by rw [gp 90 (by decide)]; exact c10⟩
      · rw [low 0 (by decide), low 1 (by decide), low 2 (by decide), low 3 (by decide)]
        exact c0 q
      · rw [low _ (by omega), low _ (by omega), low _ (by omega), low _ (by omega)]
        exact ci i hi
      · rw [low _ (by omega)]
        exact cm i hi
      · have w6 : D 0 6 ≤ 6 := hd6
        rw [low _ (by omega), low _ (by omega)]
        exact cw i hi
      · have w7 : D 0 7 ≤ 6 := hd7
        rw [low _ (by omega), low _ (by omega)]
        exact cs i hi
      · obtain ⟨n1, n2⟩ := cn j hj
        unfold dr_Nm
        by_cases q : j = s
        · simp only [if_pos q]
          subst q
          refine ⟨by rw [g2, pk_us], fun k hk => ?_⟩
          rw [g2, pk_un (by omega), w3, if_pos (by omega), show 113 + 8 * j + k - (113 + 8 * j) = k by omega]
        · simp only [if_neg q]
          have nl : (Nm j).length ≤ 8 := by
            cases u : dr_used D j
            · rw [hn.2.2.2.1 j u]; decide
            · exact (hn.2.2.1 j u).2.1
          refine ⟨by rw [g2, pk_un (by omega), w3, if_neg (by omega)]; exact n1, fun k hk => ?_⟩
          rw [g2, pk_un (by omega), w3, if_neg (by omega)]
          exact n2 k hk
    clear_value y2
    obtain ⟨z', v1, v2, v3⟩ := s_mgo d y2 B n e O2
    refine ⟨z', ?_, v2, dr_SM_g1 S2 v3⟩
    have fin : ds_Rw ds_c_Mod_newName ds_u_Mod_newName (ds_call (d + 2)) 45 [some (.ref 90), some (.int (nI s)), some (.int (nI 0))] [] z = some (none, z') := by
      rw [w1, b_Mod_newName_45, t8]
      generalize (dr_wl B n e).length = L at *
      simp (disch := first | assumption | omega) only [nI_leI, if_pos, Nat.le_refl, ds_chkN, dl_91, nI_add, nI_clamp, y2e, ds_cV_t v1, if_true]
    rw [c_Mod_newName, b_Mod_newName_0]
    simp (disch := first | assumption | omega) only [ds_cI, ds_cV, ds_cL, ds_cR, ds_nn, ds_isK_t, ds_isA_t, ds_chk_t, ds_chkN, ds_nz_t, ds_nzN, ds_isB_t, ds_isB_bo, ↓dl_m1, ↓dl_m2, dl_0, dl_1, dl_2, dl_3, dl_4, dl_5, dl_6, dl_7, dl_8, dl_9, dl_10, dl_11, dl_12, dl_13, dl_14, dl_15, dl_16, dl_20, dl_24, dl_31, dl_50, dl_57, dl_67, dl_68, dl_74, dl_75, dl_79, dl_80, dl_99, dl_100, dl_200, dl_210, dl_224, dl_255, dl_289, dl_900, dl_1000, dl_1728, dl_65536, dl_65537, nI_add, pk_mul, pk_sub, pk_div, pk_rem, ds_rem2, nI_clamp, nI_leI, nI_ltI, nI_eq, ds_m1_eq, ds_eq_m1, ds_m2_eq, ds_eq_m2, ds_m1_le, ds_le_m1, ds_m1_lt, ds_lt_m1, ds_in_N, ds_bo0, ds_bo1, if_pos, if_neg, Nat.not_le, Nat.not_lt, not_true_eq_false, not_false_eq_true, if_true, if_false, ne_eq, Option.some.injEq, Prod.mk.injEq, Value.int.injEq, true_and, and_true, and_self, ite_self, Bool.not_eq_true, Bool.not_eq_false, Bool.true_eq_false, Bool.false_eq_true, reduceCtorEq, Nat.zero_add, Nat.reduceAdd, Nat.reduceMul, Nat.reduceSub, ds_setI_row, ds_setL_row, ds_rowI_self, ds_rowI_ne, ds_rowI_2, ds_rowI_rowI, ds_setS_1, ds_setS_21, ds_setS_self, ds_setS_ne, pk_us, pk_un, h13, mn, fd, m1lt, fin]
theorem s_here (d : Nat) (z z0 : ds_St) (hs : Bool) (B : Nat → Nat) (n e : Nat) (Nm : Nat → List Nat) (D : Nat → Nat → Nat) (hO : dr_OM z B n e) (hS : dr_SM z0 hs Nm D z) (hn : dr_nok D Nm) : (dr_ni B n e Nm = 0 → ds_call (d + 3) j_Mod_islandHere [.ref 90] z = some (some (.int (nI (dr_slot Nm (dr_wl B n e)))), z)) ∧ (¬ dr_ni B n e Nm = 0 → ds_call (d + 3) j_Mod_islandHere [.ref 90] z = some (some (.int (nI 0)), dr_zw z (dr_ni B n e Nm) (dr_at B n e))) := by
  have mn := s_mustName d z B n e hO
  have h13 := hO.1.1
  have h4 := hO.2.2.1
  unfold dr_ni
  cases q : dr_isn B n e
  · rw [q, if_neg (by decide)] at mn
    simp only [↓reduceIte, Bool.false_eq_true]
    refine ⟨fun c => absurd c (by decide), fun _ => ?_⟩
    have x := dr_zw_13 z 1 (dr_at B n e)
    generalize dr_zw z 1 (dr_at B n e) = y at *
    rw [c_Mod_islandHere, b_Mod_islandHere_0]
    simp (disch := first | assumption | omega) only [ds_cI, ds_cV, ds_cL, ds_cR, ds_nn, ds_isK_t, ds_isA_t, ds_chk_t, ds_chkN, ds_nz_t, ds_nzN, ds_isB_t, ds_isB_bo, ↓dl_m1, ↓dl_m2, dl_0, dl_1, dl_2, dl_3, dl_4, dl_5, dl_6, dl_7, dl_8, dl_9, dl_10, dl_11, dl_12, dl_13, dl_14, dl_15, dl_16, dl_20, dl_24, dl_31, dl_50, dl_57, dl_67, dl_68, dl_74, dl_75, dl_79, dl_80, dl_99, dl_100, dl_200, dl_210, dl_224, dl_255, dl_289, dl_900, dl_1000, dl_1728, dl_65536, dl_65537, nI_add, pk_mul, pk_sub, pk_div, pk_rem, ds_rem2, nI_clamp, nI_leI, nI_ltI, nI_eq, ds_m1_eq, ds_eq_m1, ds_m2_eq, ds_eq_m2, ds_m1_le, ds_le_m1, ds_m1_lt, ds_lt_m1, ds_in_N, ds_bo0, ds_bo1, if_pos, if_neg, Nat.not_le, Nat.not_lt, not_true_eq_false, not_false_eq_true, if_true, if_false, ne_eq, Option.some.injEq, Prod.mk.injEq, Value.int.injEq, true_and, and_true, and_self, ite_self, Bool.not_eq_true, Bool.not_eq_false, Bool.true_eq_false, Bool.false_eq_true, reduceCtorEq, Nat.zero_add, Nat.reduceAdd, Nat.reduceMul, Nat.reduceSub, ds_setI_row, ds_setL_row, ds_rowI_self, ds_rowI_ne, ds_rowI_2, ds_rowI_rowI, ds_setS_1, ds_setS_21, ds_setS_self, ds_setS_ne, pk_us, pk_un, h13, mn, x]
  · rw [q, if_pos rfl] at mn
    have k1 := dr_isn_k q
    have wd := dr_wl_ok hO.2.1 k1
    have fd := s_find (d + 1) z z0 B n e D Nm hO hS.2.1 hn k1
    have wr := s_wrong (d + 1) 2 (dr_at B n e) z h13
    have x := dr_zw_13 z 2 (dr_at B n e)
    simp only [↓reduceIte]
    cases qh : dr_has Nm (dr_wl B n e)
    · rw [qh, if_neg (by decide)] at fd
      simp only [Bool.false_and, Bool.false_eq_true, ↓reduceIte]
      refine ⟨fun c => absurd c (by decide), fun _ => ?_⟩
      have hin : ds_call (d + 2) j_Mod_in [.int ds_m1, .int (nI 0), .int (nI 11)] z = some (some (.int (nI 0)), z) := by
        have m1lt : ds_m1 < nI 0 := by decide
        rw [c_Mod_in, b_Mod_in_0]
        simp (disch := first | assumption | omega) only [ds_cI, ds_cV, ds_cL, ds_cR, ds_nn, ds_isK_t, ds_isA_t, ds_chk_t, ds_chkN, ds_nz_t, ds_nzN, ds_isB_t, ds_isB_bo, ↓dl_m1, ↓dl_m2, dl_0, dl_1, dl_2, dl_3, dl_4, dl_5, dl_6, dl_7, dl_8, dl_9, dl_10, dl_11, dl_12, dl_13, dl_14, dl_15, dl_16, dl_20, dl_24, dl_31, dl_50, dl_57, dl_67, dl_68, dl_74, dl_75, dl_79, dl_80, dl_99, dl_100, dl_200, dl_210, dl_224, dl_255, dl_289, dl_900, dl_1000, dl_1728, dl_65536, dl_65537, nI_add, pk_mul, pk_sub, pk_div, pk_rem, ds_rem2, nI_clamp, nI_leI, nI_ltI, nI_eq, ds_m1_eq, ds_eq_m1, ds_m2_eq, ds_eq_m2, ds_m1_le, ds_le_m1, ds_m1_lt, ds_lt_m1, ds_in_N, ds_bo0, ds_bo1, if_pos, if_neg, Nat.not_le, Nat.not_lt, not_true_eq_false, not_false_eq_true, if_true, if_false, ne_eq, Option.some.injEq, Prod.mk.injEq, Value.int.injEq, true_and, and_true, and_self, ite_self, Bool.not_eq_true, Bool.not_eq_false, Bool.true_eq_false, Bool.false_eq_true, reduceCtorEq, Nat.zero_add, Nat.reduceAdd, Nat.reduceMul, Nat.reduceSub, ds_setI_row, ds_setL_row, ds_rowI_self, ds_rowI_ne, ds_rowI_2, ds_rowI_rowI, ds_setS_1, ds_setS_21, ds_setS_self, ds_setS_ne, pk_us, pk_un, m1lt]
      generalize dr_at B n e = a at *
      generalize dr_zw z 2 a = y at *
      rw [c_Mod_islandHere, b_Mod_islandHere_0]
      simp (disch := first | assumption | omega) only [ds_cI, ds_cV, ds_cL, ds_cR, ds_nn, ds_isK_t, ds_isA_t, ds_chk_t, ds_chkN, ds_nz_t, ds_nzN, ds_isB_t, ds_isB_bo, ↓dl_m1, ↓dl_m2, dl_0, dl_1, dl_2, dl_3, dl_4, dl_5, dl_6, dl_7, dl_8, dl_9, dl_10, dl_11, dl_12, dl_13, dl_14, dl_15, dl_16, dl_20, dl_24, dl_31, dl_50, dl_57, dl_67, dl_68, dl_74, dl_75, dl_79, dl_80, dl_99, dl_100, dl_200, dl_210, dl_224, dl_255, dl_289, dl_900, dl_1000, dl_1728, dl_65536, dl_65537, nI_add, pk_mul, pk_sub, pk_div, pk_rem, ds_rem2, nI_clamp, nI_leI, nI_ltI, nI_eq, ds_m1_eq, ds_eq_m1, ds_m2_eq, ds_eq_m2, ds_m1_le, ds_le_m1, ds_m1_lt, ds_lt_m1, ds_in_N, ds_bo0, ds_bo1, if_pos, if_neg, Nat.not_le, Nat.not_lt, not_true_eq_false, not_false_eq_true, if_true, if_false, ne_eq, Option.some.injEq, Prod.mk.injEq, Value.int.injEq, true_and, and_true, and_self, ite_self, Bool.not_eq_true, Bool.not_eq_false, Bool.true_eq_false, Bool.false_eq_true, reduceCtorEq, Nat.zero_add, Nat.reduceAdd, Nat.reduceMul, Nat.reduceSub, ds_setI_row, ds_setL_row, ds_rowI_self, ds_rowI_ne, ds_rowI_2, ds_rowI_rowI, ds_setS_1, ds_setS_21, ds_setS_self, ds_setS_ne, pk_us, pk_un, h13, mn, fd, hin, h4, wr, b_Mod_islandHere_46, x]
    · rw [qh, if_pos rfl] at fd
      have sl22 := dr_used_lt hn.1 hn.2.1 (dr_slot_ok hn wd qh).1
      generalize dr_slot Nm (dr_wl B n e) = w at *
      have hin := s_inN (d + 1) w 0 11 z (by omega) (by decide) (by decide)
      by_cases sl : w < 12
      · have e1 : (decide (0 ≤ w) && decide (w ≤ 11)) = true := by simp; omega
        rw [e1] at hin
        rw [decide_eq_true sl]
        simp only [Bool.true_and, ↓reduceIte]
        refine ⟨fun _ => ?_, fun c => absurd trivial c⟩
        rw [c_Mod_islandHere, b_Mod_islandHere_0]
        simp (disch := first | assumption | omega) only [ds_cI, ds_cV, ds_cL, ds_cR, ds_nn, ds_isK_t, ds_isA_t, ds_chk_t, ds_chkN, ds_nz_t, ds_nzN, ds_isB_t, ds_isB_bo, ↓dl_m1, ↓dl_m2, dl_0, dl_1, dl_2, dl_3, dl_4, dl_5, dl_6, dl_7, dl_8, dl_9, dl_10, dl_11, dl_12, dl_13, dl_14, dl_15, dl_16, dl_20, dl_24, dl_31, dl_50, dl_57, dl_67, dl_68, dl_74, dl_75, dl_79, dl_80, dl_99, dl_100, dl_200, dl_210, dl_224, dl_255, dl_289, dl_900, dl_1000, dl_1728, dl_65536, dl_65537, nI_add, pk_mul, pk_sub, pk_div, pk_rem, ds_rem2, nI_clamp, nI_leI, nI_ltI, nI_eq, ds_m1_eq, ds_eq_m1, ds_m2_eq, ds_eq_m2, ds_m1_le, ds_le_m1, ds_m1_lt, ds_lt_m1, ds_in_N, ds_bo0, ds_bo1, if_pos, if_neg, Nat.not_le, Nat.not_lt, not_true_eq_false, not_false_eq_true, if_true, if_false, ne_eq, Option.some.injEq, Prod.mk.injEq, Value.int.injEq, true_and, and_true, and_self, ite_self, Bool.not_eq_true, Bool.not_eq_false, Bool.true_eq_false, Bool.false_eq_true, reduceCtorEq, Nat.zero_add, Nat.reduceAdd, Nat.reduceMul, Nat.reduceSub, ds_setI_row, ds_setL_row, ds_rowI_self, ds_rowI_ne, ds_rowI_2, ds_rowI_rowI, ds_setS_1, ds_setS_21, ds_setS_self, ds_setS_ne, pk_us, pk_un, h13, mn, fd, hin, b_Mod_islandHere_46]
      · have e1 : (decide (0 ≤ w) && decide (w ≤ 11)) = false := by simp; omega
        rw [e1] at hin
        rw [decide_eq_false sl]
        simp only [Bool.true_and, Bool.false_eq_true, ↓reduceIte]
        refine ⟨fun c => absurd c (by decide), fun _ => ?_⟩
        generalize dr_at B n e = a at *
        generalize dr_zw z 2 a = y at *
        rw [c_Mod_islandHere, b_Mod_islandHere_0]
        simp (disch := first | assumption | omega) only [ds_cI, ds_cV, ds_cL, ds_cR, ds_nn, ds_isK_t, ds_isA_t, ds_chk_t, ds_chkN, ds_nz_t, ds_nzN, ds_isB_t, ds_isB_bo, ↓dl_m1, ↓dl_m2, dl_0, dl_1, dl_2, dl_3, dl_4, dl_5, dl_6, dl_7, dl_8, dl_9, dl_10, dl_11, dl_12, dl_13, dl_14, dl_15, dl_16, dl_20, dl_24, dl_31, dl_50, dl_57, dl_67, dl_68, dl_74, dl_75, dl_79, dl_80, dl_99, dl_100, dl_200, dl_210, dl_224, dl_255, dl_289, dl_900, dl_1000, dl_1728, dl_65536, dl_65537, nI_add, pk_mul, pk_sub, pk_div, pk_rem, ds_rem2, nI_clamp, nI_leI, nI_ltI, nI_eq, ds_m1_eq, ds_eq_m1, ds_m2_eq, ds_eq_m2, ds_m1_le, ds_le_m1, ds_m1_lt, ds_lt_m1, ds_in_N, ds_bo0, ds_bo1, if_pos, if_neg, Nat.not_le, Nat.not_lt, not_true_eq_false, not_false_eq_true, if_true, if_false, ne_eq, Option.some.injEq, Prod.mk.injEq, Value.int.injEq, true_and, and_true, and_self, ite_self, Bool.not_eq_true, Bool.not_eq_false, Bool.true_eq_false, Bool.false_eq_true, reduceCtorEq, Nat.zero_add, Nat.reduceAdd, Nat.reduceMul, Nat.reduceSub, ds_setI_row, ds_setL_row, ds_rowI_self, ds_rowI_ne, ds_rowI_2, ds_rowI_rowI, ds_setS_1, ds_setS_21, ds_setS_self, ds_setS_ne, pk_us, pk_un, h13, mn, fd, hin, h4, wr, b_Mod_islandHere_46, x]
theorem s_here_x (d : Nat) (z : ds_St) (h : z.1 90 13 = nI 1) : ds_call (d + 1) j_Mod_islandHere [.ref 90] z = some (some (.int (nI 0)), z) := by
  rw [c_Mod_islandHere, b_Mod_islandHere_0]
  simp (disch := first | assumption | omega) only [ds_cI, ds_cV, ds_cL, ds_cR, ds_nn, ds_isK_t, ds_isA_t, ds_chk_t, ds_chkN, ds_nz_t, ds_nzN, ds_isB_t, ds_isB_bo, ↓dl_m1, ↓dl_m2, dl_0, dl_1, dl_2, dl_3, dl_4, dl_5, dl_6, dl_7, dl_8, dl_9, dl_10, dl_11, dl_12, dl_13, dl_14, dl_15, dl_16, dl_20, dl_24, dl_31, dl_50, dl_57, dl_67, dl_68, dl_74, dl_75, dl_79, dl_80, dl_99, dl_100, dl_200, dl_210, dl_224, dl_255, dl_289, dl_900, dl_1000, dl_1728, dl_65536, dl_65537, nI_add, pk_mul, pk_sub, pk_div, pk_rem, ds_rem2, nI_clamp, nI_leI, nI_ltI, nI_eq, ds_m1_eq, ds_eq_m1, ds_m2_eq, ds_eq_m2, ds_m1_le, ds_le_m1, ds_m1_lt, ds_lt_m1, ds_in_N, ds_bo0, ds_bo1, if_pos, if_neg, Nat.not_le, Nat.not_lt, not_true_eq_false, not_false_eq_true, if_true, if_false, ne_eq, Option.some.injEq, Prod.mk.injEq, Value.int.injEq, true_and, and_true, and_self, ite_self, Bool.not_eq_true, Bool.not_eq_false, Bool.true_eq_false, Bool.false_eq_true, reduceCtorEq, Nat.zero_add, Nat.reduceAdd, Nat.reduceMul, Nat.reduceSub, ds_setI_row, ds_setL_row, ds_rowI_self, ds_rowI_ne, ds_rowI_2, ds_rowI_rowI, ds_setS_1, ds_setS_21, ds_setS_self, ds_setS_ne, pk_us, pk_un, h]
theorem s_pass (d : Nat) (z z0 : ds_St) (hs : Bool) (B : Nat → Nat) (n e : Nat) (Nm : Nat → List Nat) (D : Nat → Nat → Nat) (hO : dr_OM z B n e) (hS : dr_SM z0 hs Nm D z) (hn : dr_nok D Nm) : (dr_ni B n e Nm = 0 → ∃ z', ds_call (d + 4) j_Mod_islandPassed [.ref 90] z = some (some (.int (nI (dr_slot Nm (dr_wl B n e)))), z') ∧ dr_OM z' B n (dr_nx B n e) ∧ dr_SM z0 hs Nm D z') ∧ (¬ dr_ni B n e Nm = 0 → ds_call (d + 4) j_Mod_islandPassed [.ref 90] z = some (some (.int (nI 0)), dr_zw z (dr_ni B n e Nm) (dr_at B n e))) := by
  obtain ⟨a, b⟩ := s_here d z z0 hs B n e Nm D hO hS hn
  have h13 := hO.1.1
  refine ⟨fun h => ?_, fun h => ?_⟩
  · obtain ⟨z', w1, w2, w3⟩ := s_mgo (d + 1) z B n e hO
    have ha := a h
    refine ⟨z', ?_, w2, dr_SM_g1 hS w3⟩
    generalize dr_slot Nm (dr_wl B n e) = s at *
    rw [c_Mod_islandPassed, b_Mod_islandPassed_0]
    simp (disch := first | assumption | omega) only [ds_cI, ds_cV, ds_cL, ds_cR, ds_nn, ds_isK_t, ds_isA_t, ds_chk_t, ds_chkN, ds_nz_t, ds_nzN, ds_isB_t, ds_isB_bo, ↓dl_m1, ↓dl_m2, dl_0, dl_1, dl_2, dl_3, dl_4, dl_5, dl_6, dl_7, dl_8, dl_9, dl_10, dl_11, dl_12, dl_13, dl_14, dl_15, dl_16, dl_20, dl_24, dl_31, dl_50, dl_57, dl_67, dl_68, dl_74, dl_75, dl_79, dl_80, dl_99, dl_100, dl_200, dl_210, dl_224, dl_255, dl_289, dl_900, dl_1000, dl_1728, dl_65536, dl_65537, nI_add, pk_mul, pk_sub, pk_div, pk_rem, ds_rem2, nI_clamp, nI_leI, nI_ltI, nI_eq, ds_m1_eq, ds_eq_m1, ds_m2_eq, ds_eq_m2, ds_m1_le, ds_le_m1, ds_m1_lt, ds_lt_m1, ds_in_N, ds_bo0, ds_bo1, if_pos, if_neg, Nat.not_le, Nat.not_lt, not_true_eq_false, not_false_eq_true, if_true, if_false, ne_eq, Option.some.injEq, Prod.mk.injEq, Value.int.injEq, true_and, and_true, and_self, ite_self, Bool.not_eq_true, Bool.not_eq_false, Bool.true_eq_false, Bool.false_eq_true, reduceCtorEq, Nat.zero_add, Nat.reduceAdd, Nat.reduceMul, Nat.reduceSub, ds_setI_row, ds_setL_row, ds_rowI_self, ds_rowI_ne, ds_rowI_2, ds_rowI_rowI, ds_setS_1, ds_setS_21, ds_setS_self, ds_setS_ne, pk_us, pk_un, ha, h13, w1]
  · have hb := b h
    have x := dr_zw_13 z (dr_ni B n e Nm) (dr_at B n e)
    generalize dr_zw z (dr_ni B n e Nm) (dr_at B n e) = y at *
    rw [c_Mod_islandPassed, b_Mod_islandPassed_0]
    simp (disch := first | assumption | omega) only [ds_cI, ds_cV, ds_cL, ds_cR, ds_nn, ds_isK_t, ds_isA_t, ds_chk_t, ds_chkN, ds_nz_t, ds_nzN, ds_isB_t, ds_isB_bo, ↓dl_m1, ↓dl_m2, dl_0, dl_1, dl_2, dl_3, dl_4, dl_5, dl_6, dl_7, dl_8, dl_9, dl_10, dl_11, dl_12, dl_13, dl_14, dl_15, dl_16, dl_20, dl_24, dl_31, dl_50, dl_57, dl_67, dl_68, dl_74, dl_75, dl_79, dl_80, dl_99, dl_100, dl_200, dl_210, dl_224, dl_255, dl_289, dl_900, dl_1000, dl_1728, dl_65536, dl_65537, nI_add, pk_mul, pk_sub, pk_div, pk_rem, ds_rem2, nI_clamp, nI_leI, nI_ltI, nI_eq, ds_m1_eq, ds_eq_m1, ds_m2_eq, ds_eq_m2, ds_m1_le, ds_le_m1, ds_m1_lt, ds_lt_m1, ds_in_N, ds_bo0, ds_bo1, if_pos, if_neg, Nat.not_le, Nat.not_lt, not_true_eq_false, not_false_eq_true, if_true, if_false, ne_eq, Option.some.injEq, Prod.mk.injEq, Value.int.injEq, true_and, and_true, and_self, ite_self, Bool.not_eq_true, Bool.not_eq_false, Bool.true_eq_false, Bool.false_eq_true, reduceCtorEq, Nat.zero_add, Nat.reduceAdd, Nat.reduceMul, Nat.reduceSub, ds_setI_row, ds_setL_row, ds_rowI_self, ds_rowI_ne, ds_rowI_2, ds_rowI_rowI, ds_setS_1, ds_setS_21, ds_setS_self, ds_setS_ne, pk_us, pk_un, hb, x]
theorem s_pass_x (d : Nat) (z : ds_St) (h : z.1 90 13 = nI 1) : ds_call (d + 2) j_Mod_islandPassed [.ref 90] z = some (some (.int (nI 0)), z) := by
  have a := s_here_x d z h
  rw [c_Mod_islandPassed, b_Mod_islandPassed_0]
  simp (disch := first | assumption | omega) only [ds_cI, ds_cV, ds_cL, ds_cR, ds_nn, ds_isK_t, ds_isA_t, ds_chk_t, ds_chkN, ds_nz_t, ds_nzN, ds_isB_t, ds_isB_bo, ↓dl_m1, ↓dl_m2, dl_0, dl_1, dl_2, dl_3, dl_4, dl_5, dl_6, dl_7, dl_8, dl_9, dl_10, dl_11, dl_12, dl_13, dl_14, dl_15, dl_16, dl_20, dl_24, dl_31, dl_50, dl_57, dl_67, dl_68, dl_74, dl_75, dl_79, dl_80, dl_99, dl_100, dl_200, dl_210, dl_224, dl_255, dl_289, dl_900, dl_1000, dl_1728, dl_65536, dl_65537, nI_add, pk_mul, pk_sub, pk_div, pk_rem, ds_rem2, nI_clamp, nI_leI, nI_ltI, nI_eq, ds_m1_eq, ds_eq_m1, ds_m2_eq, ds_eq_m2, ds_m1_le, ds_le_m1, ds_m1_lt, ds_lt_m1, ds_in_N, ds_bo0, ds_bo1, if_pos, if_neg, Nat.not_le, Nat.not_lt, not_true_eq_false, not_false_eq_true, if_true, if_false, ne_eq, Option.some.injEq, Prod.mk.injEq, Value.int.injEq, true_and, and_true, and_self, ite_self, Bool.not_eq_true, Bool.not_eq_false, Bool.true_eq_false, Bool.false_eq_true, reduceCtorEq, Nat.zero_add, Nat.reduceAdd, Nat.reduceMul, Nat.reduceSub, ds_setI_row, ds_setL_row, ds_rowI_self, ds_rowI_ne, ds_rowI_2, ds_rowI_rowI, ds_setS_1, ds_setS_21, ds_setS_self, ds_setS_ne, pk_us, pk_un, a, h]
/-- a word and a number -/
theorem s_after (d x lo hi : Nat) (z : ds_St) (B : Nat → Nat) (n e : Nat) (h : dr_OM z B n e) (h1 : 310 ≤ x) (h2 : x < 334) (hlo : lo < 1000) (hhi : hi < 1000) : (dr_is B n e x = false → ds_call (d + 5) j_Mod_after [.ref 90, .ref x, .int (nI lo), .int (nI hi)] z = some (some (.int (nI lo)), dr_zw z 1 (dr_at B n e))) ∧ (dr_is B n e x = true → ∃ z1, dr_OM z1 B n (dr_nx B n e) ∧ dr_g1 z z1 ∧ (¬ dr_nu B n (dr_nx B n e) lo hi = 0 → ds_call (d + 5) j_Mod_after [.ref 90, .ref x, .int (nI lo), .int (nI hi)] z = some (some (.int (nI lo)), dr_zw z1 (dr_nu B n (dr_nx B n e) lo hi) (dr_at B n (dr_nx B n e)))) ∧ (dr_nu B n (dr_nx B n e) lo hi = 0 → ∃ z2, ds_call (d + 5) j_Mod_after [.ref 90, .ref x, .int (nI lo), .int (nI hi)] z = some (some (.int (nI (dr_wh B n (dr_nx B n e)))), z2) ∧ dr_OM z2 B n (dr_nx B n (dr_nx B n e)) ∧ dr_g1 z z2)) := by
  obtain ⟨a, b⟩ := s_must d x z B n e h h1 h2
  refine ⟨fun q => ?_, fun q => ?_⟩
  · have m := b q
    have nx := s_number_x (d + 3) (nI lo) (nI hi) (dr_zw z 1 (dr_at B n e)) (dr_zw_13 _ _ _)
    generalize dr_zw z 1 (dr_at B n e) = y at *
    rw [c_Mod_after, b_Mod_after_0]
    simp (disch := first | assumption | omega) only [ds_cI, ds_cV, ds_cL, ds_cR, ds_nn, ds_isK_t, ds_isA_t, ds_chk_t, ds_chkN, ds_nz_t, ds_nzN, ds_isB_t, ds_isB_bo, ↓dl_m1, ↓dl_m2, dl_0, dl_1, dl_2, dl_3, dl_4, dl_5, dl_6, dl_7, dl_8, dl_9, dl_10, dl_11, dl_12, dl_13, dl_14, dl_15, dl_16, dl_20, dl_24, dl_31, dl_50, dl_57, dl_67, dl_68, dl_74, dl_75, dl_79, dl_80, dl_99, dl_100, dl_200, dl_210, dl_224, dl_255, dl_289, dl_900, dl_1000, dl_1728, dl_65536, dl_65537, nI_add, pk_mul, pk_sub, pk_div, pk_rem, ds_rem2, nI_clamp, nI_leI, nI_ltI, nI_eq, ds_m1_eq, ds_eq_m1, ds_m2_eq, ds_eq_m2, ds_m1_le, ds_le_m1, ds_m1_lt, ds_lt_m1, ds_in_N, ds_bo0, ds_bo1, if_pos, if_neg, Nat.not_le, Nat.not_lt, not_true_eq_false, not_false_eq_true, if_true, if_false, ne_eq, Option.some.injEq, Prod.mk.injEq, Value.int.injEq, true_and, and_true, and_self, ite_self, Bool.not_eq_true, Bool.not_eq_false, Bool.true_eq_false, Bool.false_eq_true, reduceCtorEq, Nat.zero_add, Nat.reduceAdd, Nat.reduceMul, Nat.reduceSub, ds_setI_row, ds_setL_row, ds_rowI_self, ds_rowI_ne, ds_rowI_2, ds_rowI_rowI, ds_setS_1, ds_setS_21, ds_setS_self, ds_setS_ne, pk_us, pk_un, m, nx]
  · obtain ⟨z1, w1, w2, w3⟩ := a q
    obtain ⟨c, f⟩ := s_number (d + 1) lo hi z1 B n _ w2 hlo hhi
    refine ⟨z1, w2, w3, fun k => ?_, fun k => ?_⟩
    · have g := f k
      generalize dr_zw z1 (dr_nu B n (dr_nx B n e) lo hi) (dr_at B n (dr_nx B n e)) = y at *
      rw [c_Mod_after, b_Mod_after_0]
      simp (disch := first | assumption | omega) only [ds_cI, ds_cV, ds_cL, ds_cR, ds_nn, ds_isK_t, ds_isA_t, ds_chk_t, ds_chkN, ds_nz_t, ds_nzN, ds_isB_t, ds_isB_bo, ↓dl_m1, ↓dl_m2, dl_0, dl_1, dl_2, dl_3, dl_4, dl_5, dl_6, dl_7, dl_8, dl_9, dl_10, dl_11, dl_12, dl_13, dl_14, dl_15, dl_16, dl_20, dl_24, dl_31, dl_50, dl_57, dl_67, dl_68, dl_74, dl_75, dl_79, dl_80, dl_99, dl_100, dl_200, dl_210, dl_224, dl_255, dl_289, dl_900, dl_1000, dl_1728, dl_65536, dl_65537, nI_add, pk_mul, pk_sub, pk_div, pk_rem, ds_rem2, nI_clamp, nI_leI, nI_ltI, nI_eq, ds_m1_eq, ds_eq_m1, ds_m2_eq, ds_eq_m2, ds_m1_le, ds_le_m1, ds_m1_lt, ds_lt_m1, ds_in_N, ds_bo0, ds_bo1, if_pos, if_neg, Nat.not_le, Nat.not_lt, not_true_eq_false, not_false_eq_true, if_true, if_false, ne_eq, Option.some.injEq, Prod.mk.injEq, Value.int.injEq, true_and, and_true, and_self, ite_self, Bool.not_eq_true, Bool.not_eq_false, Bool.true_eq_false, Bool.false_eq_true, reduceCtorEq, Nat.zero_add, Nat.reduceAdd, Nat.reduceMul, Nat.reduceSub, ds_setI_row, ds_setL_row, ds_rowI_self, ds_rowI_ne, ds_rowI_2, ds_rowI_rowI, ds_setS_1, ds_setS_21, ds_setS_self, ds_setS_ne, pk_us, pk_un, w1, g]
    · obtain ⟨z2, u1, u2, u3⟩ := c k
      refine ⟨z2, ?_, u2, dr_g1_trans w3 u3⟩
      generalize dr_wh B n (dr_nx B n e) = w at *
      rw [c_Mod_after, b_Mod_after_0]
      simp (disch := first | assumption | omega) only [ds_cI, ds_cV, ds_cL, ds_cR, ds_nn, ds_isK_t, ds_isA_t, ds_chk_t, ds_chkN, ds_nz_t, ds_nzN, ds_isB_t, ds_isB_bo, ↓dl_m1, ↓dl_m2, dl_0, dl_1, dl_2, dl_3, dl_4, dl_5, dl_6, dl_7, dl_8, dl_9, dl_10, dl_11, dl_12, dl_13, dl_14, dl_15, dl_16, dl_20, dl_24, dl_31, dl_50, dl_57, dl_67, dl_68, dl_74, dl_75, dl_79, dl_80, dl_99, dl_100, dl_200, dl_210, dl_224, dl_255, dl_289, dl_900, dl_1000, dl_1728, dl_65536, dl_65537, nI_add, pk_mul, pk_sub, pk_div, pk_rem, ds_rem2, nI_clamp, nI_leI, nI_ltI, nI_eq, ds_m1_eq, ds_eq_m1, ds_m2_eq, ds_eq_m2, ds_m1_le, ds_le_m1, ds_m1_lt, ds_lt_m1, ds_in_N, ds_bo0, ds_bo1, if_pos, if_neg, Nat.not_le, Nat.not_lt, not_true_eq_false, not_false_eq_true, if_true, if_false, ne_eq, Option.some.injEq, Prod.mk.injEq, Value.int.injEq, true_and, and_true, and_self, ite_self, Bool.not_eq_true, Bool.not_eq_false, Bool.true_eq_false, Bool.false_eq_true, reduceCtorEq, Nat.zero_add, Nat.reduceAdd, Nat.reduceMul, Nat.reduceSub, ds_setI_row, ds_setL_row, ds_rowI_self, ds_rowI_ne, ds_rowI_2, ds_rowI_rowI, ds_setS_1, ds_setS_21, ds_setS_self, ds_setS_ne, pk_us, pk_un, w1, u1]
theorem s_after_x (d x : Nat) (lo hi : Int32) (z : ds_St) (h : z.1 90 13 = nI 1) : ds_call (d + 2) j_Mod_after [.ref 90, .ref x, .int lo, .int hi] z = some (some (.int lo), z) := by
  have a := s_must_x d x z h
  have b := s_number_x d lo hi z h
  rw [c_Mod_after, b_Mod_after_0]
  simp (disch := first | assumption | omega) only [ds_cI, ds_cV, ds_cL, ds_cR, ds_nn, ds_isK_t, ds_isA_t, ds_chk_t, ds_chkN, ds_nz_t, ds_nzN, ds_isB_t, ds_isB_bo, ↓dl_m1, ↓dl_m2, dl_0, dl_1, dl_2, dl_3, dl_4, dl_5, dl_6, dl_7, dl_8, dl_9, dl_10, dl_11, dl_12, dl_13, dl_14, dl_15, dl_16, dl_20, dl_24, dl_31, dl_50, dl_57, dl_67, dl_68, dl_74, dl_75, dl_79, dl_80, dl_99, dl_100, dl_200, dl_210, dl_224, dl_255, dl_289, dl_900, dl_1000, dl_1728, dl_65536, dl_65537, nI_add, pk_mul, pk_sub, pk_div, pk_rem, ds_rem2, nI_clamp, nI_leI, nI_ltI, nI_eq, ds_m1_eq, ds_eq_m1, ds_m2_eq, ds_eq_m2, ds_m1_le, ds_le_m1, ds_m1_lt, ds_lt_m1, ds_in_N, ds_bo0, ds_bo1, if_pos, if_neg, Nat.not_le, Nat.not_lt, not_true_eq_false, not_false_eq_true, if_true, if_false, ne_eq, Option.some.injEq, Prod.mk.injEq, Value.int.injEq, true_and, and_true, and_self, ite_self, Bool.not_eq_true, Bool.not_eq_false, Bool.true_eq_false, Bool.false_eq_true, reduceCtorEq, Nat.zero_add, Nat.reduceAdd, Nat.reduceMul, Nat.reduceSub, ds_setI_row, ds_setL_row, ds_rowI_self, ds_rowI_ne, ds_rowI_2, ds_rowI_rowI, ds_setS_1, ds_setS_21, ds_setS_self, ds_setS_ne, pk_us, pk_un, a, b]
