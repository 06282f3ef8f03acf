/-! the longest run of the class -/
theorem dk_V_no {D : Nat → Nat → Nat} {K : Nat → Nat} {r k : Nat} (hD : dk_ok D) (h : (!(D 1 (K k) == 2) && D 3 (K k) == r) = false) (i : Nat) : dk_V D K r (k + 1) i = dk_V D K r k i := by
  unfold dk_V
  by_cases hi : i < D 0 4
  · by_cases e : K k = i
    · subst e
      cases q : (D 3 (K k) == r)
      · rw [Bool.false_and, Bool.false_and]
      · rw [q, Bool.and_true] at h
        have hj : (D 1 (K k) == 2) = true := by
          cases q2 : (D 1 (K k) == 2)
          · rw [q2] at h; exact absurd h (by decide)
          · rfl
        rw [dk_R_j hD hi hj]
        simp
    · have e' : (K k == i) = false := by simpa using e
      have e2 : dk_any (fun p => K p == i) (k + 1) = dk_any (fun p => K p == i) k := by
        simp only [dk_any]
        rw [e', Bool.or_false]
      rw [e2]
  · rw [decide_eq_false hi, Bool.false_and, Bool.false_and]
theorem dk_V_yes {D : Nat → Nat → Nat} {K : Nat → Nat} {r k : Nat} (hk : K k < D 0 4) (h : D 3 (K k) = r) : dk_V D K r (k + 1) (K k) = dk_R D K (K k) := by
  unfold dk_V
  have h' : (D 3 (K k) == r) = true := by simpa using h
  rw [decide_eq_true hk, h']
  simp [dk_any]
theorem dk_V_zero {D : Nat → Nat → Nat} {K : Nat → Nat} {r k : Nat} (h : D 3 (K k) = r) (hn : ∀ p, p < k → K p ≠ K k) : dk_V D K r k (K k) = 0 := by
  unfold dk_V
  have h1 : dk_any (fun p => K p == K k) k = false := by
    rw [dk_any_f]
    intro p hp
    simpa using hn p hp
  rw [h1, Bool.and_false, Bool.or_false, decide_eq_false (show ¬ r < D 3 (K k) by omega), Bool.and_false]
  rfl
theorem dk_V_ne {D : Nat → Nat → Nat} {K : Nat → Nat} {r k i : Nat} (h : i ≠ K k) : dk_V D K r (k + 1) i = dk_V D K r k i := by
  unfold dk_V
  have e' : (K k == i) = false := by simpa using fun q => h q.symm
  have e : dk_any (fun p => K p == i) (k + 1) = dk_any (fun p => K p == i) k := by
    simp only [dk_any]
    rw [e', Bool.or_false]
  rw [e]
def dk_St (z0 : ds_St) (t : Nat) (D : Nat → Nat → Nat) (K : Nat → Nat) (r k : Nat) (z : ds_St) : Prop := dk_fr 67 70 z0 z ∧ dk_tC z t D ∧ dk_ch z t D (min (D 0 0 * D 0 1) (K 12)) K ∧ ∀ i, i < 12 → z.1 69 i = nI (dk_V D K r k i)
theorem dk_ch_row {z : ds_St} {t L : Nat} {D : Nat → Nat → Nat} {C : Nat → Nat} (f : Nat → Int32) (h : dk_ch z t D L C) : dk_ch (ds_rowI z 69 f) t D L C := by
  obtain ⟨a, b, c, e, g, i⟩ := h
  exact ⟨a, by rw [ds_rowI_ne _ _ (by decide)]; exact b, c, e, by rw [ds_rowI_ne _ _ (by decide)]; exact g, i⟩
theorem s_lrInner (d t : Nat) (z0 : ds_St) (D : Nat → Nat → Nat) (K : Nat → Nat) (hD : dk_ok D) (hK : dk_okK D K) (r : Nat) (r1 : 1 ≤ r) (r9 : r ≤ 9) : ∀ m k z, k + m = min (D 0 0 * D 0 1) (K 12) → dk_St z0 t D K r k z → ∃ z', ds_Rw ds_c_Chart_longestRun ds_u_Chart_longestRun (ds_call (d + 5)) 20 [some (.ref 67), some (.int (nI ((dk_max (dk_V D K r k) 12)))), some (.int (nI r)), some (.int (nI k)), none] [] z = ds_Rw ds_c_Chart_longestRun ds_u_Chart_longestRun (ds_call (d + 5)) 13 [some (.ref 67), some (.int (nI ((dk_max (dk_V D K r (min (D 0 0 * D 0 1) (K 12))) 12)))), some (.int (nI ((r - 1)))), none, none] [] z' ∧ dk_St z0 t D K r (min (D 0 0 * D 0 1) (K 12)) z' := by
  have n12 := hD.2.2.2.2.1.2
  have k12 := hK.1
  intro m
  induction m with
  | zero =>
    intro k z hk hS
    have : k = min (D 0 0 * D 0 1) (K 12) := by omega
    subst this
    refine ⟨z, ?_, hS⟩
    have hl := hS.2.2.1.2.1
    have ea := ds_add_m1' (a := r) (by omega)
    have l12 : min (D 0 0 * D 0 1) (K 12) ≤ 12 := by omega
    rw [b_Chart_longestRun_20]
    generalize dk_max (dk_V D K r (min (D 0 0 * D 0 1) (K 12))) 12 = A at *
    generalize min (D 0 0 * D 0 1) (K 12) = L at *
    simp (disch := first | assumption | omega) only [ds_cI, ds_cV, ds_cL, ds_cR, ds_nn, ds_isK_t, ds_isA_t, ds_chk_t, ds_chkN, ds_nz_t, ds_nzN, ds_isB_t, ds_isB_bo, ↓dl_m1, ↓dl_m2, dl_0, dl_1, dl_2, dl_3, dl_4, dl_5, dl_6, dl_7, dl_8, dl_9, dl_10, dl_11, dl_12, dl_13, dl_14, dl_15, dl_16, dl_20, dl_24, dl_31, dl_50, dl_57, dl_67, dl_68, dl_74, dl_75, dl_79, dl_80, dl_99, dl_100, dl_200, dl_210, dl_224, dl_255, dl_289, dl_900, dl_1000, dl_1728, dl_65536, dl_65537, nI_add, pk_mul, pk_sub, pk_div, pk_rem, ds_rem2, nI_clamp, nI_leI, nI_ltI, nI_eq, ds_m1_eq, ds_eq_m1, ds_m2_eq, ds_eq_m2, ds_m1_le, ds_le_m1, ds_m1_lt, ds_lt_m1, ds_in_N, ds_bo0, ds_bo1, if_pos, if_neg, Nat.not_le, Nat.not_lt, not_true_eq_false, not_false_eq_true, if_true, if_false, ne_eq, Option.some.injEq, Prod.mk.injEq, Value.int.injEq, true_and, and_true, and_self, ite_self, Bool.not_eq_true, Bool.not_eq_false, Bool.true_eq_false, Bool.false_eq_true, reduceCtorEq, Nat.zero_add, Nat.reduceAdd, Nat.reduceMul, Nat.reduceSub, ds_setI_row, ds_setL_row, ds_rowI_self, ds_rowI_ne, ds_rowI_2, ds_rowI_rowI, ds_setS_1, ds_setS_21, ds_setS_self, ds_setS_ne, pk_us, pk_un, hl, ea]
  | succ m ih =>
    intro k z hk hS
    have hS0 := hS
    obtain ⟨f1, hT, hC, hv⟩ := hS0
    have hl := hC.2.1
    have h2 := hC.1
    have ck := hK.2.1.1 k (by omega)
    have ia := s_islandAt (d + 3) t _ k z D K hC (by omega)
    have ir := s_isOfRank (d + 2) t (K k) r z D hT hD h2 ck (by omega)
    have b1 := dk_mV_le D K r k 12
    rcases Bool.eq_false_or_eq_true (!(D 1 (K k) == 2) && D 3 (K k) == r) with q | q
    · rw [q] at ir
      rw [Bool.and_eq_true] at q
      have q3 : D 3 (K k) = r := by simpa using q.2
      have qj : (D 1 (K k) == 2) = false := by
        cases q2 : (D 1 (K k) == 2)
        · rfl
        · rw [q2] at q; exact absurd q.1 (by decide)
      have lb := s_longestBehind (d + 1) t k (K k) z D K hT hD hK hC ck (by rw [q3]; exact hv)
      have ins : dk_is D K (K 12) (K k) = true := by
        unfold dk_is
        rw [dk_any_iff]
        exact ⟨k, by omega, by simp⟩
      have rq : dk_R D K (K k) = dk_max (dk_gR D K (K k)) (D 0 4) + 1 := by
        rw [dk_R_eq hD ck, qj, ins]
        rfl
      have b2 := dk_R_le D K (K k)
      let z1 := ds_rowI z 69 (upd (z.1 69) (K k) (nI (dk_R D K (K k))))
      have pt := s_putN (d + 4) 69 (K k) 12 (nI (dk_R D K (K k))) z rfl rfl (by decide) (by omega)
      have mx := s_max (d + 4) (dk_max (dk_V D K r k) 12) (dk_R D K (K k)) z1 (by omega) (by omega)
      have eM : dk_max (dk_V D K r (k + 1)) 12 = if dk_max (dk_V D K r k) 12 < dk_R D K (K k) then dk_R D K (K k) else dk_max (dk_V D K r k) 12 := dk_max_upd (i := K k) (by omega) (dk_V_zero q3 (fun p hp e => by
        have := hK.2.1.2 p k (by omega) (by omega) e
        omega)) (dk_V_yes ck q3) (fun j hj => dk_V_ne hj)
      have hS1 : dk_St z0 t D K r (k + 1) z1 := by
        refine ⟨dk_fr_row _ f1 (by decide) (by decide), dk_tC_eq hT (fun p _ h => ds_rowI_ne _ _ (by omega)), dk_ch_row _ hC, fun i hi => ?_⟩
        show (ds_rowI z 69 (upd (z.1 69) (K k) (nI (dk_R D K (K k))))).1 69 i = _
        rw [ds_rowI_self]
        by_cases e : i = K k
        · subst e
          rw [pk_us, dk_V_yes ck q3]
        · rw [pk_un e, dk_V_ne e]
          exact hv i hi
      obtain ⟨z', w1, w2⟩ := ih (k + 1) z1 (by omega) hS1
      refine ⟨z', ?_, w2⟩
      rw [← w1, eM, b_Chart_longestRun_20]
      have pt' : ds_call (d + 5) j_Sea_put [.ref 69, .int (nI (K k)), .int (nI (dk_R D K (K k)))] z = some (none, z1) := pt
      clear_value z1
      rw [rq] at mx pt' ⊢
      generalize dk_max (dk_gR D K (K k)) (D 0 4) = B at *
      generalize dk_max (dk_V D K r k) 12 = A at *
      generalize hL : min (D 0 0 * D 0 1) (K 12) = L at *
      rw [Nat.add_comm B 1] at mx pt' ⊢
      simp (disch := first | assumption | omega) only [ds_cI, ds_cV, ds_cL, ds_cR, ds_nn, ds_isK_t, ds_isA_t, ds_chk_t, ds_chkN, ds_nz_t, ds_nzN, ds_isB_t, ds_isB_bo, ↓dl_m1, ↓dl_m2, dl_0, dl_1, dl_2, dl_3, dl_4, dl_5, dl_6, dl_7, dl_8, dl_9, dl_10, dl_11, dl_12, dl_13, dl_14, dl_15, dl_16, dl_20, dl_24, dl_31, dl_50, dl_57, dl_67, dl_68, dl_74, dl_75, dl_79, dl_80, dl_99, dl_100, dl_200, dl_210, dl_224, dl_255, dl_289, dl_900, dl_1000, dl_1728, dl_65536, dl_65537, nI_add, pk_mul, pk_sub, pk_div, pk_rem, ds_rem2, nI_clamp, nI_leI, nI_ltI, nI_eq, ds_m1_eq, ds_eq_m1, ds_m2_eq, ds_eq_m2, ds_m1_le, ds_le_m1, ds_m1_lt, ds_lt_m1, ds_in_N, ds_bo0, ds_bo1, if_pos, if_neg, Nat.not_le, Nat.not_lt, not_true_eq_false, not_false_eq_true, if_true, if_false, ne_eq, Option.some.injEq, Prod.mk.injEq, Value.int.injEq, true_and, and_true, and_self, ite_self, Bool.not_eq_true, Bool.not_eq_false, Bool.true_eq_false, Bool.false_eq_true, reduceCtorEq, Nat.zero_add, Nat.reduceAdd, Nat.reduceMul, Nat.reduceSub, ds_setI_row, ds_setL_row, ds_rowI_self, ds_rowI_ne, ds_rowI_2, ds_rowI_rowI, ds_setS_1, ds_setS_21, ds_setS_self, ds_setS_ne, pk_us, pk_un, hl, ia, ir, lb, pt', mx]
    · rw [q] at ir
      have eV := dk_V_no hD q
      have hS1 : dk_St z0 t D K r (k + 1) z := ⟨f1, hT, hC, fun i hi => by rw [eV]; exact hv i hi⟩
      obtain ⟨z', w1, w2⟩ := ih (k + 1) z (by omega) hS1
      refine ⟨z', ?_, w2⟩
      have eM : dk_max (dk_V D K r (k + 1)) 12 = dk_max (dk_V D K r k) 12 := dk_max_congr (fun i _ => eV i)
      rw [← w1, eM, b_Chart_longestRun_20]
      generalize dk_max (dk_V D K r k) 12 = A at *
      generalize hL : min (D 0 0 * D 0 1) (K 12) = L at *
      simp (disch := first | assumption | omega) only [ds_cI, ds_cV, ds_cL, ds_cR, ds_nn, ds_isK_t, ds_isA_t, ds_chk_t, ds_chkN, ds_nz_t, ds_nzN, ds_isB_t, ds_isB_bo, ↓dl_m1, ↓dl_m2, dl_0, dl_1, dl_2, dl_3, dl_4, dl_5, dl_6, dl_7, dl_8, dl_9, dl_10, dl_11, dl_12, dl_13, dl_14, dl_15, dl_16, dl_20, dl_24, dl_31, dl_50, dl_57, dl_67, dl_68, dl_74, dl_75, dl_79, dl_80, dl_99, dl_100, dl_200, dl_210, dl_224, dl_255, dl_289, dl_900, dl_1000, dl_1728, dl_65536, dl_65537, nI_add, pk_mul, pk_sub, pk_div, pk_rem, ds_rem2, nI_clamp, nI_leI, nI_ltI, nI_eq, ds_m1_eq, ds_eq_m1, ds_m2_eq, ds_eq_m2, ds_m1_le, ds_le_m1, ds_m1_lt, ds_lt_m1, ds_in_N, ds_bo0, ds_bo1, if_pos, if_neg, Nat.not_le, Nat.not_lt, not_true_eq_false, not_false_eq_true, if_true, if_false, ne_eq, Option.some.injEq, Prod.mk.injEq, Value.int.injEq, true_and, and_true, and_self, ite_self, Bool.not_eq_true, Bool.not_eq_false, Bool.true_eq_false, Bool.false_eq_true, reduceCtorEq, Nat.zero_add, Nat.reduceAdd, Nat.reduceMul, Nat.reduceSub, ds_setI_row, ds_setL_row, ds_rowI_self, ds_rowI_ne, ds_rowI_2, ds_rowI_rowI, ds_setS_1, ds_setS_21, ds_setS_self, ds_setS_ne, pk_us, pk_un, hl, ia, ir]
theorem s_longestRun (d t : Nat) (z : ds_St) (D : Nat → Nat → Nat) (K : Nat → Nat) (hT : dk_tC z t D) (hD : dk_ok D) (hK : dk_okK D K) (hC : dk_ch z t D (min (D 0 0 * D 0 1) (K 12)) K) : ∃ z', ds_call (d + 6) j_Chart_longestRun [.ref 67] z = some (some (.int (nI (dk_max (dk_R D K) (D 0 4)))), z') ∧ dk_St z t D K 0 0 z' := by
  have n12 := hD.2.2.2.2.1.2
  have oi := hD.2.2.2.2.2.2.2.2.1
  have outer : ∀ r, r ≤ 9 → ∀ y, dk_St z t D K r 0 y → ∃ y', ds_Rw ds_c_Chart_longestRun ds_u_Chart_longestRun (ds_call (d + 5)) 13 [some (.ref 67), some (.int (nI ((dk_max (dk_V D K r 0) 12)))), some (.int (nI r)), none, none] [] y = some (some (.int (nI (dk_max (dk_R D K) (D 0 4)))), y') ∧ dk_St z t D K 0 0 y' := by
    intro r
    induction r with
    | zero =>
      intro _ y hS
      refine ⟨y, ?_, hS⟩
      have e : dk_max (dk_V D K 0 0) 12 = dk_max (dk_R D K) (D 0 4) := by
        rw [dk_max_cut n12 (fun i h1 _ => by
          unfold dk_V
          rw [decide_eq_false (show ¬ i < D 0 4 by omega)]
          rfl)]
        apply dk_max_congr
        intro i hi
        have := (oi i hi).2.2.1
        exact dk_V_hi hi (by omega)
      rw [e, b_Chart_longestRun_13]
      generalize dk_max (dk_R D K) (D 0 4) = A at *
      simp (disch := first | assumption | omega) only [ds_cI, ds_cV, ds_cL, ds_cR, ds_nn, ds_isK_t, ds_isA_t, ds_chk_t, ds_chkN, ds_nz_t, ds_nzN, ds_isB_t, ds_isB_bo, ↓dl_m1, ↓dl_m2, dl_0, dl_1, dl_2, dl_3, dl_4, dl_5, dl_6, dl_7, dl_8, dl_9, dl_10, dl_11, dl_12, dl_13, dl_14, dl_15, dl_16, dl_20, dl_24, dl_31, dl_50, dl_57, dl_67, dl_68, dl_74, dl_75, dl_79, dl_80, dl_99, dl_100, dl_200, dl_210, dl_224, dl_255, dl_289, dl_900, dl_1000, dl_1728, dl_65536, dl_65537, nI_add, pk_mul, pk_sub, pk_div, pk_rem, ds_rem2, nI_clamp, nI_leI, nI_ltI, nI_eq, ds_m1_eq, ds_eq_m1, ds_m2_eq, ds_eq_m2, ds_m1_le, ds_le_m1, ds_m1_lt, ds_lt_m1, ds_in_N, ds_bo0, ds_bo1, if_pos, if_neg, Nat.not_le, Nat.not_lt, not_true_eq_false, not_false_eq_true, if_true, if_false, ne_eq, Option.some.injEq, Prod.mk.injEq, Value.int.injEq, true_and, and_true, and_self, ite_self, Bool.not_eq_true, Bool.not_eq_false, Bool.true_eq_false, Bool.false_eq_true, reduceCtorEq, Nat.zero_add, Nat.reduceAdd, Nat.reduceMul, Nat.reduceSub, ds_setI_row, ds_setL_row, ds_rowI_self, ds_rowI_ne, ds_rowI_2, ds_rowI_rowI, ds_setS_1, ds_setS_21, ds_setS_self, ds_setS_ne, pk_us, pk_un]
    | succ r ih =>
      intro h9 y hS
      obtain ⟨y1, w1, w2⟩ := s_lrInner d t z D K hD hK (r + 1) (by omega) h9 (min (D 0 0 * D 0 1) (K 12)) 0 y (by omega) hS
      have eV := fun i => dk_V_next (K := K) (r := r) hD i
      have eM : dk_max (dk_V D K (r + 1) (min (D 0 0 * D 0 1) (K 12))) 12 = dk_max (dk_V D K r 0) 12 := dk_max_congr (fun i _ => eV i)
      have hS1 : dk_St z t D K r 0 y1 := ⟨w2.1, w2.2.1, w2.2.2.1, fun i hi => by rw [← eV]; exact w2.2.2.2 i hi⟩
      obtain ⟨y', u1, u2⟩ := ih (by omega) y1 hS1
      refine ⟨y', ?_, u2⟩
      rw [eM, Nat.add_sub_cancel, u1] at w1
      rw [b_Chart_longestRun_13]
      have w1' := w1
      generalize dk_max (dk_V D K (r + 1) 0) 12 = A at *
      simp (disch := first | assumption | omega) only [ds_cI, ds_cV, ds_cL, ds_cR, ds_nn, ds_isK_t, ds_isA_t, ds_chk_t, ds_chkN, ds_nz_t, ds_nzN, ds_isB_t, ds_isB_bo, ↓dl_m1, ↓dl_m2, dl_0, dl_1, dl_2, dl_3, dl_4, dl_5, dl_6, dl_7, dl_8, dl_9, dl_10, dl_11, dl_12, dl_13, dl_14, dl_15, dl_16, dl_20, dl_24, dl_31, dl_50, dl_57, dl_67, dl_68, dl_74, dl_75, dl_79, dl_80, dl_99, dl_100, dl_200, dl_210, dl_224, dl_255, dl_289, dl_900, dl_1000, dl_1728, dl_65536, dl_65537, nI_add, pk_mul, pk_sub, pk_div, pk_rem, ds_rem2, nI_clamp, nI_leI, nI_ltI, nI_eq, ds_m1_eq, ds_eq_m1, ds_m2_eq, ds_eq_m2, ds_m1_le, ds_le_m1, ds_m1_lt, ds_lt_m1, ds_in_N, ds_bo0, ds_bo1, if_pos, if_neg, Nat.not_le, Nat.not_lt, not_true_eq_false, not_false_eq_true, if_true, if_false, ne_eq, Option.some.injEq, Prod.mk.injEq, Value.int.injEq, true_and, and_true, and_self, ite_self, Bool.not_eq_true, Bool.not_eq_false, Bool.true_eq_false, Bool.false_eq_true, reduceCtorEq, Nat.zero_add, Nat.reduceAdd, Nat.reduceMul, Nat.reduceSub, ds_setI_row, ds_setL_row, ds_rowI_self, ds_rowI_ne, ds_rowI_2, ds_rowI_rowI, ds_setS_1, ds_setS_21, ds_setS_self, ds_setS_ne, pk_us, pk_un, w1']
  have f := s_fill (d + 4) 69 12 (nI 0) z rfl rfl (by decide)
  let z1 := ds_rowI z 69 (fun j => if j < 12 then nI 0 else z.1 69 j)
  have V9 : ∀ i, dk_V D K 9 0 i = 0 := by
    intro i
    unfold dk_V
    by_cases hi : i < D 0 4
    · have := (oi i hi).2.2.1
      rw [decide_eq_false (show ¬ 9 < D 3 i by omega)]
      simp [dk_any]
    · rw [decide_eq_false hi]
      rfl
  have hS : dk_St z t D K 9 0 z1 := by
    refine ⟨dk_fr_row _ (dk_fr_refl _ _ _) (by decide) (by decide), dk_tC_eq hT (fun p _ h => ds_rowI_ne _ _ (by omega)), dk_ch_row _ hC, fun i hi => ?_⟩
    show (ds_rowI z 69 (fun j => if j < 12 then nI 0 else z.1 69 j)).1 69 i = _
    rw [ds_rowI_self, if_pos hi, V9]
  obtain ⟨y', u1, u2⟩ := outer 9 (by decide) z1 hS
  refine ⟨y', ?_, u2⟩
  have e0 : dk_max (dk_V D K 9 0) 12 = 0 := by
    have := dk_max_le (f := dk_V D K 9 0) (b := 0) (n := 12) |>.mpr (fun i _ => by rw [V9]; exact Nat.le_refl _)
    omega
  rw [e0] at u1
  have f' : ds_call (d + 5) j_Arrays_fill [.ref 69, .int (nI 0)] z = some (none, z1) := f
  clear_value z1
  rw [c_Chart_longestRun, b_Chart_longestRun_0]
  generalize dk_max (dk_R D K) (D 0 4) = A at *
  simp (disch := first | assumption | omega) only [ds_cI, ds_cV, ds_cL, ds_cR, ds_nn, ds_isK_t, ds_isA_t, ds_chk_t, ds_chkN, ds_nz_t, ds_nzN, ds_isB_t, ds_isB_bo, ↓dl_m1, ↓dl_m2, dl_0, dl_1, dl_2, dl_3, dl_4, dl_5, dl_6, dl_7, dl_8, dl_9, dl_10, dl_11, dl_12, dl_13, dl_14, dl_15, dl_16, dl_20, dl_24, dl_31, dl_50, dl_57, dl_67, dl_68, dl_74, dl_75, dl_79, dl_80, dl_99, dl_100, dl_200, dl_210, dl_224, dl_255, dl_289, dl_900, dl_1000, dl_1728, dl_65536, dl_65537, nI_add, pk_mul, pk_sub, pk_div, pk_rem, ds_rem2, nI_clamp, nI_leI, nI_ltI, nI_eq, ds_m1_eq, ds_eq_m1, ds_m2_eq, ds_eq_m2, ds_m1_le, ds_le_m1, ds_m1_lt, ds_lt_m1, ds_in_N, ds_bo0, ds_bo1, if_pos, if_neg, Nat.not_le, Nat.not_lt, not_true_eq_false, not_false_eq_true, if_true, if_false, ne_eq, Option.some.injEq, Prod.mk.injEq, Value.int.injEq, true_and, and_true, and_self, ite_self, Bool.not_eq_true, Bool.not_eq_false, Bool.true_eq_false, Bool.false_eq_true, reduceCtorEq, Nat.zero_add, Nat.reduceAdd, Nat.reduceMul, Nat.reduceSub, ds_setI_row, ds_setL_row, ds_rowI_self, ds_rowI_ne, ds_rowI_2, ds_rowI_rowI, ds_setS_1, ds_setS_21, ds_setS_self, ds_setS_ne, pk_us, pk_un, f', u1]
theorem k_run (d : Nat) (z : ds_St) (h : dk_Inv z) : ∃ v z1 z2, ds_call (d + 20) j_Sea_run [.ref 0] z = some (some v, z1) ∧ ds_call (d + 20) j_Mod_run [.ref 90] z1 = some (some v, z2) ∧ dk_Inv z2 := by
  apply dk_both h
  intro t D K hC hM hz
  have hs := s_hasSea (d + 18) t z D K hC hz
  rcases hz with ⟨hD, hK⟩ | ⟨h0, hc0, hp0⟩
  · have hn : 0 < D 0 4 := by have := hD.2.2.2.2.1.1; omega
    obtain ⟨z', s1, s2, s3, s4⟩ := s_chartOf (d + 15) t 61 (K 12) z D K hC.1 hC.2.1 hD (dk_HC_dk hC hK)
    obtain ⟨y, u1, u2⟩ := s_longestRun (d + 13) t z' D K s4 hD hK s2
    have fy : dk_fr 64 80 z y := dk_fr_mono (dk_fr_trans s3 u2.1) (by decide) (by decide)
    have rn : ∀ z, dk_HM z D K → _ := fun z hM => s_runNow (d + 4) z D K hM hD hK
    have i67 : ds_K 67 = 1 := rfl
    generalize hA : dk_max (dk_R D K) (D 0 4) = A at *
    refine ⟨.int (nI A), nI 0, ds_rowI y 0 (upd (y.1 0) 10 (nI 0)), ?_, dk_qC_row _ fy, fun z0 hM0 => ⟨dk_zg z0, ?_, dk_qM_ok (dk_fm_refl _)⟩⟩
    · rw [c_Sea_run, b_Sea_run_0]
      simp (disch := first | assumption | omega) only [ds_cI, ds_cV, ds_cL, ds_cR, ds_nn, ds_isK_t, ds_isA_t, ds_chk_t, ds_chkN, ds_nz_t, ds_nzN, ds_isB_t, ds_isB_bo, ↓dl_m1, ↓dl_m2, dl_0, dl_1, dl_2, dl_3, dl_4, dl_5, dl_6, dl_7, dl_8, dl_9, dl_10, dl_11, dl_12, dl_13, dl_14, dl_15, dl_16, dl_20, dl_24, dl_31, dl_50, dl_57, dl_67, dl_68, dl_74, dl_75, dl_79, dl_80, dl_99, dl_100, dl_200, dl_210, dl_224, dl_255, dl_289, dl_900, dl_1000, dl_1728, dl_65536, dl_65537, nI_add, pk_mul, pk_sub, pk_div, pk_rem, ds_rem2, nI_clamp, nI_leI, nI_ltI, nI_eq, ds_m1_eq, ds_eq_m1, ds_m2_eq, ds_eq_m2, ds_m1_le, ds_le_m1, ds_m1_lt, ds_lt_m1, ds_in_N, ds_bo0, ds_bo1, if_pos, if_neg, Nat.not_le, Nat.not_lt, not_true_eq_false, not_false_eq_true, if_true, if_false, ne_eq, Option.some.injEq, Prod.mk.injEq, Value.int.injEq, true_and, and_true, and_self, ite_self, Bool.not_eq_true, Bool.not_eq_false, Bool.true_eq_false, Bool.false_eq_true, reduceCtorEq, Nat.zero_add, Nat.reduceAdd, Nat.reduceMul, Nat.reduceSub, ds_setI_row, ds_setL_row, ds_rowI_self, ds_rowI_ne, ds_rowI_2, ds_rowI_rowI, ds_setS_1, ds_setS_21, ds_setS_self, ds_setS_ne, pk_us, pk_un, hs, hn, decide_true, s1, u1, s_answer]
    · have hMg := dk_zg_HM hM0
      have hsg := hMg.2.1
      have r := rn _ hMg
      rw [c_Mod_run, b_Mod_run_0]
      simp (disch := first | assumption | omega) only [ds_cI, ds_cV, ds_cL, ds_cR, ds_nn, ds_isK_t, ds_isA_t, ds_chk_t, ds_chkN, ds_nz_t, ds_nzN, ds_isB_t, ds_isB_bo, ↓dl_m1, ↓dl_m2, dl_0, dl_1, dl_2, dl_3, dl_4, dl_5, dl_6, dl_7, dl_8, dl_9, dl_10, dl_11, dl_12, dl_13, dl_14, dl_15, dl_16, dl_20, dl_24, dl_31, dl_50, dl_57, dl_67, dl_68, dl_74, dl_75, dl_79, dl_80, dl_99, dl_100, dl_200, dl_210, dl_224, dl_255, dl_289, dl_900, dl_1000, dl_1728, dl_65536, dl_65537, nI_add, pk_mul, pk_sub, pk_div, pk_rem, ds_rem2, nI_clamp, nI_leI, nI_ltI, nI_eq, ds_m1_eq, ds_eq_m1, ds_m2_eq, ds_eq_m2, ds_m1_le, ds_le_m1, ds_m1_lt, ds_lt_m1, ds_in_N, ds_bo0, ds_bo1, if_pos, if_neg, Nat.not_le, Nat.not_lt, not_true_eq_false, not_false_eq_true, if_true, if_false, ne_eq, Option.some.injEq, Prod.mk.injEq, Value.int.injEq, true_and, and_true, and_self, ite_self, Bool.not_eq_true, Bool.not_eq_false, Bool.true_eq_false, Bool.false_eq_true, reduceCtorEq, Nat.zero_add, Nat.reduceAdd, Nat.reduceMul, Nat.reduceSub, ds_setI_row, ds_setL_row, ds_rowI_self, ds_rowI_ne, ds_rowI_2, ds_rowI_rowI, ds_setS_1, ds_setS_21, ds_setS_self, ds_setS_ne, pk_us, pk_un, s_good, hsg, hn, decide_true, r]
  · have h4 := h0 4 (by decide)
    refine ⟨.int ds_m1, nI 1, ds_rowI z 0 (upd (z.1 0) 10 (nI 1)), ?_, dk_qC_no z _, fun z0 hM0 => ⟨ds_rowI (dk_zg z0) 90 (upd ((dk_zg z0).1 90) 11 (nI 1)), ?_, dk_qM_no z0 _⟩⟩
    · rw [c_Sea_run, b_Sea_run_0]
      simp (disch := first | assumption | omega | rfl | decide) only [ds_cI, ds_cV, ds_cL, ds_cR, ds_nn, ds_isK_t, ds_isA_t, ds_chk_t, ds_chkN, ds_nz_t, ds_nzN, ds_isB_t, ds_isB_bo, ↓dl_m1, ↓dl_m2, dl_0, dl_1, dl_2, dl_3, dl_4, dl_5, dl_6, dl_7, dl_8, dl_9, dl_10, dl_11, dl_12, dl_13, dl_14, dl_15, dl_16, dl_20, dl_24, dl_31, dl_50, dl_57, dl_67, dl_68, dl_74, dl_75, dl_79, dl_80, dl_99, dl_100, dl_200, dl_210, dl_224, dl_255, dl_289, dl_900, dl_1000, dl_1728, dl_65536, dl_65537, nI_add, pk_mul, pk_sub, pk_div, pk_rem, ds_rem2, nI_clamp, nI_leI, nI_ltI, nI_eq, ds_m1_eq, ds_eq_m1, ds_m2_eq, ds_eq_m2, ds_m1_le, ds_le_m1, ds_m1_lt, ds_lt_m1, ds_in_N, ds_bo0, ds_bo1, if_pos, if_neg, Nat.not_le, Nat.not_lt, not_true_eq_false, not_false_eq_true, if_true, if_false, ne_eq, Option.some.injEq, Prod.mk.injEq, Value.int.injEq, true_and, and_true, and_self, ite_self, Bool.not_eq_true, Bool.not_eq_false, Bool.true_eq_false, Bool.false_eq_true, reduceCtorEq, Nat.zero_add, Nat.reduceAdd, Nat.reduceMul, Nat.reduceSub, ds_setI_row, ds_setL_row, ds_rowI_self, ds_rowI_ne, ds_rowI_2, ds_rowI_rowI, ds_setS_1, ds_setS_21, ds_setS_self, ds_setS_ne, pk_us, pk_un, s_refuse, hs, h4, Nat.lt_irrefl, decide_false]
    · have hMg := dk_zg_HM hM0
      have hsg := hMg.2.1
      rw [c_Mod_run, b_Mod_run_0]
      simp (disch := first | assumption | omega | rfl | decide) only [ds_cI, ds_cV, ds_cL, ds_cR, ds_nn, ds_isK_t, ds_isA_t, ds_chk_t, ds_chkN, ds_nz_t, ds_nzN, ds_isB_t, ds_isB_bo, ↓dl_m1, ↓dl_m2, dl_0, dl_1, dl_2, dl_3, dl_4, dl_5, dl_6, dl_7, dl_8, dl_9, dl_10, dl_11, dl_12, dl_13, dl_14, dl_15, dl_16, dl_20, dl_24, dl_31, dl_50, dl_57, dl_67, dl_68, dl_74, dl_75, dl_79, dl_80, dl_99, dl_100, dl_200, dl_210, dl_224, dl_255, dl_289, dl_900, dl_1000, dl_1728, dl_65536, dl_65537, nI_add, pk_mul, pk_sub, pk_div, pk_rem, ds_rem2, nI_clamp, nI_leI, nI_ltI, nI_eq, ds_m1_eq, ds_eq_m1, ds_m2_eq, ds_eq_m2, ds_m1_le, ds_le_m1, ds_m1_lt, ds_lt_m1, ds_in_N, ds_bo0, ds_bo1, if_pos, if_neg, Nat.not_le, Nat.not_lt, not_true_eq_false, not_false_eq_true, if_true, if_false, ne_eq, Option.some.injEq, Prod.mk.injEq, Value.int.injEq, true_and, and_true, and_self, ite_self, Bool.not_eq_true, Bool.not_eq_false, Bool.true_eq_false, Bool.false_eq_true, reduceCtorEq, Nat.zero_add, Nat.reduceAdd, Nat.reduceMul, Nat.reduceSub, ds_setI_row, ds_setL_row, ds_rowI_self, ds_rowI_ne, ds_rowI_2, ds_rowI_rowI, ds_setS_1, ds_setS_21, ds_setS_self, ds_setS_ne, pk_us, pk_un, s_good, s_no, hsg, h4, Nat.lt_irrefl, decide_false]
