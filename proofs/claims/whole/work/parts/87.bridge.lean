/-! bridges: levels of islands -/
def dk_nx2 (N : Nat) (be : Nat → Nat → Bool) (jk : Nat → Bool) (n : Nat) (e : Nat → Bool) (k j : Nat) : Bool := dk_any (fun i => e i && (n == 0 || !(jk i)) && be i j) k
def dk_lv (N : Nat) (be : Nat → Nat → Bool) (jk s0 : Nat → Bool) : Nat → (Nat → Bool) × (Nat → Bool)
  | 0 => (s0, s0)
  | n + 1 => (fun j => !((dk_lv N be jk s0 n).2 j) && dk_nx2 N be jk n (dk_lv N be jk s0 n).1 N j, fun j => (dk_lv N be jk s0 n).2 j || (!((dk_lv N be jk s0 n).2 j) && dk_nx2 N be jk n (dk_lv N be jk s0 n).1 N j))
def dk_vl (N : Nat) (be : Nat → Nat → Bool) (jk s0 : Nat → Bool) : Nat → Nat → Int32
  | 0 => fun j => if s0 j = true then nI 0 else ds_m1
  | n + 1 => fun j => if (dk_lv N be jk s0 (n + 1)).1 j = true then nI (n + 1) else dk_vl N be jk s0 n j
theorem dk_lv_er {N : Nat} {be : Nat → Nat → Bool} {jk s0 : Nat → Bool} {n j : Nat} (h : (dk_lv N be jk s0 n).1 j = true) : (dk_lv N be jk s0 n).2 j = true := by
  cases n with
  | zero => exact h
  | succ n =>
    simp only [dk_lv] at h ⊢
    rw [h, Bool.or_true]
theorem dk_vl_ok (N : Nat) (be : Nat → Nat → Bool) (jk s0 : Nat → Bool) : ∀ n j, ((dk_lv N be jk s0 n).2 j = false → dk_vl N be jk s0 n j = ds_m1) ∧ ((dk_lv N be jk s0 n).2 j = true → ∃ k, k ≤ n ∧ dk_vl N be jk s0 n j = nI k ∧ (dk_lv N be jk s0 k).1 j = true) := by
  intro n
  induction n with
  | zero =>
    intro j
    simp only [dk_vl, dk_lv]
    refine ⟨fun h => by rw [h]; rfl, fun h => ⟨0, Nat.le_refl _, by rw [h]; rfl, h⟩⟩
  | succ n ih =>
    intro j
    obtain ⟨i1, i2⟩ := ih j
    cases he : (dk_lv N be jk s0 (n + 1)).1 j
    · have e : (dk_lv N be jk s0 (n + 1)).2 j = (dk_lv N be jk s0 n).2 j := by
        have he' := he
        simp only [dk_lv] at he' ⊢
        rw [he', Bool.or_false]
      have e2 : dk_vl N be jk s0 (n + 1) j = dk_vl N be jk s0 n j := by
        show (if (dk_lv N be jk s0 (n + 1)).1 j = true then _ else _) = _
        rw [he]
        rfl
      rw [e, e2]
      refine ⟨i1, fun h => ?_⟩
      obtain ⟨k, h1, h2, h3⟩ := i2 h
      exact ⟨k, by omega, h2, h3⟩
    · have er := dk_lv_er he
      refine ⟨fun h => by rw [er] at h; exact absurd h (by decide), fun _ => ⟨n + 1, Nat.le_refl _, ?_, he⟩⟩
      show (if (dk_lv N be jk s0 (n + 1)).1 j = true then _ else _) = _
      rw [he]
      rfl
theorem dk_vl_n {N : Nat} {be : Nat → Nat → Bool} {jk s0 : Nat → Bool} {n j : Nat} (hn : n < 1000) : dk_vl N be jk s0 n j = nI n ↔ (dk_lv N be jk s0 n).1 j = true := by
  cases n with
  | zero =>
    simp only [dk_vl, dk_lv]
    cases h : s0 j
    · simp; decide
    · simp
  | succ n =>
    show (if (dk_lv N be jk s0 (n + 1)).1 j = true then _ else _) = _ ↔ _
    cases he : (dk_lv N be jk s0 (n + 1)).1 j
    · simp only [Bool.false_eq_true, if_false, iff_false]
      obtain ⟨i1, i2⟩ := dk_vl_ok N be jk s0 n j
      cases hr : (dk_lv N be jk s0 n).2 j
      · rw [i1 hr, ds_m1_eq (by omega)]; exact id
      · obtain ⟨k, h1, h2, _⟩ := i2 hr
        rw [h2, nI_eq (by omega) (by omega)]
        omega
    · simp
theorem s_layBridges (d i0 : Nat) (z : ds_St) (D : Nat → Nat → Nat) (K : Nat → Nat) (hM : dk_HM z D K) (hD : dk_ok D) (hK : dk_okK D K) (hi : i0 < D 0 4) : ∃ z', ds_call (d + 4) j_Mod_layBridges [.ref 90, .int (nI i0)] z = some (none, z') ∧ (∀ j, j < D 0 4 → z'.1 99 j = dk_vl (D 0 4) (dk_be (dk_A D) K (K 12)) (fun i => D 1 i == 2) (fun i => i == i0 && dk_is D K (K 12) i0) 12 j) ∧ (∀ p, p ≠ 99 → z'.1 p = z.1 p) ∧ z'.2 = z.2 := by
  have n12 := hD.2.2.2.2.1.2
  generalize hN : D 0 4 = N at *
  have hz : ∀ z1 : ds_St, (∀ p, p ≠ 99 → z1.1 p = z.1 p) → dk_HM z1 D K := fun z1 h => dk_HM_q hM (h 93 (by decide)) (h 95 (by decide)) (by rw [h 90 (by decide)])
  let zk : Nat → ds_St := fun k => ds_rowI z 99 (fun j => if j < k then ds_m1 else z.1 99 j)
  have up := ds_up (F := fun k => ds_Rw ds_c_Mod_layBridges ds_u_Mod_layBridges (ds_call (d + 3)) 2 [some (.ref 90), some (.int (nI i0)), some (.int (nI k)), none, none] [] (zk k)) (n := 12) 0 (by
    intro k _ hk
    rw [b_Mod_layBridges_2]
    have er : ds_rowI (zk k) 99 (upd ((zk k).1 99) k ds_m1) = zk (k + 1) := by
      simp only [zk]
      rw [ds_rowI_rowI, ds_rowI_self]
      apply ds_rowI_congr
      intro j
      dsimp only [upd]
      by_cases h : j = k
      · rw [if_pos h, if_pos (by omega)]
      · rw [if_neg h]
        by_cases h2 : j < k
        · rw [if_pos h2, if_pos (by omega)]
        · rw [if_neg h2, if_neg (by omega)]
    clear_value zk
    simp (disch := first | assumption | omega) only [ds_cI, ds_cV, ds_cL, ds_cR, ds_nn, ds_isK_t, ds_isA_t, ds_chk_t, ds_chkN, ds_nz_t, ds_nzN, ds_isB_t, ds_isB_bo, ↓dl_m1, ↓dl_m2, dl_0, dl_1, dl_2, dl_3, dl_4, dl_5, dl_6, dl_7, dl_8, dl_9, dl_10, dl_11, dl_12, dl_13, dl_14, dl_15, dl_16, dl_20, dl_24, dl_31, dl_50, dl_57, dl_67, dl_68, dl_74, dl_75, dl_79, dl_80, dl_99, dl_100, dl_200, dl_210, dl_224, dl_255, dl_289, dl_900, dl_1000, dl_1728, dl_65536, dl_65537, nI_add, pk_mul, pk_sub, pk_div, pk_rem, ds_rem2, nI_clamp, nI_leI, nI_ltI, nI_eq, ds_m1_eq, ds_eq_m1, ds_m2_eq, ds_eq_m2, ds_m1_le, ds_le_m1, ds_m1_lt, ds_lt_m1, ds_in_N, ds_bo0, ds_bo1, if_pos, if_neg, Nat.not_le, Nat.not_lt, not_true_eq_false, not_false_eq_true, if_true, if_false, ne_eq, Option.some.injEq, Prod.mk.injEq, Value.int.injEq, true_and, and_true, and_self, ite_self, Bool.not_eq_true, Bool.not_eq_false, Bool.true_eq_false, Bool.false_eq_true, reduceCtorEq, Nat.zero_add, Nat.reduceAdd, Nat.reduceMul, Nat.reduceSub, ds_setI_row, ds_setL_row, ds_rowI_self, ds_rowI_ne, ds_rowI_2, ds_rowI_rowI, ds_setS_1, ds_setS_21, ds_setS_self, ds_setS_ne, pk_us, pk_un, er]) (by decide)
  have zz : zk 0 = z := by
    simp only [zk, Nat.not_lt_zero, if_false]
    exact ds_rowI_id z 99
  try simp only at up
  rw [zz] at up
  have zkf : ∀ p, p ≠ 99 → (zk 12).1 p = z.1 p := fun p hp => ds_rowI_ne _ _ hp
  have zkv : ∀ j, j < 12 → (zk 12).1 99 j = ds_m1 := fun j hj => by simp only [zk]; rw [ds_rowI_self, if_pos hj]
  have zk2 : (zk 12).2 = z.2 := rfl
  clear_value zk
  have hMk := hz _ zkf
  have sI := s_isInSea (d + 1) 95 (K 12) i0 (zk 12) D K hMk.1 hD (dk_HM_dm hMk hK) (by omega)
  generalize hbe : dk_be (dk_A D) K (K 12) = be at *
  generalize hjk : (fun i => D 1 i == 2) = jk at *
  cases hs : dk_is D K (K 12) i0
  · -- not in the sea
    refine ⟨zk 12, ?_, ?_, zkf, zk2⟩
    · rw [hs] at sI
      rw [c_Mod_layBridges, b_Mod_layBridges_0]
      simp (disch := first | assumption | omega) only [ds_cI, ds_cV, ds_cL, ds_cR, ds_nn, ds_isK_t, ds_isA_t, ds_chk_t, ds_chkN, ds_nz_t, ds_nzN, ds_isB_t, ds_isB_bo, ↓dl_m1, ↓dl_m2, dl_0, dl_1, dl_2, dl_3, dl_4, dl_5, dl_6, dl_7, dl_8, dl_9, dl_10, dl_11, dl_12, dl_13, dl_14, dl_15, dl_16, dl_20, dl_24, dl_31, dl_50, dl_57, dl_67, dl_68, dl_74, dl_75, dl_79, dl_80, dl_99, dl_100, dl_200, dl_210, dl_224, dl_255, dl_289, dl_900, dl_1000, dl_1728, dl_65536, dl_65537, nI_add, pk_mul, pk_sub, pk_div, pk_rem, ds_rem2, nI_clamp, nI_leI, nI_ltI, nI_eq, ds_m1_eq, ds_eq_m1, ds_m2_eq, ds_eq_m2, ds_m1_le, ds_le_m1, ds_m1_lt, ds_lt_m1, ds_in_N, ds_bo0, ds_bo1, if_pos, if_neg, Nat.not_le, Nat.not_lt, not_true_eq_false, not_false_eq_true, if_true, if_false, ne_eq, Option.some.injEq, Prod.mk.injEq, Value.int.injEq, true_and, and_true, and_self, ite_self, Bool.not_eq_true, Bool.not_eq_false, Bool.true_eq_false, Bool.false_eq_true, reduceCtorEq, Nat.zero_add, Nat.reduceAdd, Nat.reduceMul, Nat.reduceSub, ds_setI_row, ds_setL_row, ds_rowI_self, ds_rowI_ne, ds_rowI_2, ds_rowI_rowI, ds_setS_1, ds_setS_21, ds_setS_self, ds_setS_ne, pk_us, pk_un]
      rw [up, b_Mod_layBridges_2]
      simp (disch := first | assumption | omega) only [ds_cI, ds_cV, ds_cL, ds_cR, ds_nn, ds_isK_t, ds_isA_t, ds_chk_t, ds_chkN, ds_nz_t, ds_nzN, ds_isB_t, ds_isB_bo, ↓dl_m1, ↓dl_m2, dl_0, dl_1, dl_2, dl_3, dl_4, dl_5, dl_6, dl_7, dl_8, dl_9, dl_10, dl_11, dl_12, dl_13, dl_14, dl_15, dl_16, dl_20, dl_24, dl_31, dl_50, dl_57, dl_67, dl_68, dl_74, dl_75, dl_79, dl_80, dl_99, dl_100, dl_200, dl_210, dl_224, dl_255, dl_289, dl_900, dl_1000, dl_1728, dl_65536, dl_65537, nI_add, pk_mul, pk_sub, pk_div, pk_rem, ds_rem2, nI_clamp, nI_leI, nI_ltI, nI_eq, ds_m1_eq, ds_eq_m1, ds_m2_eq, ds_eq_m2, ds_m1_le, ds_le_m1, ds_m1_lt, ds_lt_m1, ds_in_N, ds_bo0, ds_bo1, if_pos, if_neg, Nat.not_le, Nat.not_lt, not_true_eq_false, not_false_eq_true, if_true, if_false, ne_eq, Option.some.injEq, Prod.mk.injEq, Value.int.injEq, true_and, and_true, and_self, ite_self, Bool.not_eq_true, Bool.not_eq_false, Bool.true_eq_false, Bool.false_eq_true, reduceCtorEq, Nat.zero_add, Nat.reduceAdd, Nat.reduceMul, Nat.reduceSub, ds_setI_row, ds_setL_row, ds_rowI_self, ds_rowI_ne, ds_rowI_2, ds_rowI_rowI, ds_setS_1, ds_setS_21, ds_setS_self, ds_setS_ne, pk_us, pk_un, sI]
    · intro j hj
      rw [zkv j (by omega)]
      have e0 : ∀ n, (∀ i, (dk_lv N be jk (fun i => i == i0 && false) n).1 i = false ∧ (dk_lv N be jk (fun i => i == i0 && false) n).2 i = false) := by
        intro n
        induction n with
        | zero => intro i; simp [dk_lv]
        | succ n ih =>
          intro i
          have ea : dk_nx2 N be jk n (dk_lv N be jk (fun i => i == i0 && false) n).1 N i = false := by
            unfold dk_nx2
            rw [dk_any_f]
            intro p hp
            rw [(ih p).1]
            rfl
          simp only [dk_lv]
          rw [ea, (ih i).2]
          exact ⟨rfl, rfl⟩
      exact ((dk_vl_ok N be jk _ 12 j).1 (e0 12 j).2).symm
  · generalize hs0 : (fun i => i == i0 && true) = s0
    have hcm : ∀ z1 : ds_St, (∀ p, p ≠ 99 → z1.1 p = z.1 p) → (z1.1 93 4 = nI N) ∧ (∀ i, i < N → ds_call (d + 3) j_Mod_isJoker [.ref 90, .int (nI i)] z1 = some (some (.int (ds_bo (jk i))), z1)) ∧ (∀ i j, i < N → j < N → ds_call (d + 3) j_Mod_beBeside [.ref 90, .ref 95, .int (nI i), .int (nI j)] z1 = some (some (.int (ds_bo (be i j))), z1)) := by
      intro z1 h
      have hM1 := hz z1 h
      refine ⟨by rw [← hN]; exact hM1.1.1.2.2.2.2.1, fun i hi => ?_, fun i j hi hj => ?_⟩
      · rw [← hjk]; exact s_mjoker (d + 1) i z1 D hM1.1 hD (by omega)
      · rw [← hbe]; exact s_beBeside d 95 (K 12) i j z1 D K hM1.1 hD (dk_HM_dm hM1 hK) (by omega) (by omega)
    let mid : Nat → Nat → Nat → Int32 := fun n k j => if (dk_lv N be jk s0 n).2 j = true then dk_vl N be jk s0 n j else if dk_nx2 N be jk n (dk_lv N be jk s0 n).1 k j = true then nI (n + 1) else ds_m1
    let mi2 : Nat → Nat → Nat → Nat → Int32 := fun n i k j => if (dk_lv N be jk s0 n).2 j = true then dk_vl N be jk s0 n j else if (dk_nx2 N be jk n (dk_lv N be jk s0 n).1 i j || (decide (j < k) && be i j)) = true then nI (n + 1) else ds_m1
    have r99 : ∀ m k n i z1, k + m = N → i < N → n < 12 → (dk_lv N be jk s0 n).1 i = true → (n = 0 ∨ jk i = false) → (∀ p, p ≠ 99 → z1.1 p = z.1 p) → (∀ j, j < N → z1.1 99 j = mi2 n i k j) → ∃ z2, ds_Rw ds_c_Mod_layBridges ds_u_Mod_layBridges (ds_call (d + 3)) 89 [some (.ref 90), none, some (.int (nI n)), some (.int (nI i)), some (.int (nI k))] [] z1 = ds_Rw ds_c_Mod_layBridges ds_u_Mod_layBridges (ds_call (d + 3)) 51 [some (.ref 90), none, some (.int (nI n)), some (.int (nI ((i + 1)))), none] [] z2 ∧ (∀ p, p ≠ 99 → z2.1 p = z.1 p) ∧ (∀ j, j < N → z2.1 99 j = mid n (i + 1) j) ∧ z2.2 = z1.2 := by
      intro m
      induction m with
      | zero =>
        intro k n i z1 hk hi hn he ho hf hv
        obtain ⟨m4, _, _⟩ := hcm z1 hf
        refine ⟨z1, ?_, hf, fun j hj => ?_, rfl⟩
        · rw [b_Mod_layBridges_89]
          simp (disch := first | assumption | omega) only [ds_cI, ds_cV, ds_cL, ds_cR, ds_nn, ds_isK_t, ds_isA_t, ds_chk_t, ds_chkN, ds_nz_t, ds_nzN, ds_isB_t, ds_isB_bo, ↓dl_m1, ↓dl_m2, dl_0, dl_1, dl_2, dl_3, dl_4, dl_5, dl_6, dl_7, dl_8, dl_9, dl_10, dl_11, dl_12, dl_13, dl_14, dl_15, dl_16, dl_20, dl_24, dl_31, dl_50, dl_57, dl_67, dl_68, dl_74, dl_75, dl_79, dl_80, dl_99, dl_100, dl_200, dl_210, dl_224, dl_255, dl_289, dl_900, dl_1000, dl_1728, dl_65536, dl_65537, nI_add, pk_mul, pk_sub, pk_div, pk_rem, ds_rem2, nI_clamp, nI_leI, nI_ltI, nI_eq, ds_m1_eq, ds_eq_m1, ds_m2_eq, ds_eq_m2, ds_m1_le, ds_le_m1, ds_m1_lt, ds_lt_m1, ds_in_N, ds_bo0, ds_bo1, if_pos, if_neg, Nat.not_le, Nat.not_lt, not_true_eq_false, not_false_eq_true, if_true, if_false, ne_eq, Option.some.injEq, Prod.mk.injEq, Value.int.injEq, true_and, and_true, and_self, ite_self, Bool.not_eq_true, Bool.not_eq_false, Bool.true_eq_false, Bool.false_eq_true, reduceCtorEq, Nat.zero_add, Nat.reduceAdd, Nat.reduceMul, Nat.reduceSub, ds_setI_row, ds_setL_row, ds_rowI_self, ds_rowI_ne, ds_rowI_2, ds_rowI_rowI, ds_setS_1, ds_setS_21, ds_setS_self, ds_setS_ne, pk_us, pk_un, m4]
        · rw [hv j hj]
          simp only [mid, mi2]
          have ee : dk_nx2 N be jk n (dk_lv N be jk s0 n).1 (i + 1) j = (dk_nx2 N be jk n (dk_lv N be jk s0 n).1 i j || (decide (j < k) && be i j)) := by
            unfold dk_nx2
            simp only [dk_any]
            have eo : (n == 0 || !(jk i)) = true := by
              rcases ho with h | h
              · rw [h]; rfl
              · rw [h]; simp
            rw [he, eo, decide_eq_true (show j < k by omega)]
            simp
          rw [ee]
      | succ m ih =>
        intro k n i z1 hk hi hn he ho hf hv
        obtain ⟨m4, _, hbb⟩ := hcm z1 hf
        have vk := hv k (by omega)
        have b1 := hbb i k hi (by omega)
        have nxt : ∀ w, mi2 n i (k + 1) k = w → ∀ j, j < N → upd (z1.1 99) k w j = mi2 n i (k + 1) j := by
          intro w hw j hj
          by_cases h : j = k
          · rw [h, pk_us, hw]
          · rw [pk_un h, hv j hj]
            simp only [mi2]
            have : decide (j < k + 1) = decide (j < k) := decide_eq_decide.mpr (by omega)
            rw [this]
        rw [b_Mod_layBridges_89]
        cases hr : (dk_lv N be jk s0 n).2 k
        · have v0 : mi2 n i k k = if dk_nx2 N be jk n (dk_lv N be jk s0 n).1 i k = true then nI (n + 1) else ds_m1 := by
            simp only [mi2]
            rw [hr, decide_eq_false (Nat.lt_irrefl k), Bool.false_and, Bool.or_false]
            rfl
          have v1 : mi2 n i (k + 1) k = if (dk_nx2 N be jk n (dk_lv N be jk s0 n).1 i k || be i k) = true then nI (n + 1) else ds_m1 := by
            simp only [mi2]
            rw [hr, decide_eq_true (Nat.lt_succ_self k), Bool.true_and]
            rfl
          rw [v0] at vk
          cases ha : dk_nx2 N be jk n (dk_lv N be jk s0 n).1 i k
          · rw [ha] at vk v1
            have vk' : z1.1 99 k = ds_m1 := vk
            cases hb : be i k
            · rw [hb] at b1 v1
              have hv' : ∀ j, j < N → z1.1 99 j = mi2 n i (k + 1) j := by
                intro j hj
                have := nxt ds_m1 v1 j hj
                by_cases h : j = k
                · rw [h, vk']; exact v1.symm
                · rw [pk_un h] at this; exact this
              obtain ⟨z2, q1, q2, q3, q4⟩ := ih (k + 1) n i z1 (by omega) hi hn he ho hf hv'
              refine ⟨z2, ?_, q2, q3, q4⟩
              rw [← q1]
              simp (disch := first | assumption | omega) only [ds_cI, ds_cV, ds_cL, ds_cR, ds_nn, ds_isK_t, ds_isA_t, ds_chk_t, ds_chkN, ds_nz_t, ds_nzN, ds_isB_t, ds_isB_bo, ↓dl_m1, ↓dl_m2, dl_0, dl_1, dl_2, dl_3, dl_4, dl_5, dl_6, dl_7, dl_8, dl_9, dl_10, dl_11, dl_12, dl_13, dl_14, dl_15, dl_16, dl_20, dl_24, dl_31, dl_50, dl_57, dl_67, dl_68, dl_74, dl_75, dl_79, dl_80, dl_99, dl_100, dl_200, dl_210, dl_224, dl_255, dl_289, dl_900, dl_1000, dl_1728, dl_65536, dl_65537, nI_add, pk_mul, pk_sub, pk_div, pk_rem, ds_rem2, nI_clamp, nI_leI, nI_ltI, nI_eq, ds_m1_eq, ds_eq_m1, ds_m2_eq, ds_eq_m2, ds_m1_le, ds_le_m1, ds_m1_lt, ds_lt_m1, ds_in_N, ds_bo0, ds_bo1, if_pos, if_neg, Nat.not_le, Nat.not_lt, not_true_eq_false, not_false_eq_true, if_true, if_false, ne_eq, Option.some.injEq, Prod.mk.injEq, Value.int.injEq, true_and, and_true, and_self, ite_self, Bool.not_eq_true, Bool.not_eq_false, Bool.true_eq_false, Bool.false_eq_true, reduceCtorEq, Nat.zero_add, Nat.reduceAdd, Nat.reduceMul, Nat.reduceSub, ds_setI_row, ds_setL_row, ds_rowI_self, ds_rowI_ne, ds_rowI_2, ds_rowI_rowI, ds_setS_1, ds_setS_21, ds_setS_self, ds_setS_ne, pk_us, pk_un, m4, vk', b1, show ¬ nI 0 ≤ ds_m1 from by decide]
            · rw [hb] at b1 v1
              let z1' := ds_rowI z1 99 (upd (z1.1 99) k (nI (n + 1)))
              obtain ⟨z2, q1, q2, q3, q4⟩ := ih (k + 1) n i z1' (by omega) hi hn he ho (fun p hp => by simp only [z1']; rw [ds_rowI_ne _ _ hp]; exact hf p hp) (fun j hj => by simp only [z1']; rw [ds_rowI_self]; exact nxt _ v1 j hj)
              refine ⟨z2, ?_, q2, q3, q4⟩
              have ez : ds_rowI z1 99 (upd (z1.1 99) k (nI (n + 1))) = z1' := rfl
              clear_value z1'
              rw [← q1]
              simp (disch := first | assumption | omega) only [ds_cI, ds_cV, ds_cL, ds_cR, ds_nn, ds_isK_t, ds_isA_t, ds_chk_t, ds_chkN, ds_nz_t, ds_nzN, ds_isB_t, ds_isB_bo, ↓dl_m1, ↓dl_m2, dl_0, dl_1, dl_2, dl_3, dl_4, dl_5, dl_6, dl_7, dl_8, dl_9, dl_10, dl_11, dl_12, dl_13, dl_14, dl_15, dl_16, dl_20, dl_24, dl_31, dl_50, dl_57, dl_67, dl_68, dl_74, dl_75, dl_79, dl_80, dl_99, dl_100, dl_200, dl_210, dl_224, dl_255, dl_289, dl_900, dl_1000, dl_1728, dl_65536, dl_65537, nI_add, pk_mul, pk_sub, pk_div, pk_rem, ds_rem2, nI_clamp, nI_leI, nI_ltI, nI_eq, ds_m1_eq, ds_eq_m1, ds_m2_eq, ds_eq_m2, ds_m1_le, ds_le_m1, ds_m1_lt, ds_lt_m1, ds_in_N, ds_bo0, ds_bo1, if_pos, if_neg, Nat.not_le, Nat.not_lt, not_true_eq_false, not_false_eq_true, if_true, if_false, ne_eq, Option.some.injEq, Prod.mk.injEq, Value.int.injEq, true_and, and_true, and_self, ite_self, Bool.not_eq_true, Bool.not_eq_false, Bool.true_eq_false, Bool.false_eq_true, reduceCtorEq, Nat.zero_add, Nat.reduceAdd, Nat.reduceMul, Nat.reduceSub, ds_setI_row, ds_setL_row, ds_rowI_self, ds_rowI_ne, ds_rowI_2, ds_rowI_rowI, ds_setS_1, ds_setS_21, ds_setS_self, ds_setS_ne, pk_us, pk_un, m4, vk', b1, ez, show ¬ nI 0 ≤ ds_m1 from by decide]
          · rw [ha] at vk v1
            have vk' : z1.1 99 k = nI (n + 1) := vk
            have hv' : ∀ j, j < N → z1.1 99 j = mi2 n i (k + 1) j := by
              intro j hj
              have := nxt (nI (n + 1)) v1 j hj
              by_cases h : j = k
              · rw [h, vk']; exact v1.symm
              · rw [pk_un h] at this; exact this
            obtain ⟨z2, q1, q2, q3, q4⟩ := ih (k + 1) n i z1 (by omega) hi hn he ho hf hv'
            refine ⟨z2, ?_, q2, q3, q4⟩
            rw [← q1]
            simp (disch := first | assumption | omega) only [ds_cI, ds_cV, ds_cL, ds_cR, ds_nn, ds_isK_t, ds_isA_t, ds_chk_t, ds_chkN, ds_nz_t, ds_nzN, ds_isB_t, ds_isB_bo, ↓dl_m1, ↓dl_m2, dl_0, dl_1, dl_2, dl_3, dl_4, dl_5, dl_6, dl_7, dl_8, dl_9, dl_10, dl_11, dl_12, dl_13, dl_14, dl_15, dl_16, dl_20, dl_24, dl_31, dl_50, dl_57, dl_67, dl_68, dl_74, dl_75, dl_79, dl_80, dl_99, dl_100, dl_200, dl_210, dl_224, dl_255, dl_289, dl_900, dl_1000, dl_1728, dl_65536, dl_65537, nI_add, pk_mul, pk_sub, pk_div, pk_rem, ds_rem2, nI_clamp, nI_leI, nI_ltI, nI_eq, ds_m1_eq, ds_eq_m1, ds_m2_eq, ds_eq_m2, ds_m1_le, ds_le_m1, ds_m1_lt, ds_lt_m1, ds_in_N, ds_bo0, ds_bo1, if_pos, if_neg, Nat.not_le, Nat.not_lt, not_true_eq_false, not_false_eq_true, if_true, if_false, ne_eq, Option.some.injEq, Prod.mk.injEq, Value.int.injEq, true_and, and_true, and_self, ite_self, Bool.not_eq_true, Bool.not_eq_false, Bool.true_eq_false, Bool.false_eq_true, reduceCtorEq, Nat.zero_add, Nat.reduceAdd, Nat.reduceMul, Nat.reduceSub, ds_setI_row, ds_setL_row, ds_rowI_self, ds_rowI_ne, ds_rowI_2, ds_rowI_rowI, ds_setS_1, ds_setS_21, ds_setS_self, ds_setS_ne, pk_us, pk_un, m4, vk']
        · obtain ⟨l, l1, l2, l3⟩ := (dk_vl_ok N be jk s0 n k).2 hr
          have v0 : ∀ w, mi2 n i w k = nI l := by
            intro w
            simp only [mi2]
            rw [hr, if_pos rfl, l2]
          rw [v0] at vk
          have hv' : ∀ j, j < N → z1.1 99 j = mi2 n i (k + 1) j := by
            intro j hj
            have := nxt (nI l) (v0 _) j hj
            by_cases h : j = k
            · rw [h, vk, v0]
            · rw [pk_un h] at this; exact this
          obtain ⟨z2, q1, q2, q3, q4⟩ := ih (k + 1) n i z1 (by omega) hi hn he ho hf hv'
          refine ⟨z2, ?_, q2, q3, q4⟩
          rw [← q1]
          simp (disch := first | assumption | omega) only [ds_cI, ds_cV, ds_cL, ds_cR, ds_nn, ds_isK_t, ds_isA_t, ds_chk_t, ds_chkN, ds_nz_t, ds_nzN, ds_isB_t, ds_isB_bo, ↓dl_m1, ↓dl_m2, dl_0, dl_1, dl_2, dl_3, dl_4, dl_5, dl_6, dl_7, dl_8, dl_9, dl_10, dl_11, dl_12, dl_13, dl_14, dl_15, dl_16, dl_20, dl_24, dl_31, dl_50, dl_57, dl_67, dl_68, dl_74, dl_75, dl_79, dl_80, dl_99, dl_100, dl_200, dl_210, dl_224, dl_255, dl_289, dl_900, dl_1000, dl_1728, dl_65536, dl_65537, nI_add, pk_mul, pk_sub, pk_div, pk_rem, ds_rem2, nI_clamp, nI_leI, nI_ltI, nI_eq, ds_m1_eq, ds_eq_m1, ds_m2_eq, ds_eq_m2, ds_m1_le, ds_le_m1, ds_m1_lt, ds_lt_m1, ds_in_N, ds_bo0, ds_bo1, if_pos, if_neg, Nat.not_le, Nat.not_lt, not_true_eq_false, not_false_eq_true, if_true, if_false, ne_eq, Option.some.injEq, Prod.mk.injEq, Value.int.injEq, true_and, and_true, and_self, ite_self, Bool.not_eq_true, Bool.not_eq_false, Bool.true_eq_false, Bool.false_eq_true, reduceCtorEq, Nat.zero_add, Nat.reduceAdd, Nat.reduceMul, Nat.reduceSub, ds_setI_row, ds_setL_row, ds_rowI_self, ds_rowI_ne, ds_rowI_2, ds_rowI_rowI, ds_setS_1, ds_setS_21, ds_setS_self, ds_setS_ne, pk_us, pk_un, m4, vk]
    have r51 : ∀ m i n z1, i + m = N → n < 12 → (∀ p, p ≠ 99 → z1.1 p = z.1 p) → (∀ j, j < N → z1.1 99 j = mid n i j) → ∃ z2, ds_Rw ds_c_Mod_layBridges ds_u_Mod_layBridges (ds_call (d + 3)) 51 [some (.ref 90), none, some (.int (nI n)), some (.int (nI i)), none] [] z1 = ds_Rw ds_c_Mod_layBridges ds_u_Mod_layBridges (ds_call (d + 3)) 43 [some (.ref 90), none, some (.int (nI ((n + 1)))), none, none] [] z2 ∧ (∀ p, p ≠ 99 → z2.1 p = z.1 p) ∧ (∀ j, j < N → z2.1 99 j = mid n N j) ∧ z2.2 = z1.2 := by
      intro m
      induction m with
      | zero =>
        intro i n z1 hi hn hf hv
        have : i = N := by omega
        subst this
        obtain ⟨m4, _, _⟩ := hcm z1 hf
        refine ⟨z1, ?_, hf, hv, rfl⟩
        rw [b_Mod_layBridges_51]
        simp (disch := first | assumption | omega) only [ds_cI, ds_cV, ds_cL, ds_cR, ds_nn, ds_isK_t, ds_isA_t, ds_chk_t, ds_chkN, ds_nz_t, ds_nzN, ds_isB_t, ds_isB_bo, ↓dl_m1, ↓dl_m2, dl_0, dl_1, dl_2, dl_3, dl_4, dl_5, dl_6, dl_7, dl_8, dl_9, dl_10, dl_11, dl_12, dl_13, dl_14, dl_15, dl_16, dl_20, dl_24, dl_31, dl_50, dl_57, dl_67, dl_68, dl_74, dl_75, dl_79, dl_80, dl_99, dl_100, dl_200, dl_210, dl_224, dl_255, dl_289, dl_900, dl_1000, dl_1728, dl_65536, dl_65537, nI_add, pk_mul, pk_sub, pk_div, pk_rem, ds_rem2, nI_clamp, nI_leI, nI_ltI, nI_eq, ds_m1_eq, ds_eq_m1, ds_m2_eq, ds_eq_m2, ds_m1_le, ds_le_m1, ds_m1_lt, ds_lt_m1, ds_in_N, ds_bo0, ds_bo1, if_pos, if_neg, Nat.not_le, Nat.not_lt, not_true_eq_false, not_false_eq_true, if_true, if_false, ne_eq, Option.some.injEq, Prod.mk.injEq, Value.int.injEq, true_and, and_true, and_self, ite_self, Bool.not_eq_true, Bool.not_eq_false, Bool.true_eq_false, Bool.false_eq_true, reduceCtorEq, Nat.zero_add, Nat.reduceAdd, Nat.reduceMul, Nat.reduceSub, ds_setI_row, ds_setL_row, ds_rowI_self, ds_rowI_ne, ds_rowI_2, ds_rowI_rowI, ds_setS_1, ds_setS_21, ds_setS_self, ds_setS_ne, pk_us, pk_un, m4]
      | succ m ih =>
        intro i n z1 hi hn hf hv
        obtain ⟨m4, hjj, _⟩ := hcm z1 hf
        have vi := hv i (by omega)
        have j1 := hjj i (by omega)
        have skip : ((dk_lv N be jk s0 n).1 i && (n == 0 || !(jk i))) = false → ∀ j, j < N → z1.1 99 j = mid n (i + 1) j := by
          intro hsk j hj
          rw [hv j hj]
          simp only [mid]
          have ee : dk_nx2 N be jk n (dk_lv N be jk s0 n).1 (i + 1) j = dk_nx2 N be jk n (dk_lv N be jk s0 n).1 i j := by
            unfold dk_nx2
            simp only [dk_any]
            rw [hsk, Bool.false_and, Bool.or_false]
          rw [ee]
        rw [b_Mod_layBridges_51]
        by_cases he : (dk_lv N be jk s0 n).1 i = true
        · have vi' : z1.1 99 i = nI n := by
            rw [vi]
            simp only [mid]
            rw [if_pos (dk_lv_er he)]
            exact (dk_vl_n (by omega)).mpr he
          have hv2 : ∀ j, j < N → z1.1 99 j = mi2 n i 0 j := by
            intro j hj
            rw [hv j hj]
            simp only [mid, mi2]
            rw [decide_eq_false (Nat.not_lt_zero j), Bool.false_and, Bool.or_false]
          by_cases hn0 : n = 0
          · obtain ⟨z2, q1, q2, q3, q4⟩ := r99 N 0 n i z1 (by omega) (by omega) hn he (.inl hn0) hf hv2
            obtain ⟨z3, p1, p2, p3, p4⟩ := ih (i + 1) n z2 (by omega) hn q2 q3
            refine ⟨z3, ?_, p2, p3, p4.trans q4⟩
            rw [← p1, ← q1]
            simp (disch := first | assumption | omega) only [ds_cI, ds_cV, ds_cL, ds_cR, ds_nn, ds_isK_t, ds_isA_t, ds_chk_t, ds_chkN, ds_nz_t, ds_nzN, ds_isB_t, ds_isB_bo, ↓dl_m1, ↓dl_m2, dl_0, dl_1, dl_2, dl_3, dl_4, dl_5, dl_6, dl_7, dl_8, dl_9, dl_10, dl_11, dl_12, dl_13, dl_14, dl_15, dl_16, dl_20, dl_24, dl_31, dl_50, dl_57, dl_67, dl_68, dl_74, dl_75, dl_79, dl_80, dl_99, dl_100, dl_200, dl_210, dl_224, dl_255, dl_289, dl_900, dl_1000, dl_1728, dl_65536, dl_65537, nI_add, pk_mul, pk_sub, pk_div, pk_rem, ds_rem2, nI_clamp, nI_leI, nI_ltI, nI_eq, ds_m1_eq, ds_eq_m1, ds_m2_eq, ds_eq_m2, ds_m1_le, ds_le_m1, ds_m1_lt, ds_lt_m1, ds_in_N, ds_bo0, ds_bo1, if_pos, if_neg, Nat.not_le, Nat.not_lt, not_true_eq_false, not_false_eq_true, if_true, if_false, ne_eq, Option.some.injEq, Prod.mk.injEq, Value.int.injEq, true_and, and_true, and_self, ite_self, Bool.not_eq_true, Bool.not_eq_false, Bool.true_eq_false, Bool.false_eq_true, reduceCtorEq, Nat.zero_add, Nat.reduceAdd, Nat.reduceMul, Nat.reduceSub, ds_setI_row, ds_setL_row, ds_rowI_self, ds_rowI_ne, ds_rowI_2, ds_rowI_rowI, ds_setS_1, ds_setS_21, ds_setS_self, ds_setS_ne, pk_us, pk_un, m4, vi']
          · cases hj : jk i
            · rw [hj] at j1
              obtain ⟨z2, q1, q2, q3, q4⟩ := r99 N 0 n i z1 (by omega) (by omega) hn he (.inr hj) hf hv2
              obtain ⟨z3, p1, p2, p3, p4⟩ := ih (i + 1) n z2 (by omega) hn q2 q3
              refine ⟨z3, ?_, p2, p3, p4.trans q4⟩
              rw [← p1, ← q1]
              simp (disch := first | assumption | omega) only [ds_cI, ds_cV, ds_cL, ds_cR, ds_nn, ds_isK_t, ds_isA_t, ds_chk_t, ds_chkN, ds_nz_t, ds_nzN, ds_isB_t, ds_isB_bo, ↓dl_m1, ↓dl_m2, dl_0, dl_1, dl_2, dl_3, dl_4, dl_5, dl_6, dl_7, dl_8, dl_9, dl_10, dl_11, dl_12, dl_13, dl_14, dl_15, dl_16, dl_20, dl_24, dl_31, dl_50, dl_57, dl_67, dl_68, dl_74, dl_75, dl_79, dl_80, dl_99, dl_100, dl_200, dl_210, dl_224, dl_255, dl_289, dl_900, dl_1000, dl_1728, dl_65536, dl_65537, nI_add, pk_mul, pk_sub, pk_div, pk_rem, ds_rem2, nI_clamp, nI_leI, nI_ltI, nI_eq, ds_m1_eq, ds_eq_m1, ds_m2_eq, ds_eq_m2, ds_m1_le, ds_le_m1, ds_m1_lt, ds_lt_m1, ds_in_N, ds_bo0, ds_bo1, if_pos, if_neg, Nat.not_le, Nat.not_lt, not_true_eq_false, not_false_eq_true, if_true, if_false, ne_eq, Option.some.injEq, Prod.mk.injEq, Value.int.injEq, true_and, and_true, and_self, ite_self, Bool.not_eq_true, Bool.not_eq_false, Bool.true_eq_false, Bool.false_eq_true, reduceCtorEq, Nat.zero_add, Nat.reduceAdd, Nat.reduceMul, Nat.reduceSub, ds_setI_row, ds_setL_row, ds_rowI_self, ds_rowI_ne, ds_rowI_2, ds_rowI_rowI, ds_setS_1, ds_setS_21, ds_setS_self, ds_setS_ne, pk_us, pk_un, m4, vi', j1]
            · rw [hj] at j1
              obtain ⟨z3, p1, p2, p3, p4⟩ := ih (i + 1) n z1 (by omega) hn hf (skip (by simp [hj, hn0]))
              refine ⟨z3, ?_, p2, p3, p4⟩
              rw [← p1]
              simp (disch := first | assumption | omega) only [ds_cI, ds_cV, ds_cL, ds_cR, ds_nn, ds_isK_t, ds_isA_t, ds_chk_t, ds_chkN, ds_nz_t, ds_nzN, ds_isB_t, ds_isB_bo, ↓dl_m1, ↓dl_m2, dl_0, dl_1, dl_2, dl_3, dl_4, dl_5, dl_6, dl_7, dl_8, dl_9, dl_10, dl_11, dl_12, dl_13, dl_14, dl_15, dl_16, dl_20, dl_24, dl_31, dl_50, dl_57, dl_67, dl_68, dl_74, dl_75, dl_79, dl_80, dl_99, dl_100, dl_200, dl_210, dl_224, dl_255, dl_289, dl_900, dl_1000, dl_1728, dl_65536, dl_65537, nI_add, pk_mul, pk_sub, pk_div, pk_rem, ds_rem2, nI_clamp, nI_leI, nI_ltI, nI_eq, ds_m1_eq, ds_eq_m1, ds_m2_eq, ds_eq_m2, ds_m1_le, ds_le_m1, ds_m1_lt, ds_lt_m1, ds_in_N, ds_bo0, ds_bo1, if_pos, if_neg, Nat.not_le, Nat.not_lt, not_true_eq_false, not_false_eq_true, if_true, if_false, ne_eq, Option.some.injEq, Prod.mk.injEq, Value.int.injEq, true_and, and_true, and_self, ite_self, Bool.not_eq_true, Bool.not_eq_false, Bool.true_eq_false, Bool.false_eq_true, reduceCtorEq, Nat.zero_add, Nat.reduceAdd, Nat.reduceMul, Nat.reduceSub, ds_setI_row, ds_setL_row, ds_rowI_self, ds_rowI_ne, ds_rowI_2, ds_rowI_rowI, ds_setS_1, ds_setS_21, ds_setS_self, ds_setS_ne, pk_us, pk_un, m4, vi', j1]
        · have vi' : ¬ z1.1 99 i = nI n := by
            rw [vi]
            simp only [mid]
            cases hr : (dk_lv N be jk s0 n).2 i
            · simp only [Bool.false_eq_true, if_false]
              split
              · rw [nI_eq (by omega) (by omega)]; omega
              · rw [ds_m1_eq (by omega)]; exact id
            · simp only [if_true]
              rw [dk_vl_n (by omega)]
              exact he
          obtain ⟨z3, p1, p2, p3, p4⟩ := ih (i + 1) n z1 (by omega) hn hf (skip (by have : (dk_lv N be jk s0 n).1 i = false := by simpa using he
                                                                                    rw [this]; rfl))
          refine ⟨z3, ?_, p2, p3, p4⟩
          rw [← p1]
          simp (disch := first | assumption | omega) only [ds_cI, ds_cV, ds_cL, ds_cR, ds_nn, ds_isK_t, ds_isA_t, ds_chk_t, ds_chkN, ds_nz_t, ds_nzN, ds_isB_t, ds_isB_bo, ↓dl_m1, ↓dl_m2, dl_0, dl_1, dl_2, dl_3, dl_4, dl_5, dl_6, dl_7, dl_8, dl_9, dl_10, dl_11, dl_12, dl_13, dl_14, dl_15, dl_16, dl_20, dl_24, dl_31, dl_50, dl_57, dl_67, dl_68, dl_74, dl_75, dl_79, dl_80, dl_99, dl_100, dl_200, dl_210, dl_224, dl_255, dl_289, dl_900, dl_1000, dl_1728, dl_65536, dl_65537, nI_add, pk_mul, pk_sub, pk_div, pk_rem, ds_rem2, nI_clamp, nI_leI, nI_ltI, nI_eq, ds_m1_eq, ds_eq_m1, ds_m2_eq, ds_eq_m2, ds_m1_le, ds_le_m1, ds_m1_lt, ds_lt_m1, ds_in_N, ds_bo0, ds_bo1, if_pos, if_neg, Nat.not_le, Nat.not_lt, not_true_eq_false, not_false_eq_true, if_true, if_false, ne_eq, Option.some.injEq, Prod.mk.injEq, Value.int.injEq, true_and, and_true, and_self, ite_self, Bool.not_eq_true, Bool.not_eq_false, Bool.true_eq_false, Bool.false_eq_true, reduceCtorEq, Nat.zero_add, Nat.reduceAdd, Nat.reduceMul, Nat.reduceSub, ds_setI_row, ds_setL_row, ds_rowI_self, ds_rowI_ne, ds_rowI_2, ds_rowI_rowI, ds_setS_1, ds_setS_21, ds_setS_self, ds_setS_ne, pk_us, pk_un, m4, vi']
    have midN : ∀ n j, mid n N j = dk_vl N be jk s0 (n + 1) j := by
      intro n j
      simp only [mid]
      show _ = if (dk_lv N be jk s0 (n + 1)).1 j = true then nI (n + 1) else dk_vl N be jk s0 n j
      have e : (dk_lv N be jk s0 (n + 1)).1 j = (!((dk_lv N be jk s0 n).2 j) && dk_nx2 N be jk n (dk_lv N be jk s0 n).1 N j) := rfl
      rw [e]
      cases hr : (dk_lv N be jk s0 n).2 j
      · rw [(dk_vl_ok N be jk s0 n j).1 hr]
        simp
      · simp
    have mid0 : ∀ n j, mid n 0 j = dk_vl N be jk s0 n j := by
      intro n j
      simp only [mid]
      cases hr : (dk_lv N be jk s0 n).2 j
      · rw [(dk_vl_ok N be jk s0 n j).1 hr]
        simp [dk_nx2, dk_any]
      · simp
    have r43 : ∀ m n z1, n + m = 12 → (∀ p, p ≠ 99 → z1.1 p = z.1 p) → (∀ j, j < N → z1.1 99 j = dk_vl N be jk s0 n j) → ∃ z2, ds_Rw ds_c_Mod_layBridges ds_u_Mod_layBridges (ds_call (d + 3)) 43 [some (.ref 90), none, some (.int (nI n)), none, none] [] z1 = some (none, z2) ∧ (∀ p, p ≠ 99 → z2.1 p = z.1 p) ∧ (∀ j, j < N → z2.1 99 j = dk_vl N be jk s0 12 j) ∧ z2.2 = z1.2 := by
      intro m
      induction m with
      | zero =>
        intro n z1 hn hf hv
        have : n = 12 := by omega
        subst this
        refine ⟨z1, ?_, hf, hv, rfl⟩
        rw [b_Mod_layBridges_43]
        simp (disch := first | assumption | omega) only [ds_cI, ds_cV, ds_cL, ds_cR, ds_nn, ds_isK_t, ds_isA_t, ds_chk_t, ds_chkN, ds_nz_t, ds_nzN, ds_isB_t, ds_isB_bo, ↓dl_m1, ↓dl_m2, dl_0, dl_1, dl_2, dl_3, dl_4, dl_5, dl_6, dl_7, dl_8, dl_9, dl_10, dl_11, dl_12, dl_13, dl_14, dl_15, dl_16, dl_20, dl_24, dl_31, dl_50, dl_57, dl_67, dl_68, dl_74, dl_75, dl_79, dl_80, dl_99, dl_100, dl_200, dl_210, dl_224, dl_255, dl_289, dl_900, dl_1000, dl_1728, dl_65536, dl_65537, nI_add, pk_mul, pk_sub, pk_div, pk_rem, ds_rem2, nI_clamp, nI_leI, nI_ltI, nI_eq, ds_m1_eq, ds_eq_m1, ds_m2_eq, ds_eq_m2, ds_m1_le, ds_le_m1, ds_m1_lt, ds_lt_m1, ds_in_N, ds_bo0, ds_bo1, if_pos, if_neg, Nat.not_le, Nat.not_lt, not_true_eq_false, not_false_eq_true, if_true, if_false, ne_eq, Option.some.injEq, Prod.mk.injEq, Value.int.injEq, true_and, and_true, and_self, ite_self, Bool.not_eq_true, Bool.not_eq_false, Bool.true_eq_false, Bool.false_eq_true, reduceCtorEq, Nat.zero_add, Nat.reduceAdd, Nat.reduceMul, Nat.reduceSub, ds_setI_row, ds_setL_row, ds_rowI_self, ds_rowI_ne, ds_rowI_2, ds_rowI_rowI, ds_setS_1, ds_setS_21, ds_setS_self, ds_setS_ne, pk_us, pk_un]
      | succ m ih =>
        intro n z1 hn hf hv
        obtain ⟨z2, q1, q2, q3, q4⟩ := r51 N 0 n z1 (by omega) (by omega) hf (fun j hj => by rw [mid0]; exact hv j hj)
        obtain ⟨z3, p1, p2, p3, p4⟩ := ih (n + 1) z2 (by omega) q2 (fun j hj => by rw [q3 j hj, midN])
        refine ⟨z3, ?_, p2, p3, p4.trans q4⟩
        rw [← p1, b_Mod_layBridges_43]
        simp (disch := first | assumption | omega) only [ds_cI, ds_cV, ds_cL, ds_cR, ds_nn, ds_isK_t, ds_isA_t, ds_chk_t, ds_chkN, ds_nz_t, ds_nzN, ds_isB_t, ds_isB_bo, ↓dl_m1, ↓dl_m2, dl_0, dl_1, dl_2, dl_3, dl_4, dl_5, dl_6, dl_7, dl_8, dl_9, dl_10, dl_11, dl_12, dl_13, dl_14, dl_15, dl_16, dl_20, dl_24, dl_31, dl_50, dl_57, dl_67, dl_68, dl_74, dl_75, dl_79, dl_80, dl_99, dl_100, dl_200, dl_210, dl_224, dl_255, dl_289, dl_900, dl_1000, dl_1728, dl_65536, dl_65537, nI_add, pk_mul, pk_sub, pk_div, pk_rem, ds_rem2, nI_clamp, nI_leI, nI_ltI, nI_eq, ds_m1_eq, ds_eq_m1, ds_m2_eq, ds_eq_m2, ds_m1_le, ds_le_m1, ds_m1_lt, ds_lt_m1, ds_in_N, ds_bo0, ds_bo1, if_pos, if_neg, Nat.not_le, Nat.not_lt, not_true_eq_false, not_false_eq_true, if_true, if_false, ne_eq, Option.some.injEq, Prod.mk.injEq, Value.int.injEq, true_and, and_true, and_self, ite_self, Bool.not_eq_true, Bool.not_eq_false, Bool.true_eq_false, Bool.false_eq_true, reduceCtorEq, Nat.zero_add, Nat.reduceAdd, Nat.reduceMul, Nat.reduceSub, ds_setI_row, ds_setL_row, ds_rowI_self, ds_rowI_ne, ds_rowI_2, ds_rowI_rowI, ds_setS_1, ds_setS_21, ds_setS_self, ds_setS_ne, pk_us, pk_un, q1]
    rw [hs] at sI
    let y1 := ds_rowI (zk 12) 99 (upd ((zk 12).1 99) i0 (nI 0))
    obtain ⟨z2, q1, q2, q3, q4⟩ := r43 12 0 y1 (by decide) (fun p hp => by simp only [y1]; rw [ds_rowI_ne _ _ hp]; exact zkf p hp) (fun j hj => by
      simp only [y1, dk_vl]
      rw [ds_rowI_self, ← hs0]
      by_cases h : j = i0
      · rw [h, pk_us]; simp
      · rw [pk_un h, zkv j (by omega)]; simp [h])
    refine ⟨z2, ?_, ?_, q2, q4.trans zk2⟩
    · have ey : ds_rowI (zk 12) 99 (upd ((zk 12).1 99) i0 (nI 0)) = y1 := rfl
      clear_value y1
      rw [c_Mod_layBridges, b_Mod_layBridges_0]
      simp (disch := first | assumption | omega) only [ds_cI, ds_cV, ds_cL, ds_cR, ds_nn, ds_isK_t, ds_isA_t, ds_chk_t, ds_chkN, ds_nz_t, ds_nzN, ds_isB_t, ds_isB_bo, ↓dl_m1, ↓dl_m2, dl_0, dl_1, dl_2, dl_3, dl_4, dl_5, dl_6, dl_7, dl_8, dl_9, dl_10, dl_11, dl_12, dl_13, dl_14, dl_15, dl_16, dl_20, dl_24, dl_31, dl_50, dl_57, dl_67, dl_68, dl_74, dl_75, dl_79, dl_80, dl_99, dl_100, dl_200, dl_210, dl_224, dl_255, dl_289, dl_900, dl_1000, dl_1728, dl_65536, dl_65537, nI_add, pk_mul, pk_sub, pk_div, pk_rem, ds_rem2, nI_clamp, nI_leI, nI_ltI, nI_eq, ds_m1_eq, ds_eq_m1, ds_m2_eq, ds_eq_m2, ds_m1_le, ds_le_m1, ds_m1_lt, ds_lt_m1, ds_in_N, ds_bo0, ds_bo1, if_pos, if_neg, Nat.not_le, Nat.not_lt, not_true_eq_false, not_false_eq_true, if_true, if_false, ne_eq, Option.some.injEq, Prod.mk.injEq, Value.int.injEq, true_and, and_true, and_self, ite_self, Bool.not_eq_true, Bool.not_eq_false, Bool.true_eq_false, Bool.false_eq_true, reduceCtorEq, Nat.zero_add, Nat.reduceAdd, Nat.reduceMul, Nat.reduceSub, ds_setI_row, ds_setL_row, ds_rowI_self, ds_rowI_ne, ds_rowI_2, ds_rowI_rowI, ds_setS_1, ds_setS_21, ds_setS_self, ds_setS_ne, pk_us, pk_un]
      rw [up, b_Mod_layBridges_2]
      simp (disch := first | assumption | omega) only [ds_cI, ds_cV, ds_cL, ds_cR, ds_nn, ds_isK_t, ds_isA_t, ds_chk_t, ds_chkN, ds_nz_t, ds_nzN, ds_isB_t, ds_isB_bo, ↓dl_m1, ↓dl_m2, dl_0, dl_1, dl_2, dl_3, dl_4, dl_5, dl_6, dl_7, dl_8, dl_9, dl_10, dl_11, dl_12, dl_13, dl_14, dl_15, dl_16, dl_20, dl_24, dl_31, dl_50, dl_57, dl_67, dl_68, dl_74, dl_75, dl_79, dl_80, dl_99, dl_100, dl_200, dl_210, dl_224, dl_255, dl_289, dl_900, dl_1000, dl_1728, dl_65536, dl_65537, nI_add, pk_mul, pk_sub, pk_div, pk_rem, ds_rem2, nI_clamp, nI_leI, nI_ltI, nI_eq, ds_m1_eq, ds_eq_m1, ds_m2_eq, ds_eq_m2, ds_m1_le, ds_le_m1, ds_m1_lt, ds_lt_m1, ds_in_N, ds_bo0, ds_bo1, if_pos, if_neg, Nat.not_le, Nat.not_lt, not_true_eq_false, not_false_eq_true, if_true, if_false, ne_eq, Option.some.injEq, Prod.mk.injEq, Value.int.injEq, true_and, and_true, and_self, ite_self, Bool.not_eq_true, Bool.not_eq_false, Bool.true_eq_false, Bool.false_eq_true, reduceCtorEq, Nat.zero_add, Nat.reduceAdd, Nat.reduceMul, Nat.reduceSub, ds_setI_row, ds_setL_row, ds_rowI_self, ds_rowI_ne, ds_rowI_2, ds_rowI_rowI, ds_setS_1, ds_setS_21, ds_setS_self, ds_setS_ne, pk_us, pk_un, sI, ey, q1]
    · intro j hj
      exact q3 j hj
