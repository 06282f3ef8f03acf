/-! runs -/
theorem s_fill (d p n : Nat) (x : Int32) (z : ds_St) (hK : ds_K p = 11) (hN : ds_N p = n) (hn : n < 2 ^ 31) : ds_call (d + 1) j_Arrays_fill [.ref p, .int x] z = some (none, ds_rowI z p (fun j => if j < n then x else z.1 p j)) := by
  let zk : Nat → ds_St := fun k => ds_rowI z p (fun j => if j < k then x else z.1 p j)
  have up := ds_up (F := fun k => ds_Rw ds_c_Arrays_fill ds_u_Arrays_fill (ds_call (d + 0)) 5 [some (.ref p), some (.int x), some (.int (nI k)), some (.int (nI n))] [] (zk k)) (n := n) 0 (by
    intro k _ hk
    rw [b_Arrays_fill_5]
    have er : ds_rowI (zk k) p (upd ((zk k).1 p) k x) = zk (k + 1) := by
      simp only [zk]
      rw [ds_rowI_rowI, ds_rowI_self]
      apply ds_rowI_congr
      intro j
      dsimp only [upd]
      by_cases h : j = k
      · rw [if_pos h, if_pos (by omega)]
      · rw [if_neg h]
        by_cases h2 : j < k
        · rw [if_pos h2, if_pos (by omega)]
        · rw [if_neg h2, if_neg (by omega)]
    simp (disch := first | assumption | omega) only [ds_cI, ds_cV, ds_cL, ds_cR, ds_nn, ds_isK_t, ds_isA_t, ds_chk_t, ds_chkN, ds_nz_t, ds_nzN, ds_isB_t, ds_isB_bo, ↓dl_m1, ↓dl_m2, dl_0, dl_1, dl_2, dl_3, dl_4, dl_5, dl_6, dl_7, dl_8, dl_9, dl_10, dl_11, dl_12, dl_13, dl_14, dl_15, dl_16, dl_20, dl_24, dl_31, dl_50, dl_57, dl_67, dl_68, dl_74, dl_75, dl_79, dl_80, dl_99, dl_100, dl_200, dl_210, dl_224, dl_255, dl_289, dl_900, dl_1000, dl_1728, dl_65536, dl_65537, nI_add, pk_mul, pk_sub, pk_div, pk_rem, ds_rem2, nI_clamp, nI_leI, nI_ltI, nI_eq, ds_m1_eq, ds_eq_m1, ds_m2_eq, ds_eq_m2, ds_m1_le, ds_le_m1, ds_m1_lt, ds_lt_m1, ds_in_N, ds_bo0, ds_bo1, if_pos, if_neg, Nat.not_le, Nat.not_lt, not_true_eq_false, not_false_eq_true, if_true, if_false, ne_eq, Option.some.injEq, Prod.mk.injEq, Value.int.injEq, true_and, and_true, and_self, ite_self, Bool.not_eq_true, Bool.not_eq_false, Bool.true_eq_false, Bool.false_eq_true, reduceCtorEq, Nat.zero_add, Nat.reduceAdd, Nat.reduceMul, Nat.reduceSub, ds_setI_row, ds_setL_row, ds_rowI_self, ds_rowI_ne, ds_rowI_2, ds_rowI_rowI, ds_setS_1, ds_setS_21, ds_setS_self, ds_setS_ne, pk_us, pk_un, hN, er]) (Nat.zero_le _)
  have z0 : zk 0 = z := by
    simp only [zk, Nat.not_lt_zero, if_false]
    exact ds_rowI_id z p
  try simp only at up
  rw [z0] at up
  have e12 : Int32.ofNat n = nI n := rfl
  have up' : ds_Rw ds_c_Arrays_fill ds_u_Arrays_fill (ds_call d) 5 [some (.ref p), some (.int x), some (.int (nI 0)), some (.int (nI n))] [] z = _ := up
  rw [c_Arrays_fill, b_Arrays_fill_0, ds_isA_t hK, hN, e12, dl_0, up', b_Arrays_fill_5]
  simp (disch := first | assumption | omega) only [ds_cI, ds_cV, ds_cL, ds_cR, ds_nn, ds_isK_t, ds_isA_t, ds_chk_t, ds_chkN, ds_nz_t, ds_nzN, ds_isB_t, ds_isB_bo, ↓dl_m1, ↓dl_m2, dl_0, dl_1, dl_2, dl_3, dl_4, dl_5, dl_6, dl_7, dl_8, dl_9, dl_10, dl_11, dl_12, dl_13, dl_14, dl_15, dl_16, dl_20, dl_24, dl_31, dl_50, dl_57, dl_67, dl_68, dl_74, dl_75, dl_79, dl_80, dl_99, dl_100, dl_200, dl_210, dl_224, dl_255, dl_289, dl_900, dl_1000, dl_1728, dl_65536, dl_65537, nI_add, pk_mul, pk_sub, pk_div, pk_rem, ds_rem2, nI_clamp, nI_leI, nI_ltI, nI_eq, ds_m1_eq, ds_eq_m1, ds_m2_eq, ds_eq_m2, ds_m1_le, ds_le_m1, ds_m1_lt, ds_lt_m1, ds_in_N, ds_bo0, ds_bo1, if_pos, if_neg, Nat.not_le, Nat.not_lt, not_true_eq_false, not_false_eq_true, if_true, if_false, ne_eq, Option.some.injEq, Prod.mk.injEq, Value.int.injEq, true_and, and_true, and_self, ite_self, Bool.not_eq_true, Bool.not_eq_false, Bool.true_eq_false, Bool.false_eq_true, reduceCtorEq, Nat.zero_add, Nat.reduceAdd, Nat.reduceMul, Nat.reduceSub, ds_setI_row, ds_setL_row, ds_rowI_self, ds_rowI_ne, ds_rowI_2, ds_rowI_rowI, ds_setS_1, ds_setS_21, ds_setS_self, ds_setS_ne, pk_us, pk_un]
  rfl
theorem dk_max_congr {f g : Nat → Nat} : ∀ {n : Nat}, (∀ k, k < n → f k = g k) → dk_max f n = dk_max g n
  | 0, _ => rfl
  | n + 1, h => by
    simp only [dk_max]
    rw [dk_max_congr (fun k q => h k (by omega)), h n (by omega)]
theorem dk_max_ge {f : Nat → Nat} {n k : Nat} (h : k < n) : f k ≤ dk_max f n := dk_max_le.mp (Nat.le_refl _) k h
theorem dk_max_cut {f : Nat → Nat} {N L : Nat} (hL : L ≤ N) (hz : ∀ i, L ≤ i → i < N → f i = 0) : dk_max f N = dk_max f L := by
  apply Nat.le_antisymm
  · rw [dk_max_le]
    intro k hk
    rcases Nat.lt_or_ge k L with h | h
    · exact dk_max_ge h
    · rw [hz k h hk]; exact Nat.zero_le _
  · rw [dk_max_le]
    intro k hk
    exact dk_max_ge (by omega)
theorem dk_max_at {f : Nat → Nat} : ∀ {n : Nat}, 0 < dk_max f n → ∃ j, j < n ∧ f j = dk_max f n := by
  intro n
  induction n with
  | zero => intro h; exact absurd h (by simp [dk_max])
  | succ n ih =>
    intro h
    simp only [dk_max] at h ⊢
    by_cases q : dk_max f n < f n
    · rw [if_pos q]
      exact ⟨n, by omega, rfl⟩
    · rw [if_neg q] at h ⊢
      obtain ⟨j, h1, h2⟩ := ih h
      exact ⟨j, by omega, h2⟩
theorem dk_max_upd {f g : Nat → Nat} {n i v : Nat} (hi : i < n) (h0 : f i = 0) (hv : g i = v) (hne : ∀ j, j ≠ i → g j = f j) : dk_max g n = if dk_max f n < v then v else dk_max f n := by
  apply Nat.le_antisymm
  · rw [dk_max_le]
    intro k hk
    by_cases h : k = i
    · subst h
      rw [hv]
      split <;> omega
    · rw [hne k h]
      have := dk_max_ge (f := f) hk
      split <;> omega
  · have h1 := dk_max_ge (f := g) hi
    rw [hv] at h1
    have h2 : dk_max f n ≤ dk_max g n := by
      rw [dk_max_le]
      intro k hk
      by_cases h : k = i
      · subst h; rw [h0]; exact Nat.zero_le _
      · rw [← hne k h]; exact dk_max_ge hk
    split <;> omega
/-- the longest run from island i, in f steps -/
def dk_rq (D : Nat → Nat → Nat) (K : Nat → Nat) : Nat → Nat → Nat
  | 0, _ => 0
  | f + 1, i => if (D 1 i == 2 || !(dk_is D K (K 12) i)) = true then 0 else dk_max (fun j => if (D 3 j == D 3 i + 1 && dk_be (dk_A D) K (K 12) i j) = true then dk_rq D K f j else 0) (D 0 4) + 1
theorem dk_rf_le (D : Nat → Nat → Nat) (K : Nat → Nat) : ∀ f i, dk_rq D K f i ≤ f := by
  intro f
  induction f with
  | zero => intro i; exact Nat.le_refl _
  | succ f ih =>
    intro i
    simp only [dk_rq]
    split
    · exact Nat.zero_le _
    · have : dk_max (fun j => if (D 3 j == D 3 i + 1 && dk_be (dk_A D) K (K 12) i j) = true then dk_rq D K f j else 0) (D 0 4) ≤ f := by
        rw [dk_max_le]
        intro j _
        split
        · exact ih j
        · exact Nat.zero_le _
      omega
theorem dk_rf_st {D : Nat → Nat → Nat} {K : Nat → Nat} (hD : dk_ok D) : ∀ f i, i < D 0 4 → 10 ≤ D 3 i + f → dk_rq D K (f + 1) i = dk_rq D K f i := by
  have oi := hD.2.2.2.2.2.2.2.2.1
  intro f
  induction f with
  | zero =>
    intro i hi h
    have := (oi i hi).2.2.1
    omega
  | succ f ih =>
    intro i hi h
    have e : dk_max (fun j => if (D 3 j == D 3 i + 1 && dk_be (dk_A D) K (K 12) i j) = true then dk_rq D K (f + 1) j else 0) (D 0 4) = dk_max (fun j => if (D 3 j == D 3 i + 1 && dk_be (dk_A D) K (K 12) i j) = true then dk_rq D K f j else 0) (D 0 4) := by
      apply dk_max_congr
      intro j hj
      by_cases q : (D 3 j == D 3 i + 1 && dk_be (dk_A D) K (K 12) i j) = true
      · rw [if_pos q, if_pos q]
        rw [Bool.and_eq_true] at q
        have q1 : D 3 j = D 3 i + 1 := by simpa using q.1
        exact ih j hj (by omega)
      · rw [if_neg q, if_neg q]
    show (if (D 1 i == 2 || !(dk_is D K (K 12) i)) = true then 0 else dk_max (fun j => if (D 3 j == D 3 i + 1 && dk_be (dk_A D) K (K 12) i j) = true then dk_rq D K (f + 1) j else 0) (D 0 4) + 1) = (if (D 1 i == 2 || !(dk_is D K (K 12) i)) = true then 0 else dk_max (fun j => if (D 3 j == D 3 i + 1 && dk_be (dk_A D) K (K 12) i j) = true then dk_rq D K f j else 0) (D 0 4) + 1)
    rw [e]
def dk_R (D : Nat → Nat → Nat) (K : Nat → Nat) (i : Nat) : Nat := dk_rq D K 10 i
def dk_gR (D : Nat → Nat → Nat) (K : Nat → Nat) (i j : Nat) : Nat := if (D 3 j == D 3 i + 1 && dk_be (dk_A D) K (K 12) i j) = true then dk_R D K j else 0
theorem dk_R_eq {D : Nat → Nat → Nat} {K : Nat → Nat} {i : Nat} (hD : dk_ok D) (hi : i < D 0 4) : dk_R D K i = if (D 1 i == 2 || !(dk_is D K (K 12) i)) = true then 0 else dk_max (dk_gR D K i) (D 0 4) + 1 := by
  have e := dk_rf_st (K := K) hD 10 i hi (by omega)
  unfold dk_R
  rw [← e]
  rfl
theorem dk_R_le (D : Nat → Nat → Nat) (K : Nat → Nat) (i : Nat) : dk_R D K i ≤ 10 := dk_rf_le D K 10 i
theorem dk_gR_le (D : Nat → Nat → Nat) (K : Nat → Nat) (i j : Nat) : dk_gR D K i j ≤ 10 := by
  unfold dk_gR
  split
  · exact dk_R_le D K j
  · exact Nat.zero_le _
theorem dk_mgR_le (D : Nat → Nat → Nat) (K : Nat → Nat) (i n : Nat) : dk_max (dk_gR D K i) n ≤ 10 := dk_max_le.mpr (fun j _ => dk_gR_le D K i j)
theorem dk_mR_le (D : Nat → Nat → Nat) (K : Nat → Nat) (n : Nat) : dk_max (dk_R D K) n ≤ 10 := dk_max_le.mpr (fun j _ => dk_R_le D K j)
theorem s_runFrom (d : Nat) (z : ds_St) (D : Nat → Nat → Nat) (K : Nat → Nat) (hM : dk_HM z D K) (hD : dk_ok D) (hK : dk_okK D K) : ∀ f i, i < D 0 4 → 10 ≤ D 3 i + f → ds_call (d + f + 4) j_Mod_runFrom [.ref 90, .int (nI i)] z = some (some (.int (nI (dk_R D K i))), z) := by
  have n12 := hD.2.2.2.2.1.2
  have oi := hD.2.2.2.2.2.2.2.2.1
  have m4 := hM.1.1.2.2.2.2.1
  have hm := dk_HM_dm hM hK
  intro f
  induction f with
  | zero =>
    intro i hi h
    have := (oi i hi).2.2.1
    omega
  | succ f ih =>
    intro i hi h
    have oi1 := (oi i hi).2.2.1
    have jk := s_mjoker (d + f + 2) i z D hM.1 hD hi
    have is := s_isInSea (d + f + 2) 95 (K 12) i z D K hM.1 hD hm (by omega)
    have be := fun j => s_beBeside (d + f + 1) 95 (K 12) i j z D K hM.1 hD hm (by omega)
    have of := fun i w => s_of (d + f + 3) i w z D hM.1 hD
    have ofi := of i 2 hi (by decide)
    have ed : d + (f + 1) + 4 = (d + f + 4) + 1 := by omega
    rw [ed, c_Mod_runFrom, b_Mod_runFrom_0, dk_R_eq hD hi]
    rcases Bool.eq_false_or_eq_true (D 1 i == 2) with hj | hj
    · rw [hj] at jk
      simp (disch := first | assumption | omega) only [ds_cI, ds_cV, ds_cL, ds_cR, ds_nn, ds_isK_t, ds_isA_t, ds_chk_t, ds_chkN, ds_nz_t, ds_nzN, ds_isB_t, ds_isB_bo, ↓dl_m1, ↓dl_m2, dl_0, dl_1, dl_2, dl_3, dl_4, dl_5, dl_6, dl_7, dl_8, dl_9, dl_10, dl_11, dl_12, dl_13, dl_14, dl_15, dl_16, dl_20, dl_24, dl_31, dl_50, dl_57, dl_67, dl_68, dl_74, dl_75, dl_79, dl_80, dl_99, dl_100, dl_200, dl_210, dl_224, dl_255, dl_289, dl_900, dl_1000, dl_1728, dl_65536, dl_65537, nI_add, pk_mul, pk_sub, pk_div, pk_rem, ds_rem2, nI_clamp, nI_leI, nI_ltI, nI_eq, ds_m1_eq, ds_eq_m1, ds_m2_eq, ds_eq_m2, ds_m1_le, ds_le_m1, ds_m1_lt, ds_lt_m1, ds_in_N, ds_bo0, ds_bo1, if_pos, if_neg, Nat.not_le, Nat.not_lt, not_true_eq_false, not_false_eq_true, if_true, if_false, ne_eq, Option.some.injEq, Prod.mk.injEq, Value.int.injEq, true_and, and_true, and_self, ite_self, Bool.not_eq_true, Bool.not_eq_false, Bool.true_eq_false, Bool.false_eq_true, reduceCtorEq, Nat.zero_add, Nat.reduceAdd, Nat.reduceMul, Nat.reduceSub, ds_setI_row, ds_setL_row, ds_rowI_self, ds_rowI_ne, ds_rowI_2, ds_rowI_rowI, ds_setS_1, ds_setS_21, ds_setS_self, ds_setS_ne, pk_us, pk_un, jk, hj, Bool.true_or]
    · rw [hj] at jk
      rcases Bool.eq_false_or_eq_true (dk_is D K (K 12) i) with hs | hs
      · rw [hs] at is
        have up := ds_up (F := fun k => ds_Rw ds_c_Mod_runFrom ds_u_Mod_runFrom (ds_call (d + f + 4)) 26 [some (.ref 90), some (.int (nI i)), some (.int (nI ((dk_max (dk_gR D K i) k)))), some (.int (nI k)), none] [] z) (n := D 0 4) 0 (by
          intro k _ hk
          have oik := (oi k hk).2.2.1
          have ofk := of k 2 hk (by decide)
          have bek := be k (by omega)
          have b1 := dk_mgR_le D K i k
          have b2 := dk_R_le D K k
          rw [b_Mod_runFrom_26]
          simp only [dk_max]
          by_cases q1 : D 3 k = D 3 i + 1
          · have q1' : (D 3 k == D 3 i + 1) = true := by simpa using q1
            rcases Bool.eq_false_or_eq_true (dk_be (dk_A D) K (K 12) i k) with q2 | q2
            · have r := ih k hk (by omega)
              have gk : dk_gR D K i k = dk_R D K k := by
                unfold dk_gR
                rw [q1', q2]
                rfl
              rw [q2] at bek
              rw [gk]
              generalize dk_max (dk_gR D K i) k = A at *
              generalize dk_R D K k = B at *
              by_cases hAB : A < B
              · simp (disch := first | assumption | omega) only [ds_cI, ds_cV, ds_cL, ds_cR, ds_nn, ds_isK_t, ds_isA_t, ds_chk_t, ds_chkN, ds_nz_t, ds_nzN, ds_isB_t, ds_isB_bo, ↓dl_m1, ↓dl_m2, dl_0, dl_1, dl_2, dl_3, dl_4, dl_5, dl_6, dl_7, dl_8, dl_9, dl_10, dl_11, dl_12, dl_13, dl_14, dl_15, dl_16, dl_20, dl_24, dl_31, dl_50, dl_57, dl_67, dl_68, dl_74, dl_75, dl_79, dl_80, dl_99, dl_100, dl_200, dl_210, dl_224, dl_255, dl_289, dl_900, dl_1000, dl_1728, dl_65536, dl_65537, nI_add, pk_mul, pk_sub, pk_div, pk_rem, ds_rem2, nI_clamp, nI_leI, nI_ltI, nI_eq, ds_m1_eq, ds_eq_m1, ds_m2_eq, ds_eq_m2, ds_m1_le, ds_le_m1, ds_m1_lt, ds_lt_m1, ds_in_N, ds_bo0, ds_bo1, if_pos, if_neg, Nat.not_le, Nat.not_lt, not_true_eq_false, not_false_eq_true, if_true, if_false, ne_eq, Option.some.injEq, Prod.mk.injEq, Value.int.injEq, true_and, and_true, and_self, ite_self, Bool.not_eq_true, Bool.not_eq_false, Bool.true_eq_false, Bool.false_eq_true, reduceCtorEq, Nat.zero_add, Nat.reduceAdd, Nat.reduceMul, Nat.reduceSub, ds_setI_row, ds_setL_row, ds_rowI_self, ds_rowI_ne, ds_rowI_2, ds_rowI_rowI, ds_setS_1, ds_setS_21, ds_setS_self, ds_setS_ne, pk_us, pk_un, m4, ofk, ofi, q1, bek, r, hAB]
              · simp (disch := first | assumption | omega) only [ds_cI, ds_cV, ds_cL, ds_cR, ds_nn, ds_isK_t, ds_isA_t, ds_chk_t, ds_chkN, ds_nz_t, ds_nzN, ds_isB_t, ds_isB_bo, ↓dl_m1, ↓dl_m2, dl_0, dl_1, dl_2, dl_3, dl_4, dl_5, dl_6, dl_7, dl_8, dl_9, dl_10, dl_11, dl_12, dl_13, dl_14, dl_15, dl_16, dl_20, dl_24, dl_31, dl_50, dl_57, dl_67, dl_68, dl_74, dl_75, dl_79, dl_80, dl_99, dl_100, dl_200, dl_210, dl_224, dl_255, dl_289, dl_900, dl_1000, dl_1728, dl_65536, dl_65537, nI_add, pk_mul, pk_sub, pk_div, pk_rem, ds_rem2, nI_clamp, nI_leI, nI_ltI, nI_eq, ds_m1_eq, ds_eq_m1, ds_m2_eq, ds_eq_m2, ds_m1_le, ds_le_m1, ds_m1_lt, ds_lt_m1, ds_in_N, ds_bo0, ds_bo1, if_pos, if_neg, Nat.not_le, Nat.not_lt, not_true_eq_false, not_false_eq_true, if_true, if_false, ne_eq, Option.some.injEq, Prod.mk.injEq, Value.int.injEq, true_and, and_true, and_self, ite_self, Bool.not_eq_true, Bool.not_eq_false, Bool.true_eq_false, Bool.false_eq_true, reduceCtorEq, Nat.zero_add, Nat.reduceAdd, Nat.reduceMul, Nat.reduceSub, ds_setI_row, ds_setL_row, ds_rowI_self, ds_rowI_ne, ds_rowI_2, ds_rowI_rowI, ds_setS_1, ds_setS_21, ds_setS_self, ds_setS_ne, pk_us, pk_un, m4, ofk, ofi, q1, bek, r, hAB]
            · have gk : dk_gR D K i k = 0 := by
                unfold dk_gR
                rw [q2, Bool.and_false]
                rfl
              rw [q2] at bek
              rw [gk, if_neg (Nat.not_lt_zero _)]
              generalize dk_max (dk_gR D K i) k = A at *
              simp (disch := first | assumption | omega) only [ds_cI, ds_cV, ds_cL, ds_cR, ds_nn, ds_isK_t, ds_isA_t, ds_chk_t, ds_chkN, ds_nz_t, ds_nzN, ds_isB_t, ds_isB_bo, ↓dl_m1, ↓dl_m2, dl_0, dl_1, dl_2, dl_3, dl_4, dl_5, dl_6, dl_7, dl_8, dl_9, dl_10, dl_11, dl_12, dl_13, dl_14, dl_15, dl_16, dl_20, dl_24, dl_31, dl_50, dl_57, dl_67, dl_68, dl_74, dl_75, dl_79, dl_80, dl_99, dl_100, dl_200, dl_210, dl_224, dl_255, dl_289, dl_900, dl_1000, dl_1728, dl_65536, dl_65537, nI_add, pk_mul, pk_sub, pk_div, pk_rem, ds_rem2, nI_clamp, nI_leI, nI_ltI, nI_eq, ds_m1_eq, ds_eq_m1, ds_m2_eq, ds_eq_m2, ds_m1_le, ds_le_m1, ds_m1_lt, ds_lt_m1, ds_in_N, ds_bo0, ds_bo1, if_pos, if_neg, Nat.not_le, Nat.not_lt, not_true_eq_false, not_false_eq_true, if_true, if_false, ne_eq, Option.some.injEq, Prod.mk.injEq, Value.int.injEq, true_and, and_true, and_self, ite_self, Bool.not_eq_true, Bool.not_eq_false, Bool.true_eq_false, Bool.false_eq_true, reduceCtorEq, Nat.zero_add, Nat.reduceAdd, Nat.reduceMul, Nat.reduceSub, ds_setI_row, ds_setL_row, ds_rowI_self, ds_rowI_ne, ds_rowI_2, ds_rowI_rowI, ds_setS_1, ds_setS_21, ds_setS_self, ds_setS_ne, pk_us, pk_un, m4, ofk, ofi, q1, bek]
          · have q1' : (D 3 k == D 3 i + 1) = false := by simpa using q1
            have gk : dk_gR D K i k = 0 := by
              unfold dk_gR
              rw [q1', Bool.false_and]
              rfl
            rw [gk, if_neg (Nat.not_lt_zero _)]
            generalize dk_max (dk_gR D K i) k = A at *
            simp (disch := first | assumption | omega) only [ds_cI, ds_cV, ds_cL, ds_cR, ds_nn, ds_isK_t, ds_isA_t, ds_chk_t, ds_chkN, ds_nz_t, ds_nzN, ds_isB_t, ds_isB_bo, ↓dl_m1, ↓dl_m2, dl_0, dl_1, dl_2, dl_3, dl_4, dl_5, dl_6, dl_7, dl_8, dl_9, dl_10, dl_11, dl_12, dl_13, dl_14, dl_15, dl_16, dl_20, dl_24, dl_31, dl_50, dl_57, dl_67, dl_68, dl_74, dl_75, dl_79, dl_80, dl_99, dl_100, dl_200, dl_210, dl_224, dl_255, dl_289, dl_900, dl_1000, dl_1728, dl_65536, dl_65537, nI_add, pk_mul, pk_sub, pk_div, pk_rem, ds_rem2, nI_clamp, nI_leI, nI_ltI, nI_eq, ds_m1_eq, ds_eq_m1, ds_m2_eq, ds_eq_m2, ds_m1_le, ds_le_m1, ds_m1_lt, ds_lt_m1, ds_in_N, ds_bo0, ds_bo1, if_pos, if_neg, Nat.not_le, Nat.not_lt, not_true_eq_false, not_false_eq_true, if_true, if_false, ne_eq, Option.some.injEq, Prod.mk.injEq, Value.int.injEq, true_and, and_true, and_self, ite_self, Bool.not_eq_true, Bool.not_eq_false, Bool.true_eq_false, Bool.false_eq_true, reduceCtorEq, Nat.zero_add, Nat.reduceAdd, Nat.reduceMul, Nat.reduceSub, ds_setI_row, ds_setL_row, ds_rowI_self, ds_rowI_ne, ds_rowI_2, ds_rowI_rowI, ds_setS_1, ds_setS_21, ds_setS_self, ds_setS_ne, pk_us, pk_un, m4, ofk, ofi, q1]) (Nat.zero_le _)
        have e0 : dk_max (dk_gR D K i) 0 = 0 := rfl
        try simp only at up
        rw [e0] at up
        simp (disch := first | assumption | omega) only [ds_cI, ds_cV, ds_cL, ds_cR, ds_nn, ds_isK_t, ds_isA_t, ds_chk_t, ds_chkN, ds_nz_t, ds_nzN, ds_isB_t, ds_isB_bo, ↓dl_m1, ↓dl_m2, dl_0, dl_1, dl_2, dl_3, dl_4, dl_5, dl_6, dl_7, dl_8, dl_9, dl_10, dl_11, dl_12, dl_13, dl_14, dl_15, dl_16, dl_20, dl_24, dl_31, dl_50, dl_57, dl_67, dl_68, dl_74, dl_75, dl_79, dl_80, dl_99, dl_100, dl_200, dl_210, dl_224, dl_255, dl_289, dl_900, dl_1000, dl_1728, dl_65536, dl_65537, nI_add, pk_mul, pk_sub, pk_div, pk_rem, ds_rem2, nI_clamp, nI_leI, nI_ltI, nI_eq, ds_m1_eq, ds_eq_m1, ds_m2_eq, ds_eq_m2, ds_m1_le, ds_le_m1, ds_m1_lt, ds_lt_m1, ds_in_N, ds_bo0, ds_bo1, if_pos, if_neg, Nat.not_le, Nat.not_lt, not_true_eq_false, not_false_eq_true, if_true, if_false, ne_eq, Option.some.injEq, Prod.mk.injEq, Value.int.injEq, true_and, and_true, and_self, ite_self, Bool.not_eq_true, Bool.not_eq_false, Bool.true_eq_false, Bool.false_eq_true, reduceCtorEq, Nat.zero_add, Nat.reduceAdd, Nat.reduceMul, Nat.reduceSub, ds_setI_row, ds_setL_row, ds_rowI_self, ds_rowI_ne, ds_rowI_2, ds_rowI_rowI, ds_setS_1, ds_setS_21, ds_setS_self, ds_setS_ne, pk_us, pk_un, jk, is, hj, hs, Bool.not_true, Bool.or_false]
        rw [up, b_Mod_runFrom_26]
        generalize dk_max (dk_gR D K i) (D 0 4) = A at *
        simp (disch := first | assumption | omega) only [ds_cI, ds_cV, ds_cL, ds_cR, ds_nn, ds_isK_t, ds_isA_t, ds_chk_t, ds_chkN, ds_nz_t, ds_nzN, ds_isB_t, ds_isB_bo, ↓dl_m1, ↓dl_m2, dl_0, dl_1, dl_2, dl_3, dl_4, dl_5, dl_6, dl_7, dl_8, dl_9, dl_10, dl_11, dl_12, dl_13, dl_14, dl_15, dl_16, dl_20, dl_24, dl_31, dl_50, dl_57, dl_67, dl_68, dl_74, dl_75, dl_79, dl_80, dl_99, dl_100, dl_200, dl_210, dl_224, dl_255, dl_289, dl_900, dl_1000, dl_1728, dl_65536, dl_65537, nI_add, pk_mul, pk_sub, pk_div, pk_rem, ds_rem2, nI_clamp, nI_leI, nI_ltI, nI_eq, ds_m1_eq, ds_eq_m1, ds_m2_eq, ds_eq_m2, ds_m1_le, ds_le_m1, ds_m1_lt, ds_lt_m1, ds_in_N, ds_bo0, ds_bo1, if_pos, if_neg, Nat.not_le, Nat.not_lt, not_true_eq_false, not_false_eq_true, if_true, if_false, ne_eq, Option.some.injEq, Prod.mk.injEq, Value.int.injEq, true_and, and_true, and_self, ite_self, Bool.not_eq_true, Bool.not_eq_false, Bool.true_eq_false, Bool.false_eq_true, reduceCtorEq, Nat.zero_add, Nat.reduceAdd, Nat.reduceMul, Nat.reduceSub, ds_setI_row, ds_setL_row, ds_rowI_self, ds_rowI_ne, ds_rowI_2, ds_rowI_rowI, ds_setS_1, ds_setS_21, ds_setS_self, ds_setS_ne, pk_us, pk_un, m4]
      · rw [hs] at is
        simp (disch := first | assumption | omega) only [ds_cI, ds_cV, ds_cL, ds_cR, ds_nn, ds_isK_t, ds_isA_t, ds_chk_t, ds_chkN, ds_nz_t, ds_nzN, ds_isB_t, ds_isB_bo, ↓dl_m1, ↓dl_m2, dl_0, dl_1, dl_2, dl_3, dl_4, dl_5, dl_6, dl_7, dl_8, dl_9, dl_10, dl_11, dl_12, dl_13, dl_14, dl_15, dl_16, dl_20, dl_24, dl_31, dl_50, dl_57, dl_67, dl_68, dl_74, dl_75, dl_79, dl_80, dl_99, dl_100, dl_200, dl_210, dl_224, dl_255, dl_289, dl_900, dl_1000, dl_1728, dl_65536, dl_65537, nI_add, pk_mul, pk_sub, pk_div, pk_rem, ds_rem2, nI_clamp, nI_leI, nI_ltI, nI_eq, ds_m1_eq, ds_eq_m1, ds_m2_eq, ds_eq_m2, ds_m1_le, ds_le_m1, ds_m1_lt, ds_lt_m1, ds_in_N, ds_bo0, ds_bo1, if_pos, if_neg, Nat.not_le, Nat.not_lt, not_true_eq_false, not_false_eq_true, if_true, if_false, ne_eq, Option.some.injEq, Prod.mk.injEq, Value.int.injEq, true_and, and_true, and_self, ite_self, Bool.not_eq_true, Bool.not_eq_false, Bool.true_eq_false, Bool.false_eq_true, reduceCtorEq, Nat.zero_add, Nat.reduceAdd, Nat.reduceMul, Nat.reduceSub, ds_setI_row, ds_setL_row, ds_rowI_self, ds_rowI_ne, ds_rowI_2, ds_rowI_rowI, ds_setS_1, ds_setS_21, ds_setS_self, ds_setS_ne, pk_us, pk_un, jk, is, hj, hs, Bool.not_false, Bool.or_true]
theorem s_runNow (d : Nat) (z : ds_St) (D : Nat → Nat → Nat) (K : Nat → Nat) (hM : dk_HM z D K) (hD : dk_ok D) (hK : dk_okK D K) : ds_call (d + 15) j_Mod_runNow [.ref 90] z = some (some (.int (nI (dk_max (dk_R D K) (D 0 4)))), z) := by
  have n12 := hD.2.2.2.2.1.2
  have m4 := hM.1.1.2.2.2.2.1
  have rf := fun i hi => s_runFrom d z D K hM hD hK 10 i hi (by omega)
  rw [c_Mod_runNow, b_Mod_runNow_0]
  have up := ds_up (F := fun k => ds_Rw ds_c_Mod_runNow ds_u_Mod_runNow (ds_call (d + 14)) 4 [some (.ref 90), some (.int (nI ((dk_max (dk_R D K) k)))), some (.int (nI k))] [] z) (n := D 0 4) 0 (by
    intro k _ hk
    have r := rf k hk
    have b1 := dk_mR_le D K k
    have b2 := dk_R_le D K k
    rw [b_Mod_runNow_4]
    simp only [dk_max]
    generalize dk_max (dk_R D K) k = A at *
    generalize dk_R D K k = B at *
    by_cases hAB : A < B
    · simp (disch := first | assumption | omega) only [ds_cI, ds_cV, ds_cL, ds_cR, ds_nn, ds_isK_t, ds_isA_t, ds_chk_t, ds_chkN, ds_nz_t, ds_nzN, ds_isB_t, ds_isB_bo, ↓dl_m1, ↓dl_m2, dl_0, dl_1, dl_2, dl_3, dl_4, dl_5, dl_6, dl_7, dl_8, dl_9, dl_10, dl_11, dl_12, dl_13, dl_14, dl_15, dl_16, dl_20, dl_24, dl_31, dl_50, dl_57, dl_67, dl_68, dl_74, dl_75, dl_79, dl_80, dl_99, dl_100, dl_200, dl_210, dl_224, dl_255, dl_289, dl_900, dl_1000, dl_1728, dl_65536, dl_65537, nI_add, pk_mul, pk_sub, pk_div, pk_rem, ds_rem2, nI_clamp, nI_leI, nI_ltI, nI_eq, ds_m1_eq, ds_eq_m1, ds_m2_eq, ds_eq_m2, ds_m1_le, ds_le_m1, ds_m1_lt, ds_lt_m1, ds_in_N, ds_bo0, ds_bo1, if_pos, if_neg, Nat.not_le, Nat.not_lt, not_true_eq_false, not_false_eq_true, if_true, if_false, ne_eq, Option.some.injEq, Prod.mk.injEq, Value.int.injEq, true_and, and_true, and_self, ite_self, Bool.not_eq_true, Bool.not_eq_false, Bool.true_eq_false, Bool.false_eq_true, reduceCtorEq, Nat.zero_add, Nat.reduceAdd, Nat.reduceMul, Nat.reduceSub, ds_setI_row, ds_setL_row, ds_rowI_self, ds_rowI_ne, ds_rowI_2, ds_rowI_rowI, ds_setS_1, ds_setS_21, ds_setS_self, ds_setS_ne, pk_us, pk_un, m4, r, hAB]
    · simp (disch := first | assumption | omega) only [ds_cI, ds_cV, ds_cL, ds_cR, ds_nn, ds_isK_t, ds_isA_t, ds_chk_t, ds_chkN, ds_nz_t, ds_nzN, ds_isB_t, ds_isB_bo, ↓dl_m1, ↓dl_m2, dl_0, dl_1, dl_2, dl_3, dl_4, dl_5, dl_6, dl_7, dl_8, dl_9, dl_10, dl_11, dl_12, dl_13, dl_14, dl_15, dl_16, dl_20, dl_24, dl_31, dl_50, dl_57, dl_67, dl_68, dl_74, dl_75, dl_79, dl_80, dl_99, dl_100, dl_200, dl_210, dl_224, dl_255, dl_289, dl_900, dl_1000, dl_1728, dl_65536, dl_65537, nI_add, pk_mul, pk_sub, pk_div, pk_rem, ds_rem2, nI_clamp, nI_leI, nI_ltI, nI_eq, ds_m1_eq, ds_eq_m1, ds_m2_eq, ds_eq_m2, ds_m1_le, ds_le_m1, ds_m1_lt, ds_lt_m1, ds_in_N, ds_bo0, ds_bo1, if_pos, if_neg, Nat.not_le, Nat.not_lt, not_true_eq_false, not_false_eq_true, if_true, if_false, ne_eq, Option.some.injEq, Prod.mk.injEq, Value.int.injEq, true_and, and_true, and_self, ite_self, Bool.not_eq_true, Bool.not_eq_false, Bool.true_eq_false, Bool.false_eq_true, reduceCtorEq, Nat.zero_add, Nat.reduceAdd, Nat.reduceMul, Nat.reduceSub, ds_setI_row, ds_setL_row, ds_rowI_self, ds_rowI_ne, ds_rowI_2, ds_rowI_rowI, ds_setS_1, ds_setS_21, ds_setS_self, ds_setS_ne, pk_us, pk_un, m4, r, hAB]) (Nat.zero_le _)
  have e0 : dk_max (dk_R D K) 0 = 0 := rfl
  try simp only at up
  rw [e0] at up
  simp (disch := first | assumption | omega) only [ds_cI, ds_cV, ds_cL, ds_cR, ds_nn, ds_isK_t, ds_isA_t, ds_chk_t, ds_chkN, ds_nz_t, ds_nzN, ds_isB_t, ds_isB_bo, ↓dl_m1, ↓dl_m2, dl_0, dl_1, dl_2, dl_3, dl_4, dl_5, dl_6, dl_7, dl_8, dl_9, dl_10, dl_11, dl_12, dl_13, dl_14, dl_15, dl_16, dl_20, dl_24, dl_31, dl_50, dl_57, dl_67, dl_68, dl_74, dl_75, dl_79, dl_80, dl_99, dl_100, dl_200, dl_210, dl_224, dl_255, dl_289, dl_900, dl_1000, dl_1728, dl_65536, dl_65537, nI_add, pk_mul, pk_sub, pk_div, pk_rem, ds_rem2, nI_clamp, nI_leI, nI_ltI, nI_eq, ds_m1_eq, ds_eq_m1, ds_m2_eq, ds_eq_m2, ds_m1_le, ds_le_m1, ds_m1_lt, ds_lt_m1, ds_in_N, ds_bo0, ds_bo1, if_pos, if_neg, Nat.not_le, Nat.not_lt, not_true_eq_false, not_false_eq_true, if_true, if_false, ne_eq, Option.some.injEq, Prod.mk.injEq, Value.int.injEq, true_and, and_true, and_self, ite_self, Bool.not_eq_true, Bool.not_eq_false, Bool.true_eq_false, Bool.false_eq_true, reduceCtorEq, Nat.zero_add, Nat.reduceAdd, Nat.reduceMul, Nat.reduceSub, ds_setI_row, ds_setL_row, ds_rowI_self, ds_rowI_ne, ds_rowI_2, ds_rowI_rowI, ds_setS_1, ds_setS_21, ds_setS_self, ds_setS_ne, pk_us, pk_un]
  rw [up, b_Mod_runNow_4]
  generalize dk_max (dk_R D K) (D 0 4) = A at *
  simp (disch := first | assumption | omega) only [ds_cI, ds_cV, ds_cL, ds_cR, ds_nn, ds_isK_t, ds_isA_t, ds_chk_t, ds_chkN, ds_nz_t, ds_nzN, ds_isB_t, ds_isB_bo, ↓dl_m1, ↓dl_m2, dl_0, dl_1, dl_2, dl_3, dl_4, dl_5, dl_6, dl_7, dl_8, dl_9, dl_10, dl_11, dl_12, dl_13, dl_14, dl_15, dl_16, dl_20, dl_24, dl_31, dl_50, dl_57, dl_67, dl_68, dl_74, dl_75, dl_79, dl_80, dl_99, dl_100, dl_200, dl_210, dl_224, dl_255, dl_289, dl_900, dl_1000, dl_1728, dl_65536, dl_65537, nI_add, pk_mul, pk_sub, pk_div, pk_rem, ds_rem2, nI_clamp, nI_leI, nI_ltI, nI_eq, ds_m1_eq, ds_eq_m1, ds_m2_eq, ds_eq_m2, ds_m1_le, ds_le_m1, ds_m1_lt, ds_lt_m1, ds_in_N, ds_bo0, ds_bo1, if_pos, if_neg, Nat.not_le, Nat.not_lt, not_true_eq_false, not_false_eq_true, if_true, if_false, ne_eq, Option.some.injEq, Prod.mk.injEq, Value.int.injEq, true_and, and_true, and_self, ite_self, Bool.not_eq_true, Bool.not_eq_false, Bool.true_eq_false, Bool.false_eq_true, reduceCtorEq, Nat.zero_add, Nat.reduceAdd, Nat.reduceMul, Nat.reduceSub, ds_setI_row, ds_setL_row, ds_rowI_self, ds_rowI_ne, ds_rowI_2, ds_rowI_rowI, ds_setS_1, ds_setS_21, ds_setS_self, ds_setS_ne, pk_us, pk_un, m4]
/-! the class -/
theorem s_isOfRank (d t i r : Nat) (z : ds_St) (D : Nat → Nat → Nat) (hT : dk_tC z t D) (hD : dk_ok D) (h2 : z.2.2 2 = t) (hi : i < D 0 4) (hr : r < 2 ^ 31) : ds_call (d + 3) j_Chart_isOfRank [.ref 67, .int (nI i), .int (nI r)] z = some (some (.int (ds_bo (!(D 1 i == 2) && D 3 i == r))), z) := by
  have n12 := hD.2.2.2.2.1.2
  have ht := hT.1
  have hKt := ds_Kt ht
  have jk := s_isJoker d t i z D hT hD hi
  have g3 := dk_get3 hT hi
  have b3 := (hD.2.2.2.2.2.2.2.2.1 i hi).2.2.1
  rw [c_Chart_isOfRank, b_Chart_isOfRank_0]
  rcases Bool.eq_false_or_eq_true (D 1 i == 2) with hj | hj
  · rw [hj] at jk ⊢
    simp (disch := first | assumption | omega) only [ds_cI, ds_cV, ds_cL, ds_cR, ds_nn, ds_isK_t, ds_isA_t, ds_chk_t, ds_chkN, ds_nz_t, ds_nzN, ds_isB_t, ds_isB_bo, ↓dl_m1, ↓dl_m2, dl_0, dl_1, dl_2, dl_3, dl_4, dl_5, dl_6, dl_7, dl_8, dl_9, dl_10, dl_11, dl_12, dl_13, dl_14, dl_15, dl_16, dl_20, dl_24, dl_31, dl_50, dl_57, dl_67, dl_68, dl_74, dl_75, dl_79, dl_80, dl_99, dl_100, dl_200, dl_210, dl_224, dl_255, dl_289, dl_900, dl_1000, dl_1728, dl_65536, dl_65537, nI_add, pk_mul, pk_sub, pk_div, pk_rem, ds_rem2, nI_clamp, nI_leI, nI_ltI, nI_eq, ds_m1_eq, ds_eq_m1, ds_m2_eq, ds_eq_m2, ds_m1_le, ds_le_m1, ds_m1_lt, ds_lt_m1, ds_in_N, ds_bo0, ds_bo1, if_pos, if_neg, Nat.not_le, Nat.not_lt, not_true_eq_false, not_false_eq_true, if_true, if_false, ne_eq, Option.some.injEq, Prod.mk.injEq, Value.int.injEq, true_and, and_true, and_self, ite_self, Bool.not_eq_true, Bool.not_eq_false, Bool.true_eq_false, Bool.false_eq_true, reduceCtorEq, Nat.zero_add, Nat.reduceAdd, Nat.reduceMul, Nat.reduceSub, ds_setI_row, ds_setL_row, ds_rowI_self, ds_rowI_ne, ds_rowI_2, ds_rowI_rowI, ds_setS_1, ds_setS_21, ds_setS_self, ds_setS_ne, pk_us, pk_un, h2, jk]
    rfl
  · rw [hj] at jk ⊢
    by_cases q : D 3 i = r
    · have q' : (D 3 i == r) = true := by simpa using q
      rw [q']
      rw [q] at g3
      simp (disch := first | assumption | omega) only [ds_cI, ds_cV, ds_cL, ds_cR, ds_nn, ds_isK_t, ds_isA_t, ds_chk_t, ds_chkN, ds_nz_t, ds_nzN, ds_isB_t, ds_isB_bo, ↓dl_m1, ↓dl_m2, dl_0, dl_1, dl_2, dl_3, dl_4, dl_5, dl_6, dl_7, dl_8, dl_9, dl_10, dl_11, dl_12, dl_13, dl_14, dl_15, dl_16, dl_20, dl_24, dl_31, dl_50, dl_57, dl_67, dl_68, dl_74, dl_75, dl_79, dl_80, dl_99, dl_100, dl_200, dl_210, dl_224, dl_255, dl_289, dl_900, dl_1000, dl_1728, dl_65536, dl_65537, nI_add, pk_mul, pk_sub, pk_div, pk_rem, ds_rem2, nI_clamp, nI_leI, nI_ltI, nI_eq, ds_m1_eq, ds_eq_m1, ds_m2_eq, ds_eq_m2, ds_m1_le, ds_le_m1, ds_m1_lt, ds_lt_m1, ds_in_N, ds_bo0, ds_bo1, if_pos, if_neg, Nat.not_le, Nat.not_lt, not_true_eq_false, not_false_eq_true, if_true, if_false, ne_eq, Option.some.injEq, Prod.mk.injEq, Value.int.injEq, true_and, and_true, and_self, ite_self, Bool.not_eq_true, Bool.not_eq_false, Bool.true_eq_false, Bool.false_eq_true, reduceCtorEq, Nat.zero_add, Nat.reduceAdd, Nat.reduceMul, Nat.reduceSub, ds_setI_row, ds_setL_row, ds_rowI_self, ds_rowI_ne, ds_rowI_2, ds_rowI_rowI, ds_setS_1, ds_setS_21, ds_setS_self, ds_setS_ne, pk_us, pk_un, h2, jk, ds_Rt7, s_lookT, g3]
      rfl
    · have q' : (D 3 i == r) = false := by simpa using q
      rw [q']
      simp (disch := first | assumption | omega) only [ds_cI, ds_cV, ds_cL, ds_cR, ds_nn, ds_isK_t, ds_isA_t, ds_chk_t, ds_chkN, ds_nz_t, ds_nzN, ds_isB_t, ds_isB_bo, ↓dl_m1, ↓dl_m2, dl_0, dl_1, dl_2, dl_3, dl_4, dl_5, dl_6, dl_7, dl_8, dl_9, dl_10, dl_11, dl_12, dl_13, dl_14, dl_15, dl_16, dl_20, dl_24, dl_31, dl_50, dl_57, dl_67, dl_68, dl_74, dl_75, dl_79, dl_80, dl_99, dl_100, dl_200, dl_210, dl_224, dl_255, dl_289, dl_900, dl_1000, dl_1728, dl_65536, dl_65537, nI_add, pk_mul, pk_sub, pk_div, pk_rem, ds_rem2, nI_clamp, nI_leI, nI_ltI, nI_eq, ds_m1_eq, ds_eq_m1, ds_m2_eq, ds_eq_m2, ds_m1_le, ds_le_m1, ds_m1_lt, ds_lt_m1, ds_in_N, ds_bo0, ds_bo1, if_pos, if_neg, Nat.not_le, Nat.not_lt, not_true_eq_false, not_false_eq_true, if_true, if_false, ne_eq, Option.some.injEq, Prod.mk.injEq, Value.int.injEq, true_and, and_true, and_self, ite_self, Bool.not_eq_true, Bool.not_eq_false, Bool.true_eq_false, Bool.false_eq_true, reduceCtorEq, Nat.zero_add, Nat.reduceAdd, Nat.reduceMul, Nat.reduceSub, ds_setI_row, ds_setL_row, ds_rowI_self, ds_rowI_ne, ds_rowI_2, ds_rowI_rowI, ds_setS_1, ds_setS_21, ds_setS_self, ds_setS_ne, pk_us, pk_un, h2, jk, ds_Rt7, s_lookT, g3, q]
      rfl
theorem s_rankAbove (d t i : Nat) (z : ds_St) (D : Nat → Nat → Nat) (hT : dk_tC z t D) (hD : dk_ok D) (h2 : z.2.2 2 = t) (hi : i < D 0 4) : ds_call (d + 2) j_Chart_rankAbove [.ref 67, .int (nI i)] z = some (some (.int (nI (D 3 i + 1))), z) := by
  have n12 := hD.2.2.2.2.1.2
  have ht := hT.1
  have hKt := ds_Kt ht
  have g3 := dk_get3 hT hi
  rw [c_Chart_rankAbove, b_Chart_rankAbove_0]
  simp (disch := first | assumption | omega) only [ds_cI, ds_cV, ds_cL, ds_cR, ds_nn, ds_isK_t, ds_isA_t, ds_chk_t, ds_chkN, ds_nz_t, ds_nzN, ds_isB_t, ds_isB_bo, ↓dl_m1, ↓dl_m2, dl_0, dl_1, dl_2, dl_3, dl_4, dl_5, dl_6, dl_7, dl_8, dl_9, dl_10, dl_11, dl_12, dl_13, dl_14, dl_15, dl_16, dl_20, dl_24, dl_31, dl_50, dl_57, dl_67, dl_68, dl_74, dl_75, dl_79, dl_80, dl_99, dl_100, dl_200, dl_210, dl_224, dl_255, dl_289, dl_900, dl_1000, dl_1728, dl_65536, dl_65537, nI_add, pk_mul, pk_sub, pk_div, pk_rem, ds_rem2, nI_clamp, nI_leI, nI_ltI, nI_eq, ds_m1_eq, ds_eq_m1, ds_m2_eq, ds_eq_m2, ds_m1_le, ds_le_m1, ds_m1_lt, ds_lt_m1, ds_in_N, ds_bo0, ds_bo1, if_pos, if_neg, Nat.not_le, Nat.not_lt, not_true_eq_false, not_false_eq_true, if_true, if_false, ne_eq, Option.some.injEq, Prod.mk.injEq, Value.int.injEq, true_and, and_true, and_self, ite_self, Bool.not_eq_true, Bool.not_eq_false, Bool.true_eq_false, Bool.false_eq_true, reduceCtorEq, Nat.zero_add, Nat.reduceAdd, Nat.reduceMul, Nat.reduceSub, ds_setI_row, ds_setL_row, ds_rowI_self, ds_rowI_ne, ds_rowI_2, ds_rowI_rowI, ds_setS_1, ds_setS_21, ds_setS_self, ds_setS_ne, pk_us, pk_un, h2, ds_Rt7, s_lookT, g3]
/-- what the class keeps of runs when ranks above r, and k places of rank r, are done -/
def dk_V (D : Nat → Nat → Nat) (K : Nat → Nat) (r k i : Nat) : Nat := if (decide (i < D 0 4) && (decide (r < D 3 i) || (D 3 i == r && dk_any (fun p => K p == i) k))) = true then dk_R D K i else 0
theorem dk_V_le (D : Nat → Nat → Nat) (K : Nat → Nat) (r k i : Nat) : dk_V D K r k i ≤ 10 := by
  unfold dk_V
  split
  · exact dk_R_le D K i
  · exact Nat.zero_le _
theorem dk_mV_le (D : Nat → Nat → Nat) (K : Nat → Nat) (r k n : Nat) : dk_max (dk_V D K r k) n ≤ 10 := dk_max_le.mpr (fun j _ => dk_V_le D K r k j)
theorem dk_V_hi {D : Nat → Nat → Nat} {K : Nat → Nat} {r k i : Nat} (hi : i < D 0 4) (h : r < D 3 i) : dk_V D K r k i = dk_R D K i := by
  unfold dk_V
  rw [decide_eq_true hi, decide_eq_true h]
  rfl
theorem dk_R_out {D : Nat → Nat → Nat} {K : Nat → Nat} {i : Nat} (hD : dk_ok D) (hi : i < D 0 4) (h : dk_any (fun p => K p == i) (min (D 0 0 * D 0 1) (K 12)) = false) : dk_R D K i = 0 := by
  have : dk_is D K (K 12) i = false := h
  rw [dk_R_eq hD hi, this, Bool.not_false, Bool.or_true]
  rfl
theorem dk_R_j {D : Nat → Nat → Nat} {K : Nat → Nat} {i : Nat} (hD : dk_ok D) (hi : i < D 0 4) (h : (D 1 i == 2) = true) : dk_R D K i = 0 := by
  rw [dk_R_eq hD hi, h, Bool.true_or]
  rfl
theorem dk_V_next {D : Nat → Nat → Nat} {K : Nat → Nat} {r : Nat} (hD : dk_ok D) (i : Nat) : dk_V D K (r + 1) (min (D 0 0 * D 0 1) (K 12)) i = dk_V D K r 0 i := by
  unfold dk_V
  by_cases hi : i < D 0 4
  · rw [decide_eq_true hi, Bool.true_and, Bool.true_and]
    simp only [dk_any, Bool.and_false, Bool.or_false]
    by_cases h1 : r + 1 < D 3 i
    · rw [decide_eq_true h1, decide_eq_true (show r < D 3 i by omega)]
      rfl
    · rw [decide_eq_false h1, Bool.false_or]
      by_cases h2 : D 3 i = r + 1
      · have h2' : (D 3 i == r + 1) = true := by simpa using h2
        rw [h2', Bool.true_and, decide_eq_true (show r < D 3 i by omega), if_pos rfl]
        cases h3 : dk_any (fun p => K p == i) (min (D 0 0 * D 0 1) (K 12))
        · rw [dk_R_out hD hi h3]
          rfl
        · rfl
      · have h2' : (D 3 i == r + 1) = false := by simpa using h2
        rw [h2', Bool.false_and, decide_eq_false (show ¬ r < D 3 i by omega)]
  · rw [decide_eq_false hi, Bool.false_and, Bool.false_and]
theorem dk_be_in {D : Nat → Nat → Nat} {K : Nat → Nat} {c i j : Nat} (hin : dk_inj K c (D 0 4)) (h : dk_be (dk_A D) K c i j = true) : i < D 0 4 ∧ j < D 0 4 := by
  obtain ⟨p, q, a1, a2, a3, a4, _⟩ := dk_be_iff.mp h
  exact ⟨by rw [← a3]; exact hin.1 p a1, by rw [← a4]; exact hin.1 q a2⟩
theorem s_longestBehind (d t k i : Nat) (z : ds_St) (D : Nat → Nat → Nat) (K : Nat → Nat) (hT : dk_tC z t D) (hD : dk_ok D) (hK : dk_okK D K) (hC : dk_ch z t D (min (D 0 0 * D 0 1) (K 12)) K) (hi : i < D 0 4) (hv : ∀ j, j < 12 → z.1 69 j = nI (dk_V D K (D 3 i) k j)) : ds_call (d + 4) j_Chart_longestBehind [.ref 67, .int (nI i)] z = some (some (.int (nI (dk_max (dk_gR D K i) (D 0 4)))), z) := by
  have n12 := hD.2.2.2.2.1.2
  have oi := hD.2.2.2.2.2.2.2.2.1
  have h2 := hC.1
  have bi := (oi i hi).2.2.1
  have mt := s_mates d t _ i z D K hT hD hC (by omega)
  have ra := s_rankAbove (d + 1) t i z D hT hD h2 hi
  have ir := fun j hj => s_isOfRank d t j (D 3 i + 1) z D hT hD h2 hj (by omega)
  have ec : ∀ j, dk_be (dk_A D) K (min (D 0 0 * D 0 1) (K 12)) i j = dk_be (dk_A D) K (K 12) i j := fun j => (dk_be_cut (fun p q => dk_A_lt)).symm
  have hb := ds_bs_lt31 (dk_be (dk_A D) K (min (D 0 0 * D 0 1) (K 12)) i) (show 12 ≤ 31 by decide)
  rw [c_Chart_longestBehind, b_Chart_longestBehind_0]
  have up := ds_up (F := fun j => ds_Rw ds_c_Chart_longestBehind ds_u_Chart_longestBehind (ds_call (d + 3)) 11 [some (.ref 67), some (.int (nI i)), some (.int (nI ((ds_bs (dk_be (dk_A D) K (min (D 0 0 * D 0 1) (K 12)) i) 12)))), some (.int (nI ((dk_max (dk_gR D K i) j)))), some (.int (nI j))] [] z) (n := 12) 0 (by
    intro j _ hj
    have hvj := hv j hj
    have b1 := dk_mgR_le D K i j
    have b2 := dk_R_le D K j
    have tb : (ds_bs (dk_be (dk_A D) K (min (D 0 0 * D 0 1) (K 12)) i) 12).testBit j = dk_be (dk_A D) K (K 12) i j := by
      rw [ds_bs_tb, decide_eq_true hj, Bool.true_and, ec]
    have bit := ds_bit (k := j) hb (by omega)
    rw [tb] at bit
    rw [b_Chart_longestBehind_11]
    simp only [dk_max]
    generalize ds_bs (dk_be (dk_A D) K (min (D 0 0 * D 0 1) (K 12)) i) 12 = S at *
    rcases Bool.eq_false_or_eq_true (dk_be (dk_A D) K (K 12) i j) with q2 | q2
    · rw [q2] at bit
      have jn := (dk_be_in hK.2.1 q2).2
      have irj := ir j jn
      rcases Bool.eq_false_or_eq_true (D 1 j == 2) with qj | qj
      · have gk : dk_gR D K i j = 0 := by
          unfold dk_gR
          rw [dk_R_j hD jn qj]
          split <;> rfl
        rw [qj, Bool.not_true, Bool.false_and] at irj
        rw [gk, if_neg (Nat.not_lt_zero _)]
        generalize dk_max (dk_gR D K i) j = A at *
        simp (disch := first | assumption | omega) only [ds_cI, ds_cV, ds_cL, ds_cR, ds_nn, ds_isK_t, ds_isA_t, ds_chk_t, ds_chkN, ds_nz_t, ds_nzN, ds_isB_t, ds_isB_bo, ↓dl_m1, ↓dl_m2, dl_0, dl_1, dl_2, dl_3, dl_4, dl_5, dl_6, dl_7, dl_8, dl_9, dl_10, dl_11, dl_12, dl_13, dl_14, dl_15, dl_16, dl_20, dl_24, dl_31, dl_50, dl_57, dl_67, dl_68, dl_74, dl_75, dl_79, dl_80, dl_99, dl_100, dl_200, dl_210, dl_224, dl_255, dl_289, dl_900, dl_1000, dl_1728, dl_65536, dl_65537, nI_add, pk_mul, pk_sub, pk_div, pk_rem, ds_rem2, nI_clamp, nI_leI, nI_ltI, nI_eq, ds_m1_eq, ds_eq_m1, ds_m2_eq, ds_eq_m2, ds_m1_le, ds_le_m1, ds_m1_lt, ds_lt_m1, ds_in_N, ds_bo0, ds_bo1, if_pos, if_neg, Nat.not_le, Nat.not_lt, not_true_eq_false, not_false_eq_true, if_true, if_false, ne_eq, Option.some.injEq, Prod.mk.injEq, Value.int.injEq, true_and, and_true, and_self, ite_self, Bool.not_eq_true, Bool.not_eq_false, Bool.true_eq_false, Bool.false_eq_true, reduceCtorEq, Nat.zero_add, Nat.reduceAdd, Nat.reduceMul, Nat.reduceSub, ds_setI_row, ds_setL_row, ds_rowI_self, ds_rowI_ne, ds_rowI_2, ds_rowI_rowI, ds_setS_1, ds_setS_21, ds_setS_self, ds_setS_ne, pk_us, pk_un, bit, ra, irj]
      · rw [qj, Bool.not_false, Bool.true_and] at irj
        by_cases q1 : D 3 j = D 3 i + 1
        · have q1' : (D 3 j == D 3 i + 1) = true := by simpa using q1
          have gk : dk_gR D K i j = dk_R D K j := by
            unfold dk_gR
            rw [q1', q2]
            rfl
          rw [q1'] at irj
          rw [dk_V_hi jn (by omega)] at hvj
          rw [gk]
          have mx := s_max (d + 2) (dk_max (dk_gR D K i) j) (dk_R D K j) z (by omega) (by omega)
          have lk := s_lookN (d + 2) 69 j 12 z rfl rfl (by decide) hj
          rw [hvj] at lk
          generalize dk_max (dk_gR D K i) j = A at *
          generalize dk_R D K j = B at *
          simp (disch := first | assumption | omega) only [ds_cI, ds_cV, ds_cL, ds_cR, ds_nn, ds_isK_t, ds_isA_t, ds_chk_t, ds_chkN, ds_nz_t, ds_nzN, ds_isB_t, ds_isB_bo, ↓dl_m1, ↓dl_m2, dl_0, dl_1, dl_2, dl_3, dl_4, dl_5, dl_6, dl_7, dl_8, dl_9, dl_10, dl_11, dl_12, dl_13, dl_14, dl_15, dl_16, dl_20, dl_24, dl_31, dl_50, dl_57, dl_67, dl_68, dl_74, dl_75, dl_79, dl_80, dl_99, dl_100, dl_200, dl_210, dl_224, dl_255, dl_289, dl_900, dl_1000, dl_1728, dl_65536, dl_65537, nI_add, pk_mul, pk_sub, pk_div, pk_rem, ds_rem2, nI_clamp, nI_leI, nI_ltI, nI_eq, ds_m1_eq, ds_eq_m1, ds_m2_eq, ds_eq_m2, ds_m1_le, ds_le_m1, ds_m1_lt, ds_lt_m1, ds_in_N, ds_bo0, ds_bo1, if_pos, if_neg, Nat.not_le, Nat.not_lt, not_true_eq_false, not_false_eq_true, if_true, if_false, ne_eq, Option.some.injEq, Prod.mk.injEq, Value.int.injEq, true_and, and_true, and_self, ite_self, Bool.not_eq_true, Bool.not_eq_false, Bool.true_eq_false, Bool.false_eq_true, reduceCtorEq, Nat.zero_add, Nat.reduceAdd, Nat.reduceMul, Nat.reduceSub, ds_setI_row, ds_setL_row, ds_rowI_self, ds_rowI_ne, ds_rowI_2, ds_rowI_rowI, ds_setS_1, ds_setS_21, ds_setS_self, ds_setS_ne, pk_us, pk_un, bit, ra, irj, lk, mx]
        · have q1' : (D 3 j == D 3 i + 1) = false := by simpa using q1
          have gk : dk_gR D K i j = 0 := by
            unfold dk_gR
            rw [q1', Bool.false_and]
            rfl
          rw [q1'] at irj
          rw [gk, if_neg (Nat.not_lt_zero _)]
          generalize dk_max (dk_gR D K i) j = A at *
          simp (disch := first | assumption | omega) only [ds_cI, ds_cV, ds_cL, ds_cR, ds_nn, ds_isK_t, ds_isA_t, ds_chk_t, ds_chkN, ds_nz_t, ds_nzN, ds_isB_t, ds_isB_bo, ↓dl_m1, ↓dl_m2, dl_0, dl_1, dl_2, dl_3, dl_4, dl_5, dl_6, dl_7, dl_8, dl_9, dl_10, dl_11, dl_12, dl_13, dl_14, dl_15, dl_16, dl_20, dl_24, dl_31, dl_50, dl_57, dl_67, dl_68, dl_74, dl_75, dl_79, dl_80, dl_99, dl_100, dl_200, dl_210, dl_224, dl_255, dl_289, dl_900, dl_1000, dl_1728, dl_65536, dl_65537, nI_add, pk_mul, pk_sub, pk_div, pk_rem, ds_rem2, nI_clamp, nI_leI, nI_ltI, nI_eq, ds_m1_eq, ds_eq_m1, ds_m2_eq, ds_eq_m2, ds_m1_le, ds_le_m1, ds_m1_lt, ds_lt_m1, ds_in_N, ds_bo0, ds_bo1, if_pos, if_neg, Nat.not_le, Nat.not_lt, not_true_eq_false, not_false_eq_true, if_true, if_false, ne_eq, Option.some.injEq, Prod.mk.injEq, Value.int.injEq, true_and, and_true, and_self, ite_self, Bool.not_eq_true, Bool.not_eq_false, Bool.true_eq_false, Bool.false_eq_true, reduceCtorEq, Nat.zero_add, Nat.reduceAdd, Nat.reduceMul, Nat.reduceSub, ds_setI_row, ds_setL_row, ds_rowI_self, ds_rowI_ne, ds_rowI_2, ds_rowI_rowI, ds_setS_1, ds_setS_21, ds_setS_self, ds_setS_ne, pk_us, pk_un, bit, ra, irj]
    · rw [q2] at bit
      have gk : dk_gR D K i j = 0 := by
        unfold dk_gR
        rw [q2, Bool.and_false]
        rfl
      rw [gk, if_neg (Nat.not_lt_zero _)]
      generalize dk_max (dk_gR D K i) j = A at *
      simp (disch := first | assumption | omega) only [ds_cI, ds_cV, ds_cL, ds_cR, ds_nn, ds_isK_t, ds_isA_t, ds_chk_t, ds_chkN, ds_nz_t, ds_nzN, ds_isB_t, ds_isB_bo, ↓dl_m1, ↓dl_m2, dl_0, dl_1, dl_2, dl_3, dl_4, dl_5, dl_6, dl_7, dl_8, dl_9, dl_10, dl_11, dl_12, dl_13, dl_14, dl_15, dl_16, dl_20, dl_24, dl_31, dl_50, dl_57, dl_67, dl_68, dl_74, dl_75, dl_79, dl_80, dl_99, dl_100, dl_200, dl_210, dl_224, dl_255, dl_289, dl_900, dl_1000, dl_1728, dl_65536, dl_65537, nI_add, pk_mul, pk_sub, pk_div, pk_rem, ds_rem2, nI_clamp, nI_leI, nI_ltI, nI_eq, ds_m1_eq, ds_eq_m1, ds_m2_eq, ds_eq_m2, ds_m1_le, ds_le_m1, ds_m1_lt, ds_lt_m1, ds_in_N, ds_bo0, ds_bo1, if_pos, if_neg, Nat.not_le, Nat.not_lt, not_true_eq_false, not_false_eq_true, if_true, if_false, ne_eq, Option.some.injEq, Prod.mk.injEq, Value.int.injEq, true_and, and_true, and_self, ite_self, Bool.not_eq_true, Bool.not_eq_false, Bool.true_eq_false, Bool.false_eq_true, reduceCtorEq, Nat.zero_add, Nat.reduceAdd, Nat.reduceMul, Nat.reduceSub, ds_setI_row, ds_setL_row, ds_rowI_self, ds_rowI_ne, ds_rowI_2, ds_rowI_rowI, ds_setS_1, ds_setS_21, ds_setS_self, ds_setS_ne, pk_us, pk_un, bit]) (by decide)
  have e0 : dk_max (dk_gR D K i) 0 = 0 := rfl
  try simp only at up
  rw [e0] at up
  simp (disch := first | assumption | omega) only [ds_cI, ds_cV, ds_cL, ds_cR, ds_nn, ds_isK_t, ds_isA_t, ds_chk_t, ds_chkN, ds_nz_t, ds_nzN, ds_isB_t, ds_isB_bo, ↓dl_m1, ↓dl_m2, dl_0, dl_1, dl_2, dl_3, dl_4, dl_5, dl_6, dl_7, dl_8, dl_9, dl_10, dl_11, dl_12, dl_13, dl_14, dl_15, dl_16, dl_20, dl_24, dl_31, dl_50, dl_57, dl_67, dl_68, dl_74, dl_75, dl_79, dl_80, dl_99, dl_100, dl_200, dl_210, dl_224, dl_255, dl_289, dl_900, dl_1000, dl_1728, dl_65536, dl_65537, nI_add, pk_mul, pk_sub, pk_div, pk_rem, ds_rem2, nI_clamp, nI_leI, nI_ltI, nI_eq, ds_m1_eq, ds_eq_m1, ds_m2_eq, ds_eq_m2, ds_m1_le, ds_le_m1, ds_m1_lt, ds_lt_m1, ds_in_N, ds_bo0, ds_bo1, if_pos, if_neg, Nat.not_le, Nat.not_lt, not_true_eq_false, not_false_eq_true, if_true, if_false, ne_eq, Option.some.injEq, Prod.mk.injEq, Value.int.injEq, true_and, and_true, and_self, ite_self, Bool.not_eq_true, Bool.not_eq_false, Bool.true_eq_false, Bool.false_eq_true, reduceCtorEq, Nat.zero_add, Nat.reduceAdd, Nat.reduceMul, Nat.reduceSub, ds_setI_row, ds_setL_row, ds_rowI_self, ds_rowI_ne, ds_rowI_2, ds_rowI_rowI, ds_setS_1, ds_setS_21, ds_setS_self, ds_setS_ne, pk_us, pk_un, mt]
  rw [up, b_Chart_longestBehind_11]
  have ef : dk_max (dk_gR D K i) 12 = dk_max (dk_gR D K i) (D 0 4) := by
    apply dk_max_cut n12
    intro j h1 _
    cases q2 : dk_be (dk_A D) K (K 12) i j
    · unfold dk_gR
      rw [q2, Bool.and_false]
      rfl
    · have := (dk_be_in hK.2.1 q2).2
      omega
  rw [ef]
  generalize dk_max (dk_gR D K i) (D 0 4) = A at *
  simp (disch := first | assumption | omega) only [ds_cI, ds_cV, ds_cL, ds_cR, ds_nn, ds_isK_t, ds_isA_t, ds_chk_t, ds_chkN, ds_nz_t, ds_nzN, ds_isB_t, ds_isB_bo, ↓dl_m1, ↓dl_m2, dl_0, dl_1, dl_2, dl_3, dl_4, dl_5, dl_6, dl_7, dl_8, dl_9, dl_10, dl_11, dl_12, dl_13, dl_14, dl_15, dl_16, dl_20, dl_24, dl_31, dl_50, dl_57, dl_67, dl_68, dl_74, dl_75, dl_79, dl_80, dl_99, dl_100, dl_200, dl_210, dl_224, dl_255, dl_289, dl_900, dl_1000, dl_1728, dl_65536, dl_65537, nI_add, pk_mul, pk_sub, pk_div, pk_rem, ds_rem2, nI_clamp, nI_leI, nI_ltI, nI_eq, ds_m1_eq, ds_eq_m1, ds_m2_eq, ds_eq_m2, ds_m1_le, ds_le_m1, ds_m1_lt, ds_lt_m1, ds_in_N, ds_bo0, ds_bo1, if_pos, if_neg, Nat.not_le, Nat.not_lt, not_true_eq_false, not_false_eq_true, if_true, if_false, ne_eq, Option.some.injEq, Prod.mk.injEq, Value.int.injEq, true_and, and_true, and_self, ite_self, Bool.not_eq_true, Bool.not_eq_false, Bool.true_eq_false, Bool.false_eq_true, reduceCtorEq, Nat.zero_add, Nat.reduceAdd, Nat.reduceMul, Nat.reduceSub, ds_setI_row, ds_setL_row, ds_rowI_self, ds_rowI_ne, ds_rowI_2, ds_rowI_rowI, ds_setS_1, ds_setS_21, ds_setS_self, ds_setS_ne, pk_us, pk_un]
