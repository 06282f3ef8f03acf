/-! acts -/
def dk_acC (z : ds_St) (U : Nat → Nat → Nat) (u : Nat) : Prop := ∃ a, a < 16 ∧ z.1 80 0 = nI 16 ∧ z.1 80 2 = nI a ∧ z.1 80 3 = nI u ∧ ∀ q, q < u → dk_rwC (z.1 81) ((a + q) % 16 * 14) (U q)
def dk_imC (z : ds_St) (M : Nat → Nat → Nat) (m : Nat) : Prop := ∃ a, a < 3 ∧ z.1 82 0 = nI 3 ∧ z.1 82 2 = nI a ∧ z.1 82 3 = nI m ∧ (0 < a → m = 3) ∧ ∀ q, q < m → dk_rwC (z.1 83) ((a + q) % 3 * 14) (M q)
def dk_deC (z : ds_St) (K : Nat → Nat) : Prop := z.1 61 2 = nI (K 12) ∧ (∀ p, p < K 12 → z.1 62 p = nI (K p)) ∧ z.1 61 3 = dk_pm (K 13)
def dk_pu (U : Nat → Nat → Nat) (u : Nat) (K : Nat → Nat) (q : Nat) : Nat → Nat := if u < 16 then (if q = u then K else U q) else (if q = 15 then K else U (q + 1))
def dk_pn (u : Nat) : Nat := if u < 16 then u + 1 else 16
/-- a row written at b holds the deck -/
theorem dk_rwC_new {g f h : Nat → Int32} {b : Nat} {K : Nat → Nat} {x y : Int32} (hk : K 12 ≤ 12) (h1 : ∀ p, p < K 12 → f p = nI (K p)) (hx : x = nI (K 12)) (hy : y = dk_pm (K 13)) (hh : h = upd (upd (fun j => if b ≤ j ∧ j < b + 12 then f (j - b) else g j) (b + 12) x) (b + 13) y) : dk_rwC h b K := by
  subst hh
  refine ⟨fun p hp => ?_, ?_, ?_⟩
  · rw [pk_un (by omega), pk_un (by omega), if_pos (by omega), Nat.add_sub_cancel_left]; exact h1 p hp
  · rw [pk_un (by omega), pk_us]; exact hx
  · rw [pk_us]; exact hy
theorem dk_rwC_old {g f h : Nat → Int32} {k l : Nat} {K : Nat → Nat} {x y : Int32} (hk : K 12 ≤ 12) (hkl : k ≠ l) (h0 : dk_rwC g (k * 14) K) (hh : h = upd (upd (fun j => if l * 14 ≤ j ∧ j < l * 14 + 12 then f (j - l * 14) else g j) (l * 14 + 12) x) (l * 14 + 13) y) : dk_rwC h (k * 14) K := by
  subst hh
  obtain ⟨a, b, c⟩ := h0
  refine ⟨fun p hp => ?_, ?_, ?_⟩
  · rw [pk_un (by omega), pk_un (by omega), if_neg (by omega)]; exact a p hp
  · rw [pk_un (by omega), pk_un (by omega), if_neg (by omega)]; exact b
  · rw [pk_un (by omega), pk_un (by omega), if_neg (by omega)]; exact c
theorem s_pushA (d u : Nat) (z : ds_St) (K : Nat → Nat) (U : Nat → Nat → Nat) (hk : K 12 ≤ 12) (hU : ∀ q, q < u → U q 12 ≤ 12) (hd : dk_deC z K) (ha : dk_acC z U u) (hu : u ≤ 16) : ∃ z', ds_call (d + 3) j_Shelf_pushOver [.ref 80, .ref 61] z = some (none, z') ∧ dk_acC z' (dk_pu U u K) (dk_pn u) ∧ (∀ p, p ≠ 80 → p ≠ 81 → z'.1 p = z.1 p) ∧ z'.2 = z.2 := by
  obtain ⟨a, a16, e0, e2, e3, hr⟩ := ha
  obtain ⟨d1, d2, d3⟩ := hd
  have s1 := s_startOf_80 (d + 1) a u z (by rw [e0]; rfl) e2 (by omega) (by omega)
  have hl : (a + u) % 16 < 16 := Nat.mod_lt _ (by decide)
  have s2 := s_writeTo d 81 ((a + u) % 16 * 14) z rfl (show (a + u) % 16 * 14 + 14 ≤ 224 by omega) (by decide) (by decide) (by decide)
  let g : Nat → Int32 := upd (upd (fun j => if (a + u) % 16 * 14 ≤ j ∧ j < (a + u) % 16 * 14 + 12 then z.1 62 (j - (a + u) % 16 * 14) else z.1 81 j) ((a + u) % 16 * 14 + 12) (z.1 61 2)) ((a + u) % 16 * 14 + 13) (z.1 61 3)
  have new : dk_rwC g ((a + u) % 16 * 14) K := dk_rwC_new hk d2 d1 d3 rfl
  have old : ∀ k Q, Q 12 ≤ 12 → k ≠ (a + u) % 16 → dk_rwC (z.1 81) (k * 14) Q → dk_rwC g (k * 14) Q := fun k Q hq hk h0 => dk_rwC_old hq hk h0 rfl
  have hg : ds_rowI z 81 (upd (upd (fun j => if (a + u) % 16 * 14 ≤ j ∧ j < (a + u) % 16 * 14 + 12 then z.1 62 (j - (a + u) % 16 * 14) else z.1 81 j) ((a + u) % 16 * 14 + 12) (z.1 61 2)) ((a + u) % 16 * 14 + 13) (z.1 61 3)) = ds_rowI z 81 g := rfl
  rw [hg] at s2
  clear_value g
  by_cases hlt : u < 16
  · refine ⟨ds_rowI (ds_rowI z 81 g) 80 (upd (z.1 80) 3 (nI (u + 1))), ?_, ⟨a, a16, ?_, ?_, ?_, ?_⟩, ?_, rfl⟩
    · rw [c_Shelf_pushOver, b_Shelf_pushOver_0_80]
      simp (disch := first | assumption | omega | rfl | decide) only [ds_cI, ds_cV, ds_cL, ds_cR, ds_nn, ds_isK_t, ds_isA_t, ds_chk_t, ds_chkN, ds_nz_t, ds_nzN, ds_isB_t, ds_isB_bo, ↓dl_m1, ↓dl_m2, dl_0, dl_1, dl_2, dl_3, dl_4, dl_5, dl_6, dl_7, dl_8, dl_9, dl_10, dl_11, dl_12, dl_13, dl_14, dl_15, dl_16, dl_20, dl_24, dl_31, dl_50, dl_57, dl_67, dl_68, dl_74, dl_75, dl_79, dl_80, dl_99, dl_100, dl_200, dl_210, dl_224, dl_255, dl_289, dl_900, dl_1000, dl_1728, dl_65536, dl_65537, nI_add, pk_mul, pk_sub, pk_div, pk_rem, ds_rem2, nI_clamp, nI_leI, nI_ltI, nI_eq, ds_m1_eq, ds_eq_m1, ds_m2_eq, ds_eq_m2, ds_m1_le, ds_le_m1, ds_m1_lt, ds_lt_m1, ds_in_N, ds_bo0, ds_bo1, if_pos, if_neg, Nat.not_le, Nat.not_lt, not_true_eq_false, not_false_eq_true, if_true, if_false, ne_eq, Option.some.injEq, Prod.mk.injEq, Value.int.injEq, true_and, and_true, and_self, ite_self, Bool.not_eq_true, Bool.not_eq_false, Bool.true_eq_false, Bool.false_eq_true, reduceCtorEq, Nat.zero_add, Nat.reduceAdd, Nat.reduceMul, Nat.reduceSub, ds_setI_row, ds_setL_row, ds_rowI_self, ds_rowI_ne, ds_rowI_2, ds_rowI_rowI, ds_setS_1, ds_setS_21, ds_setS_self, ds_setS_ne, pk_us, pk_un, s1, s2, e0, e3]
    · rw [ds_rowI_self, pk_un (by decide)]; exact e0
    · rw [ds_rowI_self, pk_un (by decide)]; exact e2
    · rw [ds_rowI_self, pk_us]; unfold dk_pn; rw [if_pos hlt]
    · intro q hq
      rw [ds_rowI_ne _ _ (by decide), ds_rowI_self]
      unfold dk_pn at hq
      rw [if_pos hlt] at hq
      unfold dk_pu
      rw [if_pos hlt]
      by_cases h : q = u
      · rw [if_pos h, h]; exact new
      · rw [if_neg h]
        exact old _ _ (hU q (by omega)) (by omega) (hr q (by omega))
    · intro p h1 h2
      rw [ds_rowI_ne _ _ h1, ds_rowI_ne _ _ h2]
  · have hu16 : u = 16 := by omega
    subst hu16
    refine ⟨ds_rowI (ds_rowI z 81 g) 80 (upd (z.1 80) 2 (nI ((a + 1) % 16))), ?_, ⟨(a + 1) % 16, Nat.mod_lt _ (by decide), ?_, ?_, ?_, ?_⟩, ?_, rfl⟩
    · rw [c_Shelf_pushOver, b_Shelf_pushOver_0_80]
      by_cases h15 : a = 15
      · subst h15
        simp (disch := first | assumption | omega | rfl | decide) only [ds_cI, ds_cV, ds_cL, ds_cR, ds_nn, ds_isK_t, ds_isA_t, ds_chk_t, ds_chkN, ds_nz_t, ds_nzN, ds_isB_t, ds_isB_bo, ↓dl_m1, ↓dl_m2, dl_0, dl_1, dl_2, dl_3, dl_4, dl_5, dl_6, dl_7, dl_8, dl_9, dl_10, dl_11, dl_12, dl_13, dl_14, dl_15, dl_16, dl_20, dl_24, dl_31, dl_50, dl_57, dl_67, dl_68, dl_74, dl_75, dl_79, dl_80, dl_99, dl_100, dl_200, dl_210, dl_224, dl_255, dl_289, dl_900, dl_1000, dl_1728, dl_65536, dl_65537, nI_add, pk_mul, pk_sub, pk_div, pk_rem, ds_rem2, nI_clamp, nI_leI, nI_ltI, nI_eq, ds_m1_eq, ds_eq_m1, ds_m2_eq, ds_eq_m2, ds_m1_le, ds_le_m1, ds_m1_lt, ds_lt_m1, ds_in_N, ds_bo0, ds_bo1, if_pos, if_neg, Nat.not_le, Nat.not_lt, not_true_eq_false, not_false_eq_true, if_true, if_false, ne_eq, Option.some.injEq, Prod.mk.injEq, Value.int.injEq, true_and, and_true, and_self, ite_self, Bool.not_eq_true, Bool.not_eq_false, Bool.true_eq_false, Bool.false_eq_true, reduceCtorEq, Nat.zero_add, Nat.reduceAdd, Nat.reduceMul, Nat.reduceSub, ds_setI_row, ds_setL_row, ds_rowI_self, ds_rowI_ne, ds_rowI_2, ds_rowI_rowI, ds_setS_1, ds_setS_21, ds_setS_self, ds_setS_ne, pk_us, pk_un, s1, s2, e0, e2, e3]
      · have e : (a + 1) % 16 = a + 1 := Nat.mod_eq_of_lt (by omega)
        rw [e]
        simp (disch := first | assumption | omega | rfl | decide) only [ds_cI, ds_cV, ds_cL, ds_cR, ds_nn, ds_isK_t, ds_isA_t, ds_chk_t, ds_chkN, ds_nz_t, ds_nzN, ds_isB_t, ds_isB_bo, ↓dl_m1, ↓dl_m2, dl_0, dl_1, dl_2, dl_3, dl_4, dl_5, dl_6, dl_7, dl_8, dl_9, dl_10, dl_11, dl_12, dl_13, dl_14, dl_15, dl_16, dl_20, dl_24, dl_31, dl_50, dl_57, dl_67, dl_68, dl_74, dl_75, dl_79, dl_80, dl_99, dl_100, dl_200, dl_210, dl_224, dl_255, dl_289, dl_900, dl_1000, dl_1728, dl_65536, dl_65537, nI_add, pk_mul, pk_sub, pk_div, pk_rem, ds_rem2, nI_clamp, nI_leI, nI_ltI, nI_eq, ds_m1_eq, ds_eq_m1, ds_m2_eq, ds_eq_m2, ds_m1_le, ds_le_m1, ds_m1_lt, ds_lt_m1, ds_in_N, ds_bo0, ds_bo1, if_pos, if_neg, Nat.not_le, Nat.not_lt, not_true_eq_false, not_false_eq_true, if_true, if_false, ne_eq, Option.some.injEq, Prod.mk.injEq, Value.int.injEq, true_and, and_true, and_self, ite_self, Bool.not_eq_true, Bool.not_eq_false, Bool.true_eq_false, Bool.false_eq_true, reduceCtorEq, Nat.zero_add, Nat.reduceAdd, Nat.reduceMul, Nat.reduceSub, ds_setI_row, ds_setL_row, ds_rowI_self, ds_rowI_ne, ds_rowI_2, ds_rowI_rowI, ds_setS_1, ds_setS_21, ds_setS_self, ds_setS_ne, pk_us, pk_un, s1, s2, e0, e2, e3]
    · rw [ds_rowI_self, pk_un (by decide)]; exact e0
    · rw [ds_rowI_self, pk_us]
    · rw [ds_rowI_self, pk_un (by decide)]; exact e3
    · intro q hq
      rw [ds_rowI_ne _ _ (by decide), ds_rowI_self]
      have hq : q < 16 := hq
      unfold dk_pu
      rw [if_neg hlt]
      by_cases h : q = 15
      · rw [if_pos h, h]
        have : ((a + 1) % 16 + 15) % 16 = (a + 16) % 16 := by omega
        rw [this]; exact new
      · rw [if_neg h]
        have : ((a + 1) % 16 + q) % 16 = (a + (q + 1)) % 16 := by omega
        rw [this]
        exact old _ _ (hU (q + 1) (by omega)) (by omega) (hr (q + 1) (by omega))
    · intro p h1 h2
      rw [ds_rowI_ne _ _ h1, ds_rowI_ne _ _ h2]
theorem s_pushI (d m : Nat) (z : ds_St) (K : Nat → Nat) (M : Nat → Nat → Nat) (hk : K 12 ≤ 12) (hU : ∀ q, q < m → M q 12 ≤ 12) (hd : dk_deC z K) (ha : dk_imC z M m) (hu : m < 3) : ∃ z', ds_call (d + 3) j_Shelf_pushOver [.ref 82, .ref 61] z = some (none, z') ∧ dk_imC z' (fun q => if q = m then K else M q) (m + 1) ∧ (∀ p, p ≠ 82 → p ≠ 83 → z'.1 p = z.1 p) ∧ z'.2 = z.2 := by
  obtain ⟨a, a16, e0, e2, e3, h0, hr⟩ := ha
  have a0 : a = 0 := by
    rcases Nat.eq_zero_or_pos a with h | h
    · exact h
    · have := h0 h; omega
  subst a0
  obtain ⟨d1, d2, d3⟩ := hd
  have s1 := s_startOf_82 (d + 1) 0 m z (by rw [e0]; rfl) e2 (by omega) (by omega)
  have hl : (0 + m) % 3 < 3 := Nat.mod_lt _ (by decide)
  have s2 := s_writeTo d 83 ((0 + m) % 3 * 14) z rfl (show (0 + m) % 3 * 14 + 14 ≤ 42 by omega) (by decide) (by decide) (by decide)
  let g : Nat → Int32 := upd (upd (fun j => if (0 + m) % 3 * 14 ≤ j ∧ j < (0 + m) % 3 * 14 + 12 then z.1 62 (j - (0 + m) % 3 * 14) else z.1 83 j) ((0 + m) % 3 * 14 + 12) (z.1 61 2)) ((0 + m) % 3 * 14 + 13) (z.1 61 3)
  have new : dk_rwC g ((0 + m) % 3 * 14) K := dk_rwC_new hk d2 d1 d3 rfl
  have old : ∀ k Q, Q 12 ≤ 12 → k ≠ (0 + m) % 3 → dk_rwC (z.1 83) (k * 14) Q → dk_rwC g (k * 14) Q := fun k Q hq hk h0 => dk_rwC_old hq hk h0 rfl
  have hg : ds_rowI z 83 (upd (upd (fun j => if (0 + m) % 3 * 14 ≤ j ∧ j < (0 + m) % 3 * 14 + 12 then z.1 62 (j - (0 + m) % 3 * 14) else z.1 83 j) ((0 + m) % 3 * 14 + 12) (z.1 61 2)) ((0 + m) % 3 * 14 + 13) (z.1 61 3)) = ds_rowI z 83 g := rfl
  rw [hg] at s2
  clear_value g
  refine ⟨ds_rowI (ds_rowI z 83 g) 82 (upd (z.1 82) 3 (nI (m + 1))), ?_, ⟨0, by decide, ?_, ?_, ?_, by omega, ?_⟩, ?_, rfl⟩
  · rw [Nat.zero_add] at s1 s2
    rw [c_Shelf_pushOver, b_Shelf_pushOver_0_82]
    simp (disch := first | assumption | omega | rfl | decide) only [ds_cI, ds_cV, ds_cL, ds_cR, ds_nn, ds_isK_t, ds_isA_t, ds_chk_t, ds_chkN, ds_nz_t, ds_nzN, ds_isB_t, ds_isB_bo, ↓dl_m1, ↓dl_m2, dl_0, dl_1, dl_2, dl_3, dl_4, dl_5, dl_6, dl_7, dl_8, dl_9, dl_10, dl_11, dl_12, dl_13, dl_14, dl_15, dl_16, dl_20, dl_24, dl_31, dl_50, dl_57, dl_67, dl_68, dl_74, dl_75, dl_79, dl_80, dl_99, dl_100, dl_200, dl_210, dl_224, dl_255, dl_289, dl_900, dl_1000, dl_1728, dl_65536, dl_65537, nI_add, pk_mul, pk_sub, pk_div, pk_rem, ds_rem2, nI_clamp, nI_leI, nI_ltI, nI_eq, ds_m1_eq, ds_eq_m1, ds_m2_eq, ds_eq_m2, ds_m1_le, ds_le_m1, ds_m1_lt, ds_lt_m1, ds_in_N, ds_bo0, ds_bo1, if_pos, if_neg, Nat.not_le, Nat.not_lt, not_true_eq_false, not_false_eq_true, if_true, if_false, ne_eq, Option.some.injEq, Prod.mk.injEq, Value.int.injEq, true_and, and_true, and_self, ite_self, Bool.not_eq_true, Bool.not_eq_false, Bool.true_eq_false, Bool.false_eq_true, reduceCtorEq, Nat.zero_add, Nat.reduceAdd, Nat.reduceMul, Nat.reduceSub, ds_setI_row, ds_setL_row, ds_rowI_self, ds_rowI_ne, ds_rowI_2, ds_rowI_rowI, ds_setS_1, ds_setS_21, ds_setS_self, ds_setS_ne, pk_us, pk_un, s1, s2, e0, e3]
  · rw [ds_rowI_self, pk_un (by decide)]; exact e0
  · rw [ds_rowI_self, pk_un (by decide)]; exact e2
  · rw [ds_rowI_self, pk_us]
  · intro q hq
    rw [ds_rowI_ne _ _ (by decide), ds_rowI_self]
    dsimp only
    by_cases h : q = m
    · rw [if_pos h, h]; exact new
    · rw [if_neg h]
      exact old _ _ (hU q (by omega)) (by omega) (hr q (by omega))
  · intro p h1 h2
    rw [ds_rowI_ne _ _ h1, ds_rowI_ne _ _ h2]
theorem s_readRow (d x b : Nat) (z : ds_St) (K : Nat → Nat) (hK : ds_K x = 11) (hb : b + 14 ≤ ds_N x) (hs : ds_N x < 10000) (n61 : x ≠ 61) (n62 : x ≠ 62) (hk : K 12 ≤ 12) (h : dk_rwC (z.1 x) b K) : ∃ z', ds_call (d + 2) j_Deck_readFrom [.ref 61, .ref x, .int (nI b)] z = some (none, z') ∧ dk_deC z' K ∧ (∀ p, p ≠ 61 → p ≠ 62 → z'.1 p = z.1 p) ∧ z'.2 = z.2 := by
  obtain ⟨h1, h2, h3⟩ := h
  refine ⟨_, s_readFrom d x b z hK hb hs n61 n62, ⟨?_, ?_, ?_⟩, ?_, rfl⟩
  · rw [ds_rowI_self, pk_un (by decide), pk_us]; exact h2
  · intro p hp
    rw [ds_rowI_ne _ _ (by decide), ds_rowI_self, if_pos (by omega)]; exact h1 p hp
  · rw [ds_rowI_self, pk_us]; exact h3
  · intro p q1 q2
    rw [ds_rowI_ne _ _ q1, ds_rowI_ne _ _ q2]
theorem s_popA (d u : Nat) (z : ds_St) (U : Nat → Nat → Nat) (hU : ∀ q, q < u → U q 12 ≤ 12) (ha : dk_acC z U u) (hu : u ≤ 16) (h0 : 0 < u) : ∃ z', ds_call (d + 4) j_Shelf_popInto [.ref 80, .ref 61] z = some (none, z') ∧ dk_acC z' U (u - 1) ∧ dk_deC z' (U (u - 1)) ∧ (∀ p, p ≠ 61 → p ≠ 62 → p ≠ 80 → z'.1 p = z.1 p) ∧ z'.2 = z.2 := by
  obtain ⟨a, a16, e0, e2, e3, hr⟩ := ha
  let za := ds_rowI z 80 (upd (z.1 80) 3 (nI (u - 1)))
  have s1 := s_startOf_80 (d + 1) a (u - 1) za (by simp only [za]; rw [ds_rowI_self, pk_un (by decide), e0]; rfl) (by simp only [za]; rw [ds_rowI_self, pk_un (by decide)]; exact e2) (by omega) (by omega)
  have hl : (a + (u - 1)) % 16 < 16 := Nat.mod_lt _ (by decide)
  obtain ⟨z', s2, s3, s4, s5⟩ := s_readRow d 81 ((a + (u - 1)) % 16 * 14) za (U (u - 1)) rfl (show (a + (u - 1)) % 16 * 14 + 14 ≤ 224 by omega) (by decide) (by decide) (by decide) (hU _ (by omega)) (by simp only [za]; rw [ds_rowI_ne _ _ (by decide)]; exact hr _ (by omega))
  have s6 : ds_call (d + 3) j_Shelf_readInto [.ref 80, .int (nI (u - 1)), .ref 61] za = some (none, z') := by
    rw [c_Shelf_readInto, b_Shelf_readInto_0_80]
    simp (disch := first | assumption | omega | rfl | decide) only [ds_cI, ds_cV, ds_cL, ds_cR, ds_nn, ds_isK_t, ds_isA_t, ds_chk_t, ds_chkN, ds_nz_t, ds_nzN, ds_isB_t, ds_isB_bo, ↓dl_m1, ↓dl_m2, dl_0, dl_1, dl_2, dl_3, dl_4, dl_5, dl_6, dl_7, dl_8, dl_9, dl_10, dl_11, dl_12, dl_13, dl_14, dl_15, dl_16, dl_20, dl_24, dl_31, dl_50, dl_57, dl_67, dl_68, dl_74, dl_75, dl_79, dl_80, dl_99, dl_100, dl_200, dl_210, dl_224, dl_255, dl_289, dl_900, dl_1000, dl_1728, dl_65536, dl_65537, nI_add, pk_mul, pk_sub, pk_div, pk_rem, ds_rem2, nI_clamp, nI_leI, nI_ltI, nI_eq, ds_m1_eq, ds_eq_m1, ds_m2_eq, ds_eq_m2, ds_m1_le, ds_le_m1, ds_m1_lt, ds_lt_m1, ds_in_N, ds_bo0, ds_bo1, if_pos, if_neg, Nat.not_le, Nat.not_lt, not_true_eq_false, not_false_eq_true, if_true, if_false, ne_eq, Option.some.injEq, Prod.mk.injEq, Value.int.injEq, true_and, and_true, and_self, ite_self, Bool.not_eq_true, Bool.not_eq_false, Bool.true_eq_false, Bool.false_eq_true, reduceCtorEq, Nat.zero_add, Nat.reduceAdd, Nat.reduceMul, Nat.reduceSub, ds_setI_row, ds_setL_row, ds_rowI_self, ds_rowI_ne, ds_rowI_2, ds_rowI_rowI, ds_setS_1, ds_setS_21, ds_setS_self, ds_setS_ne, pk_us, pk_un, s1, s2]
  refine ⟨z', ?_, ⟨a, a16, ?_, ?_, ?_, ?_⟩, s3, ?_, s5⟩
  · rw [c_Shelf_popInto, b_Shelf_popInto_0_80]
    have ez : ds_rowI z 80 (upd (z.1 80) 3 (nI (u - 1))) = za := rfl
    simp (disch := first | assumption | omega | rfl | decide) only [ds_cI, ds_cV, ds_cL, ds_cR, ds_nn, ds_isK_t, ds_isA_t, ds_chk_t, ds_chkN, ds_nz_t, ds_nzN, ds_isB_t, ds_isB_bo, ↓dl_m1, ↓dl_m2, dl_0, dl_1, dl_2, dl_3, dl_4, dl_5, dl_6, dl_7, dl_8, dl_9, dl_10, dl_11, dl_12, dl_13, dl_14, dl_15, dl_16, dl_20, dl_24, dl_31, dl_50, dl_57, dl_67, dl_68, dl_74, dl_75, dl_79, dl_80, dl_99, dl_100, dl_200, dl_210, dl_224, dl_255, dl_289, dl_900, dl_1000, dl_1728, dl_65536, dl_65537, nI_add, pk_mul, pk_sub, pk_div, pk_rem, ds_rem2, nI_clamp, nI_leI, nI_ltI, nI_eq, ds_m1_eq, ds_eq_m1, ds_m2_eq, ds_eq_m2, ds_m1_le, ds_le_m1, ds_m1_lt, ds_lt_m1, ds_in_N, ds_bo0, ds_bo1, if_pos, if_neg, Nat.not_le, Nat.not_lt, not_true_eq_false, not_false_eq_true, if_true, if_false, ne_eq, Option.some.injEq, Prod.mk.injEq, Value.int.injEq, true_and, and_true, and_self, ite_self, Bool.not_eq_true, Bool.not_eq_false, Bool.true_eq_false, Bool.false_eq_true, reduceCtorEq, Nat.zero_add, Nat.reduceAdd, Nat.reduceMul, Nat.reduceSub, ds_setI_row, ds_setL_row, ds_rowI_self, ds_rowI_ne, ds_rowI_2, ds_rowI_rowI, ds_setS_1, ds_setS_21, ds_setS_self, ds_setS_ne, pk_us, pk_un, e3, ez, s6]
  · rw [s4 80 (by decide) (by decide)]; simp only [za]; rw [ds_rowI_self, pk_un (by decide)]; exact e0
  · rw [s4 80 (by decide) (by decide)]; simp only [za]; rw [ds_rowI_self, pk_un (by decide)]; exact e2
  · rw [s4 80 (by decide) (by decide)]; simp only [za]; rw [ds_rowI_self, pk_us]
  · intro q hq
    rw [s4 81 (by decide) (by decide)]; simp only [za]; rw [ds_rowI_ne _ _ (by decide)]; exact hr q (by omega)
  · intro p h1 h2 h3
    rw [s4 p h1 h2]
    exact ds_rowI_ne _ _ h3
theorem s_backI (d m i : Nat) (z : ds_St) (M : Nat → Nat → Nat) (hU : ∀ q, q < m → M q 12 ≤ 12) (ha : dk_imC z M m) (hm : m ≤ 3) (hi : i < m) : ∃ z', ds_call (d + 3) j_Shelf_readInto [.ref 82, .int (nI i), .ref 61] z = some (none, z') ∧ dk_deC z' (M i) ∧ (∀ p, p ≠ 61 → p ≠ 62 → z'.1 p = z.1 p) ∧ z'.2 = z.2 := by
  obtain ⟨a, a16, e0, e2, e3, h0, hr⟩ := ha
  have s1 := s_startOf_82 (d + 1) a i z (by rw [e0]; rfl) e2 (by omega) (by omega)
  have hl : (a + i) % 3 < 3 := Nat.mod_lt _ (by decide)
  obtain ⟨z', s2, s3, s4, s5⟩ := s_readRow d 83 ((a + i) % 3 * 14) z (M i) rfl (show (a + i) % 3 * 14 + 14 ≤ 42 by omega) (by decide) (by decide) (by decide) (hU _ hi) (hr i hi)
  refine ⟨z', ?_, s3, s4, s5⟩
  rw [c_Shelf_readInto, b_Shelf_readInto_0_82]
  simp (disch := first | assumption | omega | rfl | decide) only [ds_cI, ds_cV, ds_cL, ds_cR, ds_nn, ds_isK_t, ds_isA_t, ds_chk_t, ds_chkN, ds_nz_t, ds_nzN, ds_isB_t, ds_isB_bo, ↓dl_m1, ↓dl_m2, dl_0, dl_1, dl_2, dl_3, dl_4, dl_5, dl_6, dl_7, dl_8, dl_9, dl_10, dl_11, dl_12, dl_13, dl_14, dl_15, dl_16, dl_20, dl_24, dl_31, dl_50, dl_57, dl_67, dl_68, dl_74, dl_75, dl_79, dl_80, dl_99, dl_100, dl_200, dl_210, dl_224, dl_255, dl_289, dl_900, dl_1000, dl_1728, dl_65536, dl_65537, nI_add, pk_mul, pk_sub, pk_div, pk_rem, ds_rem2, nI_clamp, nI_leI, nI_ltI, nI_eq, ds_m1_eq, ds_eq_m1, ds_m2_eq, ds_eq_m2, ds_m1_le, ds_le_m1, ds_m1_lt, ds_lt_m1, ds_in_N, ds_bo0, ds_bo1, if_pos, if_neg, Nat.not_le, Nat.not_lt, not_true_eq_false, not_false_eq_true, if_true, if_false, ne_eq, Option.some.injEq, Prod.mk.injEq, Value.int.injEq, true_and, and_true, and_self, ite_self, Bool.not_eq_true, Bool.not_eq_false, Bool.true_eq_false, Bool.false_eq_true, reduceCtorEq, Nat.zero_add, Nat.reduceAdd, Nat.reduceMul, Nat.reduceSub, ds_setI_row, ds_setL_row, ds_rowI_self, ds_rowI_ne, ds_rowI_2, ds_rowI_rowI, ds_setS_1, ds_setS_21, ds_setS_self, ds_setS_ne, pk_us, pk_un, s1, s2]
