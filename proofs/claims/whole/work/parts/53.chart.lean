/-! the chart of a deck -/
/-- a deck of the class at e: its c cards -/
def dk_dk (z : ds_St) (e : Nat) (C : Nat → Nat) (c n : Nat) : Prop := (e = 61 ∨ e = 64) ∧ z.1 e 2 = nI c ∧ c ≤ 12 ∧ (∀ p, p < c → z.1 (e + 1) p = nI (C p)) ∧ dk_inj C c n
/-- the chart shows the L islands that lie in the sea -/
def dk_ch (z : ds_St) (t : Nat) (D : Nat → Nat → Nat) (L : Nat) (C : Nat → Nat) : Prop := z.2.2 2 = t ∧ z.1 67 2 = nI L ∧ L ≤ 12 ∧ L ≤ D 0 0 * D 0 1 ∧ (∀ p, p < L → z.1 68 p = nI (C p)) ∧ dk_inj C L (D 0 4)
theorem dk_tC_fr {a b t : Nat} {z z' : ds_St} {D : Nat → Nat → Nat} (h : dk_tC z t D) (hf : dk_fr a b z z') (ha : 61 ≤ a) : dk_tC z' t D := by
  obtain ⟨ht, h0, h1, h2, h3, h4, h5⟩ := h
  unfold dk_tC
  rw [hf.1 t (by omega), hf.1 (t + 1) (by omega), hf.1 (t + 2) (by omega), hf.1 (t + 3) (by omega), hf.1 (t + 4) (by omega), hf.1 (t + 5) (by omega), hf.1 (t + 6) (by omega), hf.1 (t + 7) (by omega), hf.1 (t + 8) (by omega), hf.1 (t + 9) (by omega), hf.1 (t + 10) (by omega)]
  exact ⟨ht, h0, h1, h2, h3, h4, h5⟩
theorem s_cardAt (d e c p n : Nat) (z : ds_St) (C : Nat → Nat) (he : dk_dk z e C c n) (hp : p < c) : ds_call (d + 2) j_Deck_cardAt [.ref e, .int (nI p)] z = some (some (.int (nI (C p))), z) := by
  obtain ⟨he, h2, h3, h4, h5⟩ := he
  have e1 := h4 p hp
  rcases he with rfl | rfl
  · rw [s_cardAt_61 d c p z h2 h3 (by omega), if_pos hp, e1]
  · rw [s_cardAt_64 d c p z h2 h3 (by omega), if_pos hp, e1]
theorem dk_Ke {e : Nat} (h : e = 61 ∨ e = 64) : ds_K e = 2 := by rcases h with rfl | rfl <;> rfl
theorem s_show (d t e c : Nat) (z : ds_St) (D : Nat → Nat → Nat) (C : Nat → Nat) (hT : dk_tC z t D) (hD : dk_ok D) (he : dk_dk z e C c (D 0 4)) : ∃ z', ds_call (d + 3) j_Chart_show [.ref 67, .ref t, .ref e] z = some (none, z') ∧ dk_ch z' t D (min (D 0 0 * D 0 1) c) C ∧ dk_fr 67 70 z z' := by
  obtain ⟨ht, ⟨t0, t1, _⟩, _⟩ := hT
  obtain ⟨⟨w2, w4⟩, ⟨g2, g3⟩, _⟩ := hD
  have hK := ds_Kt ht
  obtain ⟨he1, e2, e3, e4, e5⟩ := he
  have hKe := dk_Ke he1
  have hR : D 0 0 * D 0 1 ≤ 12 := Nat.mul_le_mul w4 g3
  generalize hL : min (D 0 0 * D 0 1) c = L
  let zk : Nat → ds_St := fun k => ds_rowI (ds_rowI (ds_setS z 2 t) 67 (upd (z.1 67) 2 (nI L))) 68 (fun j => if j < k then nI (C j) else z.1 68 j)
  have step : ∀ k, 0 ≤ k → k < L → ds_Rw ds_c_Chart_show ds_u_Chart_show (ds_call (d + 2)) 22 [some (.ref 67), none, some (.ref e), some (.int (nI k))] [] (zk k) = ds_Rw ds_c_Chart_show ds_u_Chart_show (ds_call (d + 2)) 22 [some (.ref 67), none, some (.ref e), some (.int (nI (k + 1)))] [] (zk (k + 1)) := by
    intro k _ hk
    have hd : dk_dk (zk k) e C c (D 0 4) := ⟨he1, by simp only [zk]; rw [ds_rowI_ne _ _ (by omega), ds_rowI_ne _ _ (by omega)]; exact e2, e3, by simp only [zk]; rw [ds_rowI_ne _ _ (by omega), ds_rowI_ne _ _ (by omega)]; exact e4, e5⟩
    rw [b_Chart_show_22]
    have hl : (zk k).1 67 2 = nI L := by
      simp (disch := first | assumption | omega | rfl | decide) only [ds_cI, ds_cV, ds_cL, ds_cR, ds_nn, ds_isK_t, ds_isA_t, ds_chk_t, ds_chkN, ds_nz_t, ds_nzN, ds_isB_t, ds_isB_bo, ↓dl_m1, ↓dl_m2, dl_0, dl_1, dl_2, dl_3, dl_4, dl_5, dl_6, dl_7, dl_8, dl_9, dl_10, dl_11, dl_12, dl_13, dl_14, dl_15, dl_16, dl_20, dl_24, dl_31, dl_50, dl_57, dl_67, dl_68, dl_74, dl_75, dl_79, dl_80, dl_99, dl_100, dl_200, dl_210, dl_224, dl_255, dl_289, dl_900, dl_1000, dl_1728, dl_65536, dl_65537, nI_add, pk_mul, pk_sub, pk_div, pk_rem, nI_clamp, nI_leI, nI_ltI, nI_eq, ds_m1_eq, ds_eq_m1, ds_m2_eq, ds_eq_m2, ds_m1_le, ds_le_m1, ds_m1_lt, ds_lt_m1, ds_in_N, ds_bo0, ds_bo1, if_pos, if_neg, Nat.not_le, Nat.not_lt, not_true_eq_false, not_false_eq_true, if_true, if_false, ne_eq, Option.some.injEq, Prod.mk.injEq, Value.int.injEq, true_and, and_true, and_self, ite_self, Bool.not_eq_true, Bool.not_eq_false, Bool.true_eq_false, Bool.false_eq_true, reduceCtorEq, ds_setI_row, ds_setL_row, ds_rowI_self, ds_rowI_ne, ds_rowI_2, ds_rowI_rowI, ds_setS_1, ds_setS_21, ds_setS_self, ds_setS_ne, pk_us, pk_un, zk]
    simp (disch := first | assumption | omega | rfl | decide) only [ds_cI, ds_cV, ds_cL, ds_cR, ds_nn, ds_isK_t, ds_isA_t, ds_chk_t, ds_chkN, ds_nz_t, ds_nzN, ds_isB_t, ds_isB_bo, ↓dl_m1, ↓dl_m2, dl_0, dl_1, dl_2, dl_3, dl_4, dl_5, dl_6, dl_7, dl_8, dl_9, dl_10, dl_11, dl_12, dl_13, dl_14, dl_15, dl_16, dl_20, dl_24, dl_31, dl_50, dl_57, dl_67, dl_68, dl_74, dl_75, dl_79, dl_80, dl_99, dl_100, dl_200, dl_210, dl_224, dl_255, dl_289, dl_900, dl_1000, dl_1728, dl_65536, dl_65537, nI_add, pk_mul, pk_sub, pk_div, pk_rem, nI_clamp, nI_leI, nI_ltI, nI_eq, ds_m1_eq, ds_eq_m1, ds_m2_eq, ds_eq_m2, ds_m1_le, ds_le_m1, ds_m1_lt, ds_lt_m1, ds_in_N, ds_bo0, ds_bo1, if_pos, if_neg, Nat.not_le, Nat.not_lt, not_true_eq_false, not_false_eq_true, if_true, if_false, ne_eq, Option.some.injEq, Prod.mk.injEq, Value.int.injEq, true_and, and_true, and_self, ite_self, Bool.not_eq_true, Bool.not_eq_false, Bool.true_eq_false, Bool.false_eq_true, reduceCtorEq, ds_setI_row, ds_setL_row, ds_rowI_self, ds_rowI_ne, ds_rowI_2, ds_rowI_rowI, ds_setS_1, ds_setS_21, ds_setS_self, ds_setS_ne, pk_us, pk_un, hl, s_cardAt d e c k (D 0 4) (zk k) C hd (show k < c by omega), s_putN (n := 12)]
    have : ds_rowI (zk k) 68 (upd ((zk k).1 68) k (nI (C k))) = zk (k + 1) := by
      simp only [zk]
      rw [ds_rowI_rowI, ds_rowI_self]
      apply ds_rowI_congr
      intro j
      dsimp only [upd]
      by_cases h : j = k
      · rw [if_pos h, if_pos (by omega), h]
      · rw [if_neg h]
        by_cases h2 : j < k
        · rw [if_pos h2, if_pos (by omega)]
        · rw [if_neg h2, if_neg (by omega)]
    rw [this]
  have up := ds_up (F := fun k => ds_Rw ds_c_Chart_show ds_u_Chart_show (ds_call (d + 2)) 22 [some (.ref 67), none, some (.ref e), some (.int (nI k))] [] (zk k)) 0 step (Nat.zero_le L)
  refine ⟨zk L, ?_, ?_, ?_⟩
  · rw [c_Chart_show, b_Chart_show_0]
    have hl : (zk L).1 67 2 = nI L := by
      simp (disch := first | assumption | omega | rfl | decide) only [ds_cI, ds_cV, ds_cL, ds_cR, ds_nn, ds_isK_t, ds_isA_t, ds_chk_t, ds_chkN, ds_nz_t, ds_nzN, ds_isB_t, ds_isB_bo, ↓dl_m1, ↓dl_m2, dl_0, dl_1, dl_2, dl_3, dl_4, dl_5, dl_6, dl_7, dl_8, dl_9, dl_10, dl_11, dl_12, dl_13, dl_14, dl_15, dl_16, dl_20, dl_24, dl_31, dl_50, dl_57, dl_67, dl_68, dl_74, dl_75, dl_79, dl_80, dl_99, dl_100, dl_200, dl_210, dl_224, dl_255, dl_289, dl_900, dl_1000, dl_1728, dl_65536, dl_65537, nI_add, pk_mul, pk_sub, pk_div, pk_rem, nI_clamp, nI_leI, nI_ltI, nI_eq, ds_m1_eq, ds_eq_m1, ds_m2_eq, ds_eq_m2, ds_m1_le, ds_le_m1, ds_m1_lt, ds_lt_m1, ds_in_N, ds_bo0, ds_bo1, if_pos, if_neg, Nat.not_le, Nat.not_lt, not_true_eq_false, not_false_eq_true, if_true, if_false, ne_eq, Option.some.injEq, Prod.mk.injEq, Value.int.injEq, true_and, and_true, and_self, ite_self, Bool.not_eq_true, Bool.not_eq_false, Bool.true_eq_false, Bool.false_eq_true, reduceCtorEq, ds_setI_row, ds_setL_row, ds_rowI_self, ds_rowI_ne, ds_rowI_2, ds_rowI_rowI, ds_setS_1, ds_setS_21, ds_setS_self, ds_setS_ne, pk_us, pk_un, zk]
    simp (disch := first | assumption | omega | rfl | decide) only [ds_cI, ds_cV, ds_cL, ds_cR, ds_nn, ds_isK_t, ds_isA_t, ds_chk_t, ds_chkN, ds_nz_t, ds_nzN, ds_isB_t, ds_isB_bo, ↓dl_m1, ↓dl_m2, dl_0, dl_1, dl_2, dl_3, dl_4, dl_5, dl_6, dl_7, dl_8, dl_9, dl_10, dl_11, dl_12, dl_13, dl_14, dl_15, dl_16, dl_20, dl_24, dl_31, dl_50, dl_57, dl_67, dl_68, dl_74, dl_75, dl_79, dl_80, dl_99, dl_100, dl_200, dl_210, dl_224, dl_255, dl_289, dl_900, dl_1000, dl_1728, dl_65536, dl_65537, nI_add, pk_mul, pk_sub, pk_div, pk_rem, nI_clamp, nI_leI, nI_ltI, nI_eq, ds_m1_eq, ds_eq_m1, ds_m2_eq, ds_eq_m2, ds_m1_le, ds_le_m1, ds_m1_lt, ds_lt_m1, ds_in_N, ds_bo0, ds_bo1, if_pos, if_neg, Nat.not_le, Nat.not_lt, not_true_eq_false, not_false_eq_true, if_true, if_false, ne_eq, Option.some.injEq, Prod.mk.injEq, Value.int.injEq, true_and, and_true, and_self, ite_self, Bool.not_eq_true, Bool.not_eq_false, Bool.true_eq_false, Bool.false_eq_true, reduceCtorEq, ds_setI_row, ds_setL_row, ds_rowI_self, ds_rowI_ne, ds_rowI_2, ds_rowI_rowI, ds_setS_1, ds_setS_21, ds_setS_self, ds_setS_ne, pk_us, pk_un, s_room, t0, t1, e2, s_min, hL]
    have z0 : ds_rowI (ds_setS z 2 t) 67 (upd (z.1 67) 2 (nI L)) = zk 0 := by
      simp only [zk, Nat.not_lt_zero, if_false]
      have : (fun j => z.1 68 j) = (ds_rowI (ds_setS z 2 t) 67 (upd (z.1 67) 2 (nI L))).1 68 := by
        rw [ds_rowI_ne _ _ (by decide)]; rfl
      rw [this, ds_rowI_id]
    rw [z0]
    try simp only at up
    rw [up, b_Chart_show_22]
    simp (disch := first | assumption | omega | rfl | decide) only [ds_cI, ds_cV, ds_cL, ds_cR, ds_nn, ds_isK_t, ds_isA_t, ds_chk_t, ds_chkN, ds_nz_t, ds_nzN, ds_isB_t, ds_isB_bo, ↓dl_m1, ↓dl_m2, dl_0, dl_1, dl_2, dl_3, dl_4, dl_5, dl_6, dl_7, dl_8, dl_9, dl_10, dl_11, dl_12, dl_13, dl_14, dl_15, dl_16, dl_20, dl_24, dl_31, dl_50, dl_57, dl_67, dl_68, dl_74, dl_75, dl_79, dl_80, dl_99, dl_100, dl_200, dl_210, dl_224, dl_255, dl_289, dl_900, dl_1000, dl_1728, dl_65536, dl_65537, nI_add, pk_mul, pk_sub, pk_div, pk_rem, nI_clamp, nI_leI, nI_ltI, nI_eq, ds_m1_eq, ds_eq_m1, ds_m2_eq, ds_eq_m2, ds_m1_le, ds_le_m1, ds_m1_lt, ds_lt_m1, ds_in_N, ds_bo0, ds_bo1, if_pos, if_neg, Nat.not_le, Nat.not_lt, not_true_eq_false, not_false_eq_true, if_true, if_false, ne_eq, Option.some.injEq, Prod.mk.injEq, Value.int.injEq, true_and, and_true, and_self, ite_self, Bool.not_eq_true, Bool.not_eq_false, Bool.true_eq_false, Bool.false_eq_true, reduceCtorEq, ds_setI_row, ds_setL_row, ds_rowI_self, ds_rowI_ne, ds_rowI_2, ds_rowI_rowI, ds_setS_1, ds_setS_21, ds_setS_self, ds_setS_ne, pk_us, pk_un, hl]
  · refine ⟨?_, ?_, by omega, by omega, ?_, dk_inj_sub e5 (by omega)⟩
    · simp only [zk]; rw [ds_rowI_2, ds_rowI_2, ds_setS_self]
    · simp (disch := first | assumption | omega | rfl | decide) only [ds_cI, ds_cV, ds_cL, ds_cR, ds_nn, ds_isK_t, ds_isA_t, ds_chk_t, ds_chkN, ds_nz_t, ds_nzN, ds_isB_t, ds_isB_bo, ↓dl_m1, ↓dl_m2, dl_0, dl_1, dl_2, dl_3, dl_4, dl_5, dl_6, dl_7, dl_8, dl_9, dl_10, dl_11, dl_12, dl_13, dl_14, dl_15, dl_16, dl_20, dl_24, dl_31, dl_50, dl_57, dl_67, dl_68, dl_74, dl_75, dl_79, dl_80, dl_99, dl_100, dl_200, dl_210, dl_224, dl_255, dl_289, dl_900, dl_1000, dl_1728, dl_65536, dl_65537, nI_add, pk_mul, pk_sub, pk_div, pk_rem, nI_clamp, nI_leI, nI_ltI, nI_eq, ds_m1_eq, ds_eq_m1, ds_m2_eq, ds_eq_m2, ds_m1_le, ds_le_m1, ds_m1_lt, ds_lt_m1, ds_in_N, ds_bo0, ds_bo1, if_pos, if_neg, Nat.not_le, Nat.not_lt, not_true_eq_false, not_false_eq_true, if_true, if_false, ne_eq, Option.some.injEq, Prod.mk.injEq, Value.int.injEq, true_and, and_true, and_self, ite_self, Bool.not_eq_true, Bool.not_eq_false, Bool.true_eq_false, Bool.false_eq_true, reduceCtorEq, ds_setI_row, ds_setL_row, ds_rowI_self, ds_rowI_ne, ds_rowI_2, ds_rowI_rowI, ds_setS_1, ds_setS_21, ds_setS_self, ds_setS_ne, pk_us, pk_un, zk]
    · intro p hp
      simp (disch := first | assumption | omega | rfl | decide) only [ds_cI, ds_cV, ds_cL, ds_cR, ds_nn, ds_isK_t, ds_isA_t, ds_chk_t, ds_chkN, ds_nz_t, ds_nzN, ds_isB_t, ds_isB_bo, ↓dl_m1, ↓dl_m2, dl_0, dl_1, dl_2, dl_3, dl_4, dl_5, dl_6, dl_7, dl_8, dl_9, dl_10, dl_11, dl_12, dl_13, dl_14, dl_15, dl_16, dl_20, dl_24, dl_31, dl_50, dl_57, dl_67, dl_68, dl_74, dl_75, dl_79, dl_80, dl_99, dl_100, dl_200, dl_210, dl_224, dl_255, dl_289, dl_900, dl_1000, dl_1728, dl_65536, dl_65537, nI_add, pk_mul, pk_sub, pk_div, pk_rem, nI_clamp, nI_leI, nI_ltI, nI_eq, ds_m1_eq, ds_eq_m1, ds_m2_eq, ds_eq_m2, ds_m1_le, ds_le_m1, ds_m1_lt, ds_lt_m1, ds_in_N, ds_bo0, ds_bo1, if_pos, if_neg, Nat.not_le, Nat.not_lt, not_true_eq_false, not_false_eq_true, if_true, if_false, ne_eq, Option.some.injEq, Prod.mk.injEq, Value.int.injEq, true_and, and_true, and_self, ite_self, Bool.not_eq_true, Bool.not_eq_false, Bool.true_eq_false, Bool.false_eq_true, reduceCtorEq, ds_setI_row, ds_setL_row, ds_rowI_self, ds_rowI_ne, ds_rowI_2, ds_rowI_rowI, ds_setS_1, ds_setS_21, ds_setS_self, ds_setS_ne, pk_us, pk_un, zk]
  · exact dk_fr_row _ (dk_fr_row _ (dk_fr_setS (dk_fr_refl _ _ _) (by decide)) (by decide) (by decide)) (by decide) (by decide)
