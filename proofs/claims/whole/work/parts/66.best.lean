/-! moves tried -/
theorem s_takeC (d t : Nat) (z : ds_St) (D : Nat → Nat → Nat) (K : Nat → Nat) (hC : dk_HC z t D K) (hK : dk_okK D K) : ∃ z', ds_call (d + 1) j_Deck_take [.ref 64, .ref 61] z = some (none, z') ∧ dk_dk z' 64 K (K 12) (D 0 4) ∧ dk_fr 64 67 z z' := by
  obtain ⟨r0, hT, e1, e2, e3⟩ := hC
  refine ⟨_, s_take d z, ⟨.inr rfl, ?_, hK.1, ?_, hK.2.1⟩, dk_fr_row _ (dk_fr_row _ (dk_fr_refl _ _ _) (by decide) (by decide)) (by decide) (by decide)⟩
  · rw [ds_rowI_self, pk_un (by decide), pk_us]; exact e1
  · intro p hp
    have := hK.1
    simp only [Nat.reduceAdd]
    rw [ds_rowI_ne _ _ (by decide), ds_rowI_self, pk_cpy_in (by omega) (by omega)]
    simpa using e2 p hp
theorem s_takeM (d x : Nat) (z : ds_St) (D : Nat → Nat → Nat) (K : Nat → Nat) (hx : x = 100 ∨ x = 101) (hM : dk_HM z D K) (hK : dk_okK D K) : ∃ z', ds_call (d + 1) j_Mod_copy [.ref 95, .int (nI 0), .ref x, .int (nI 0), .int (nI 14)] z = some (none, z') ∧ dk_dm z' x K (K 12) (D 0 4) ∧ dk_fm z z' ∧ (∀ p, p ≠ x → z'.1 p = z.1 p) ∧ z'.2 = z.2 := by
  have hm := dk_HM_dm hM hK
  obtain ⟨_, h2, h3, h4, h5⟩ := hm
  have hK' : ds_K x = 11 := dk_Kx (by omega)
  have hN' : ds_N x = 14 := dk_Nx (by omega)
  refine ⟨_, s_copy d 95 x 0 0 14 z rfl hK' (by omega) (by decide) (by rw [hN']; decide) ⟨by decide, by rw [hN']; decide⟩, ⟨by omega, ?_, h3, ?_, h5⟩, dk_fm_row _ (dk_fm_refl z) (by omega), fun p hp => ds_rowI_ne _ _ hp, rfl⟩
  · rw [ds_rowI_self, ds_cpF_at, if_pos (by omega)]; simpa using h2
  · intro p hp
    rw [ds_rowI_self, ds_cpF_at, if_pos (by omega)]; simpa using h4 p hp
theorem dk_ti_le (D : Nat → Nat → Nat) (C : Nat → Nat) (c i j : Nat) : dk_ti D C c i j ≤ 3 := by
  unfold dk_ti dk_wor
  split
  · split
    · omega
    · split <;> split <;> omega
  · omega
theorem dk_trm_lt {D : Nat → Nat → Nat} {C : Nat → Nat} {c : Nat} {G : Nat → Bool} (hn : D 0 4 ≤ 12) : dk_trm D C c G < 2 ^ 30 := by
  have : dk_trm D C c G ≤ D 0 4 * (12 * 3) := by
    unfold dk_trm
    apply dk_sum_le
    intro i hi
    have h1 := dk_sum_le (f := fun j => if G i = true then dk_ti D C c i j else 0) (b := 3) (n := i) (fun j _ => by
      have := dk_ti_le D C c i j
      split <;> omega)
    have h2 : i * 3 ≤ 12 * 3 := by omega
    omega
  have h2 : D 0 4 * (12 * 3) ≤ 12 * (12 * 3) := Nat.mul_le_mul_right _ hn
  omega
def dk_all : Nat → Bool := fun _ => true
/-- the trades behind a move, behind two -/
def dk_T1 (D : Nat → Nat → Nat) (K : Nat → Nat) (a : Nat) : Nat := dk_trm D (dk_mk K a (K 12)) (K 12) (fun _ => true)
def dk_two (K : Nat → Nat) (a b : Nat) : Nat → Nat := dk_mk (dk_mk K a (K 12)) b (K 12)
def dk_T2 (D : Nat → Nat → Nat) (K : Nat → Nat) (a b : Nat) : Nat := dk_trm D (dk_two K a b) (K 12) (fun _ => true)
theorem s_tradesBy (d t a : Nat) (z : ds_St) (D : Nat → Nat → Nat) (K : Nat → Nat) (hC : dk_HC z t D K) (hD : dk_ok D) (hK : dk_okK D K) (ha : a < 14) : ∃ z', ds_call (d + 6) j_Sea_tradesBy [.ref 0, .int (nI a)] z = some (some (.int (nI (dk_T1 D K a))), z') ∧ dk_fr 64 80 z z' := by
  obtain ⟨z1, s1, s2, s3⟩ := s_takeC (d + 4) t z D K hC hK
  obtain ⟨z2, s4, s5, s6, s7⟩ := s_mkC (d + 2) 64 a (K 12) (D 0 4) z1 K ha s2
  have f2 := dk_fr_trans (dk_fr_mono s3 (by decide) (by decide)) (dk_fr_mono (a' := 64) (b' := 80) s6 (by decide) (by decide))
  have hC' := dk_HC_fr hC f2
  obtain ⟨z3, s8, s9, s10, s11⟩ := s_trTrial d t (K 12) z2 D _ hC'.1 hC'.2.1 hD s5
  refine ⟨z3, ?_, dk_fr_trans f2 (dk_fr_mono s10 (by decide) (by decide))⟩
  rw [c_Sea_tradesBy, b_Sea_tradesBy_0]
  simp (disch := first | assumption | omega | rfl | decide) only [ds_cI, ds_cV, ds_cL, ds_cR, ds_nn, ds_isK_t, ds_isA_t, ds_chk_t, ds_chkN, ds_nz_t, ds_nzN, ds_isB_t, ds_isB_bo, ↓dl_m1, ↓dl_m2, dl_0, dl_1, dl_2, dl_3, dl_4, dl_5, dl_6, dl_7, dl_8, dl_9, dl_10, dl_11, dl_12, dl_13, dl_14, dl_15, dl_16, dl_20, dl_24, dl_31, dl_50, dl_57, dl_67, dl_68, dl_74, dl_75, dl_79, dl_80, dl_99, dl_100, dl_200, dl_210, dl_224, dl_255, dl_289, dl_900, dl_1000, dl_1728, dl_65536, dl_65537, nI_add, pk_mul, pk_sub, pk_div, pk_rem, ds_rem2, nI_clamp, nI_leI, nI_ltI, nI_eq, ds_m1_eq, ds_eq_m1, ds_m2_eq, ds_eq_m2, ds_m1_le, ds_le_m1, ds_m1_lt, ds_lt_m1, ds_in_N, ds_bo0, ds_bo1, if_pos, if_neg, Nat.not_le, Nat.not_lt, not_true_eq_false, not_false_eq_true, if_true, if_false, ne_eq, Option.some.injEq, Prod.mk.injEq, Value.int.injEq, true_and, and_true, and_self, ite_self, Bool.not_eq_true, Bool.not_eq_false, Bool.true_eq_false, Bool.false_eq_true, reduceCtorEq, Nat.zero_add, Nat.reduceAdd, Nat.reduceMul, Nat.reduceSub, ds_setI_row, ds_setL_row, ds_rowI_self, ds_rowI_ne, ds_rowI_2, ds_rowI_rowI, ds_setS_1, ds_setS_21, ds_setS_self, ds_setS_ne, pk_us, pk_un, s1, s4, s8, s9]
  rfl
theorem s_makeTwo (d t a b : Nat) (z : ds_St) (D : Nat → Nat → Nat) (K : Nat → Nat) (hC : dk_HC z t D K) (hD : dk_ok D) (hK : dk_okK D K) (ha : a < 14) (hb : b < 14) : ∃ z', ds_call (d + 4) j_Sea_makeTwo [.ref 0, .int (nI a), .int (nI b)] z = some (none, z') ∧ dk_dk z' 64 (dk_two K a b) (K 12) (D 0 4) ∧ dk_fr 64 80 z z' ∧ dk_fr 64 67 z z' := by
  obtain ⟨z1, s1, s2, s3⟩ := s_takeC (d + 2) t z D K hC hK
  obtain ⟨z2, s4, s5, s6, s7⟩ := s_mkC d 64 a (K 12) (D 0 4) z1 K ha s2
  obtain ⟨z3, s8, s9, s10, s11⟩ := s_mkC d 64 b (K 12) (D 0 4) z2 _ hb s5
  have f1 := dk_fr_trans s3 (dk_fr_trans (dk_fr_mono (a' := 64) (b' := 67) s6 (by decide) (by decide)) (dk_fr_mono (a' := 64) (b' := 67) s10 (by decide) (by decide)))
  refine ⟨z3, ?_, s9, dk_fr_mono f1 (by decide) (by decide), f1⟩
  rw [c_Sea_makeTwo, b_Sea_makeTwo_0]
  simp (disch := first | assumption | omega | rfl | decide) only [ds_cI, ds_cV, ds_cL, ds_cR, ds_nn, ds_isK_t, ds_isA_t, ds_chk_t, ds_chkN, ds_nz_t, ds_nzN, ds_isB_t, ds_isB_bo, ↓dl_m1, ↓dl_m2, dl_0, dl_1, dl_2, dl_3, dl_4, dl_5, dl_6, dl_7, dl_8, dl_9, dl_10, dl_11, dl_12, dl_13, dl_14, dl_15, dl_16, dl_20, dl_24, dl_31, dl_50, dl_57, dl_67, dl_68, dl_74, dl_75, dl_79, dl_80, dl_99, dl_100, dl_200, dl_210, dl_224, dl_255, dl_289, dl_900, dl_1000, dl_1728, dl_65536, dl_65537, nI_add, pk_mul, pk_sub, pk_div, pk_rem, ds_rem2, nI_clamp, nI_leI, nI_ltI, nI_eq, ds_m1_eq, ds_eq_m1, ds_m2_eq, ds_eq_m2, ds_m1_le, ds_le_m1, ds_m1_lt, ds_lt_m1, ds_in_N, ds_bo0, ds_bo1, if_pos, if_neg, Nat.not_le, Nat.not_lt, not_true_eq_false, not_false_eq_true, if_true, if_false, ne_eq, Option.some.injEq, Prod.mk.injEq, Value.int.injEq, true_and, and_true, and_self, ite_self, Bool.not_eq_true, Bool.not_eq_false, Bool.true_eq_false, Bool.false_eq_true, reduceCtorEq, Nat.zero_add, Nat.reduceAdd, Nat.reduceMul, Nat.reduceSub, ds_setI_row, ds_setL_row, ds_rowI_self, ds_rowI_ne, ds_rowI_2, ds_rowI_rowI, ds_setS_1, ds_setS_21, ds_setS_self, ds_setS_ne, pk_us, pk_un, s1, s4, s8]
theorem s_mtradesBy1 (d a : Nat) (z : ds_St) (D : Nat → Nat → Nat) (K : Nat → Nat) (hM : dk_HM z D K) (hD : dk_ok D) (hK : dk_okK D K) (ha : a < 14) : ∃ z', ds_call (d + 6) j_Mod_tradesBy [.ref 90, .int (nI a), .int ds_m1] z = some (some (.int (nI (dk_T1 D K a))), z') ∧ dk_fm z z' := by
  obtain ⟨z1, s1, s2, s3, _, _⟩ := s_takeM (d + 4) 101 z D K (.inr rfl) hM hK
  obtain ⟨z2, s4, s5, s6, s7, s8⟩ := s_mkM (d + 3) 101 a (K 12) (D 0 4) z1 K ha s2
  have f2 := dk_fm_trans s3 (dk_fm_of (by decide) s6 s8)
  have hM2 := dk_HM_fm hM f2
  have s9 := s_tradesIn d 101 (K 12) ds_m1 (fun _ => true) z2 D _ hM2.1 hD s5 (.inl ⟨rfl, fun _ => rfl⟩)
  refine ⟨z2, ?_, f2⟩
  rw [c_Mod_tradesBy, b_Mod_tradesBy_0]
  simp (disch := first | assumption | omega | rfl | decide) only [ds_cI, ds_cV, ds_cL, ds_cR, ds_nn, ds_isK_t, ds_isA_t, ds_chk_t, ds_chkN, ds_nz_t, ds_nzN, ds_isB_t, ds_isB_bo, ↓dl_m1, ↓dl_m2, dl_0, dl_1, dl_2, dl_3, dl_4, dl_5, dl_6, dl_7, dl_8, dl_9, dl_10, dl_11, dl_12, dl_13, dl_14, dl_15, dl_16, dl_20, dl_24, dl_31, dl_50, dl_57, dl_67, dl_68, dl_74, dl_75, dl_79, dl_80, dl_99, dl_100, dl_200, dl_210, dl_224, dl_255, dl_289, dl_900, dl_1000, dl_1728, dl_65536, dl_65537, nI_add, pk_mul, pk_sub, pk_div, pk_rem, ds_rem2, nI_clamp, nI_leI, nI_ltI, nI_eq, ds_m1_eq, ds_eq_m1, ds_m2_eq, ds_eq_m2, ds_m1_le, ds_le_m1, ds_m1_lt, ds_lt_m1, ds_in_N, ds_bo0, ds_bo1, if_pos, if_neg, Nat.not_le, Nat.not_lt, not_true_eq_false, not_false_eq_true, if_true, if_false, ne_eq, Option.some.injEq, Prod.mk.injEq, Value.int.injEq, true_and, and_true, and_self, ite_self, Bool.not_eq_true, Bool.not_eq_false, Bool.true_eq_false, Bool.false_eq_true, reduceCtorEq, Nat.zero_add, Nat.reduceAdd, Nat.reduceMul, Nat.reduceSub, ds_setI_row, ds_setL_row, ds_rowI_self, ds_rowI_ne, ds_rowI_2, ds_rowI_rowI, ds_setS_1, ds_setS_21, ds_setS_self, ds_setS_ne, pk_us, pk_un, s1, s4, s9, show ds_m1 < nI 0 from by decide]
  rfl
theorem s_mtradesBy2 (d a b : Nat) (z : ds_St) (D : Nat → Nat → Nat) (K : Nat → Nat) (hM : dk_HM z D K) (hD : dk_ok D) (hK : dk_okK D K) (ha : a < 14) (hb : b < 14) : ∃ z', ds_call (d + 6) j_Mod_tradesBy [.ref 90, .int (nI a), .int (nI b)] z = some (some (.int (nI (dk_T2 D K a b))), z') ∧ dk_fm z z' := by
  obtain ⟨z1, s1, s2, s3, _, _⟩ := s_takeM (d + 4) 101 z D K (.inr rfl) hM hK
  obtain ⟨z2, s4, s5, s6, s7, s8⟩ := s_mkM (d + 3) 101 a (K 12) (D 0 4) z1 K ha s2
  obtain ⟨z3, q4, q5, q6, q7, q8⟩ := s_mkM (d + 3) 101 b (K 12) (D 0 4) z2 _ hb s5
  have f2 := dk_fm_trans s3 (dk_fm_trans (dk_fm_of (by decide) s6 s8) (dk_fm_of (by decide) q6 q8))
  have hM2 := dk_HM_fm hM f2
  have s9 := s_tradesIn d 101 (K 12) ds_m1 (fun _ => true) z3 D _ hM2.1 hD q5 (.inl ⟨rfl, fun _ => rfl⟩)
  refine ⟨z3, ?_, f2⟩
  rw [c_Mod_tradesBy, b_Mod_tradesBy_0]
  simp (disch := first | assumption | omega | rfl | decide) only [ds_cI, ds_cV, ds_cL, ds_cR, ds_nn, ds_isK_t, ds_isA_t, ds_chk_t, ds_chkN, ds_nz_t, ds_nzN, ds_isB_t, ds_isB_bo, ↓dl_m1, ↓dl_m2, dl_0, dl_1, dl_2, dl_3, dl_4, dl_5, dl_6, dl_7, dl_8, dl_9, dl_10, dl_11, dl_12, dl_13, dl_14, dl_15, dl_16, dl_20, dl_24, dl_31, dl_50, dl_57, dl_67, dl_68, dl_74, dl_75, dl_79, dl_80, dl_99, dl_100, dl_200, dl_210, dl_224, dl_255, dl_289, dl_900, dl_1000, dl_1728, dl_65536, dl_65537, nI_add, pk_mul, pk_sub, pk_div, pk_rem, ds_rem2, nI_clamp, nI_leI, nI_ltI, nI_eq, ds_m1_eq, ds_eq_m1, ds_m2_eq, ds_eq_m2, ds_m1_le, ds_le_m1, ds_m1_lt, ds_lt_m1, ds_in_N, ds_bo0, ds_bo1, if_pos, if_neg, Nat.not_le, Nat.not_lt, not_true_eq_false, not_false_eq_true, if_true, if_false, ne_eq, Option.some.injEq, Prod.mk.injEq, Value.int.injEq, true_and, and_true, and_self, ite_self, Bool.not_eq_true, Bool.not_eq_false, Bool.true_eq_false, Bool.false_eq_true, reduceCtorEq, Nat.zero_add, Nat.reduceAdd, Nat.reduceMul, Nat.reduceSub, ds_setI_row, ds_setL_row, ds_rowI_self, ds_rowI_ne, ds_rowI_2, ds_rowI_rowI, ds_setS_1, ds_setS_21, ds_setS_self, ds_setS_ne, pk_us, pk_un, s1, s4, q4, s9]
  rfl
/-- the first of the greatest -/
def dk_arg (T : Nat → Nat) : Nat → Nat
  | 0 => 0
  | k + 1 => if T (dk_arg T k) < T k then k else dk_arg T k
theorem dk_arg_lt (T : Nat → Nat) : ∀ k, 0 < k → dk_arg T k < k := by
  intro k
  induction k with
  | zero => intro h; omega
  | succ k ih =>
    intro _
    simp only [dk_arg]
    split
    · omega
    · rcases Nat.eq_zero_or_pos k with h | h
      · subst h; exact Nat.zero_lt_one
      · have := ih h; omega
theorem dk_mo_K {D : Nat → Nat → Nat} {K : Nat → Nat} (hD : dk_ok D) (hK : dk_okK D K) : 2 ≤ K 12 ∧ K 12 ≤ 12 ∧ dk_mo (K 12) = K 12 + 2 ∧ (if K 12 = 0 then 0 else K 12 + 2) = K 12 + 2 := by
  have n2 := hD.2.2.2.2.1.1
  have h1 : 2 ≤ K 12 := by rcases hK.2.2 with h | h <;> omega
  refine ⟨h1, hK.1, ?_, ?_⟩
  · unfold dk_mo; rw [if_neg (by omega)]
  · rw [if_neg (by omega)]
theorem s_bestMove0 (d t : Nat) (z : ds_St) (D : Nat → Nat → Nat) (K : Nat → Nat) (T : Nat → Nat) (hT : ∀ a z, a < 14 → dk_HC z t D K → ∃ z', ds_call (d + 6) j_Sea_tradesBy [.ref 0, .int (nI a)] z = some (some (.int (nI (T a))), z') ∧ dk_fr 64 80 z z') (hb : ∀ a, T a < 2 ^ 30) (hC : dk_HC z t D K) (hD : dk_ok D) (hK : dk_okK D K) : ∃ z', ds_call (d + 7) j_Sea_bestMove [.ref 0] z = some (some (.int (nI (dk_arg T (K 12 + 2)))), z') ∧ dk_fr 64 80 z z' := by
  obtain ⟨k2, k12, km, ki⟩ := dk_mo_K hD hK
  have n12 := hD.2.2.2.2.1.2
  have go : ∀ m k z, k + m = K 12 + 2 → dk_HC z t D K → ∃ z', ds_Rw ds_c_Sea_bestMove ds_u_Sea_bestMove (ds_call (d + 6)) 6 [some (.ref 0), some (.int (if k = 0 then ds_m1 else nI (T (dk_arg T k)))), some (.int (nI (dk_arg T k))), some (.int (nI k)), none] [] z = some (some (.int (nI (dk_arg T (K 12 + 2)))), z') ∧ dk_fr 64 80 z z' := by
    intro m
    induction m with
    | zero =>
      intro k z hk hC
      have : k = K 12 + 2 := by omega
      subst this
      have c1 := hC.2.2.1
      have mv := s_movesOf (d + 5) (K 12) z (by omega)
      rw [ki] at mv
      refine ⟨z, ?_, dk_fr_refl _ _ _⟩
      rw [b_Sea_bestMove_6]
      simp (disch := first | assumption | omega) only [ds_cI, ds_cV, ds_cL, ds_cR, ds_nn, ds_isK_t, ds_isA_t, ds_chk_t, ds_chkN, ds_nz_t, ds_nzN, ds_isB_t, ds_isB_bo, ↓dl_m1, ↓dl_m2, dl_0, dl_1, dl_2, dl_3, dl_4, dl_5, dl_6, dl_7, dl_8, dl_9, dl_10, dl_11, dl_12, dl_13, dl_14, dl_15, dl_16, dl_20, dl_24, dl_31, dl_50, dl_57, dl_67, dl_68, dl_74, dl_75, dl_79, dl_80, dl_99, dl_100, dl_200, dl_210, dl_224, dl_255, dl_289, dl_900, dl_1000, dl_1728, dl_65536, dl_65537, nI_add, pk_mul, pk_sub, pk_div, pk_rem, ds_rem2, nI_clamp, nI_leI, nI_ltI, nI_eq, ds_m1_eq, ds_eq_m1, ds_m2_eq, ds_eq_m2, ds_m1_le, ds_le_m1, ds_m1_lt, ds_lt_m1, ds_in_N, ds_bo0, ds_bo1, if_pos, if_neg, Nat.not_le, Nat.not_lt, not_true_eq_false, not_false_eq_true, if_true, if_false, ne_eq, Option.some.injEq, Prod.mk.injEq, Value.int.injEq, true_and, and_true, and_self, ite_self, Bool.not_eq_true, Bool.not_eq_false, Bool.true_eq_false, Bool.false_eq_true, reduceCtorEq, Nat.zero_add, Nat.reduceAdd, Nat.reduceMul, Nat.reduceSub, ds_setI_row, ds_setL_row, ds_rowI_self, ds_rowI_ne, ds_rowI_2, ds_rowI_rowI, ds_setS_1, ds_setS_21, ds_setS_self, ds_setS_ne, pk_us, pk_un, c1, mv]
    | succ m ih =>
      intro k z hk hC
      have c1 := hC.2.2.1
      have mv := s_movesOf (d + 5) (K 12) z (by omega)
      rw [ki] at mv
      obtain ⟨z1, s1, s2⟩ := hT k z (by omega) hC
      obtain ⟨z2, q1, q2⟩ := ih (k + 1) z1 (by omega) (dk_HC_fr hC s2)
      refine ⟨z2, ?_, dk_fr_trans s2 q2⟩
      have b1 : T k < 2 ^ 30 := hb _
      have b2 : T (dk_arg T k) < 2 ^ 30 := hb _
      rw [← q1]
      rw [b_Sea_bestMove_6]
      simp only [dk_arg]
      by_cases h0 : k = 0
      · subst h0
        simp only [dk_arg]
        simp (disch := first | assumption | omega) only [ds_cI, ds_cV, ds_cL, ds_cR, ds_nn, ds_isK_t, ds_isA_t, ds_chk_t, ds_chkN, ds_nz_t, ds_nzN, ds_isB_t, ds_isB_bo, ↓dl_m1, ↓dl_m2, dl_0, dl_1, dl_2, dl_3, dl_4, dl_5, dl_6, dl_7, dl_8, dl_9, dl_10, dl_11, dl_12, dl_13, dl_14, dl_15, dl_16, dl_20, dl_24, dl_31, dl_50, dl_57, dl_67, dl_68, dl_74, dl_75, dl_79, dl_80, dl_99, dl_100, dl_200, dl_210, dl_224, dl_255, dl_289, dl_900, dl_1000, dl_1728, dl_65536, dl_65537, nI_add, pk_mul, pk_sub, pk_div, pk_rem, ds_rem2, nI_clamp, nI_leI, nI_ltI, nI_eq, ds_m1_eq, ds_eq_m1, ds_m2_eq, ds_eq_m2, ds_m1_le, ds_le_m1, ds_m1_lt, ds_lt_m1, ds_in_N, ds_bo0, ds_bo1, if_pos, if_neg, Nat.not_le, Nat.not_lt, not_true_eq_false, not_false_eq_true, if_true, if_false, ne_eq, Option.some.injEq, Prod.mk.injEq, Value.int.injEq, true_and, and_true, and_self, ite_self, Bool.not_eq_true, Bool.not_eq_false, Bool.true_eq_false, Bool.false_eq_true, reduceCtorEq, Nat.zero_add, Nat.reduceAdd, Nat.reduceMul, Nat.reduceSub, ds_setI_row, ds_setL_row, ds_rowI_self, ds_rowI_ne, ds_rowI_2, ds_rowI_rowI, ds_setS_1, ds_setS_21, ds_setS_self, ds_setS_ne, pk_us, pk_un, c1, mv, s1, Nat.lt_irrefl]
      · by_cases h1 : T (dk_arg T k) < T k
        · simp (disch := first | assumption | omega) only [ds_cI, ds_cV, ds_cL, ds_cR, ds_nn, ds_isK_t, ds_isA_t, ds_chk_t, ds_chkN, ds_nz_t, ds_nzN, ds_isB_t, ds_isB_bo, ↓dl_m1, ↓dl_m2, dl_0, dl_1, dl_2, dl_3, dl_4, dl_5, dl_6, dl_7, dl_8, dl_9, dl_10, dl_11, dl_12, dl_13, dl_14, dl_15, dl_16, dl_20, dl_24, dl_31, dl_50, dl_57, dl_67, dl_68, dl_74, dl_75, dl_79, dl_80, dl_99, dl_100, dl_200, dl_210, dl_224, dl_255, dl_289, dl_900, dl_1000, dl_1728, dl_65536, dl_65537, nI_add, pk_mul, pk_sub, pk_div, pk_rem, ds_rem2, nI_clamp, nI_leI, nI_ltI, nI_eq, ds_m1_eq, ds_eq_m1, ds_m2_eq, ds_eq_m2, ds_m1_le, ds_le_m1, ds_m1_lt, ds_lt_m1, ds_in_N, ds_bo0, ds_bo1, if_pos, if_neg, Nat.not_le, Nat.not_lt, not_true_eq_false, not_false_eq_true, if_true, if_false, ne_eq, Option.some.injEq, Prod.mk.injEq, Value.int.injEq, true_and, and_true, and_self, ite_self, Bool.not_eq_true, Bool.not_eq_false, Bool.true_eq_false, Bool.false_eq_true, reduceCtorEq, Nat.zero_add, Nat.reduceAdd, Nat.reduceMul, Nat.reduceSub, ds_setI_row, ds_setL_row, ds_rowI_self, ds_rowI_ne, ds_rowI_2, ds_rowI_rowI, ds_setS_1, ds_setS_21, ds_setS_self, ds_setS_ne, pk_us, pk_un, c1, mv, s1, h0, h1]
        · simp (disch := first | assumption | omega) only [ds_cI, ds_cV, ds_cL, ds_cR, ds_nn, ds_isK_t, ds_isA_t, ds_chk_t, ds_chkN, ds_nz_t, ds_nzN, ds_isB_t, ds_isB_bo, ↓dl_m1, ↓dl_m2, dl_0, dl_1, dl_2, dl_3, dl_4, dl_5, dl_6, dl_7, dl_8, dl_9, dl_10, dl_11, dl_12, dl_13, dl_14, dl_15, dl_16, dl_20, dl_24, dl_31, dl_50, dl_57, dl_67, dl_68, dl_74, dl_75, dl_79, dl_80, dl_99, dl_100, dl_200, dl_210, dl_224, dl_255, dl_289, dl_900, dl_1000, dl_1728, dl_65536, dl_65537, nI_add, pk_mul, pk_sub, pk_div, pk_rem, ds_rem2, nI_clamp, nI_leI, nI_ltI, nI_eq, ds_m1_eq, ds_eq_m1, ds_m2_eq, ds_eq_m2, ds_m1_le, ds_le_m1, ds_m1_lt, ds_lt_m1, ds_in_N, ds_bo0, ds_bo1, if_pos, if_neg, Nat.not_le, Nat.not_lt, not_true_eq_false, not_false_eq_true, if_true, if_false, ne_eq, Option.some.injEq, Prod.mk.injEq, Value.int.injEq, true_and, and_true, and_self, ite_self, Bool.not_eq_true, Bool.not_eq_false, Bool.true_eq_false, Bool.false_eq_true, reduceCtorEq, Nat.zero_add, Nat.reduceAdd, Nat.reduceMul, Nat.reduceSub, ds_setI_row, ds_setL_row, ds_rowI_self, ds_rowI_ne, ds_rowI_2, ds_rowI_rowI, ds_setS_1, ds_setS_21, ds_setS_self, ds_setS_ne, pk_us, pk_un, c1, mv, s1, h0, h1]
  obtain ⟨z', q1, q2⟩ := go (K 12 + 2) 0 z (by omega) hC
  refine ⟨z', ?_, q2⟩
  rw [show dk_arg T 0 = 0 from rfl] at q1
  rw [c_Sea_bestMove, b_Sea_bestMove_0]
  simp (disch := first | assumption | omega) only [ds_cI, ds_cV, ds_cL, ds_cR, ds_nn, ds_isK_t, ds_isA_t, ds_chk_t, ds_chkN, ds_nz_t, ds_nzN, ds_isB_t, ds_isB_bo, ↓dl_m1, ↓dl_m2, dl_0, dl_1, dl_2, dl_3, dl_4, dl_5, dl_6, dl_7, dl_8, dl_9, dl_10, dl_11, dl_12, dl_13, dl_14, dl_15, dl_16, dl_20, dl_24, dl_31, dl_50, dl_57, dl_67, dl_68, dl_74, dl_75, dl_79, dl_80, dl_99, dl_100, dl_200, dl_210, dl_224, dl_255, dl_289, dl_900, dl_1000, dl_1728, dl_65536, dl_65537, nI_add, pk_mul, pk_sub, pk_div, pk_rem, ds_rem2, nI_clamp, nI_leI, nI_ltI, nI_eq, ds_m1_eq, ds_eq_m1, ds_m2_eq, ds_eq_m2, ds_m1_le, ds_le_m1, ds_m1_lt, ds_lt_m1, ds_in_N, ds_bo0, ds_bo1, if_pos, if_neg, Nat.not_le, Nat.not_lt, not_true_eq_false, not_false_eq_true, if_true, if_false, ne_eq, Option.some.injEq, Prod.mk.injEq, Value.int.injEq, true_and, and_true, and_self, ite_self, Bool.not_eq_true, Bool.not_eq_false, Bool.true_eq_false, Bool.false_eq_true, reduceCtorEq, Nat.zero_add, Nat.reduceAdd, Nat.reduceMul, Nat.reduceSub, ds_setI_row, ds_setL_row, ds_rowI_self, ds_rowI_ne, ds_rowI_2, ds_rowI_rowI, ds_setS_1, ds_setS_21, ds_setS_self, ds_setS_ne, pk_us, pk_un] at q1
  simp (disch := first | assumption | omega) only [ds_cI, ds_cV, ds_cL, ds_cR, ds_nn, ds_isK_t, ds_isA_t, ds_chk_t, ds_chkN, ds_nz_t, ds_nzN, ds_isB_t, ds_isB_bo, ↓dl_m1, ↓dl_m2, dl_0, dl_1, dl_2, dl_3, dl_4, dl_5, dl_6, dl_7, dl_8, dl_9, dl_10, dl_11, dl_12, dl_13, dl_14, dl_15, dl_16, dl_20, dl_24, dl_31, dl_50, dl_57, dl_67, dl_68, dl_74, dl_75, dl_79, dl_80, dl_99, dl_100, dl_200, dl_210, dl_224, dl_255, dl_289, dl_900, dl_1000, dl_1728, dl_65536, dl_65537, nI_add, pk_mul, pk_sub, pk_div, pk_rem, ds_rem2, nI_clamp, nI_leI, nI_ltI, nI_eq, ds_m1_eq, ds_eq_m1, ds_m2_eq, ds_eq_m2, ds_m1_le, ds_le_m1, ds_m1_lt, ds_lt_m1, ds_in_N, ds_bo0, ds_bo1, if_pos, if_neg, Nat.not_le, Nat.not_lt, not_true_eq_false, not_false_eq_true, if_true, if_false, ne_eq, Option.some.injEq, Prod.mk.injEq, Value.int.injEq, true_and, and_true, and_self, ite_self, Bool.not_eq_true, Bool.not_eq_false, Bool.true_eq_false, Bool.false_eq_true, reduceCtorEq, Nat.zero_add, Nat.reduceAdd, Nat.reduceMul, Nat.reduceSub, ds_setI_row, ds_setL_row, ds_rowI_self, ds_rowI_ne, ds_rowI_2, ds_rowI_rowI, ds_setS_1, ds_setS_21, ds_setS_self, ds_setS_ne, pk_us, pk_un, q1]
theorem s_bestMove (d t : Nat) (z : ds_St) (D : Nat → Nat → Nat) (K : Nat → Nat) (hC : dk_HC z t D K) (hD : dk_ok D) (hK : dk_okK D K) : ∃ z', ds_call (d + 7) j_Sea_bestMove [.ref 0] z = some (some (.int (nI (dk_arg (dk_T1 D K) (K 12 + 2)))), z') ∧ dk_fr 64 80 z z' := s_bestMove0 d t z D K (dk_T1 D K) (fun a z ha hC => s_tradesBy d t a z D K hC hD hK ha) (fun a => dk_trm_lt hD.2.2.2.2.1.2) hC hD hK
