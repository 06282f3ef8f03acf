/-! an exchange, a gain -/
def dk_xc (K : Nat → Nat) (p q r : Nat) : Nat := if r = p then K q else if r = q then K p else K r
theorem dk_xc_inj {K : Nat → Nat} {p q c n : Nat} (hp : p < c) (hq : q < c) (h : dk_inj K c n) : dk_inj (dk_xc K p q) c n := by
  refine ⟨fun r hr => ?_, fun r s hr hs e => ?_⟩
  · unfold dk_xc
    split
    · exact h.1 q hq
    · split
      · exact h.1 p hp
      · exact h.1 r hr
  · unfold dk_xc at e
    by_cases a : r = p
    · rw [if_pos a] at e
      by_cases b : s = p
      · omega
      · rw [if_neg b] at e
        by_cases b2 : s = q
        · rw [if_pos b2] at e
          have := h.2 q p hq hp e
          omega
        · rw [if_neg b2] at e
          have := h.2 q s hq hs e
          omega
    · rw [if_neg a] at e
      by_cases a2 : r = q
      · rw [if_pos a2] at e
        by_cases b : s = p
        · rw [if_pos b] at e
          have := h.2 p q hp hq e
          omega
        · rw [if_neg b] at e
          by_cases b2 : s = q
          · omega
          · rw [if_neg b2] at e
            have := h.2 p s hp hs e
            omega
      · rw [if_neg a2] at e
        by_cases b : s = p
        · rw [if_pos b] at e
          have := h.2 r q hr hq e
          omega
        · rw [if_neg b] at e
          by_cases b2 : s = q
          · rw [if_pos b2] at e
            have := h.2 r p hr hp e
            omega
          · rw [if_neg b2] at e
            exact h.2 r s hr hs e
theorem s_swap (d p q c n : Nat) (z : ds_St) (C : Nat → Nat) (h : dk_dk z 64 C c n) (hp : p < c) (hq : q < c) (hpq : p ≠ q) : ∃ z', ds_call (d + 2) j_Deck_swap [.ref 64, .int (nI p), .int (nI q)] z = some (none, z') ∧ dk_dk z' 64 (dk_xc C p q) c n ∧ dk_fr 64 67 z z' := by
  obtain ⟨he, h2, h3, h4, h5⟩ := h
  have e1 := h4 p hp
  have e2 := h4 q hq
  simp only [Nat.reduceAdd] at e1 e2
  refine ⟨ds_rowI z 65 (upd (upd (z.1 65) p (nI (C q))) q (nI (C p))), ?_, ⟨.inr rfl, ?_, h3, ?_, dk_xc_inj hp hq h5⟩, dk_fr_row _ (dk_fr_refl _ _ _) (by decide) (by decide)⟩
  · rw [c_Deck_swap, b_Deck_swap_0_64]
    simp (disch := first | assumption | omega | rfl | decide) only [ds_cI, ds_cV, ds_cL, ds_cR, ds_nn, ds_isK_t, ds_isA_t, ds_chk_t, ds_chkN, ds_nz_t, ds_nzN, ds_isB_t, ds_isB_bo, ↓dl_m1, ↓dl_m2, dl_0, dl_1, dl_2, dl_3, dl_4, dl_5, dl_6, dl_7, dl_8, dl_9, dl_10, dl_11, dl_12, dl_13, dl_14, dl_15, dl_16, dl_20, dl_24, dl_31, dl_50, dl_57, dl_67, dl_68, dl_74, dl_75, dl_79, dl_80, dl_99, dl_100, dl_200, dl_210, dl_224, dl_255, dl_289, dl_900, dl_1000, dl_1728, dl_65536, dl_65537, nI_add, pk_mul, pk_sub, pk_div, pk_rem, ds_rem2, nI_clamp, nI_leI, nI_ltI, nI_eq, ds_m1_eq, ds_eq_m1, ds_m2_eq, ds_eq_m2, ds_m1_le, ds_le_m1, ds_m1_lt, ds_lt_m1, ds_in_N, ds_bo0, ds_bo1, if_pos, if_neg, Nat.not_le, Nat.not_lt, not_true_eq_false, not_false_eq_true, if_true, if_false, ne_eq, Option.some.injEq, Prod.mk.injEq, Value.int.injEq, true_and, and_true, and_self, ite_self, Bool.not_eq_true, Bool.not_eq_false, Bool.true_eq_false, Bool.false_eq_true, reduceCtorEq, Nat.zero_add, Nat.reduceAdd, Nat.reduceMul, Nat.reduceSub, ds_setI_row, ds_setL_row, ds_rowI_self, ds_rowI_ne, ds_rowI_2, ds_rowI_rowI, ds_setS_1, ds_setS_21, ds_setS_self, ds_setS_ne, pk_us, pk_un, s_lookN (n := 12), e1, e2, s_putN (n := 12)]
  · rw [ds_rowI_ne _ _ (by decide)]; exact h2
  · intro r hr
    simp only [Nat.reduceAdd]
    rw [ds_rowI_self]
    unfold dk_xc
    by_cases a : r = p
    · rw [if_pos a, a, pk_un (by omega), pk_us]
    · rw [if_neg a]
      by_cases b : r = q
      · rw [if_pos b, b, pk_us]
      · rw [if_neg b, pk_un b, pk_un a]
        exact h4 r hr
def dk_TX (D : Nat → Nat → Nat) (K : Nat → Nat) (a b : Nat) : Nat := dk_trm D (dk_xc K a b) (K 12) (fun _ => true)
def dk_x1 (T : Nat → Nat → Nat) (c : Nat) : Nat → Int32 × Int32
  | 0 => (ds_m1, nI 0)
  | m + 1 => dk_b2 T m (m + 1) (dk_x1 T c m) (c - (m + 1))
theorem s_exchangeC (d t : Nat) (z : ds_St) (D : Nat → Nat → Nat) (K : Nat → Nat) (hC : dk_HC z t D K) (hD : dk_ok D) (hK : dk_okK D K) : ∃ z', ds_Rw ds_c_Sea_exchange ds_u_Sea_exchange (ds_call (d + 6)) 19 [some (.ref 0), some (.int ds_m1), some (.int (nI 0)), some (.int (nI 0)), none, none] [] z = some (some (.int (dk_x1 (dk_TX D K) (K 12) (K 12)).2), ds_rowI z' 0 (upd (z'.1 0) 10 (nI 0))) ∧ dk_fr 64 80 z z' := by
  obtain ⟨k2, k12, km, ki⟩ := dk_mo_K hD hK
  have inner : ∀ m b a s z, a + 1 + b + m = K 12 → dk_HC z t D K → ∃ z', ds_Rw ds_c_Sea_exchange ds_u_Sea_exchange (ds_call (d + 6)) 35 [some (.ref 0), some (.int ((dk_b2 (dk_TX D K) a (a + 1) s b).1)), some (.int ((dk_b2 (dk_TX D K) a (a + 1) s b).2)), some (.int (nI a)), some (.int (nI ((a + 1 + b)))), none] [] z = ds_Rw ds_c_Sea_exchange ds_u_Sea_exchange (ds_call (d + 6)) 19 [some (.ref 0), some (.int ((dk_b2 (dk_TX D K) a (a + 1) s (b + m)).1)), some (.int ((dk_b2 (dk_TX D K) a (a + 1) s (b + m)).2)), some (.int (nI ((a + 1)))), none, none] [] z' ∧ dk_fr 64 80 z z' := by
    intro m
    induction m with
    | zero =>
      intro b a s z hb hC
      have c1 := hC.2.2.1
      refine ⟨z, ?_, dk_fr_refl _ _ _⟩
      rw [b_Sea_exchange_35]
      simp (disch := first | assumption | omega) only [ds_cI, ds_cV, ds_cL, ds_cR, ds_nn, ds_isK_t, ds_isA_t, ds_chk_t, ds_chkN, ds_nz_t, ds_nzN, ds_isB_t, ds_isB_bo, ↓dl_m1, ↓dl_m2, dl_0, dl_1, dl_2, dl_3, dl_4, dl_5, dl_6, dl_7, dl_8, dl_9, dl_10, dl_11, dl_12, dl_13, dl_14, dl_15, dl_16, dl_20, dl_24, dl_31, dl_50, dl_57, dl_67, dl_68, dl_74, dl_75, dl_79, dl_80, dl_99, dl_100, dl_200, dl_210, dl_224, dl_255, dl_289, dl_900, dl_1000, dl_1728, dl_65536, dl_65537, nI_add, pk_mul, pk_sub, pk_div, pk_rem, ds_rem2, nI_clamp, nI_leI, nI_ltI, nI_eq, ds_m1_eq, ds_eq_m1, ds_m2_eq, ds_eq_m2, ds_m1_le, ds_le_m1, ds_m1_lt, ds_lt_m1, ds_in_N, ds_bo0, ds_bo1, if_pos, if_neg, Nat.not_le, Nat.not_lt, not_true_eq_false, not_false_eq_true, if_true, if_false, ne_eq, Option.some.injEq, Prod.mk.injEq, Value.int.injEq, true_and, and_true, and_self, ite_self, Bool.not_eq_true, Bool.not_eq_false, Bool.true_eq_false, Bool.false_eq_true, reduceCtorEq, Nat.zero_add, Nat.reduceAdd, Nat.reduceMul, Nat.reduceSub, ds_setI_row, ds_setL_row, ds_rowI_self, ds_rowI_ne, ds_rowI_2, ds_rowI_rowI, ds_setS_1, ds_setS_21, ds_setS_self, ds_setS_ne, pk_us, pk_un, c1, Nat.add_zero]
    | succ m ih =>
      intro b a s z hb hC
      have c1 := hC.2.2.1
      obtain ⟨z0, t1, t2, t3⟩ := s_takeC (d + 5) t z D K hC hK
      obtain ⟨z1, s1, s2, s3⟩ := s_swap (d + 4) a (a + 1 + b) (K 12) (D 0 4) z0 K t2 (by omega) (by omega) (by omega)
      have f1 := dk_fr_mono (a' := 64) (b' := 80) (dk_fr_trans t3 s3) (by decide) (by decide)
      have hC' := dk_HC_fr hC f1
      obtain ⟨z2, s4, s5, s6, s7⟩ := s_trTrial (d + 1) t (K 12) z1 D _ hC'.1 hC'.2.1 hD s2
      have f2 := dk_fr_trans f1 (dk_fr_mono (a' := 64) (b' := 80) s6 (by decide) (by decide))
      obtain ⟨z3, q1, q2⟩ := ih (b + 1) a s z2 (by omega) (dk_HC_fr hC f2)
      refine ⟨z3, ?_, dk_fr_trans f2 q2⟩
      rw [show b + (m + 1) = b + 1 + m by omega, ← q1, b_Sea_exchange_35]
      have e : dk_b2 (dk_TX D K) a (a + 1) s (b + 1) = dk_st (nI (dk_TX D K a (a + 1 + b))) (nI (100 * a + (a + 1 + b))) (dk_b2 (dk_TX D K) a (a + 1) s b) := by
        simp only [dk_b2]
      rw [e]
      have e2 : dk_trm D (dk_xc K a (a + 1 + b)) (K 12) (fun _ => true) = dk_TX D K a (a + 1 + b) := rfl
      rw [e2] at s5
      have i67 : ds_K 67 = 1 := rfl
      clear q1 q2 e e2 ih hC hC' s2 s3 s6 s7 f1 f2 hD hK t2 t3
      generalize dk_b2 (dk_TX D K) a (a + 1) s b = s'
      generalize dk_TX D K a (a + 1 + b) = v at *
      unfold dk_st
      have e3 : a + 1 + (b + 1) = a + 1 + b + 1 := by omega
      rw [e3]
      generalize a + 1 + b = q at *
      by_cases h : nI v ≤ s'.1
      · simp (disch := first | assumption | omega) only [ds_cI, ds_cV, ds_cL, ds_cR, ds_nn, ds_isK_t, ds_isA_t, ds_chk_t, ds_chkN, ds_nz_t, ds_nzN, ds_isB_t, ds_isB_bo, ↓dl_m1, ↓dl_m2, dl_0, dl_1, dl_2, dl_3, dl_4, dl_5, dl_6, dl_7, dl_8, dl_9, dl_10, dl_11, dl_12, dl_13, dl_14, dl_15, dl_16, dl_20, dl_24, dl_31, dl_50, dl_57, dl_67, dl_68, dl_74, dl_75, dl_79, dl_80, dl_99, dl_100, dl_200, dl_210, dl_224, dl_255, dl_289, dl_900, dl_1000, dl_1728, dl_65536, dl_65537, nI_add, pk_mul, pk_sub, pk_div, pk_rem, ds_rem2, nI_clamp, nI_leI, nI_ltI, nI_eq, ds_m1_eq, ds_eq_m1, ds_m2_eq, ds_eq_m2, ds_m1_le, ds_le_m1, ds_m1_lt, ds_lt_m1, ds_in_N, ds_bo0, ds_bo1, if_pos, if_neg, Nat.not_le, Nat.not_lt, not_true_eq_false, not_false_eq_true, if_true, if_false, ne_eq, Option.some.injEq, Prod.mk.injEq, Value.int.injEq, true_and, and_true, and_self, ite_self, Bool.not_eq_true, Bool.not_eq_false, Bool.true_eq_false, Bool.false_eq_true, reduceCtorEq, Nat.zero_add, Nat.reduceAdd, Nat.reduceMul, Nat.reduceSub, ds_setI_row, ds_setL_row, ds_rowI_self, ds_rowI_ne, ds_rowI_2, ds_rowI_rowI, ds_setS_1, ds_setS_21, ds_setS_self, ds_setS_ne, pk_us, pk_un, c1, t1, s1, s4, s5, h]
      · simp (disch := first | assumption | omega) only [ds_cI, ds_cV, ds_cL, ds_cR, ds_nn, ds_isK_t, ds_isA_t, ds_chk_t, ds_chkN, ds_nz_t, ds_nzN, ds_isB_t, ds_isB_bo, ↓dl_m1, ↓dl_m2, dl_0, dl_1, dl_2, dl_3, dl_4, dl_5, dl_6, dl_7, dl_8, dl_9, dl_10, dl_11, dl_12, dl_13, dl_14, dl_15, dl_16, dl_20, dl_24, dl_31, dl_50, dl_57, dl_67, dl_68, dl_74, dl_75, dl_79, dl_80, dl_99, dl_100, dl_200, dl_210, dl_224, dl_255, dl_289, dl_900, dl_1000, dl_1728, dl_65536, dl_65537, nI_add, pk_mul, pk_sub, pk_div, pk_rem, ds_rem2, nI_clamp, nI_leI, nI_ltI, nI_eq, ds_m1_eq, ds_eq_m1, ds_m2_eq, ds_eq_m2, ds_m1_le, ds_le_m1, ds_m1_lt, ds_lt_m1, ds_in_N, ds_bo0, ds_bo1, if_pos, if_neg, Nat.not_le, Nat.not_lt, not_true_eq_false, not_false_eq_true, if_true, if_false, ne_eq, Option.some.injEq, Prod.mk.injEq, Value.int.injEq, true_and, and_true, and_self, ite_self, Bool.not_eq_true, Bool.not_eq_false, Bool.true_eq_false, Bool.false_eq_true, reduceCtorEq, Nat.zero_add, Nat.reduceAdd, Nat.reduceMul, Nat.reduceSub, ds_setI_row, ds_setL_row, ds_rowI_self, ds_rowI_ne, ds_rowI_2, ds_rowI_rowI, ds_setS_1, ds_setS_21, ds_setS_self, ds_setS_ne, pk_us, pk_un, c1, t1, s1, s4, s5, h]
  have outer : ∀ m a z, a + m = K 12 → dk_HC z t D K → ∃ z', ds_Rw ds_c_Sea_exchange ds_u_Sea_exchange (ds_call (d + 6)) 19 [some (.ref 0), some (.int ((dk_x1 (dk_TX D K) (K 12) a).1)), some (.int ((dk_x1 (dk_TX D K) (K 12) a).2)), some (.int (nI a)), none, none] [] z = some (some (.int (dk_x1 (dk_TX D K) (K 12) (K 12)).2), ds_rowI z' 0 (upd (z'.1 0) 10 (nI 0))) ∧ dk_fr 64 80 z z' := by
    intro m
    induction m with
    | zero =>
      intro a z ha hC
      have : a = K 12 := by omega
      subst this
      have c1 := hC.2.2.1
      refine ⟨z, ?_, dk_fr_refl _ _ _⟩
      rw [b_Sea_exchange_19]
      simp (disch := first | assumption | omega) only [ds_cI, ds_cV, ds_cL, ds_cR, ds_nn, ds_isK_t, ds_isA_t, ds_chk_t, ds_chkN, ds_nz_t, ds_nzN, ds_isB_t, ds_isB_bo, ↓dl_m1, ↓dl_m2, dl_0, dl_1, dl_2, dl_3, dl_4, dl_5, dl_6, dl_7, dl_8, dl_9, dl_10, dl_11, dl_12, dl_13, dl_14, dl_15, dl_16, dl_20, dl_24, dl_31, dl_50, dl_57, dl_67, dl_68, dl_74, dl_75, dl_79, dl_80, dl_99, dl_100, dl_200, dl_210, dl_224, dl_255, dl_289, dl_900, dl_1000, dl_1728, dl_65536, dl_65537, nI_add, pk_mul, pk_sub, pk_div, pk_rem, ds_rem2, nI_clamp, nI_leI, nI_ltI, nI_eq, ds_m1_eq, ds_eq_m1, ds_m2_eq, ds_eq_m2, ds_m1_le, ds_le_m1, ds_m1_lt, ds_lt_m1, ds_in_N, ds_bo0, ds_bo1, if_pos, if_neg, Nat.not_le, Nat.not_lt, not_true_eq_false, not_false_eq_true, if_true, if_false, ne_eq, Option.some.injEq, Prod.mk.injEq, Value.int.injEq, true_and, and_true, and_self, ite_self, Bool.not_eq_true, Bool.not_eq_false, Bool.true_eq_false, Bool.false_eq_true, reduceCtorEq, Nat.zero_add, Nat.reduceAdd, Nat.reduceMul, Nat.reduceSub, ds_setI_row, ds_setL_row, ds_rowI_self, ds_rowI_ne, ds_rowI_2, ds_rowI_rowI, ds_setS_1, ds_setS_21, ds_setS_self, ds_setS_ne, pk_us, pk_un, c1, s_answer]
    | succ m ih =>
      intro a z ha hC
      have c1 := hC.2.2.1
      obtain ⟨z1, s1, s2⟩ := inner m 0 a (dk_x1 (dk_TX D K) (K 12) a) z (by omega) hC
      obtain ⟨z2, q1, q2⟩ := ih (a + 1) z1 (by omega) (dk_HC_fr hC s2)
      refine ⟨z2, ?_, dk_fr_trans s2 q2⟩
      have e : dk_x1 (dk_TX D K) (K 12) (a + 1) = dk_b2 (dk_TX D K) a (a + 1) (dk_x1 (dk_TX D K) (K 12) a) (0 + m) := by
        simp only [dk_x1]
        congr 1
        omega
      have e0 : dk_b2 (dk_TX D K) a (a + 1) (dk_x1 (dk_TX D K) (K 12) a) 0 = dk_x1 (dk_TX D K) (K 12) a := rfl
      rw [← q1, b_Sea_exchange_19, e]
      rw [e0, Nat.add_zero] at s1
      simp (disch := first | assumption | omega) only [ds_cI, ds_cV, ds_cL, ds_cR, ds_nn, ds_isK_t, ds_isA_t, ds_chk_t, ds_chkN, ds_nz_t, ds_nzN, ds_isB_t, ds_isB_bo, ↓dl_m1, ↓dl_m2, dl_0, dl_1, dl_2, dl_3, dl_4, dl_5, dl_6, dl_7, dl_8, dl_9, dl_10, dl_11, dl_12, dl_13, dl_14, dl_15, dl_16, dl_20, dl_24, dl_31, dl_50, dl_57, dl_67, dl_68, dl_74, dl_75, dl_79, dl_80, dl_99, dl_100, dl_200, dl_210, dl_224, dl_255, dl_289, dl_900, dl_1000, dl_1728, dl_65536, dl_65537, nI_add, pk_mul, pk_sub, pk_div, pk_rem, ds_rem2, nI_clamp, nI_leI, nI_ltI, nI_eq, ds_m1_eq, ds_eq_m1, ds_m2_eq, ds_eq_m2, ds_m1_le, ds_le_m1, ds_m1_lt, ds_lt_m1, ds_in_N, ds_bo0, ds_bo1, if_pos, if_neg, Nat.not_le, Nat.not_lt, not_true_eq_false, not_false_eq_true, if_true, if_false, ne_eq, Option.some.injEq, Prod.mk.injEq, Value.int.injEq, true_and, and_true, and_self, ite_self, Bool.not_eq_true, Bool.not_eq_false, Bool.true_eq_false, Bool.false_eq_true, reduceCtorEq, Nat.zero_add, Nat.reduceAdd, Nat.reduceMul, Nat.reduceSub, ds_setI_row, ds_setL_row, ds_rowI_self, ds_rowI_ne, ds_rowI_2, ds_rowI_rowI, ds_setS_1, ds_setS_21, ds_setS_self, ds_setS_ne, pk_us, pk_un, c1, s1]
  obtain ⟨z', q1, q2⟩ := outer (K 12) 0 z (by omega) hC
  exact ⟨z', q1, q2⟩
theorem s_exchangeM (d : Nat) (z : ds_St) (D : Nat → Nat → Nat) (K : Nat → Nat) (hM : dk_HM z D K) (hD : dk_ok D) (hK : dk_okK D K) : ∃ z', ds_Rw ds_c_Mod_exchange ds_u_Mod_exchange (ds_call (d + 6)) 23 [some (.ref 90), some (.int (nI 0)), some (.int ds_m1), some (.int (nI 0)), none, none] [] z = some (some (.int (dk_x1 (dk_TX D K) (K 12) (K 12)).2), z') ∧ dk_fm z z' := by
  obtain ⟨k2, k12, km, ki⟩ := dk_mo_K hD hK
  have inner : ∀ m b a s z, a + 1 + b + m = K 12 → dk_HM z D K → ∃ z', ds_Rw ds_c_Mod_exchange ds_u_Mod_exchange (ds_call (d + 6)) 39 [some (.ref 90), some (.int ((dk_b2 (dk_TX D K) a (a + 1) s b).2)), some (.int ((dk_b2 (dk_TX D K) a (a + 1) s b).1)), some (.int (nI a)), some (.int (nI ((a + 1 + b)))), none] [] z = ds_Rw ds_c_Mod_exchange ds_u_Mod_exchange (ds_call (d + 6)) 23 [some (.ref 90), some (.int ((dk_b2 (dk_TX D K) a (a + 1) s (b + m)).2)), some (.int ((dk_b2 (dk_TX D K) a (a + 1) s (b + m)).1)), some (.int (nI ((a + 1)))), none, none] [] z' ∧ dk_fm z z' := by
    intro m
    induction m with
    | zero =>
      intro b a s z hb hM
      have c1 := (dk_HM_dm hM hK).2.1
      refine ⟨z, ?_, dk_fm_refl _⟩
      rw [b_Mod_exchange_39]
      simp (disch := first | assumption | omega) only [ds_cI, ds_cV, ds_cL, ds_cR, ds_nn, ds_isK_t, ds_isA_t, ds_chk_t, ds_chkN, ds_nz_t, ds_nzN, ds_isB_t, ds_isB_bo, ↓dl_m1, ↓dl_m2, dl_0, dl_1, dl_2, dl_3, dl_4, dl_5, dl_6, dl_7, dl_8, dl_9, dl_10, dl_11, dl_12, dl_13, dl_14, dl_15, dl_16, dl_20, dl_24, dl_31, dl_50, dl_57, dl_67, dl_68, dl_74, dl_75, dl_79, dl_80, dl_99, dl_100, dl_200, dl_210, dl_224, dl_255, dl_289, dl_900, dl_1000, dl_1728, dl_65536, dl_65537, nI_add, pk_mul, pk_sub, pk_div, pk_rem, ds_rem2, nI_clamp, nI_leI, nI_ltI, nI_eq, ds_m1_eq, ds_eq_m1, ds_m2_eq, ds_eq_m2, ds_m1_le, ds_le_m1, ds_m1_lt, ds_lt_m1, ds_in_N, ds_bo0, ds_bo1, if_pos, if_neg, Nat.not_le, Nat.not_lt, not_true_eq_false, not_false_eq_true, if_true, if_false, ne_eq, Option.some.injEq, Prod.mk.injEq, Value.int.injEq, true_and, and_true, and_self, ite_self, Bool.not_eq_true, Bool.not_eq_false, Bool.true_eq_false, Bool.false_eq_true, reduceCtorEq, Nat.zero_add, Nat.reduceAdd, Nat.reduceMul, Nat.reduceSub, ds_setI_row, ds_setL_row, ds_rowI_self, ds_rowI_ne, ds_rowI_2, ds_rowI_rowI, ds_setS_1, ds_setS_21, ds_setS_self, ds_setS_ne, pk_us, pk_un, c1, Nat.add_zero]
    | succ m ih =>
      intro b a s z hb hM
      have hdm := dk_HM_dm hM hK
      have c1 := hdm.2.1
      obtain ⟨z1, s1, s2, s3, s4, s5⟩ := s_takeM (d + 5) 101 z D K (.inr rfl) hM hK
      have p1 : z1.1 95 a = nI (K a) := by rw [s4 95 (by decide)]; exact hdm.2.2.2.1 a (by omega)
      have p2 : z1.1 95 (a + 1 + b) = nI (K (a + 1 + b)) := by rw [s4 95 (by decide)]; exact hdm.2.2.2.1 _ (by omega)
      have hdx : dk_dm (ds_rowI z1 101 (upd (upd (z1.1 101) a (nI (K (a + 1 + b)))) (a + 1 + b) (nI (K a)))) 101 (dk_xc K a (a + 1 + b)) (K 12) (D 0 4) := by
        obtain ⟨x1, x2, x3, x4, x5⟩ := s2
        refine ⟨.inr (.inr rfl), ?_, x3, fun r hr => ?_, dk_xc_inj (by omega) (by omega) x5⟩
        · rw [ds_rowI_self, pk_un (by omega), pk_un (by omega)]; exact x2
        · rw [ds_rowI_self]
          unfold dk_xc
          by_cases h1 : r = a
          · rw [if_pos h1, h1, pk_un (by omega), pk_us]
          · rw [if_neg h1]
            by_cases h2 : r = a + 1 + b
            · rw [if_pos h2, h2, pk_us]
            · rw [if_neg h2, pk_un h2, pk_un h1]
              exact x4 r hr
      have f2 : dk_fm z (ds_rowI z1 101 (upd (upd (z1.1 101) a (nI (K (a + 1 + b)))) (a + 1 + b) (nI (K a)))) := dk_fm_row _ s3 (by decide)
      have hM2 := dk_HM_fm hM f2
      have s9 := s_tradesIn (d + 1) 101 (K 12) ds_m1 (fun _ => true) _ D _ hM2.1 hD hdx (.inl ⟨rfl, fun _ => rfl⟩)
      obtain ⟨z3, q1, q2⟩ := ih (b + 1) a s _ (by omega) hM2
      refine ⟨z3, ?_, dk_fm_trans f2 q2⟩
      rw [show b + (m + 1) = b + 1 + m by omega, ← q1, b_Mod_exchange_39]
      have e : dk_b2 (dk_TX D K) a (a + 1) s (b + 1) = dk_st (nI (dk_TX D K a (a + 1 + b))) (nI (100 * a + (a + 1 + b))) (dk_b2 (dk_TX D K) a (a + 1) s b) := by
        simp only [dk_b2]
      rw [e]
      have e2 : dk_trm D (dk_xc K a (a + 1 + b)) (K 12) (fun _ => true) = dk_TX D K a (a + 1 + b) := rfl
      rw [e2] at s9
      clear q1 q2 e e2 ih hM hM2 s2 s3 f2 hD hK hdx hdm s4 s5
      generalize dk_b2 (dk_TX D K) a (a + 1) s b = s'
      generalize dk_TX D K a (a + 1 + b) = v at *
      unfold dk_st
      have e3 : a + 1 + (b + 1) = a + 1 + b + 1 := by omega
      rw [e3]
      have hne : a + 1 + b ≠ a := by omega
      generalize a + 1 + b = q at *
      have n95 : (95 : Nat) ≠ 101 := by decide
      by_cases h : nI v ≤ s'.1
      · have h' : ¬ s'.1 < nI v := fun q => dk_nle.mpr q h
        simp (disch := first | assumption | omega) only [ds_cI, ds_cV, ds_cL, ds_cR, ds_nn, ds_isK_t, ds_isA_t, ds_chk_t, ds_chkN, ds_nz_t, ds_nzN, ds_isB_t, ds_isB_bo, ↓dl_m1, ↓dl_m2, dl_0, dl_1, dl_2, dl_3, dl_4, dl_5, dl_6, dl_7, dl_8, dl_9, dl_10, dl_11, dl_12, dl_13, dl_14, dl_15, dl_16, dl_20, dl_24, dl_31, dl_50, dl_57, dl_67, dl_68, dl_74, dl_75, dl_79, dl_80, dl_99, dl_100, dl_200, dl_210, dl_224, dl_255, dl_289, dl_900, dl_1000, dl_1728, dl_65536, dl_65537, nI_add, pk_mul, pk_sub, pk_div, pk_rem, ds_rem2, nI_clamp, nI_leI, nI_ltI, nI_eq, ds_m1_eq, ds_eq_m1, ds_m2_eq, ds_eq_m2, ds_m1_le, ds_le_m1, ds_m1_lt, ds_lt_m1, ds_in_N, ds_bo0, ds_bo1, if_pos, if_neg, Nat.not_le, Nat.not_lt, not_true_eq_false, not_false_eq_true, if_true, if_false, ne_eq, Option.some.injEq, Prod.mk.injEq, Value.int.injEq, true_and, and_true, and_self, ite_self, Bool.not_eq_true, Bool.not_eq_false, Bool.true_eq_false, Bool.false_eq_true, reduceCtorEq, Nat.zero_add, Nat.reduceAdd, Nat.reduceMul, Nat.reduceSub, ds_setI_row, ds_setL_row, ds_rowI_self, ds_rowI_ne, ds_rowI_2, ds_rowI_rowI, ds_setS_1, ds_setS_21, ds_setS_self, ds_setS_ne, pk_us, pk_un, c1, s1, p1, p2, s9, h, h']
      · have h' : s'.1 < nI v := dk_nle.mp h
        simp (disch := first | assumption | omega) only [ds_cI, ds_cV, ds_cL, ds_cR, ds_nn, ds_isK_t, ds_isA_t, ds_chk_t, ds_chkN, ds_nz_t, ds_nzN, ds_isB_t, ds_isB_bo, ↓dl_m1, ↓dl_m2, dl_0, dl_1, dl_2, dl_3, dl_4, dl_5, dl_6, dl_7, dl_8, dl_9, dl_10, dl_11, dl_12, dl_13, dl_14, dl_15, dl_16, dl_20, dl_24, dl_31, dl_50, dl_57, dl_67, dl_68, dl_74, dl_75, dl_79, dl_80, dl_99, dl_100, dl_200, dl_210, dl_224, dl_255, dl_289, dl_900, dl_1000, dl_1728, dl_65536, dl_65537, nI_add, pk_mul, pk_sub, pk_div, pk_rem, ds_rem2, nI_clamp, nI_leI, nI_ltI, nI_eq, ds_m1_eq, ds_eq_m1, ds_m2_eq, ds_eq_m2, ds_m1_le, ds_le_m1, ds_m1_lt, ds_lt_m1, ds_in_N, ds_bo0, ds_bo1, if_pos, if_neg, Nat.not_le, Nat.not_lt, not_true_eq_false, not_false_eq_true, if_true, if_false, ne_eq, Option.some.injEq, Prod.mk.injEq, Value.int.injEq, true_and, and_true, and_self, ite_self, Bool.not_eq_true, Bool.not_eq_false, Bool.true_eq_false, Bool.false_eq_true, reduceCtorEq, Nat.zero_add, Nat.reduceAdd, Nat.reduceMul, Nat.reduceSub, ds_setI_row, ds_setL_row, ds_rowI_self, ds_rowI_ne, ds_rowI_2, ds_rowI_rowI, ds_setS_1, ds_setS_21, ds_setS_self, ds_setS_ne, pk_us, pk_un, c1, s1, p1, p2, s9, h, h']
  have outer : ∀ m a z, a + m = K 12 → dk_HM z D K → ∃ z', ds_Rw ds_c_Mod_exchange ds_u_Mod_exchange (ds_call (d + 6)) 23 [some (.ref 90), some (.int ((dk_x1 (dk_TX D K) (K 12) a).2)), some (.int ((dk_x1 (dk_TX D K) (K 12) a).1)), some (.int (nI a)), none, none] [] z = some (some (.int (dk_x1 (dk_TX D K) (K 12) (K 12)).2), z') ∧ dk_fm z z' := by
    intro m
    induction m with
    | zero =>
      intro a z ha hM
      have : a = K 12 := by omega
      subst this
      have c1 := (dk_HM_dm hM hK).2.1
      refine ⟨z, ?_, dk_fm_refl _⟩
      rw [b_Mod_exchange_23]
      simp (disch := first | assumption | omega) only [ds_cI, ds_cV, ds_cL, ds_cR, ds_nn, ds_isK_t, ds_isA_t, ds_chk_t, ds_chkN, ds_nz_t, ds_nzN, ds_isB_t, ds_isB_bo, ↓dl_m1, ↓dl_m2, dl_0, dl_1, dl_2, dl_3, dl_4, dl_5, dl_6, dl_7, dl_8, dl_9, dl_10, dl_11, dl_12, dl_13, dl_14, dl_15, dl_16, dl_20, dl_24, dl_31, dl_50, dl_57, dl_67, dl_68, dl_74, dl_75, dl_79, dl_80, dl_99, dl_100, dl_200, dl_210, dl_224, dl_255, dl_289, dl_900, dl_1000, dl_1728, dl_65536, dl_65537, nI_add, pk_mul, pk_sub, pk_div, pk_rem, ds_rem2, nI_clamp, nI_leI, nI_ltI, nI_eq, ds_m1_eq, ds_eq_m1, ds_m2_eq, ds_eq_m2, ds_m1_le, ds_le_m1, ds_m1_lt, ds_lt_m1, ds_in_N, ds_bo0, ds_bo1, if_pos, if_neg, Nat.not_le, Nat.not_lt, not_true_eq_false, not_false_eq_true, if_true, if_false, ne_eq, Option.some.injEq, Prod.mk.injEq, Value.int.injEq, true_and, and_true, and_self, ite_self, Bool.not_eq_true, Bool.not_eq_false, Bool.true_eq_false, Bool.false_eq_true, reduceCtorEq, Nat.zero_add, Nat.reduceAdd, Nat.reduceMul, Nat.reduceSub, ds_setI_row, ds_setL_row, ds_rowI_self, ds_rowI_ne, ds_rowI_2, ds_rowI_rowI, ds_setS_1, ds_setS_21, ds_setS_self, ds_setS_ne, pk_us, pk_un, c1]
    | succ m ih =>
      intro a z ha hM
      have c1 := (dk_HM_dm hM hK).2.1
      obtain ⟨z1, s1, s2⟩ := inner m 0 a (dk_x1 (dk_TX D K) (K 12) a) z (by omega) hM
      obtain ⟨z2, q1, q2⟩ := ih (a + 1) z1 (by omega) (dk_HM_fm hM s2)
      refine ⟨z2, ?_, dk_fm_trans s2 q2⟩
      have e : dk_x1 (dk_TX D K) (K 12) (a + 1) = dk_b2 (dk_TX D K) a (a + 1) (dk_x1 (dk_TX D K) (K 12) a) (0 + m) := by
        simp only [dk_x1]
        congr 1
        omega
      have e0 : dk_b2 (dk_TX D K) a (a + 1) (dk_x1 (dk_TX D K) (K 12) a) 0 = dk_x1 (dk_TX D K) (K 12) a := rfl
      rw [← q1, b_Mod_exchange_23, e]
      rw [e0, Nat.add_zero] at s1
      simp (disch := first | assumption | omega) only [ds_cI, ds_cV, ds_cL, ds_cR, ds_nn, ds_isK_t, ds_isA_t, ds_chk_t, ds_chkN, ds_nz_t, ds_nzN, ds_isB_t, ds_isB_bo, ↓dl_m1, ↓dl_m2, dl_0, dl_1, dl_2, dl_3, dl_4, dl_5, dl_6, dl_7, dl_8, dl_9, dl_10, dl_11, dl_12, dl_13, dl_14, dl_15, dl_16, dl_20, dl_24, dl_31, dl_50, dl_57, dl_67, dl_68, dl_74, dl_75, dl_79, dl_80, dl_99, dl_100, dl_200, dl_210, dl_224, dl_255, dl_289, dl_900, dl_1000, dl_1728, dl_65536, dl_65537, nI_add, pk_mul, pk_sub, pk_div, pk_rem, ds_rem2, nI_clamp, nI_leI, nI_ltI, nI_eq, ds_m1_eq, ds_eq_m1, ds_m2_eq, ds_eq_m2, ds_m1_le, ds_le_m1, ds_m1_lt, ds_lt_m1, ds_in_N, ds_bo0, ds_bo1, if_pos, if_neg, Nat.not_le, Nat.not_lt, not_true_eq_false, not_false_eq_true, if_true, if_false, ne_eq, Option.some.injEq, Prod.mk.injEq, Value.int.injEq, true_and, and_true, and_self, ite_self, Bool.not_eq_true, Bool.not_eq_false, Bool.true_eq_false, Bool.false_eq_true, reduceCtorEq, Nat.zero_add, Nat.reduceAdd, Nat.reduceMul, Nat.reduceSub, ds_setI_row, ds_setL_row, ds_rowI_self, ds_rowI_ne, ds_rowI_2, ds_rowI_rowI, ds_setS_1, ds_setS_21, ds_setS_self, ds_setS_ne, pk_us, pk_un, c1, s1]
  obtain ⟨z', q1, q2⟩ := outer (K 12) 0 z (by omega) hM
  exact ⟨z', q1, q2⟩
theorem k_exchange (d : Nat) (z : ds_St) (h : dk_Inv z) : ∃ v z1 z2, ds_call (d + 20) j_Sea_exchange [.ref 0] z = some (some v, z1) ∧ ds_call (d + 20) j_Mod_exchange [.ref 90] z1 = some (some v, z2) ∧ dk_Inv z2 := by
  apply dk_both h
  intro t D K hC hM hz
  have hs := s_hasSea (d + 18) t z D K hC hz
  rcases hz with ⟨hD, hK⟩ | ⟨h0, hc0, hp0⟩
  · have hn : 0 < D 0 4 := by have := hD.2.2.2.2.1.1; omega
    obtain ⟨z', s1, s2⟩ := s_exchangeC (d + 13) t z D K hC hD hK
    refine ⟨.int (dk_x1 (dk_TX D K) (K 12) (K 12)).2, nI 0, ds_rowI z' 0 (upd (z'.1 0) 10 (nI 0)), ?_, dk_qC_row _ s2, fun z0 hM0 => ?_⟩
    · rw [c_Sea_exchange, b_Sea_exchange_0]
      simp (disch := first | assumption | omega) only [ds_cI, ds_cV, ds_cL, ds_cR, ds_nn, ds_isK_t, ds_isA_t, ds_chk_t, ds_chkN, ds_nz_t, ds_nzN, ds_isB_t, ds_isB_bo, ↓dl_m1, ↓dl_m2, dl_0, dl_1, dl_2, dl_3, dl_4, dl_5, dl_6, dl_7, dl_8, dl_9, dl_10, dl_11, dl_12, dl_13, dl_14, dl_15, dl_16, dl_20, dl_24, dl_31, dl_50, dl_57, dl_67, dl_68, dl_74, dl_75, dl_79, dl_80, dl_99, dl_100, dl_200, dl_210, dl_224, dl_255, dl_289, dl_900, dl_1000, dl_1728, dl_65536, dl_65537, nI_add, pk_mul, pk_sub, pk_div, pk_rem, ds_rem2, nI_clamp, nI_leI, nI_ltI, nI_eq, ds_m1_eq, ds_eq_m1, ds_m2_eq, ds_eq_m2, ds_m1_le, ds_le_m1, ds_m1_lt, ds_lt_m1, ds_in_N, ds_bo0, ds_bo1, if_pos, if_neg, Nat.not_le, Nat.not_lt, not_true_eq_false, not_false_eq_true, if_true, if_false, ne_eq, Option.some.injEq, Prod.mk.injEq, Value.int.injEq, true_and, and_true, and_self, ite_self, Bool.not_eq_true, Bool.not_eq_false, Bool.true_eq_false, Bool.false_eq_true, reduceCtorEq, Nat.zero_add, Nat.reduceAdd, Nat.reduceMul, Nat.reduceSub, ds_setI_row, ds_setL_row, ds_rowI_self, ds_rowI_ne, ds_rowI_2, ds_rowI_rowI, ds_setS_1, ds_setS_21, ds_setS_self, ds_setS_ne, pk_us, pk_un, s_answer, hs, hn, decide_true, s1]
    · have hMg := dk_zg_HM hM0
      have hsg := hMg.2.1
      obtain ⟨z2, q1, q2⟩ := s_exchangeM (d + 13) (dk_zg z0) D K hMg hD hK
      refine ⟨z2, ?_, dk_qM_ok q2⟩
      rw [c_Mod_exchange, b_Mod_exchange_0]
      simp (disch := first | assumption | omega) only [ds_cI, ds_cV, ds_cL, ds_cR, ds_nn, ds_isK_t, ds_isA_t, ds_chk_t, ds_chkN, ds_nz_t, ds_nzN, ds_isB_t, ds_isB_bo, ↓dl_m1, ↓dl_m2, dl_0, dl_1, dl_2, dl_3, dl_4, dl_5, dl_6, dl_7, dl_8, dl_9, dl_10, dl_11, dl_12, dl_13, dl_14, dl_15, dl_16, dl_20, dl_24, dl_31, dl_50, dl_57, dl_67, dl_68, dl_74, dl_75, dl_79, dl_80, dl_99, dl_100, dl_200, dl_210, dl_224, dl_255, dl_289, dl_900, dl_1000, dl_1728, dl_65536, dl_65537, nI_add, pk_mul, pk_sub, pk_div, pk_rem, ds_rem2, nI_clamp, nI_leI, nI_ltI, nI_eq, ds_m1_eq, ds_eq_m1, ds_m2_eq, ds_eq_m2, ds_m1_le, ds_le_m1, ds_m1_lt, ds_lt_m1, ds_in_N, ds_bo0, ds_bo1, if_pos, if_neg, Nat.not_le, Nat.not_lt, not_true_eq_false, not_false_eq_true, if_true, if_false, ne_eq, Option.some.injEq, Prod.mk.injEq, Value.int.injEq, true_and, and_true, and_self, ite_self, Bool.not_eq_true, Bool.not_eq_false, Bool.true_eq_false, Bool.false_eq_true, reduceCtorEq, Nat.zero_add, Nat.reduceAdd, Nat.reduceMul, Nat.reduceSub, ds_setI_row, ds_setL_row, ds_rowI_self, ds_rowI_ne, ds_rowI_2, ds_rowI_rowI, ds_setS_1, ds_setS_21, ds_setS_self, ds_setS_ne, pk_us, pk_un, s_good, hsg, hn, decide_true, q1]
  · have h4 := h0 4 (by decide)
    refine ⟨.int ds_m1, nI 1, ds_rowI z 0 (upd (z.1 0) 10 (nI 1)), ?_, dk_qC_no z _, fun z0 hM0 => ⟨ds_rowI (dk_zg z0) 90 (upd ((dk_zg z0).1 90) 11 (nI 1)), ?_, dk_qM_no z0 _⟩⟩
    · rw [c_Sea_exchange, b_Sea_exchange_0]
      simp (disch := first | assumption | omega | rfl | decide) only [ds_cI, ds_cV, ds_cL, ds_cR, ds_nn, ds_isK_t, ds_isA_t, ds_chk_t, ds_chkN, ds_nz_t, ds_nzN, ds_isB_t, ds_isB_bo, ↓dl_m1, ↓dl_m2, dl_0, dl_1, dl_2, dl_3, dl_4, dl_5, dl_6, dl_7, dl_8, dl_9, dl_10, dl_11, dl_12, dl_13, dl_14, dl_15, dl_16, dl_20, dl_24, dl_31, dl_50, dl_57, dl_67, dl_68, dl_74, dl_75, dl_79, dl_80, dl_99, dl_100, dl_200, dl_210, dl_224, dl_255, dl_289, dl_900, dl_1000, dl_1728, dl_65536, dl_65537, nI_add, pk_mul, pk_sub, pk_div, pk_rem, ds_rem2, nI_clamp, nI_leI, nI_ltI, nI_eq, ds_m1_eq, ds_eq_m1, ds_m2_eq, ds_eq_m2, ds_m1_le, ds_le_m1, ds_m1_lt, ds_lt_m1, ds_in_N, ds_bo0, ds_bo1, if_pos, if_neg, Nat.not_le, Nat.not_lt, not_true_eq_false, not_false_eq_true, if_true, if_false, ne_eq, Option.some.injEq, Prod.mk.injEq, Value.int.injEq, true_and, and_true, and_self, ite_self, Bool.not_eq_true, Bool.not_eq_false, Bool.true_eq_false, Bool.false_eq_true, reduceCtorEq, Nat.zero_add, Nat.reduceAdd, Nat.reduceMul, Nat.reduceSub, ds_setI_row, ds_setL_row, ds_rowI_self, ds_rowI_ne, ds_rowI_2, ds_rowI_rowI, ds_setS_1, ds_setS_21, ds_setS_self, ds_setS_ne, pk_us, pk_un, s_refuse, hs, h4, Nat.lt_irrefl, decide_false]
    · have hMg := dk_zg_HM hM0
      have hsg := hMg.2.1
      rw [c_Mod_exchange, b_Mod_exchange_0]
      simp (disch := first | assumption | omega | rfl | decide) only [ds_cI, ds_cV, ds_cL, ds_cR, ds_nn, ds_isK_t, ds_isA_t, ds_chk_t, ds_chkN, ds_nz_t, ds_nzN, ds_isB_t, ds_isB_bo, ↓dl_m1, ↓dl_m2, dl_0, dl_1, dl_2, dl_3, dl_4, dl_5, dl_6, dl_7, dl_8, dl_9, dl_10, dl_11, dl_12, dl_13, dl_14, dl_15, dl_16, dl_20, dl_24, dl_31, dl_50, dl_57, dl_67, dl_68, dl_74, dl_75, dl_79, dl_80, dl_99, dl_100, dl_200, dl_210, dl_224, dl_255, dl_289, dl_900, dl_1000, dl_1728, dl_65536, dl_65537, nI_add, pk_mul, pk_sub, pk_div, pk_rem, ds_rem2, nI_clamp, nI_leI, nI_ltI, nI_eq, ds_m1_eq, ds_eq_m1, ds_m2_eq, ds_eq_m2, ds_m1_le, ds_le_m1, ds_m1_lt, ds_lt_m1, ds_in_N, ds_bo0, ds_bo1, if_pos, if_neg, Nat.not_le, Nat.not_lt, not_true_eq_false, not_false_eq_true, if_true, if_false, ne_eq, Option.some.injEq, Prod.mk.injEq, Value.int.injEq, true_and, and_true, and_self, ite_self, Bool.not_eq_true, Bool.not_eq_false, Bool.true_eq_false, Bool.false_eq_true, reduceCtorEq, Nat.zero_add, Nat.reduceAdd, Nat.reduceMul, Nat.reduceSub, ds_setI_row, ds_setL_row, ds_rowI_self, ds_rowI_ne, ds_rowI_2, ds_rowI_rowI, ds_setS_1, ds_setS_21, ds_setS_self, ds_setS_ne, pk_us, pk_un, s_good, s_no, hsg, h4, Nat.lt_irrefl, decide_false]
/-- what the one gains -/
def dk_gv (D : Nat → Nat → Nat) (K : Nat → Nat) (g o a b : Nat) : Int32 := nI (dk_trm D (dk_two K a b) (K 12) (fun i => D 2 i == g)) - nI (dk_trm D (dk_two K a b) (K 12) (fun i => D 2 i == o))
theorem dk_gdN (D : Nat → Nat → Nat) {g : Nat} (hg : g < 4) : dk_gd D (nI g) (fun i => D 2 i == g) := .inr ⟨g, hg, rfl, fun _ => rfl⟩
theorem s_gainBy (d t g o a b : Nat) (z : ds_St) (D : Nat → Nat → Nat) (K : Nat → Nat) (hC : dk_HC z t D K) (hD : dk_ok D) (hK : dk_okK D K) (hg : g < 4) (ho : o < 4) (ha : a < 14) (hb : b < 14) : ∃ z', ds_call (d + 6) j_Sea_gainBy [.ref 0, .int (nI g), .int (nI o), .int (nI a), .int (nI b)] z = some (some (.int (dk_gv D K g o a b)), z') ∧ dk_fr 64 70 z z' := by
  obtain ⟨z1, s1, s2, s3, s3'⟩ := s_makeTwo (d + 1) t a b z D K hC hD hK ha hb
  have hC' := dk_HC_fr hC s3
  obtain ⟨z2, q1, q2, q3, q4⟩ := s_chartOf (d + 1) t 64 (K 12) z1 D _ hC'.1 hC'.2.1 hD s2
  have q5 := s_tradesOf (d + 1) t _ (nI g) (fun i => D 2 i == g) z2 D _ q4 hD q2 (dk_gdN D hg)
  have q6 := dk_tr_same hD hK.1 s2.2.2.2.2 (dk_gdN D hg)
  rw [q6] at q5
  have hC2 := dk_HC_fr hC' (dk_fr_mono q3 (by decide) (by decide))
  obtain ⟨z3, p1, p2, p3, p4⟩ := s_chartOf (d + 1) t 64 (K 12) z2 D _ hC2.1 hC2.2.1 hD (dk_dk_fr s2 q3 (by decide))
  have p5 := s_tradesOf (d + 1) t _ (nI o) (fun i => D 2 i == o) z3 D _ p4 hD p2 (dk_gdN D ho)
  have p6 := dk_tr_same hD hK.1 s2.2.2.2.2 (dk_gdN D ho)
  rw [p6] at p5
  refine ⟨z3, ?_, dk_fr_trans (dk_fr_mono s3' (by decide) (by decide)) (dk_fr_trans (dk_fr_mono q3 (by decide) (by decide)) (dk_fr_mono p3 (by decide) (by decide)))⟩
  have i67 : ds_K 67 = 1 := rfl
  unfold dk_gv
  clear hC hC' hC2 hD hK q2 q3 q4 q6 p2 p3 p4 p6 s2 s3 s3'
  generalize dk_trm D (dk_two K a b) (K 12) (fun i => D 2 i == g) = v at *
  generalize dk_trm D (dk_two K a b) (K 12) (fun i => D 2 i == o) = w at *
  rw [c_Sea_gainBy, b_Sea_gainBy_0]
  simp (disch := first | assumption | omega) only [ds_cI, ds_cV, ds_cL, ds_cR, ds_nn, ds_isK_t, ds_isA_t, ds_chk_t, ds_chkN, ds_nz_t, ds_nzN, ds_isB_t, ds_isB_bo, ↓dl_m1, ↓dl_m2, dl_0, dl_1, dl_2, dl_3, dl_4, dl_5, dl_6, dl_7, dl_8, dl_9, dl_10, dl_11, dl_12, dl_13, dl_14, dl_15, dl_16, dl_20, dl_24, dl_31, dl_50, dl_57, dl_67, dl_68, dl_74, dl_75, dl_79, dl_80, dl_99, dl_100, dl_200, dl_210, dl_224, dl_255, dl_289, dl_900, dl_1000, dl_1728, dl_65536, dl_65537, nI_add, pk_mul, pk_sub, pk_div, pk_rem, ds_rem2, nI_clamp, nI_leI, nI_ltI, nI_eq, ds_m1_eq, ds_eq_m1, ds_m2_eq, ds_eq_m2, ds_m1_le, ds_le_m1, ds_m1_lt, ds_lt_m1, ds_in_N, ds_bo0, ds_bo1, if_pos, if_neg, Nat.not_le, Nat.not_lt, not_true_eq_false, not_false_eq_true, if_true, if_false, ne_eq, Option.some.injEq, Prod.mk.injEq, Value.int.injEq, true_and, and_true, and_self, ite_self, Bool.not_eq_true, Bool.not_eq_false, Bool.true_eq_false, Bool.false_eq_true, reduceCtorEq, Nat.zero_add, Nat.reduceAdd, Nat.reduceMul, Nat.reduceSub, ds_setI_row, ds_setL_row, ds_rowI_self, ds_rowI_ne, ds_rowI_2, ds_rowI_rowI, ds_setS_1, ds_setS_21, ds_setS_self, ds_setS_ne, pk_us, pk_un, s1, q1, q5, p1, p5]
theorem s_gainOf (d g o a b : Nat) (z : ds_St) (D : Nat → Nat → Nat) (K : Nat → Nat) (hM : dk_HM z D K) (hD : dk_ok D) (hK : dk_okK D K) (hg : g < 4) (ho : o < 4) (ha : a < 14) (hb : b < 14) : ∃ z', ds_call (d + 6) j_Mod_gainOf [.ref 90, .int (nI g), .int (nI o), .int (nI a), .int (nI b)] z = some (some (.int (dk_gv D K g o a b)), z') ∧ dk_fm z z' ∧ z'.1 110 = z.1 110 ∧ z'.1 90 = z.1 90 := by
  obtain ⟨z1, s1, s2, s3, t4, t5⟩ := s_takeM (d + 4) 101 z D K (.inr rfl) hM hK
  obtain ⟨z2, s4, s5, s6, s7, s8⟩ := s_mkM (d + 3) 101 a (K 12) (D 0 4) z1 K ha s2
  obtain ⟨z3, q4, q5, q6, q7, q8⟩ := s_mkM (d + 3) 101 b (K 12) (D 0 4) z2 _ hb s5
  have f2 := dk_fm_trans s3 (dk_fm_trans (dk_fm_of (by decide) s6 s8) (dk_fm_of (by decide) q6 q8))
  have hM2 := dk_HM_fm hM f2
  have s9 := s_tradesIn d 101 (K 12) (nI g) (fun i => D 2 i == g) z3 D _ hM2.1 hD q5 (dk_gdN D hg)
  have s10 := s_tradesIn d 101 (K 12) (nI o) (fun i => D 2 i == o) z3 D _ hM2.1 hD q5 (dk_gdN D ho)
  refine ⟨z3, ?_, f2, ?_, ?_⟩
  · unfold dk_gv dk_two
    clear f2 hM2 hM hD hK q5 q6 q7 q8 s2 s3 s5 s6 s7 s8 t4 t5
    generalize dk_trm D (dk_mk (dk_mk K a (K 12)) b (K 12)) (K 12) (fun i => D 2 i == g) = v at *
    generalize dk_trm D (dk_mk (dk_mk K a (K 12)) b (K 12)) (K 12) (fun i => D 2 i == o) = w at *
    rw [c_Mod_gainOf, b_Mod_gainOf_0]
    simp (disch := first | assumption | omega) only [ds_cI, ds_cV, ds_cL, ds_cR, ds_nn, ds_isK_t, ds_isA_t, ds_chk_t, ds_chkN, ds_nz_t, ds_nzN, ds_isB_t, ds_isB_bo, ↓dl_m1, ↓dl_m2, dl_0, dl_1, dl_2, dl_3, dl_4, dl_5, dl_6, dl_7, dl_8, dl_9, dl_10, dl_11, dl_12, dl_13, dl_14, dl_15, dl_16, dl_20, dl_24, dl_31, dl_50, dl_57, dl_67, dl_68, dl_74, dl_75, dl_79, dl_80, dl_99, dl_100, dl_200, dl_210, dl_224, dl_255, dl_289, dl_900, dl_1000, dl_1728, dl_65536, dl_65537, nI_add, pk_mul, pk_sub, pk_div, pk_rem, ds_rem2, nI_clamp, nI_leI, nI_ltI, nI_eq, ds_m1_eq, ds_eq_m1, ds_m2_eq, ds_eq_m2, ds_m1_le, ds_le_m1, ds_m1_lt, ds_lt_m1, ds_in_N, ds_bo0, ds_bo1, if_pos, if_neg, Nat.not_le, Nat.not_lt, not_true_eq_false, not_false_eq_true, if_true, if_false, ne_eq, Option.some.injEq, Prod.mk.injEq, Value.int.injEq, true_and, and_true, and_self, ite_self, Bool.not_eq_true, Bool.not_eq_false, Bool.true_eq_false, Bool.false_eq_true, reduceCtorEq, Nat.zero_add, Nat.reduceAdd, Nat.reduceMul, Nat.reduceSub, ds_setI_row, ds_setL_row, ds_rowI_self, ds_rowI_ne, ds_rowI_2, ds_rowI_rowI, ds_setS_1, ds_setS_21, ds_setS_self, ds_setS_ne, pk_us, pk_un, s1, s4, q4, s9, s10]
  · rw [q6 110 (by decide) (by decide), s6 110 (by decide) (by decide), t4 110 (by decide)]
  · rw [q6 90 (by decide) (by decide), s6 90 (by decide) (by decide), t4 90 (by decide)]
theorem s_areGoods (d : Nat) (x y : Int32) (z : ds_St) (D : Nat → Nat → Nat) (K : Nat → Nat) (hM : dk_HM z D K) : ds_call (d + 2) j_Mod_areGoods [.ref 90, .int x, .int y] z = some (some (.int (ds_bo (decide (0 < D 0 4) && dk_rng x 4 && dk_rng y 4))), z) := by
  have hsg := hM.2.1
  have g1 := fun x z => s_in_rng d 4 x z (by decide) (by decide)
  rw [c_Mod_areGoods, b_Mod_areGoods_0]
  cases h0 : decide (0 < D 0 4) <;> cases h1 : dk_rng x 4 <;> cases h2 : dk_rng y 4 <;> simp (disch := first | assumption | omega | rfl | decide) only [ds_cI, ds_cV, ds_cL, ds_cR, ds_nn, ds_isK_t, ds_isA_t, ds_chk_t, ds_chkN, ds_nz_t, ds_nzN, ds_isB_t, ds_isB_bo, ↓dl_m1, ↓dl_m2, dl_0, dl_1, dl_2, dl_3, dl_4, dl_5, dl_6, dl_7, dl_8, dl_9, dl_10, dl_11, dl_12, dl_13, dl_14, dl_15, dl_16, dl_20, dl_24, dl_31, dl_50, dl_57, dl_67, dl_68, dl_74, dl_75, dl_79, dl_80, dl_99, dl_100, dl_200, dl_210, dl_224, dl_255, dl_289, dl_900, dl_1000, dl_1728, dl_65536, dl_65537, nI_add, pk_mul, pk_sub, pk_div, pk_rem, ds_rem2, nI_clamp, nI_leI, nI_ltI, nI_eq, ds_m1_eq, ds_eq_m1, ds_m2_eq, ds_eq_m2, ds_m1_le, ds_le_m1, ds_m1_lt, ds_lt_m1, ds_in_N, ds_bo0, ds_bo1, if_pos, if_neg, Nat.not_le, Nat.not_lt, not_true_eq_false, not_false_eq_true, if_true, if_false, ne_eq, Option.some.injEq, Prod.mk.injEq, Value.int.injEq, true_and, and_true, and_self, ite_self, Bool.not_eq_true, Bool.not_eq_false, Bool.true_eq_false, Bool.false_eq_true, reduceCtorEq, Nat.zero_add, Nat.reduceAdd, Nat.reduceMul, Nat.reduceSub, ds_setI_row, ds_setL_row, ds_rowI_self, ds_rowI_ne, ds_rowI_2, ds_rowI_rowI, ds_setS_1, ds_setS_21, ds_setS_self, ds_setS_ne, pk_us, pk_un, hsg, h0, g1, h1, h2] <;> rfl
theorem k_gain (d : Nat) (x y v w : Int32) (z : ds_St) (h : dk_Inv z) : ∃ r z1 z2, ds_call (d + 20) j_Sea_gain [.ref 0, .int x, .int y, .int v, .int w] z = some (some r, z1) ∧ ds_call (d + 20) j_Mod_gain [.ref 90, .int x, .int y, .int v, .int w] z1 = some (some r, z2) ∧ dk_Inv z2 := by
  apply dk_both h
  intro t D K hC hM hz
  have g1 := fun x => s_isGood (d + 18) x z
  have g2 := fun x => s_isMove (d + 17) t x z D K hC hz
  have m1 := fun z hM => s_areGoods (d + 17) x y z D K hM
  have m2 := fun x z hM => s_misMove (d + 17) x z D K hM hz
  have k12 := (dk_n12 hz).2
  have no : (dk_rng x 4 && dk_rng y 4 && dk_rng v (dk_mo (K 12)) && dk_rng w (dk_mo (K 12))) = false → ∃ r u z1, ds_call (d + 20) j_Sea_gain [.ref 0, .int x, .int y, .int v, .int w] z = some (some r, z1) ∧ dk_qC z z1 u ∧ ∀ z0, dk_HM z0 D K → ∃ z2, ds_call (d + 20) j_Mod_gain [.ref 90, .int x, .int y, .int v, .int w] z0 = some (some r, z2) ∧ dk_qM z0 z2 u := by
    intro hf
    refine ⟨.int (-nI 1000), nI 1, ds_rowI z 0 (upd (z.1 0) 10 (nI 1)), ?_, dk_qC_no z _, fun z0 hM0 => ⟨ds_rowI (dk_zg z0) 90 (upd ((dk_zg z0).1 90) 11 (nI 1)), ?_, dk_qM_no z0 _⟩⟩
    · rw [c_Sea_gain, b_Sea_gain_0]
      cases h1 : dk_rng x 4 <;> cases h2 : dk_rng y 4 <;> cases h3 : dk_rng v (dk_mo (K 12)) <;> cases h4 : dk_rng w (dk_mo (K 12)) <;> first | (rw [h1, h2, h3, h4] at hf; exact absurd hf (by decide)) | simp (disch := first | assumption | omega) only [ds_cI, ds_cV, ds_cL, ds_cR, ds_nn, ds_isK_t, ds_isA_t, ds_chk_t, ds_chkN, ds_nz_t, ds_nzN, ds_isB_t, ds_isB_bo, ↓dl_m1, ↓dl_m2, dl_0, dl_1, dl_2, dl_3, dl_4, dl_5, dl_6, dl_7, dl_8, dl_9, dl_10, dl_11, dl_12, dl_13, dl_14, dl_15, dl_16, dl_20, dl_24, dl_31, dl_50, dl_57, dl_67, dl_68, dl_74, dl_75, dl_79, dl_80, dl_99, dl_100, dl_200, dl_210, dl_224, dl_255, dl_289, dl_900, dl_1000, dl_1728, dl_65536, dl_65537, nI_add, pk_mul, pk_sub, pk_div, pk_rem, ds_rem2, nI_clamp, nI_leI, nI_ltI, nI_eq, ds_m1_eq, ds_eq_m1, ds_m2_eq, ds_eq_m2, ds_m1_le, ds_le_m1, ds_m1_lt, ds_lt_m1, ds_in_N, ds_bo0, ds_bo1, if_pos, if_neg, Nat.not_le, Nat.not_lt, not_true_eq_false, not_false_eq_true, if_true, if_false, ne_eq, Option.some.injEq, Prod.mk.injEq, Value.int.injEq, true_and, and_true, and_self, ite_self, Bool.not_eq_true, Bool.not_eq_false, Bool.true_eq_false, Bool.false_eq_true, reduceCtorEq, Nat.zero_add, Nat.reduceAdd, Nat.reduceMul, Nat.reduceSub, ds_setI_row, ds_setL_row, ds_rowI_self, ds_rowI_ne, ds_rowI_2, ds_rowI_rowI, ds_setS_1, ds_setS_21, ds_setS_self, ds_setS_ne, pk_us, pk_un, g1, g2, h1, h2, h3, h4]
    · have hMg := dk_zg_HM hM0
      rw [c_Mod_gain, b_Mod_gain_0]
      have a1 := m1 _ hMg
      have a2 := fun x => m2 x _ hMg
      cases h0 : decide (0 < D 0 4) <;> cases h1 : dk_rng x 4 <;> cases h2 : dk_rng y 4 <;> cases h3 : dk_rng v (dk_mo (K 12)) <;> cases h4 : dk_rng w (dk_mo (K 12)) <;> first | (rw [h1, h2, h3, h4] at hf; exact absurd hf (by decide)) | simp (disch := first | assumption | omega) only [ds_cI, ds_cV, ds_cL, ds_cR, ds_nn, ds_isK_t, ds_isA_t, ds_chk_t, ds_chkN, ds_nz_t, ds_nzN, ds_isB_t, ds_isB_bo, ↓dl_m1, ↓dl_m2, dl_0, dl_1, dl_2, dl_3, dl_4, dl_5, dl_6, dl_7, dl_8, dl_9, dl_10, dl_11, dl_12, dl_13, dl_14, dl_15, dl_16, dl_20, dl_24, dl_31, dl_50, dl_57, dl_67, dl_68, dl_74, dl_75, dl_79, dl_80, dl_99, dl_100, dl_200, dl_210, dl_224, dl_255, dl_289, dl_900, dl_1000, dl_1728, dl_65536, dl_65537, nI_add, pk_mul, pk_sub, pk_div, pk_rem, ds_rem2, nI_clamp, nI_leI, nI_ltI, nI_eq, ds_m1_eq, ds_eq_m1, ds_m2_eq, ds_eq_m2, ds_m1_le, ds_le_m1, ds_m1_lt, ds_lt_m1, ds_in_N, ds_bo0, ds_bo1, if_pos, if_neg, Nat.not_le, Nat.not_lt, not_true_eq_false, not_false_eq_true, if_true, if_false, ne_eq, Option.some.injEq, Prod.mk.injEq, Value.int.injEq, true_and, and_true, and_self, ite_self, Bool.not_eq_true, Bool.not_eq_false, Bool.true_eq_false, Bool.false_eq_true, reduceCtorEq, Nat.zero_add, Nat.reduceAdd, Nat.reduceMul, Nat.reduceSub, ds_setI_row, ds_setL_row, ds_rowI_self, ds_rowI_ne, ds_rowI_2, ds_rowI_rowI, ds_setS_1, ds_setS_21, ds_setS_self, ds_setS_ne, pk_us, pk_un, s_good, a1, a2, h0, h1, h2, h3, h4, Bool.true_and, Bool.false_and, Bool.and_true, Bool.and_false]
  rcases Bool.eq_false_or_eq_true (dk_rng x 4 && dk_rng y 4 && dk_rng v (dk_mo (K 12)) && dk_rng w (dk_mo (K 12))) with hr | hr
  · simp only [Bool.and_eq_true] at hr
    obtain ⟨⟨⟨h1, h2⟩, h3⟩, h4⟩ := hr
    have mo14 : dk_mo (K 12) ≤ 14 := by unfold dk_mo; split <;> omega
    obtain ⟨g, hg, rfl⟩ := (dk_rng_iff (by decide)).mp h1
    obtain ⟨o, ho, rfl⟩ := (dk_rng_iff (by decide)).mp h2
    obtain ⟨a, ha, rfl⟩ := (dk_rng_iff (by omega)).mp h3
    obtain ⟨b, hb, rfl⟩ := (dk_rng_iff (by omega)).mp h4
    rcases hz with ⟨hD, hK⟩ | ⟨h0, hc0, hp0⟩
    · have hn : 0 < D 0 4 := by have := hD.2.2.2.2.1.1; omega
      obtain ⟨z', s1, s2⟩ := s_gainBy (d + 13) t g o a b z D K hC hD hK hg ho (by omega) (by omega)
      refine ⟨.int (dk_gv D K g o a b), nI 0, ds_rowI z' 0 (upd (z'.1 0) 10 (nI 0)), ?_, dk_qC_row _ (dk_fr_mono s2 (by decide) (by decide)), fun z0 hM0 => ?_⟩
      · rw [c_Sea_gain, b_Sea_gain_0]
        simp (disch := first | assumption | omega) only [ds_cI, ds_cV, ds_cL, ds_cR, ds_nn, ds_isK_t, ds_isA_t, ds_chk_t, ds_chkN, ds_nz_t, ds_nzN, ds_isB_t, ds_isB_bo, ↓dl_m1, ↓dl_m2, dl_0, dl_1, dl_2, dl_3, dl_4, dl_5, dl_6, dl_7, dl_8, dl_9, dl_10, dl_11, dl_12, dl_13, dl_14, dl_15, dl_16, dl_20, dl_24, dl_31, dl_50, dl_57, dl_67, dl_68, dl_74, dl_75, dl_79, dl_80, dl_99, dl_100, dl_200, dl_210, dl_224, dl_255, dl_289, dl_900, dl_1000, dl_1728, dl_65536, dl_65537, nI_add, pk_mul, pk_sub, pk_div, pk_rem, ds_rem2, nI_clamp, nI_leI, nI_ltI, nI_eq, ds_m1_eq, ds_eq_m1, ds_m2_eq, ds_eq_m2, ds_m1_le, ds_le_m1, ds_m1_lt, ds_lt_m1, ds_in_N, ds_bo0, ds_bo1, if_pos, if_neg, Nat.not_le, Nat.not_lt, not_true_eq_false, not_false_eq_true, if_true, if_false, ne_eq, Option.some.injEq, Prod.mk.injEq, Value.int.injEq, true_and, and_true, and_self, ite_self, Bool.not_eq_true, Bool.not_eq_false, Bool.true_eq_false, Bool.false_eq_true, reduceCtorEq, Nat.zero_add, Nat.reduceAdd, Nat.reduceMul, Nat.reduceSub, ds_setI_row, ds_setL_row, ds_rowI_self, ds_rowI_ne, ds_rowI_2, ds_rowI_rowI, ds_setS_1, ds_setS_21, ds_setS_self, ds_setS_ne, pk_us, pk_un, g1, g2, h1, h2, h3, h4, s1, s_answer]
      · have hMg := dk_zg_HM hM0
        have a1 := m1 _ hMg
        have a2 := fun x => m2 x _ hMg
        obtain ⟨z2, q1, q2, _, _⟩ := s_gainOf (d + 13) g o a b (dk_zg z0) D K hMg hD hK hg ho (by omega) (by omega)
        refine ⟨z2, ?_, dk_qM_ok q2⟩
        rw [c_Mod_gain, b_Mod_gain_0]
        simp (disch := first | assumption | omega) only [ds_cI, ds_cV, ds_cL, ds_cR, ds_nn, ds_isK_t, ds_isA_t, ds_chk_t, ds_chkN, ds_nz_t, ds_nzN, ds_isB_t, ds_isB_bo, ↓dl_m1, ↓dl_m2, dl_0, dl_1, dl_2, dl_3, dl_4, dl_5, dl_6, dl_7, dl_8, dl_9, dl_10, dl_11, dl_12, dl_13, dl_14, dl_15, dl_16, dl_20, dl_24, dl_31, dl_50, dl_57, dl_67, dl_68, dl_74, dl_75, dl_79, dl_80, dl_99, dl_100, dl_200, dl_210, dl_224, dl_255, dl_289, dl_900, dl_1000, dl_1728, dl_65536, dl_65537, nI_add, pk_mul, pk_sub, pk_div, pk_rem, ds_rem2, nI_clamp, nI_leI, nI_ltI, nI_eq, ds_m1_eq, ds_eq_m1, ds_m2_eq, ds_eq_m2, ds_m1_le, ds_le_m1, ds_m1_lt, ds_lt_m1, ds_in_N, ds_bo0, ds_bo1, if_pos, if_neg, Nat.not_le, Nat.not_lt, not_true_eq_false, not_false_eq_true, if_true, if_false, ne_eq, Option.some.injEq, Prod.mk.injEq, Value.int.injEq, true_and, and_true, and_self, ite_self, Bool.not_eq_true, Bool.not_eq_false, Bool.true_eq_false, Bool.false_eq_true, reduceCtorEq, Nat.zero_add, Nat.reduceAdd, Nat.reduceMul, Nat.reduceSub, ds_setI_row, ds_setL_row, ds_rowI_self, ds_rowI_ne, ds_rowI_2, ds_rowI_rowI, ds_setS_1, ds_setS_21, ds_setS_self, ds_setS_ne, pk_us, pk_un, s_good, a1, a2, hn, decide_true, h1, h2, h3, h4, Bool.true_and, Bool.and_true, q1]
    · rw [hc0] at ha
      exact absurd ha (by unfold dk_mo; simp)
  · exact no hr
