/-! again, cycle -/
def dk_id (C : Nat → Nat) (c : Nat) : Bool := dk_al (fun q => C q == q) c
theorem dk_al_iff {f : Nat → Bool} : ∀ {n : Nat}, dk_al f n = true ↔ ∀ k, k < n → f k = true := by
  intro n
  induction n with
  | zero => simp [dk_al]
  | succ n ih =>
    simp only [dk_al, Bool.and_eq_true]
    rw [ih]
    constructor
    · rintro ⟨h1, h2⟩ k hk
      rcases Nat.lt_or_ge k n with h | h
      · exact h1 k h
      · have : k = n := by omega
        subst this; exact h2
    · intro h
      exact ⟨fun k hk => h k (by omega), h n (by omega)⟩
theorem ds_ord_eq {f : Nat → Int32} {C : Nat → Nat} {c : Nat} (hc : c ≤ 12) (hC : ∀ p, p < c → C p < 12) (h : ∀ p, p < c → f p = nI (C p)) : ∀ m k, k + m = c → (ds_ord f k m = true ↔ ∀ q, k ≤ q → q < c → C q = q) := by
  intro m
  induction m with
  | zero => intro k hk; simp only [ds_ord, true_iff]; intro q h1 h2; omega
  | succ m ih =>
    intro k hk
    simp only [ds_ord]
    have e := h k (by omega)
    have := hC k (by omega)
    by_cases q : C k = k
    · rw [if_pos (by rw [e, q]), ih (k + 1) (by omega)]
      constructor
      · intro g j h1 h2
        rcases Nat.eq_or_lt_of_le h1 with h3 | h3
        · rw [← h3]; exact q
        · exact g j h3 h2
      · intro g j h1 h2
        exact g j (by omega) h2
    · rw [if_neg (by rw [e, nI_eq (by omega) (by omega)]; exact q)]
      constructor
      · intro g; simp at g
      · intro g; exact absurd (g k (Nat.le_refl _) (by omega)) q
theorem s_isOrd (d c n : Nat) (z : ds_St) (C : Nat → Nat) (hn : n ≤ 12) (h : dk_dk z 64 C c n) : ds_call (d + 2) j_Deck_isOrdered [.ref 64] z = some (some (.int (ds_bo (dk_id C c))), z) := by
  obtain ⟨h1, h2, h3, h4, h5⟩ := h
  rw [s_isOrdered d c z h2 h3]
  have e := ds_ord_eq (f := z.1 65) (C := C) h3 (fun p hp => by have := h5.1 p hp; omega) (fun p hp => h4 p hp) c 0 (by omega)
  have e2 : dk_id C c = ds_ord (z.1 65) 0 c := by
    apply dk_boolext
    rw [e]
    unfold dk_id
    rw [dk_al_iff]
    constructor
    · intro g q _ hq; simpa using g q hq
    · intro g q hq; simpa using g q (Nat.zero_le _) hq
  rw [e2]
  cases ds_ord (z.1 65) 0 c <;> rfl
/-- k steps from the order -/
def dk_stp (F : (Nat → Nat) → Nat → Nat) : Nat → Nat → Nat
  | 0 => fun q => q
  | k + 1 => F (dk_stp F k)
theorem dk_stp_ite {F : (Nat → Nat) → Nat → Nat} {τ : Nat → Nat} {c : Nat} (hτ : dk_inj τ c c) (hF : ∀ C q, q < c → F C q = C (τ q)) : ∀ k q, q < c → dk_stp F k q = dk_ite τ k q := by
  intro k
  induction k with
  | zero => intro q _; rfl
  | succ k ih =>
    intro q hq
    show F (dk_stp F k) q = _
    rw [hF _ q hq, ih _ (hτ.1 q hq), dk_ite_in]
theorem dk_first {F : (Nat → Nat) → Nat → Nat} {τ : Nat → Nat} {c : Nat} (hτ : dk_inj τ c c) (hc : c ≤ 12) (hF : ∀ C q, q < c → F C q = C (τ q)) : ∃ T, 1 ≤ T ∧ T ≤ 60 ∧ dk_id (dk_stp F T) c = true ∧ ∀ k, 1 ≤ k → k < T → dk_id (dk_stp F k) c = false := by
  obtain ⟨k, h1, h2, h3⟩ := dk_order hτ hc
  have ha : dk_any (fun r => dk_id (dk_stp F (r + 1)) c) 60 = true := by
    rw [dk_any_iff]
    refine ⟨k - 1, by omega, ?_⟩
    rw [show k - 1 + 1 = k by omega]
    unfold dk_id
    rw [dk_al_iff]
    intro q hq
    rw [dk_stp_ite hτ hF k q hq, h3 q hq]
    simp
  obtain ⟨a, b, e⟩ := dk_lst_ok ha
  refine ⟨dk_lst (fun r => dk_id (dk_stp F (r + 1)) c) 60 + 1, by omega, by omega, b, fun j h4 h5 => ?_⟩
  have := e (j - 1) (by omega)
  rw [show j - 1 + 1 = j by omega] at this
  exact this
theorem dk_inv_inj {a c : Nat} (ha : a < 14) (hc : c < 13) : dk_inj (dk_inv a c) c c := by
  refine ⟨fun p hp => (dk_inv_ok a ha c hc p hp).1, fun p q hp hq e => ?_⟩
  rw [← (dk_inv_ok a ha c hc p hp).2.1, ← (dk_inv_ok a ha c hc q hq).2.1, e]
/-- where the plan's first k moves take a card from -/
def dk_tau (D : Nat → Nat → Nat) (n : Nat) : Nat → Nat → Nat
  | 0 => fun q => q
  | k + 1 => fun q => dk_tau D n k (dk_inv (D 5 k) n q)
theorem dk_tau_ok {D : Nat → Nat → Nat} {n : Nat} (hn : n < 13) : ∀ k, (∀ j, j < k → D 5 j < 14) → dk_inj (dk_tau D n k) n n ∧ ∀ C q, q < n → dk_add D C n k q = C (dk_tau D n k q) := by
  intro k
  induction k with
  | zero => intro _; exact ⟨dk_id_inj n, fun C q _ => rfl⟩
  | succ k ih =>
    intro h
    obtain ⟨i1, i2⟩ := ih (fun j hj => h j (by omega))
    have iv := dk_inv_inj (h k (by omega)) hn
    refine ⟨⟨fun q hq => i1.1 _ (iv.1 q hq), fun p q hp hq e => iv.2 p q hp hq (i1.2 _ _ (iv.1 p hp) (iv.1 q hq) e)⟩, fun C q hq => ?_⟩
    show dk_mk (dk_add D C n k) (D 5 k) n q = _
    unfold dk_mk
    rw [if_pos hq, i2 C _ (iv.1 q hq)]
    rfl
/-- the model's look at its trial row -/
theorem s_same99 (d c n : Nat) (x1 x2 x3 : Int32) (z : ds_St) (C : Nat → Nat) (hn : n ≤ 12) (hm : dk_dm z 101 C c n) : ds_Rw ds_c_Mod_same ds_u_Mod_same (ds_call (d + 2)) 99 [some (.ref 90), some (.int x1), some (.int x2), some (.int x3), some (.int (nI 1)), some (.int (nI 0))] [] z = ds_Rw ds_c_Mod_same ds_u_Mod_same (ds_call (d + 2)) 31 [some (.ref 90), some (.int x1), some (.int x2), some (.int x3), some (.int ((ds_bo (dk_id C c)))), none] [] z := by
  obtain ⟨h1, h2, h3, h4, h5⟩ := hm
  have up := ds_up (F := fun k => ds_Rw ds_c_Mod_same ds_u_Mod_same (ds_call (d + 2)) 99 [some (.ref 90), some (.int x1), some (.int x2), some (.int x3), some (.int ((ds_bo (dk_al (fun q => C q == q) k)))), some (.int (nI k))] [] z) (n := c) 0 (by
    intro k _ hk
    have e := h4 k hk
    have := h5.1 k hk
    rw [b_Mod_same_99]
    simp only [dk_al]
    cases q : dk_al (fun q => C q == q) k
    · simp (disch := first | assumption | omega) only [ds_cI, ds_cV, ds_cL, ds_cR, ds_nn, ds_isK_t, ds_isA_t, ds_chk_t, ds_chkN, ds_nz_t, ds_nzN, ds_isB_t, ds_isB_bo, ↓dl_m1, ↓dl_m2, dl_0, dl_1, dl_2, dl_3, dl_4, dl_5, dl_6, dl_7, dl_8, dl_9, dl_10, dl_11, dl_12, dl_13, dl_14, dl_15, dl_16, dl_20, dl_24, dl_31, dl_50, dl_57, dl_67, dl_68, dl_74, dl_75, dl_79, dl_80, dl_99, dl_100, dl_200, dl_210, dl_224, dl_255, dl_289, dl_900, dl_1000, dl_1728, dl_65536, dl_65537, nI_add, pk_mul, pk_sub, pk_div, pk_rem, ds_rem2, nI_clamp, nI_leI, nI_ltI, nI_eq, ds_m1_eq, ds_eq_m1, ds_m2_eq, ds_eq_m2, ds_m1_le, ds_le_m1, ds_m1_lt, ds_lt_m1, ds_in_N, ds_bo0, ds_bo1, if_pos, if_neg, Nat.not_le, Nat.not_lt, not_true_eq_false, not_false_eq_true, if_true, if_false, ne_eq, Option.some.injEq, Prod.mk.injEq, Value.int.injEq, true_and, and_true, and_self, ite_self, Bool.not_eq_true, Bool.not_eq_false, Bool.true_eq_false, Bool.false_eq_true, reduceCtorEq, Nat.zero_add, Nat.reduceAdd, Nat.reduceMul, Nat.reduceSub, ds_setI_row, ds_setL_row, ds_rowI_self, ds_rowI_ne, ds_rowI_2, ds_rowI_rowI, ds_setS_1, ds_setS_21, ds_setS_self, ds_setS_ne, pk_us, pk_un, h2, Bool.false_and]
      rfl
    · by_cases g : C k = k
      · have g' : (C k == k) = true := by simpa using g
        rw [g'] 
        rw [g] at e
        simp (disch := first | assumption | omega) only [ds_cI, ds_cV, ds_cL, ds_cR, ds_nn, ds_isK_t, ds_isA_t, ds_chk_t, ds_chkN, ds_nz_t, ds_nzN, ds_isB_t, ds_isB_bo, ↓dl_m1, ↓dl_m2, dl_0, dl_1, dl_2, dl_3, dl_4, dl_5, dl_6, dl_7, dl_8, dl_9, dl_10, dl_11, dl_12, dl_13, dl_14, dl_15, dl_16, dl_20, dl_24, dl_31, dl_50, dl_57, dl_67, dl_68, dl_74, dl_75, dl_79, dl_80, dl_99, dl_100, dl_200, dl_210, dl_224, dl_255, dl_289, dl_900, dl_1000, dl_1728, dl_65536, dl_65537, nI_add, pk_mul, pk_sub, pk_div, pk_rem, ds_rem2, nI_clamp, nI_leI, nI_ltI, nI_eq, ds_m1_eq, ds_eq_m1, ds_m2_eq, ds_eq_m2, ds_m1_le, ds_le_m1, ds_m1_lt, ds_lt_m1, ds_in_N, ds_bo0, ds_bo1, if_pos, if_neg, Nat.not_le, Nat.not_lt, not_true_eq_false, not_false_eq_true, if_true, if_false, ne_eq, Option.some.injEq, Prod.mk.injEq, Value.int.injEq, true_and, and_true, and_self, ite_self, Bool.not_eq_true, Bool.not_eq_false, Bool.true_eq_false, Bool.false_eq_true, reduceCtorEq, Nat.zero_add, Nat.reduceAdd, Nat.reduceMul, Nat.reduceSub, ds_setI_row, ds_setL_row, ds_rowI_self, ds_rowI_ne, ds_rowI_2, ds_rowI_rowI, ds_setS_1, ds_setS_21, ds_setS_self, ds_setS_ne, pk_us, pk_un, h2, e, Bool.and_true]
        rfl
      · have g' : (C k == k) = false := by simpa using g
        rw [g']
        simp (disch := first | assumption | omega) only [ds_cI, ds_cV, ds_cL, ds_cR, ds_nn, ds_isK_t, ds_isA_t, ds_chk_t, ds_chkN, ds_nz_t, ds_nzN, ds_isB_t, ds_isB_bo, ↓dl_m1, ↓dl_m2, dl_0, dl_1, dl_2, dl_3, dl_4, dl_5, dl_6, dl_7, dl_8, dl_9, dl_10, dl_11, dl_12, dl_13, dl_14, dl_15, dl_16, dl_20, dl_24, dl_31, dl_50, dl_57, dl_67, dl_68, dl_74, dl_75, dl_79, dl_80, dl_99, dl_100, dl_200, dl_210, dl_224, dl_255, dl_289, dl_900, dl_1000, dl_1728, dl_65536, dl_65537, nI_add, pk_mul, pk_sub, pk_div, pk_rem, ds_rem2, nI_clamp, nI_leI, nI_ltI, nI_eq, ds_m1_eq, ds_eq_m1, ds_m2_eq, ds_eq_m2, ds_m1_le, ds_le_m1, ds_m1_lt, ds_lt_m1, ds_in_N, ds_bo0, ds_bo1, if_pos, if_neg, Nat.not_le, Nat.not_lt, not_true_eq_false, not_false_eq_true, if_true, if_false, ne_eq, Option.some.injEq, Prod.mk.injEq, Value.int.injEq, true_and, and_true, and_self, ite_self, Bool.not_eq_true, Bool.not_eq_false, Bool.true_eq_false, Bool.false_eq_true, reduceCtorEq, Nat.zero_add, Nat.reduceAdd, Nat.reduceMul, Nat.reduceSub, ds_setI_row, ds_setL_row, ds_rowI_self, ds_rowI_ne, ds_rowI_2, ds_rowI_rowI, ds_setS_1, ds_setS_21, ds_setS_self, ds_setS_ne, pk_us, pk_un, h2, e, g, Bool.and_false]
        rfl) (Nat.zero_le _)
  have e0 : ds_bo (dk_al (fun q => C q == q) 0) = nI 1 := rfl
  try simp only at up
  rw [e0] at up
  rw [up, b_Mod_same_99]
  simp (disch := first | assumption | omega) only [ds_cI, ds_cV, ds_cL, ds_cR, ds_nn, ds_isK_t, ds_isA_t, ds_chk_t, ds_chkN, ds_nz_t, ds_nzN, ds_isB_t, ds_isB_bo, ↓dl_m1, ↓dl_m2, dl_0, dl_1, dl_2, dl_3, dl_4, dl_5, dl_6, dl_7, dl_8, dl_9, dl_10, dl_11, dl_12, dl_13, dl_14, dl_15, dl_16, dl_20, dl_24, dl_31, dl_50, dl_57, dl_67, dl_68, dl_74, dl_75, dl_79, dl_80, dl_99, dl_100, dl_200, dl_210, dl_224, dl_255, dl_289, dl_900, dl_1000, dl_1728, dl_65536, dl_65537, nI_add, pk_mul, pk_sub, pk_div, pk_rem, ds_rem2, nI_clamp, nI_leI, nI_ltI, nI_eq, ds_m1_eq, ds_eq_m1, ds_m2_eq, ds_eq_m2, ds_m1_le, ds_le_m1, ds_m1_lt, ds_lt_m1, ds_in_N, ds_bo0, ds_bo1, if_pos, if_neg, Nat.not_le, Nat.not_lt, not_true_eq_false, not_false_eq_true, if_true, if_false, ne_eq, Option.some.injEq, Prod.mk.injEq, Value.int.injEq, true_and, and_true, and_self, ite_self, Bool.not_eq_true, Bool.not_eq_false, Bool.true_eq_false, Bool.false_eq_true, reduceCtorEq, Nat.zero_add, Nat.reduceAdd, Nat.reduceMul, Nat.reduceSub, ds_setI_row, ds_setL_row, ds_rowI_self, ds_rowI_ne, ds_rowI_2, ds_rowI_rowI, ds_setS_1, ds_setS_21, ds_setS_self, ds_setS_ne, pk_us, pk_un, h2]
  rfl
