theorem dk_m1_bit : ∀ i, i < 32 → ds_m1.toBitVec.getLsbD i = true := by decide
theorem dk_andnot {S T : Nat → Bool} {L : Nat} : nI (ds_bs S L) &&& (nI (ds_bs T L) ^^^ ds_m1) = nI (ds_bs (fun p => S p && !(T p)) L) := by
  apply Int32.toBitVec_inj.mp
  rw [Int32.toBitVec_and, Int32.toBitVec_xor]
  show BitVec.ofNat 32 (ds_bs S L) &&& (BitVec.ofNat 32 (ds_bs T L) ^^^ ds_m1.toBitVec) = BitVec.ofNat 32 (ds_bs (fun p => S p && !(T p)) L)
  apply BitVec.eq_of_getLsbD_eq
  intro i hi
  rw [BitVec.getLsbD_and, BitVec.getLsbD_xor, dk_m1_bit i hi, BitVec.getLsbD_ofNat, BitVec.getLsbD_ofNat, BitVec.getLsbD_ofNat, ds_bs_tb, ds_bs_tb, ds_bs_tb]
  cases decide (i < L) <;> cases S i <;> cases T i <;> simp
theorem dk_lv_s0 {N : Nat} {be : Nat → Nat → Bool} {jk s0 : Nat → Bool} {j : Nat} (h : s0 j = true) : ∀ n, (dk_lv N be jk s0 n).2 j = true := by
  intro n
  induction n with
  | zero => exact h
  | succ n ih => simp only [dk_lv]; rw [ih, Bool.true_or]
theorem dk_lv_new {N : Nat} {be : Nat → Nat → Bool} {jk s0 : Nat → Bool} {n j : Nat} (h : (dk_lv N be jk s0 (n + 1)).1 j = true) : (dk_lv N be jk s0 n).2 j = false := by
  simp only [dk_lv] at h
  rw [Bool.and_eq_true] at h
  simpa using h.1
theorem dk_lv_mono {N : Nat} {be : Nat → Nat → Bool} {jk s0 : Nat → Bool} {n j : Nat} (h : (dk_lv N be jk s0 n).2 j = true) : ∀ m, (dk_lv N be jk s0 (n + m)).2 j = true := by
  intro m
  induction m with
  | zero => exact h
  | succ m ih =>
    show (dk_lv N be jk s0 (n + m + 1)).2 j = true
    simp only [dk_lv]
    rw [ih, Bool.true_or]
theorem dk_lv_one {N : Nat} {be : Nat → Nat → Bool} {jk s0 : Nat → Bool} {a b j : Nat} (ha : (dk_lv N be jk s0 a).1 j = true) (hb : (dk_lv N be jk s0 b).1 j = true) : a = b := by
  have aux : ∀ a b, a < b → (dk_lv N be jk s0 a).1 j = true → (dk_lv N be jk s0 b).1 j = true → False := by
    intro a b hab ha hb
    obtain ⟨m, rfl⟩ : ∃ m, b = a + m + 1 := ⟨b - a - 1, by omega⟩
    have h1 := dk_lv_new hb
    rw [dk_lv_mono (dk_lv_er ha) m] at h1
    exact absurd h1 (by decide)
  rcases Nat.lt_trichotomy a b with h | h | h
  · exact (aux a b h ha hb).elim
  · exact h
  · exact (aux b a h hb ha).elim
/-- the first from k on, of m, that has P; -2 if none -/
def dk_far (P : Nat → Bool) : Nat → Nat → Int32
  | _, 0 => ds_m2
  | k, m + 1 => if P k = true then nI k else dk_far P (k + 1) m
theorem dk_far_y {P : Nat → Bool} {b : Nat} (hb : P b = true) : ∀ m k, k ≤ b → b < k + m → (∀ q, k ≤ q → q < b → P q = false) → dk_far P k m = nI b := by
  intro m
  induction m with
  | zero => intro k h1 h2; omega
  | succ m ih =>
    intro k h1 h2 h3
    simp only [dk_far]
    by_cases h : k = b
    · rw [h, if_pos hb]
    · rw [h3 k (Nat.le_refl _) (by omega)]
      exact ih (k + 1) (by omega) (by omega) (fun q a c => h3 q (by omega) c)
theorem dk_far_n {P : Nat → Bool} : ∀ m k, (∀ q, k ≤ q → q < k + m → P q = false) → dk_far P k m = ds_m2 := by
  intro m
  induction m with
  | zero => intro k _; rfl
  | succ m ih =>
    intro k h
    simp only [dk_far]
    rw [h k (Nat.le_refl _) (by omega)]
    exact ih (k + 1) (fun q a c => h q (by omega) (by omega))
theorem dk_far_or (P : Nat → Bool) (n : Nat) : (∃ b, b < n ∧ P b = true ∧ (∀ q, q < b → P q = false)) ∨ (∀ q, q < n → P q = false) := by
  cases h : dk_any P n
  · exact .inr ((dk_any_f P n).mp h)
  · obtain ⟨a, b, c⟩ := dk_lst_ok h
    exact .inl ⟨_, a, b, c⟩
theorem dk_far_congr {P Q : Nat → Bool} : ∀ m k, (∀ q, k ≤ q → q < k + m → P q = Q q) → dk_far P k m = dk_far Q k m := by
  intro m
  induction m with
  | zero => intro k _; rfl
  | succ m ih =>
    intro k h
    simp only [dk_far]
    rw [h k (Nat.le_refl _) (by omega), ih (k + 1) (fun q a c => h q (by omega) (by omega))]
/-- the levels from island i0 in the deck K -/
def dk_le (D : Nat → Nat → Nat) (K : Nat → Nat) (i0 n : Nat) : (Nat → Bool) × (Nat → Bool) := dk_lv (D 0 4) (dk_be (dk_A D) K (K 12)) (fun i => D 1 i == 2) (fun i => i == i0 && dk_is D K (K 12) i0) n
theorem dk_le_next {D : Nat → Nat → Nat} {K : Nat → Nat} {i0 n q : Nat} (hK : dk_okK D K) (hq : q < min (D 0 0 * D 0 1) (K 12)) : (dk_le D K i0 (n + 1)).1 (K q) = (dk_bp D (min (D 0 0 * D 0 1) (K 12)) (fun p => (dk_le D K i0 n).1 (K p) && (!(D 1 (K p) == 2) || K p == i0)) q && !((dk_le D K i0 n).2 (K q))) := by
  have hin := hK.2.1
  have e : (dk_le D K i0 (n + 1)).1 (K q) = (!((dk_le D K i0 n).2 (K q)) && dk_nx2 (D 0 4) (dk_be (dk_A D) K (K 12)) (fun i => D 1 i == 2) n (dk_le D K i0 n).1 (D 0 4) (K q)) := rfl
  rw [e, Bool.and_comm]
  congr 1
  apply dk_boolext
  unfold dk_nx2 dk_bp
  rw [dk_any_iff, dk_any_iff]
  constructor
  · rintro ⟨i, hi, h⟩
    simp only [Bool.and_eq_true] at h
    obtain ⟨⟨h1, h2⟩, h3⟩ := h
    obtain ⟨p, q', a1, a2, a3, a4, a5⟩ := dk_be_iff.mp h3
    have eq := hin.2 q' q a2 (by omega) a4
    subst eq
    have pl := dk_A_lt a5
    refine ⟨p, by omega, ?_⟩
    simp only [Bool.and_eq_true]
    refine ⟨⟨by rw [a3]; exact h1, ?_⟩, a5⟩
    rw [a3]
    rw [Bool.or_eq_true] at h2 ⊢
    rcases h2 with h2 | h2
    · right
      have n0 : n = 0 := by simpa using h2
      subst n0
      have h1' : (i == i0 && dk_is D K (K 12) i0) = true := h1
      rw [Bool.and_eq_true] at h1'
      exact h1'.1
    · left; exact h2
  · rintro ⟨p, hp, h⟩
    simp only [Bool.and_eq_true] at h
    obtain ⟨⟨h1, h2⟩, h3⟩ := h
    refine ⟨K p, hin.1 p (by omega), ?_⟩
    simp only [Bool.and_eq_true]
    refine ⟨⟨h1, ?_⟩, dk_be_iff.mpr ⟨p, q, by omega, by omega, rfl, rfl, h3⟩⟩
    rw [Bool.or_eq_true] at h2 ⊢
    rcases h2 with h2 | h2
    · right; exact h2
    · have ei : K p = i0 := by simpa using h2
      rcases Nat.eq_zero_or_pos n with h0 | h0
      · left; rw [h0]; rfl
      · exfalso
        obtain ⟨m, rfl⟩ : ∃ m, n = m + 1 := ⟨n - 1, by omega⟩
        have hs : (fun i => i == i0 && dk_is D K (K 12) i0) (K p) = true := by
          have : dk_is D K (K 12) i0 = true := by
            unfold dk_is
            rw [dk_any_iff]
            exact ⟨p, hp, by simpa using ei⟩
          simp [ei, this]
        have := dk_lv_new h1
        rw [dk_lv_s0 hs m] at this
        exact absurd this (by decide)
theorem dk_le_in {D : Nat → Nat → Nat} {K : Nat → Nat} {i0 n j : Nat} (h : (dk_le D K i0 n).1 j = true) : ∃ p, p < min (D 0 0 * D 0 1) (K 12) ∧ K p = j := by
  cases n with
  | zero =>
    have h' : (j == i0 && dk_is D K (K 12) i0) = true := h
    rw [Bool.and_eq_true] at h'
    have e : j = i0 := by simpa using h'.1
    obtain ⟨p, hp, h2⟩ := (dk_any_iff _ _).mp h'.2
    exact ⟨p, hp, by rw [e]; simpa using h2⟩
  | succ n =>
    have e : (dk_le D K i0 (n + 1)).1 j = (!((dk_le D K i0 n).2 j) && dk_nx2 (D 0 4) (dk_be (dk_A D) K (K 12)) (fun i => D 1 i == 2) n (dk_le D K i0 n).1 (D 0 4) j) := rfl
    rw [e, Bool.and_eq_true] at h
    obtain ⟨i, hi, h2⟩ := (dk_any_iff _ _).mp h.2
    rw [Bool.and_eq_true] at h2
    obtain ⟨p, q, a1, a2, a3, a4, a5⟩ := dk_be_iff.mp h2.2
    have := dk_A_lt a5
    exact ⟨q, by omega, a4⟩
theorem s_bridges (d t i0 : Nat) (Gs : Nat → Bool) (z : ds_St) (D : Nat → Nat → Nat) (K : Nat → Nat) (hT : dk_tC z t D) (hD : dk_ok D) (hK : dk_okK D K) (hC : dk_ch z t D (min (D 0 0 * D 0 1) (K 12)) K) (hi : i0 < D 0 4) : ds_call (d + 5) j_Chart_bridges [.ref 67, .int (nI i0), .int (nI (ds_bs Gs (min (D 0 0 * D 0 1) (K 12))))] z = some (some (.int (dk_far (fun n => dk_any (fun p => (dk_le D K i0 n).1 (K p) && Gs p) (min (D 0 0 * D 0 1) (K 12))) 0 13)), z) := by
  have n12 := hD.2.2.2.2.1.2
  have k12 := hK.1
  have s1 := s_placeBit (d + 2) t _ i0 z D K hD hC (by omega)
  have s2 := s_placesWithoutJokers d t _ z D K hT hD hC
  have s3 := fun S => s_besidePlaces (d + 2) t _ S z D K hT hD hC
  have nx := fun n q => dk_le_next (i0 := i0) (n := n) (q := q) hK
  have l0 : ∀ q, q < min (D 0 0 * D 0 1) (K 12) → (dk_le D K i0 0).1 (K q) = (K q == i0) := by
    intro q hq
    show (K q == i0 && dk_is D K (K 12) i0) = _
    by_cases h : K q = i0
    · have : dk_is D K (K 12) i0 = true := by
        unfold dk_is
        rw [dk_any_iff]
        exact ⟨q, hq, by simpa using h⟩
      rw [this, Bool.and_true]
    · have : (K q == i0) = false := by simpa using h
      rw [this, Bool.false_and]
  have r1 : ∀ n q, (dk_le D K i0 (n + 1)).2 (K q) = ((dk_le D K i0 n).2 (K q) || (dk_le D K i0 (n + 1)).1 (K q)) := fun n q => rfl
  have r0 : ∀ q, (dk_le D K i0 0).2 (K q) = (dk_le D K i0 0).1 (K q) := fun q => rfl
  generalize hL : min (D 0 0 * D 0 1) (K 12) = L at *
  have l31 : L ≤ 31 := by omega
  have go : ∀ m n, n + m = 13 → ds_Rw ds_c_Chart_bridges ds_u_Chart_bridges (ds_call (d + 4)) 23 [some (.ref 67), none, some (.int (nI ((ds_bs Gs L)))), none, some (.int (nI ((ds_bs (fun p => !(D 1 (K p) == 2) || K p == i0) L)))), some (.int (nI ((ds_bs (fun p => (dk_le D K i0 n).1 (K p)) L)))), some (.int (nI ((ds_bs (fun p => (dk_le D K i0 n).2 (K p)) L)))), some (.int (nI n))] [] z = some (some (.int (dk_far (fun n => dk_any (fun p => (dk_le D K i0 n).1 (K p) && Gs p) L) n m)), z) := by
    intro m
    induction m with
    | zero =>
      intro n hn
      rw [b_Chart_bridges_23]
      simp (disch := first | assumption | omega) only [ds_cI, ds_cV, ds_cL, ds_cR, ds_nn, ds_isK_t, ds_isA_t, ds_chk_t, ds_chkN, ds_nz_t, ds_nzN, ds_isB_t, ds_isB_bo, ↓dl_m1, ↓dl_m2, dl_0, dl_1, dl_2, dl_3, dl_4, dl_5, dl_6, dl_7, dl_8, dl_9, dl_10, dl_11, dl_12, dl_13, dl_14, dl_15, dl_16, dl_20, dl_24, dl_31, dl_50, dl_57, dl_67, dl_68, dl_74, dl_75, dl_79, dl_80, dl_99, dl_100, dl_200, dl_210, dl_224, dl_255, dl_289, dl_900, dl_1000, dl_1728, dl_65536, dl_65537, nI_add, pk_mul, pk_sub, pk_div, pk_rem, ds_rem2, nI_clamp, nI_leI, nI_ltI, nI_eq, ds_m1_eq, ds_eq_m1, ds_m2_eq, ds_eq_m2, ds_m1_le, ds_le_m1, ds_m1_lt, ds_lt_m1, ds_in_N, ds_bo0, ds_bo1, if_pos, if_neg, Nat.not_le, Nat.not_lt, not_true_eq_false, not_false_eq_true, if_true, if_false, ne_eq, Option.some.injEq, Prod.mk.injEq, Value.int.injEq, true_and, and_true, and_self, ite_self, Bool.not_eq_true, Bool.not_eq_false, Bool.true_eq_false, Bool.false_eq_true, reduceCtorEq, Nat.zero_add, Nat.reduceAdd, Nat.reduceMul, Nat.reduceSub, ds_setI_row, ds_setL_row, ds_rowI_self, ds_rowI_ne, ds_rowI_2, ds_rowI_rowI, ds_setS_1, ds_setS_21, ds_setS_self, ds_setS_ne, pk_us, pk_un]
      rfl
    | succ m ih =>
      intro n hn
      rw [b_Chart_bridges_23]
      have hb := ds_bs_lt31 (fun p => (dk_le D K i0 n).1 (K p) && Gs p) l31
      have e1 : ds_bs (fun p => dk_bp D L (fun p => (dk_le D K i0 n).1 (K p) && (!(D 1 (K p) == 2) || K p == i0)) p && !((dk_le D K i0 n).2 (K p))) L = ds_bs (fun p => (dk_le D K i0 (n + 1)).1 (K p)) L := dk_bs_congr (fun q hq => (nx n q hq).symm)
      have e2 : ds_bs (fun p => (dk_le D K i0 n).2 (K p) || (dk_le D K i0 (n + 1)).1 (K p)) L = ds_bs (fun p => (dk_le D K i0 (n + 1)).2 (K p)) L := dk_bs_congr (fun q hq => (r1 n q).symm)
      have ih' := ih (n + 1) (by omega)
      simp only [dk_far]
      rcases Bool.eq_false_or_eq_true (dk_any (fun p => (dk_le D K i0 n).1 (K p) && Gs p) L) with hp | hp
      · simp (disch := first | assumption | omega) only [ds_cI, ds_cV, ds_cL, ds_cR, ds_nn, ds_isK_t, ds_isA_t, ds_chk_t, ds_chkN, ds_nz_t, ds_nzN, ds_isB_t, ds_isB_bo, ↓dl_m1, ↓dl_m2, dl_0, dl_1, dl_2, dl_3, dl_4, dl_5, dl_6, dl_7, dl_8, dl_9, dl_10, dl_11, dl_12, dl_13, dl_14, dl_15, dl_16, dl_20, dl_24, dl_31, dl_50, dl_57, dl_67, dl_68, dl_74, dl_75, dl_79, dl_80, dl_99, dl_100, dl_200, dl_210, dl_224, dl_255, dl_289, dl_900, dl_1000, dl_1728, dl_65536, dl_65537, nI_add, pk_mul, pk_sub, pk_div, pk_rem, ds_rem2, nI_clamp, nI_leI, nI_ltI, nI_eq, ds_m1_eq, ds_eq_m1, ds_m2_eq, ds_eq_m2, ds_m1_le, ds_le_m1, ds_m1_lt, ds_lt_m1, ds_in_N, ds_bo0, ds_bo1, if_pos, if_neg, Nat.not_le, Nat.not_lt, not_true_eq_false, not_false_eq_true, if_true, if_false, ne_eq, Option.some.injEq, Prod.mk.injEq, Value.int.injEq, true_and, and_true, and_self, ite_self, Bool.not_eq_true, Bool.not_eq_false, Bool.true_eq_false, Bool.false_eq_true, reduceCtorEq, Nat.zero_add, Nat.reduceAdd, Nat.reduceMul, Nat.reduceSub, ds_setI_row, ds_setL_row, ds_rowI_self, ds_rowI_ne, ds_rowI_2, ds_rowI_rowI, ds_setS_1, ds_setS_21, ds_setS_self, ds_setS_ne, pk_us, pk_un, ds_and, dk_bs_and, dk_bs_0, hp]
      · simp (disch := first | assumption | omega) only [ds_cI, ds_cV, ds_cL, ds_cR, ds_nn, ds_isK_t, ds_isA_t, ds_chk_t, ds_chkN, ds_nz_t, ds_nzN, ds_isB_t, ds_isB_bo, ↓dl_m1, ↓dl_m2, dl_0, dl_1, dl_2, dl_3, dl_4, dl_5, dl_6, dl_7, dl_8, dl_9, dl_10, dl_11, dl_12, dl_13, dl_14, dl_15, dl_16, dl_20, dl_24, dl_31, dl_50, dl_57, dl_67, dl_68, dl_74, dl_75, dl_79, dl_80, dl_99, dl_100, dl_200, dl_210, dl_224, dl_255, dl_289, dl_900, dl_1000, dl_1728, dl_65536, dl_65537, nI_add, pk_mul, pk_sub, pk_div, pk_rem, ds_rem2, nI_clamp, nI_leI, nI_ltI, nI_eq, ds_m1_eq, ds_eq_m1, ds_m2_eq, ds_eq_m2, ds_m1_le, ds_le_m1, ds_m1_lt, ds_lt_m1, ds_in_N, ds_bo0, ds_bo1, if_pos, if_neg, Nat.not_le, Nat.not_lt, not_true_eq_false, not_false_eq_true, if_true, if_false, ne_eq, Option.some.injEq, Prod.mk.injEq, Value.int.injEq, true_and, and_true, and_self, ite_self, Bool.not_eq_true, Bool.not_eq_false, Bool.true_eq_false, Bool.false_eq_true, reduceCtorEq, Nat.zero_add, Nat.reduceAdd, Nat.reduceMul, Nat.reduceSub, ds_setI_row, ds_setL_row, ds_rowI_self, ds_rowI_ne, ds_rowI_2, ds_rowI_rowI, ds_setS_1, ds_setS_21, ds_setS_self, ds_setS_ne, pk_us, pk_un, ds_and, dk_bs_and, dk_bs_0, hp, s3, dk_andnot, e1]
        rw [ds_or, dk_bs_or, e2]
        exact ih'
  have g := go 13 0 (by decide)
  have a1 : ds_bs (fun p => (dk_le D K i0 0).1 (K p)) L = ds_bs (fun p => K p == i0) L := dk_bs_congr l0
  have a2 : ds_bs (fun p => (dk_le D K i0 0).2 (K p)) L = ds_bs (fun p => K p == i0) L := dk_bs_congr (fun q hq => (r0 q).trans (l0 q hq))
  rw [a1, a2] at g
  rw [c_Chart_bridges, b_Chart_bridges_0]
  simp (disch := first | assumption | omega) only [ds_cI, ds_cV, ds_cL, ds_cR, ds_nn, ds_isK_t, ds_isA_t, ds_chk_t, ds_chkN, ds_nz_t, ds_nzN, ds_isB_t, ds_isB_bo, ↓dl_m1, ↓dl_m2, dl_0, dl_1, dl_2, dl_3, dl_4, dl_5, dl_6, dl_7, dl_8, dl_9, dl_10, dl_11, dl_12, dl_13, dl_14, dl_15, dl_16, dl_20, dl_24, dl_31, dl_50, dl_57, dl_67, dl_68, dl_74, dl_75, dl_79, dl_80, dl_99, dl_100, dl_200, dl_210, dl_224, dl_255, dl_289, dl_900, dl_1000, dl_1728, dl_65536, dl_65537, nI_add, pk_mul, pk_sub, pk_div, pk_rem, ds_rem2, nI_clamp, nI_leI, nI_ltI, nI_eq, ds_m1_eq, ds_eq_m1, ds_m2_eq, ds_eq_m2, ds_m1_le, ds_le_m1, ds_m1_lt, ds_lt_m1, ds_in_N, ds_bo0, ds_bo1, if_pos, if_neg, Nat.not_le, Nat.not_lt, not_true_eq_false, not_false_eq_true, if_true, if_false, ne_eq, Option.some.injEq, Prod.mk.injEq, Value.int.injEq, true_and, and_true, and_self, ite_self, Bool.not_eq_true, Bool.not_eq_false, Bool.true_eq_false, Bool.false_eq_true, reduceCtorEq, Nat.zero_add, Nat.reduceAdd, Nat.reduceMul, Nat.reduceSub, ds_setI_row, ds_setL_row, ds_rowI_self, ds_rowI_ne, ds_rowI_2, ds_rowI_rowI, ds_setS_1, ds_setS_21, ds_setS_self, ds_setS_ne, pk_us, pk_un, s1, s2]
  rw [ds_or, dk_bs_or, g]
theorem dk_far_lv {D : Nat → Nat → Nat} {K : Nat → Nat} {i0 j : Nat} : (if dk_vl (D 0 4) (dk_be (dk_A D) K (K 12)) (fun i => D 1 i == 2) (fun i => i == i0 && dk_is D K (K 12) i0) 12 j = ds_m1 then ds_m2 else dk_vl (D 0 4) (dk_be (dk_A D) K (K 12)) (fun i => D 1 i == 2) (fun i => i == i0 && dk_is D K (K 12) i0) 12 j) = dk_far (fun n => (dk_le D K i0 n).1 j) 0 13 := by
  obtain ⟨v1, v2⟩ := dk_vl_ok (D 0 4) (dk_be (dk_A D) K (K 12)) (fun i => D 1 i == 2) (fun i => i == i0 && dk_is D K (K 12) i0) 12 j
  cases hr : (dk_lv (D 0 4) (dk_be (dk_A D) K (K 12)) (fun i => D 1 i == 2) (fun i => i == i0 && dk_is D K (K 12) i0) 12).2 j
  · rw [v1 hr, if_pos rfl]
    symm
    apply dk_far_n
    intro q _ hq
    cases he : (dk_le D K i0 q).1 j
    · rfl
    · exfalso
      have := dk_lv_mono (dk_lv_er he) (12 - q)
      rw [show q + (12 - q) = 12 by omega, hr] at this
      exact absurd this (by decide)
  · obtain ⟨k, h1, h2, h3⟩ := v2 hr
    rw [h2, if_neg (by rw [ds_eq_m1 (by omega)]; exact id)]
    symm
    apply dk_far_y (P := fun n => (dk_le D K i0 n).1 j) (b := k) h3 13 0 (by omega) (by omega)
    intro q _ hq
    cases he : (dk_le D K i0 q).1 j
    · rfl
    · have := dk_lv_one he h3
      omega
theorem k_journey (d : Nat) (x y : Int32) (z : ds_St) (h : dk_Inv z) : ∃ v z1 z2, ds_call (d + 20) j_Sea_journey [.ref 0, .int x, .int y] z = some (some v, z1) ∧ ds_call (d + 20) j_Mod_journey [.ref 90, .int x, .int y] z1 = some (some v, z2) ∧ dk_Inv z2 := by
  apply dk_both h
  intro t D K hC hM hz
  have hs := fun x => s_isIsland (d + 18) t x z D K hC
  have hs2 := fun x z hM => s_misIsland (d + 17) x z D K hM hz
  have n12 := (dk_n12 hz).1
  rcases Bool.eq_false_or_eq_true (dk_rng x (D 0 4)) with hr | hr
  · rcases Bool.eq_false_or_eq_true (dk_rng y (D 0 4)) with hq | hq
    · obtain ⟨i, hi, rfl⟩ := (dk_rng_iff (by omega)).mp hr
      obtain ⟨j, hj, rfl⟩ := (dk_rng_iff (by omega)).mp hq
      rcases hz with ⟨hD, hK⟩ | ⟨h0, hc0, hp0⟩
      · obtain ⟨z', s1, s2, s3, s4⟩ := s_chartOf (d + 15) t 61 (K 12) z D K hC.1 hC.2.1 hD (dk_HC_dk hC hK)
        have s5 := s_placeBit (d + 17) t _ j z' D K hD s2 (by omega)
        have s6 := s_bridges (d + 14) t i (fun p => K p == j) z' D K s4 hD hK s2 hi
        have e : dk_far (fun n => dk_any (fun p => (dk_le D K i n).1 (K p) && K p == j) (min (D 0 0 * D 0 1) (K 12))) 0 13 = dk_far (fun n => (dk_le D K i n).1 j) 0 13 := by
          apply dk_far_congr
          intro n _ _
          apply dk_boolext
          rw [dk_any_iff]
          constructor
          · rintro ⟨p, hp, hh⟩
            rw [Bool.and_eq_true] at hh
            have : K p = j := by simpa using hh.2
            rw [← this]; exact hh.1
          · intro hh
            obtain ⟨p, hp, e⟩ := dk_le_in hh
            refine ⟨p, hp, ?_⟩
            rw [e, hh]
            simp
        rw [e, ← dk_far_lv] at s6
        have i67 : ds_K 67 = 1 := rfl
        have vok := dk_vl_ok (D 0 4) (dk_be (dk_A D) K (K 12)) (fun i => D 1 i == 2) (fun i' => i' == i && dk_is D K (K 12) i) 12 j
        have mb : ∀ z, dk_HM z D K → _ := fun z hM => s_layBridges (d + 15) i z D K hM hD hK hi
        have hv : (dk_vl (D 0 4) (dk_be (dk_A D) K (K 12)) (fun i => D 1 i == 2) (fun i' => i' == i && dk_is D K (K 12) i) 12 j = ds_m1) ∨ ∃ k, k ≤ 12 ∧ dk_vl (D 0 4) (dk_be (dk_A D) K (K 12)) (fun i => D 1 i == 2) (fun i' => i' == i && dk_is D K (K 12) i) 12 j = nI k := by
          cases hr : (dk_lv (D 0 4) (dk_be (dk_A D) K (K 12)) (fun i => D 1 i == 2) (fun i' => i' == i && dk_is D K (K 12) i) 12).2 j
          · exact .inl (vok.1 hr)
          · obtain ⟨k, h1, h2, _⟩ := vok.2 hr
            exact .inr ⟨k, h1, h2⟩
        clear vok e
        have fin : ∀ w : Int32, (∀ z, dk_HM z D K → ∃ z', ds_call (d + 19) j_Mod_layBridges [.ref 90, .int (nI i)] z = some (none, z') ∧ z'.1 99 j = w ∧ (∀ p, p ≠ 99 → z'.1 p = z.1 p) ∧ z'.2 = z.2) → (w = ds_m1 ∨ ∃ k, k ≤ 12 ∧ w = nI k) → ds_call (d + 19) j_Chart_bridges [.ref 67, .int (nI i), .int (nI (ds_bs (fun p => K p == j) (min (D 0 0 * D 0 1) (K 12))))] z' = some (some (.int (if w = ds_m1 then ds_m2 else w)), z') → ∃ r u z1, ds_call (d + 20) j_Sea_journey [.ref 0, .int (nI i), .int (nI j)] z = some (some r, z1) ∧ dk_qC z z1 u ∧ ∀ z0, dk_HM z0 D K → ∃ z2, ds_call (d + 20) j_Mod_journey [.ref 90, .int (nI i), .int (nI j)] z0 = some (some r, z2) ∧ dk_qM z0 z2 u := by
          intro w hl hw hbr
          refine ⟨.int (if w = ds_m1 then ds_m2 else w), nI 0, ds_rowI z' 0 (upd (z'.1 0) 10 (nI 0)), ?_, dk_qC_row _ (dk_fr_mono s3 (by decide) (by decide)), fun z0 hM0 => ?_⟩
          · rw [c_Sea_journey, b_Sea_journey_0]
            generalize (if w = ds_m1 then ds_m2 else w) = W at *
            simp (disch := first | assumption | omega) only [ds_cI, ds_cV, ds_cL, ds_cR, ds_nn, ds_isK_t, ds_isA_t, ds_chk_t, ds_chkN, ds_nz_t, ds_nzN, ds_isB_t, ds_isB_bo, ↓dl_m1, ↓dl_m2, dl_0, dl_1, dl_2, dl_3, dl_4, dl_5, dl_6, dl_7, dl_8, dl_9, dl_10, dl_11, dl_12, dl_13, dl_14, dl_15, dl_16, dl_20, dl_24, dl_31, dl_50, dl_57, dl_67, dl_68, dl_74, dl_75, dl_79, dl_80, dl_99, dl_100, dl_200, dl_210, dl_224, dl_255, dl_289, dl_900, dl_1000, dl_1728, dl_65536, dl_65537, nI_add, pk_mul, pk_sub, pk_div, pk_rem, ds_rem2, nI_clamp, nI_leI, nI_ltI, nI_eq, ds_m1_eq, ds_eq_m1, ds_m2_eq, ds_eq_m2, ds_m1_le, ds_le_m1, ds_m1_lt, ds_lt_m1, ds_in_N, ds_bo0, ds_bo1, if_pos, if_neg, Nat.not_le, Nat.not_lt, not_true_eq_false, not_false_eq_true, if_true, if_false, ne_eq, Option.some.injEq, Prod.mk.injEq, Value.int.injEq, true_and, and_true, and_self, ite_self, Bool.not_eq_true, Bool.not_eq_false, Bool.true_eq_false, Bool.false_eq_true, reduceCtorEq, Nat.zero_add, Nat.reduceAdd, Nat.reduceMul, Nat.reduceSub, ds_setI_row, ds_setL_row, ds_rowI_self, ds_rowI_ne, ds_rowI_2, ds_rowI_rowI, ds_setS_1, ds_setS_21, ds_setS_self, ds_setS_ne, pk_us, pk_un, hs, hr, hq, s1, s5, hbr, s_answer]
          · have hMg := dk_zg_HM hM0
            have a2 := fun x => hs2 x _ hMg
            obtain ⟨y1, q1, q2, q3, q4⟩ := hl _ hMg
            refine ⟨y1, ?_, dk_qM_ok ⟨fun p a b => q3 p (by omega), fun k a => by rw [q3 90 (by decide)], fun k a => by rw [q4]⟩⟩
            rw [c_Mod_journey, b_Mod_journey_0]
            rcases hw with hw | ⟨k, hk, hw⟩
            · rw [hw] at q2 ⊢
              simp (disch := first | assumption | omega) only [ds_cI, ds_cV, ds_cL, ds_cR, ds_nn, ds_isK_t, ds_isA_t, ds_chk_t, ds_chkN, ds_nz_t, ds_nzN, ds_isB_t, ds_isB_bo, ↓dl_m1, ↓dl_m2, dl_0, dl_1, dl_2, dl_3, dl_4, dl_5, dl_6, dl_7, dl_8, dl_9, dl_10, dl_11, dl_12, dl_13, dl_14, dl_15, dl_16, dl_20, dl_24, dl_31, dl_50, dl_57, dl_67, dl_68, dl_74, dl_75, dl_79, dl_80, dl_99, dl_100, dl_200, dl_210, dl_224, dl_255, dl_289, dl_900, dl_1000, dl_1728, dl_65536, dl_65537, nI_add, pk_mul, pk_sub, pk_div, pk_rem, ds_rem2, nI_clamp, nI_leI, nI_ltI, nI_eq, ds_m1_eq, ds_eq_m1, ds_m2_eq, ds_eq_m2, ds_m1_le, ds_le_m1, ds_m1_lt, ds_lt_m1, ds_in_N, ds_bo0, ds_bo1, if_pos, if_neg, Nat.not_le, Nat.not_lt, not_true_eq_false, not_false_eq_true, if_true, if_false, ne_eq, Option.some.injEq, Prod.mk.injEq, Value.int.injEq, true_and, and_true, and_self, ite_self, Bool.not_eq_true, Bool.not_eq_false, Bool.true_eq_false, Bool.false_eq_true, reduceCtorEq, Nat.zero_add, Nat.reduceAdd, Nat.reduceMul, Nat.reduceSub, ds_setI_row, ds_setL_row, ds_rowI_self, ds_rowI_ne, ds_rowI_2, ds_rowI_rowI, ds_setS_1, ds_setS_21, ds_setS_self, ds_setS_ne, pk_us, pk_un, s_good, a2, hr, hq, q1, q2, show ¬ nI 0 ≤ ds_m1 from by decide]
            · rw [hw] at q2 ⊢
              simp (disch := first | assumption | omega) only [ds_cI, ds_cV, ds_cL, ds_cR, ds_nn, ds_isK_t, ds_isA_t, ds_chk_t, ds_chkN, ds_nz_t, ds_nzN, ds_isB_t, ds_isB_bo, ↓dl_m1, ↓dl_m2, dl_0, dl_1, dl_2, dl_3, dl_4, dl_5, dl_6, dl_7, dl_8, dl_9, dl_10, dl_11, dl_12, dl_13, dl_14, dl_15, dl_16, dl_20, dl_24, dl_31, dl_50, dl_57, dl_67, dl_68, dl_74, dl_75, dl_79, dl_80, dl_99, dl_100, dl_200, dl_210, dl_224, dl_255, dl_289, dl_900, dl_1000, dl_1728, dl_65536, dl_65537, nI_add, pk_mul, pk_sub, pk_div, pk_rem, ds_rem2, nI_clamp, nI_leI, nI_ltI, nI_eq, ds_m1_eq, ds_eq_m1, ds_m2_eq, ds_eq_m2, ds_m1_le, ds_le_m1, ds_m1_lt, ds_lt_m1, ds_in_N, ds_bo0, ds_bo1, if_pos, if_neg, Nat.not_le, Nat.not_lt, not_true_eq_false, not_false_eq_true, if_true, if_false, ne_eq, Option.some.injEq, Prod.mk.injEq, Value.int.injEq, true_and, and_true, and_self, ite_self, Bool.not_eq_true, Bool.not_eq_false, Bool.true_eq_false, Bool.false_eq_true, reduceCtorEq, Nat.zero_add, Nat.reduceAdd, Nat.reduceMul, Nat.reduceSub, ds_setI_row, ds_setL_row, ds_rowI_self, ds_rowI_ne, ds_rowI_2, ds_rowI_rowI, ds_setS_1, ds_setS_21, ds_setS_self, ds_setS_ne, pk_us, pk_un, s_good, a2, hr, hq, q1, q2]
        exact fin _ (fun z hM => by obtain ⟨y, q1, q2, q3, q4⟩ := mb z hM; exact ⟨y, q1, q2 j hj, q3, q4⟩) hv s6
      · have h4 := h0 4 (by decide)
        omega
    · refine ⟨.int ds_m1, nI 1, ds_rowI z 0 (upd (z.1 0) 10 (nI 1)), ?_, dk_qC_no z _, fun z0 hM0 => ⟨ds_rowI (dk_zg z0) 90 (upd ((dk_zg z0).1 90) 11 (nI 1)), ?_, dk_qM_no z0 _⟩⟩
      · rw [c_Sea_journey, b_Sea_journey_0]
        simp (disch := first | assumption | omega | rfl | decide) only [ds_cI, ds_cV, ds_cL, ds_cR, ds_nn, ds_isK_t, ds_isA_t, ds_chk_t, ds_chkN, ds_nz_t, ds_nzN, ds_isB_t, ds_isB_bo, ↓dl_m1, ↓dl_m2, dl_0, dl_1, dl_2, dl_3, dl_4, dl_5, dl_6, dl_7, dl_8, dl_9, dl_10, dl_11, dl_12, dl_13, dl_14, dl_15, dl_16, dl_20, dl_24, dl_31, dl_50, dl_57, dl_67, dl_68, dl_74, dl_75, dl_79, dl_80, dl_99, dl_100, dl_200, dl_210, dl_224, dl_255, dl_289, dl_900, dl_1000, dl_1728, dl_65536, dl_65537, nI_add, pk_mul, pk_sub, pk_div, pk_rem, ds_rem2, nI_clamp, nI_leI, nI_ltI, nI_eq, ds_m1_eq, ds_eq_m1, ds_m2_eq, ds_eq_m2, ds_m1_le, ds_le_m1, ds_m1_lt, ds_lt_m1, ds_in_N, ds_bo0, ds_bo1, if_pos, if_neg, Nat.not_le, Nat.not_lt, not_true_eq_false, not_false_eq_true, if_true, if_false, ne_eq, Option.some.injEq, Prod.mk.injEq, Value.int.injEq, true_and, and_true, and_self, ite_self, Bool.not_eq_true, Bool.not_eq_false, Bool.true_eq_false, Bool.false_eq_true, reduceCtorEq, Nat.zero_add, Nat.reduceAdd, Nat.reduceMul, Nat.reduceSub, ds_setI_row, ds_setL_row, ds_rowI_self, ds_rowI_ne, ds_rowI_2, ds_rowI_rowI, ds_setS_1, ds_setS_21, ds_setS_self, ds_setS_ne, pk_us, pk_un, s_refuse, hs, hr, hq]
      · have hMg := dk_zg_HM hM0
        have hsg := hMg.2.1
        rw [c_Mod_journey, b_Mod_journey_0]
        simp (disch := first | assumption | omega | rfl | decide) only [ds_cI, ds_cV, ds_cL, ds_cR, ds_nn, ds_isK_t, ds_isA_t, ds_chk_t, ds_chkN, ds_nz_t, ds_nzN, ds_isB_t, ds_isB_bo, ↓dl_m1, ↓dl_m2, dl_0, dl_1, dl_2, dl_3, dl_4, dl_5, dl_6, dl_7, dl_8, dl_9, dl_10, dl_11, dl_12, dl_13, dl_14, dl_15, dl_16, dl_20, dl_24, dl_31, dl_50, dl_57, dl_67, dl_68, dl_74, dl_75, dl_79, dl_80, dl_99, dl_100, dl_200, dl_210, dl_224, dl_255, dl_289, dl_900, dl_1000, dl_1728, dl_65536, dl_65537, nI_add, pk_mul, pk_sub, pk_div, pk_rem, ds_rem2, nI_clamp, nI_leI, nI_ltI, nI_eq, ds_m1_eq, ds_eq_m1, ds_m2_eq, ds_eq_m2, ds_m1_le, ds_le_m1, ds_m1_lt, ds_lt_m1, ds_in_N, ds_bo0, ds_bo1, if_pos, if_neg, Nat.not_le, Nat.not_lt, not_true_eq_false, not_false_eq_true, if_true, if_false, ne_eq, Option.some.injEq, Prod.mk.injEq, Value.int.injEq, true_and, and_true, and_self, ite_self, Bool.not_eq_true, Bool.not_eq_false, Bool.true_eq_false, Bool.false_eq_true, reduceCtorEq, Nat.zero_add, Nat.reduceAdd, Nat.reduceMul, Nat.reduceSub, ds_setI_row, ds_setL_row, ds_rowI_self, ds_rowI_ne, ds_rowI_2, ds_rowI_rowI, ds_setS_1, ds_setS_21, ds_setS_self, ds_setS_ne, pk_us, pk_un, s_good, s_no, hsg, hs2 _ _ hMg, hr, hq]
  · refine ⟨.int ds_m1, nI 1, ds_rowI z 0 (upd (z.1 0) 10 (nI 1)), ?_, dk_qC_no z _, fun z0 hM0 => ⟨ds_rowI (dk_zg z0) 90 (upd ((dk_zg z0).1 90) 11 (nI 1)), ?_, dk_qM_no z0 _⟩⟩
    · rw [c_Sea_journey, b_Sea_journey_0]
      simp (disch := first | assumption | omega | rfl | decide) only [ds_cI, ds_cV, ds_cL, ds_cR, ds_nn, ds_isK_t, ds_isA_t, ds_chk_t, ds_chkN, ds_nz_t, ds_nzN, ds_isB_t, ds_isB_bo, ↓dl_m1, ↓dl_m2, dl_0, dl_1, dl_2, dl_3, dl_4, dl_5, dl_6, dl_7, dl_8, dl_9, dl_10, dl_11, dl_12, dl_13, dl_14, dl_15, dl_16, dl_20, dl_24, dl_31, dl_50, dl_57, dl_67, dl_68, dl_74, dl_75, dl_79, dl_80, dl_99, dl_100, dl_200, dl_210, dl_224, dl_255, dl_289, dl_900, dl_1000, dl_1728, dl_65536, dl_65537, nI_add, pk_mul, pk_sub, pk_div, pk_rem, ds_rem2, nI_clamp, nI_leI, nI_ltI, nI_eq, ds_m1_eq, ds_eq_m1, ds_m2_eq, ds_eq_m2, ds_m1_le, ds_le_m1, ds_m1_lt, ds_lt_m1, ds_in_N, ds_bo0, ds_bo1, if_pos, if_neg, Nat.not_le, Nat.not_lt, not_true_eq_false, not_false_eq_true, if_true, if_false, ne_eq, Option.some.injEq, Prod.mk.injEq, Value.int.injEq, true_and, and_true, and_self, ite_self, Bool.not_eq_true, Bool.not_eq_false, Bool.true_eq_false, Bool.false_eq_true, reduceCtorEq, Nat.zero_add, Nat.reduceAdd, Nat.reduceMul, Nat.reduceSub, ds_setI_row, ds_setL_row, ds_rowI_self, ds_rowI_ne, ds_rowI_2, ds_rowI_rowI, ds_setS_1, ds_setS_21, ds_setS_self, ds_setS_ne, pk_us, pk_un, s_refuse, hs, hr]
    · have hMg := dk_zg_HM hM0
      have hsg := hMg.2.1
      rw [c_Mod_journey, b_Mod_journey_0]
      simp (disch := first | assumption | omega | rfl | decide) only [ds_cI, ds_cV, ds_cL, ds_cR, ds_nn, ds_isK_t, ds_isA_t, ds_chk_t, ds_chkN, ds_nz_t, ds_nzN, ds_isB_t, ds_isB_bo, ↓dl_m1, ↓dl_m2, dl_0, dl_1, dl_2, dl_3, dl_4, dl_5, dl_6, dl_7, dl_8, dl_9, dl_10, dl_11, dl_12, dl_13, dl_14, dl_15, dl_16, dl_20, dl_24, dl_31, dl_50, dl_57, dl_67, dl_68, dl_74, dl_75, dl_79, dl_80, dl_99, dl_100, dl_200, dl_210, dl_224, dl_255, dl_289, dl_900, dl_1000, dl_1728, dl_65536, dl_65537, nI_add, pk_mul, pk_sub, pk_div, pk_rem, ds_rem2, nI_clamp, nI_leI, nI_ltI, nI_eq, ds_m1_eq, ds_eq_m1, ds_m2_eq, ds_eq_m2, ds_m1_le, ds_le_m1, ds_m1_lt, ds_lt_m1, ds_in_N, ds_bo0, ds_bo1, if_pos, if_neg, Nat.not_le, Nat.not_lt, not_true_eq_false, not_false_eq_true, if_true, if_false, ne_eq, Option.some.injEq, Prod.mk.injEq, Value.int.injEq, true_and, and_true, and_self, ite_self, Bool.not_eq_true, Bool.not_eq_false, Bool.true_eq_false, Bool.false_eq_true, reduceCtorEq, Nat.zero_add, Nat.reduceAdd, Nat.reduceMul, Nat.reduceSub, ds_setI_row, ds_setL_row, ds_rowI_self, ds_rowI_ne, ds_rowI_2, ds_rowI_rowI, ds_setS_1, ds_setS_21, ds_setS_self, ds_setS_ne, pk_us, pk_un, s_good, s_no, hsg, hs2 _ _ hMg, hr]
