/-! the text: bytes and tokens -/
theorem dl_22 : (22 : Int32) = nI 22 := rfl
theorem dl_32 : (32 : Int32) = nI 32 := rfl
theorem dl_48 : (48 : Int32) = nI 48 := rfl
theorem dl_59 : (59 : Int32) = nI 59 := rfl
theorem dl_91 : (91 : Int32) = nI 91 := rfl
theorem dl_97 : (97 : Int32) = nI 97 := rfl
theorem dl_113 : (113 : Int32) = nI 113 := rfl
theorem dl_122 : (122 : Int32) = nI 122 := rfl
theorem dL_32 : (32 : Int64) = lN 32 := rfl
def dr_run (P : Nat → Bool) (B : Nat → Nat) (n : Nat) : Nat → Nat → List Nat
  | 0, _ => []
  | f + 1, e => if (decide (e < n) && P (B e)) = true then B e :: dr_run P B n f (e + 1) else []
def dr_rn (P : Nat → Bool) (B : Nat → Nat) (n e : Nat) : List Nat := dr_run P B n (n - e) e
theorem dr_rn_c {P : Nat → Bool} {B : Nat → Nat} {n e : Nat} (h : e < n) (hp : P (B e) = true) : dr_rn P B n e = B e :: dr_rn P B n (e + 1) := by
  unfold dr_rn
  rw [show n - e = (n - (e + 1)) + 1 by omega]
  simp only [dr_run]
  rw [decide_eq_true h, hp]
  rfl
theorem dr_rn_n {P : Nat → Bool} {B : Nat → Nat} {n e : Nat} (h : e < n → P (B e) = false) : dr_rn P B n e = [] := by
  unfold dr_rn
  rcases Nat.lt_or_ge e n with q | q
  · rw [show n - e = (n - (e + 1)) + 1 by omega]
    simp only [dr_run]
    rw [h q, Bool.and_false]
    rfl
  · rw [show n - e = 0 by omega]
    rfl
theorem dr_rn_end {P : Nat → Bool} {B : Nat → Nat} {n : Nat} : ∀ m e, n - e = m → e ≤ n → e + (dr_rn P B n e).length ≤ n ∧ (e + (dr_rn P B n e).length < n → P (B (e + (dr_rn P B n e).length)) = false) ∧ ∀ x, x ∈ dr_rn P B n e → P x = true := by
  intro m
  induction m with
  | zero =>
    intro e hm he
    rw [dr_rn_n (fun q => by omega)]
    refine ⟨by simpa using he, fun q => ?_, fun x hx => absurd hx (by simp)⟩
    have q' : e + 0 < n := q
    omega
  | succ m ih =>
    intro e hm he
    cases hp : P (B e)
    · rw [dr_rn_n (fun _ => hp)]
      exact ⟨by simpa using he, fun _ => hp, fun x hx => absurd hx (by simp)⟩
    · rw [dr_rn_c (by omega) hp]
      obtain ⟨a, b, c⟩ := ih (e + 1) (by omega) (by omega)
      rw [List.length_cons]
      have e1 : e + ((dr_rn P B n (e + 1)).length + 1) = e + 1 + (dr_rn P B n (e + 1)).length := by omega
      rw [e1]
      refine ⟨a, b, fun x hx => ?_⟩
      rcases List.mem_cons.mp hx with q | q
      · rw [q]; exact hp
      · exact c x q
def dr_sp (x : Nat) : Bool := x == 32
def dr_lt (x : Nat) : Bool := decide (97 ≤ x) && decide (x ≤ 122)
def dr_dg (x : Nat) : Bool := decide (48 ≤ x) && decide (x ≤ 57)
def dr_at (B : Nat → Nat) (n e : Nat) : Nat := e + (dr_rn dr_sp B n e).length
def dr_wl (B : Nat → Nat) (n e : Nat) : List Nat := dr_rn dr_lt B n (dr_at B n e)
def dr_dl (B : Nat → Nat) (n e : Nat) : List Nat := dr_rn dr_dg B n (dr_at B n e)
def dr_v1 (a x : Nat) : Nat := 10 * a + (x - 48)
def dr_c1 (a x : Nat) : Nat := 32 * a + (x - 96)
def dr_val (a : Nat) (l : List Nat) : Nat := l.foldl dr_v1 a
def dr_cod (a : Nat) (l : List Nat) : Nat := l.foldl dr_c1 a
def dr_wh (B : Nat → Nat) (n e : Nat) : Nat := dr_val 0 (dr_dl B n e)
def dr_kd (B : Nat → Nat) (n e : Nat) : Nat := if n ≤ dr_at B n e then 0 else if dr_lt (B (dr_at B n e)) = true then (if (dr_wl B n e).length ≤ 8 then 1 else 4) else if dr_dg (B (dr_at B n e)) = true then (if (dr_dl B n e).length ≤ 2 then 2 else 4) else if B (dr_at B n e) = 59 then 3 else 4
def dr_nx (B : Nat → Nat) (n e : Nat) : Nat := if n ≤ dr_at B n e then dr_at B n e else if dr_lt (B (dr_at B n e)) = true then dr_at B n e + (dr_wl B n e).length else if dr_dg (B (dr_at B n e)) = true then dr_at B n e + (dr_dl B n e).length else dr_at B n e + 1
theorem dr_at_ok (B : Nat → Nat) {n e : Nat} (h : e ≤ n) : e ≤ dr_at B n e ∧ dr_at B n e ≤ n := by
  have := (dr_rn_end (P := dr_sp) (B := B) (n - e) e rfl h).1
  unfold dr_at
  omega
theorem dr_nx_ok (B : Nat → Nat) {n e : Nat} (h : e ≤ n) : dr_at B n e ≤ dr_nx B n e ∧ dr_nx B n e ≤ n := by
  obtain ⟨a, b⟩ := dr_at_ok B h
  have w := (dr_rn_end (P := dr_lt) (B := B) (n - dr_at B n e) _ rfl b).1
  have w2 := (dr_rn_end (P := dr_dg) (B := B) (n - dr_at B n e) _ rfl b).1
  unfold dr_nx
  split
  · omega
  · split
    · unfold dr_wl
      omega
    · split
      · unfold dr_dl
        omega
      · omega
theorem dr_kd_le (B : Nat → Nat) (n e : Nat) : dr_kd B n e ≤ 4 := by
  unfold dr_kd
  split
  · omega
  · split
    · split <;> omega
    · split
      · split <;> omega
      · split <;> omega
theorem dr_kd_3 {B : Nat → Nat} {n e : Nat} (h : e ≤ n) (hk : dr_kd B n e = 3) : e < dr_nx B n e := by
  obtain ⟨a, b⟩ := dr_at_ok B h
  unfold dr_kd at hk
  unfold dr_nx
  by_cases h1 : n ≤ dr_at B n e
  · rw [if_pos h1] at hk; omega
  · rw [if_neg h1] at hk ⊢
    by_cases h2 : dr_lt (B (dr_at B n e)) = true
    · rw [if_pos h2] at hk; split at hk <;> omega
    · rw [if_neg h2] at hk ⊢
      by_cases h3 : dr_dg (B (dr_at B n e)) = true
      · rw [if_pos h3] at hk; split at hk <;> omega
      · rw [if_neg h3]
        omega
/-- a word: of one to eight letters -/
def dr_wd (l : List Nat) : Prop := l ≠ [] ∧ l.length ≤ 8 ∧ ∀ x, x ∈ l → 97 ≤ x ∧ x ≤ 122
theorem dr_lt_iff {x : Nat} : dr_lt x = true ↔ 97 ≤ x ∧ x ≤ 122 := by
  unfold dr_lt
  simp
theorem dr_wl_ok {B : Nat → Nat} {n e : Nat} (h : e ≤ n) (hk : dr_kd B n e = 1) : dr_wd (dr_wl B n e) := by
  obtain ⟨a, b⟩ := dr_at_ok B h
  have w := (dr_rn_end (P := dr_lt) (B := B) (n - dr_at B n e) _ rfl b).2.2
  unfold dr_kd at hk
  by_cases h1 : n ≤ dr_at B n e
  · rw [if_pos h1] at hk; omega
  · rw [if_neg h1] at hk
    by_cases h2 : dr_lt (B (dr_at B n e)) = true
    · rw [if_pos h2] at hk
      refine ⟨?_, ?_, fun x hx => dr_lt_iff.mp (w x hx)⟩
      · unfold dr_wl
        rw [dr_rn_c (by omega) h2]
        exact List.cons_ne_nil _ _
      · by_cases h3 : (dr_wl B n e).length ≤ 8
        · exact h3
        · rw [if_neg h3] at hk; omega
    · rw [if_neg h2] at hk
      split at hk
      · split at hk <;> omega
      · split at hk <;> omega
theorem dr_cod_c (a x : Nat) (l : List Nat) : dr_cod a (x :: l) = dr_cod (dr_c1 a x) l := by
  unfold dr_cod
  rw [List.foldl_cons]
theorem dr_val_c (a x : Nat) (l : List Nat) : dr_val a (x :: l) = dr_val (dr_v1 a x) l := by
  unfold dr_val
  rw [List.foldl_cons]
/-! bytes of the class -/
def dr_sb (x : Nat) : Int32 := (nI x).toInt8.toInt32
theorem dr_sb_lt : ∀ x, x < 256 → (if dr_lt x = true then decide (dr_sb x < nI 97) || decide (nI 122 < dr_sb x) else !(decide (dr_sb x < nI 97) || decide (nI 122 < dr_sb x))) = false := by decide +kernel
theorem dr_sb_dg : ∀ x, x < 256 → (if dr_dg x = true then decide (dr_sb x < nI 48) || decide (nI 57 < dr_sb x) else !(decide (dr_sb x < nI 48) || decide (nI 57 < dr_sb x))) = false := by decide +kernel
theorem dr_sb_eq : ∀ x, x < 256 → (decide (dr_sb x = nI 32) == decide (x = 32) && (decide (dr_sb x = nI 59) == decide (x = 59)) && (!(dr_lt x || dr_dg x) || decide (dr_sb x = nI x))) = true := by decide +kernel
theorem s_isLetter (d x : Nat) (z : ds_St) (hx : x < 256) : ds_call (d + 1) j_Reader_isLetter [.int (dr_sb x)] z = some (some (.int (ds_bo (dr_lt x))), z) := by
  have h := dr_sb_lt x hx
  rw [c_Reader_isLetter, b_Reader_isLetter_0, dl_97, dl_122]
  cases hl : dr_lt x
  · rw [hl] at h
    have h' := h
    rw [if_neg (by decide), Bool.not_eq_false'] at h'
    by_cases a : dr_sb x < nI 97
    · rw [if_pos a]; rfl
    · rw [if_neg a]
      rw [decide_eq_false a, Bool.false_or, decide_eq_true_eq] at h'
      rw [if_pos h']; rfl
  · rw [hl, if_pos rfl, Bool.or_eq_false_iff, decide_eq_false_iff_not, decide_eq_false_iff_not] at h
    rw [if_neg h.1, if_neg h.2]; rfl
theorem s_isDigit (d x : Nat) (z : ds_St) (hx : x < 256) : ds_call (d + 1) j_Reader_isDigit [.int (dr_sb x)] z = some (some (.int (ds_bo (dr_dg x))), z) := by
  have h := dr_sb_dg x hx
  rw [c_Reader_isDigit, b_Reader_isDigit_0, dl_48, dl_57]
  cases hl : dr_dg x
  · rw [hl] at h
    have h' := h
    rw [if_neg (by decide), Bool.not_eq_false'] at h'
    by_cases a : dr_sb x < nI 48
    · rw [if_pos a]; rfl
    · rw [if_neg a]
      rw [decide_eq_false a, Bool.false_or, decide_eq_true_eq] at h'
      rw [if_pos h']; rfl
  · rw [hl, if_pos rfl, Bool.or_eq_false_iff, decide_eq_false_iff_not, decide_eq_false_iff_not] at h
    rw [if_neg h.1, if_neg h.2]; rfl
theorem dr_sb_32 {x : Nat} (hx : x < 256) : (dr_sb x = nI 32) = (x = 32) := by
  have h := dr_sb_eq x hx
  simp only [Bool.and_eq_true, beq_iff_eq] at h
  have := h.1.1
  rw [decide_eq_decide] at this
  exact propext this
theorem dr_sb_59 {x : Nat} (hx : x < 256) : (dr_sb x = nI 59) = (x = 59) := by
  have h := dr_sb_eq x hx
  simp only [Bool.and_eq_true, beq_iff_eq] at h
  have := h.1.2
  rw [decide_eq_decide] at this
  exact propext this
theorem dr_sb_id {x : Nat} (hx : x < 256) (h2 : dr_lt x = true ∨ dr_dg x = true) : dr_sb x = nI x := by
  have h := dr_sb_eq x hx
  simp only [Bool.and_eq_true, beq_iff_eq] at h
  have h3 := h.2
  have h4 : (dr_lt x || dr_dg x) = true := by rw [Bool.or_eq_true]; exact h2
  rw [h4] at h3
  simpa using h3
/-! the class's lexer -/
def dr_bC (z : ds_St) (B : Nat → Nat) (n : Nat) : Prop := z.1 1 9 = nI 0 ∧ z.1 1 3 = nI n ∧ n ≤ 900 ∧ (∀ k, k < n → z.1 2 k = dr_sb (B k)) ∧ (∀ k, k < n → B k < 256)
def dr_tC (z : ds_St) (B : Nat → Nat) (n e : Nat) : Prop := z.1 1 4 = nI (dr_at B n e) ∧ z.1 1 5 = nI (dr_nx B n e) ∧ z.1 1 6 = nI (dr_kd B n e) ∧ (dr_kd B n e = 1 → z.2.1 1 7 = lN (dr_cod 0 (dr_wl B n e))) ∧ (dr_kd B n e = 2 → z.1 1 8 = nI (dr_wh B n e))
/-- only the token changes -/
def dr_f1 (z z' : ds_St) : Prop := (∀ p, p ≠ 1 → z'.1 p = z.1 p) ∧ (∀ k, k ≠ 4 → k ≠ 5 → k ≠ 6 → k ≠ 8 → z'.1 1 k = z.1 1 k) ∧ (∀ p, p ≠ 1 → z'.2.1 p = z.2.1 p) ∧ z'.2.2 = z.2.2
theorem dr_f1_refl (z : ds_St) : dr_f1 z z := ⟨fun _ _ => rfl, fun _ _ _ _ _ => rfl, fun _ _ => rfl, rfl⟩
theorem dr_f1_trans {z z1 z2 : ds_St} (h : dr_f1 z z1) (h2 : dr_f1 z1 z2) : dr_f1 z z2 := ⟨fun p a => (h2.1 p a).trans (h.1 p a), fun k a b c e => (h2.2.1 k a b c e).trans (h.2.1 k a b c e), fun p a => (h2.2.2.1 p a).trans (h.2.2.1 p a), h2.2.2.2.trans h.2.2.2⟩
theorem dr_f1_fld {z z1 : ds_St} {k : Nat} (v : Int32) (h : dr_f1 z z1) (hk : k = 4 ∨ k = 5 ∨ k = 6 ∨ k = 8) : dr_f1 z (ds_rowI z1 1 (upd (z1.1 1) k v)) := ⟨fun p a => by rw [ds_rowI_ne _ _ a]; exact h.1 p a, fun j a b c e => by rw [ds_rowI_self, pk_un (by omega)]; exact h.2.1 j a b c e, h.2.2.1, h.2.2.2⟩
theorem dr_f1_lng {z z1 : ds_St} (f : Nat → Int64) (h : dr_f1 z z1) : dr_f1 z (ds_rowL z1 1 f) := ⟨h.1, h.2.1, fun p a => by rw [ds_rowL_ne _ _ a]; exact h.2.2.1 p a, h.2.2.2⟩
theorem dr_bC_f1 {z z' : ds_St} {B : Nat → Nat} {n : Nat} (h : dr_bC z B n) (hf : dr_f1 z z') : dr_bC z' B n := ⟨by rw [hf.2.1 9 (by decide) (by decide) (by decide) (by decide)]; exact h.1, by rw [hf.2.1 3 (by decide) (by decide) (by decide) (by decide)]; exact h.2.1, h.2.2.1, by rw [hf.1 2 (by decide)]; exact h.2.2.2.1, h.2.2.2.2⟩
theorem s_byteAt (d i : Nat) (z : ds_St) (B : Nat → Nat) (n : Nat) (h : dr_bC z B n) (hi : i < n) : ds_call (d + 1) j_Reader_byteAt [.ref 1, .int (nI i)] z = some (some (.int (dr_sb (B i))), z) := by
  obtain ⟨_, h3, n9, ht, _⟩ := h
  have t := ht i hi
  rw [c_Reader_byteAt, b_Reader_byteAt_0]
  simp (disch := first | assumption | omega) only [ds_cI, ds_cV, ds_cL, ds_cR, ds_nn, ds_isK_t, ds_isA_t, ds_chk_t, ds_chkN, ds_nz_t, ds_nzN, ds_isB_t, ds_isB_bo, ↓dl_m1, ↓dl_m2, dl_0, dl_1, dl_2, dl_3, dl_4, dl_5, dl_6, dl_7, dl_8, dl_9, dl_10, dl_11, dl_12, dl_13, dl_14, dl_15, dl_16, dl_20, dl_24, dl_31, dl_50, dl_57, dl_67, dl_68, dl_74, dl_75, dl_79, dl_80, dl_99, dl_100, dl_200, dl_210, dl_224, dl_255, dl_289, dl_900, dl_1000, dl_1728, dl_65536, dl_65537, nI_add, pk_mul, pk_sub, pk_div, pk_rem, ds_rem2, nI_clamp, nI_leI, nI_ltI, nI_eq, ds_m1_eq, ds_eq_m1, ds_m2_eq, ds_eq_m2, ds_m1_le, ds_le_m1, ds_m1_lt, ds_lt_m1, ds_in_N, ds_bo0, ds_bo1, if_pos, if_neg, Nat.not_le, Nat.not_lt, not_true_eq_false, not_false_eq_true, if_true, if_false, ne_eq, Option.some.injEq, Prod.mk.injEq, Value.int.injEq, true_and, and_true, and_self, ite_self, Bool.not_eq_true, Bool.not_eq_false, Bool.true_eq_false, Bool.false_eq_true, reduceCtorEq, Nat.zero_add, Nat.reduceAdd, Nat.reduceMul, Nat.reduceSub, ds_setI_row, ds_setL_row, ds_rowI_self, ds_rowI_ne, ds_rowI_2, ds_rowI_rowI, ds_setS_1, ds_setS_21, ds_setS_self, ds_setS_ne, pk_us, pk_un, h3, t]
theorem s_byteAt0 (d i : Nat) (z : ds_St) (B : Nat → Nat) (n : Nat) (h : dr_bC z B n) (hi : n ≤ i) (h9 : i ≤ 900) : ds_call (d + 1) j_Reader_byteAt [.ref 1, .int (nI i)] z = some (some (.int (nI 0)), z) := by
  obtain ⟨_, h3, n9, ht, _⟩ := h
  rw [c_Reader_byteAt, b_Reader_byteAt_0]
  simp (disch := first | assumption | omega) only [ds_cI, ds_cV, ds_cL, ds_cR, ds_nn, ds_isK_t, ds_isA_t, ds_chk_t, ds_chkN, ds_nz_t, ds_nzN, ds_isB_t, ds_isB_bo, ↓dl_m1, ↓dl_m2, dl_0, dl_1, dl_2, dl_3, dl_4, dl_5, dl_6, dl_7, dl_8, dl_9, dl_10, dl_11, dl_12, dl_13, dl_14, dl_15, dl_16, dl_20, dl_24, dl_31, dl_50, dl_57, dl_67, dl_68, dl_74, dl_75, dl_79, dl_80, dl_99, dl_100, dl_200, dl_210, dl_224, dl_255, dl_289, dl_900, dl_1000, dl_1728, dl_65536, dl_65537, nI_add, pk_mul, pk_sub, pk_div, pk_rem, ds_rem2, nI_clamp, nI_leI, nI_ltI, nI_eq, ds_m1_eq, ds_eq_m1, ds_m2_eq, ds_eq_m2, ds_m1_le, ds_le_m1, ds_m1_lt, ds_lt_m1, ds_in_N, ds_bo0, ds_bo1, if_pos, if_neg, Nat.not_le, Nat.not_lt, not_true_eq_false, not_false_eq_true, if_true, if_false, ne_eq, Option.some.injEq, Prod.mk.injEq, Value.int.injEq, true_and, and_true, and_self, ite_self, Bool.not_eq_true, Bool.not_eq_false, Bool.true_eq_false, Bool.false_eq_true, reduceCtorEq, Nat.zero_add, Nat.reduceAdd, Nat.reduceMul, Nat.reduceSub, ds_setI_row, ds_setL_row, ds_rowI_self, ds_rowI_ne, ds_rowI_2, ds_rowI_rowI, ds_setS_1, ds_setS_21, ds_setS_self, ds_setS_ne, pk_us, pk_un, h3]
theorem dr_upd_id {f : Nat → Int32} {k : Nat} {v : Int32} (h : f k = v) : upd f k v = f := by
  funext j
  unfold upd
  by_cases e : j = k
  · rw [if_pos e, e, h]
  · rw [if_neg e]
theorem dr_spaces (d : Nat) (B : Nat → Nat) (n : Nat) : ∀ m e z, n - e = m → e ≤ n → dr_bC z B n → z.1 1 5 = nI e → ∃ z', ds_Rw ds_c_Reader_advance ds_u_Reader_advance (ds_call (d + 2)) 8 [some (.ref 1), none] [] z = ds_Rw ds_c_Reader_advance ds_u_Reader_advance (ds_call (d + 2)) 45 [some (.ref 1), none] [] z' ∧ z'.1 1 5 = nI (dr_at B n e) ∧ dr_f1 z z' := by
  intro m
  induction m with
  | zero =>
    intro e z hm he hb h5
    have en : e = n := by omega
    subst en
    have ea : dr_at B e e = e := by
      unfold dr_at
      rw [dr_rn_n (fun q => by omega)]
      rfl
    refine ⟨z, ?_, by rw [ea]; exact h5, dr_f1_refl z⟩
    have h3 := hb.2.1
    have n9 := hb.2.2.1
    rw [b_Reader_advance_8]
    simp (disch := first | assumption | omega) only [ds_cI, ds_cV, ds_cL, ds_cR, ds_nn, ds_isK_t, ds_isA_t, ds_chk_t, ds_chkN, ds_nz_t, ds_nzN, ds_isB_t, ds_isB_bo, ↓dl_m1, ↓dl_m2, dl_0, dl_1, dl_2, dl_3, dl_4, dl_5, dl_6, dl_7, dl_8, dl_9, dl_10, dl_11, dl_12, dl_13, dl_14, dl_15, dl_16, dl_20, dl_24, dl_31, dl_50, dl_57, dl_67, dl_68, dl_74, dl_75, dl_79, dl_80, dl_99, dl_100, dl_200, dl_210, dl_224, dl_255, dl_289, dl_900, dl_1000, dl_1728, dl_65536, dl_65537, nI_add, pk_mul, pk_sub, pk_div, pk_rem, ds_rem2, nI_clamp, nI_leI, nI_ltI, nI_eq, ds_m1_eq, ds_eq_m1, ds_m2_eq, ds_eq_m2, ds_m1_le, ds_le_m1, ds_m1_lt, ds_lt_m1, ds_in_N, ds_bo0, ds_bo1, if_pos, if_neg, Nat.not_le, Nat.not_lt, not_true_eq_false, not_false_eq_true, if_true, if_false, ne_eq, Option.some.injEq, Prod.mk.injEq, Value.int.injEq, true_and, and_true, and_self, ite_self, Bool.not_eq_true, Bool.not_eq_false, Bool.true_eq_false, Bool.false_eq_true, reduceCtorEq, Nat.zero_add, Nat.reduceAdd, Nat.reduceMul, Nat.reduceSub, ds_setI_row, ds_setL_row, ds_rowI_self, ds_rowI_ne, ds_rowI_2, ds_rowI_rowI, ds_setS_1, ds_setS_21, ds_setS_self, ds_setS_ne, pk_us, pk_un, h3, h5]
  | succ m ih =>
    intro e z hm he hb h5
    have h3 := hb.2.1
    have n9 := hb.2.2.1
    have by_ := s_byteAt (d + 1) e z B n hb (by omega)
    have b2 := hb.2.2.2.2 e (by omega)
    by_cases q : B e = 32
    · have ea : dr_at B n e = dr_at B n (e + 1) := by
        unfold dr_at
        rw [dr_rn_c (by omega) (show dr_sp (B e) = true by rw [q]; rfl), List.length_cons]
        omega
      let z1 := ds_rowI z 1 (upd (z.1 1) 5 (nI (e + 1)))
      have f1 : dr_f1 z z1 := dr_f1_fld _ (dr_f1_refl z) (.inr (.inl rfl))
      have h51 : z1.1 1 5 = nI (e + 1) := by
        show (ds_rowI z 1 (upd (z.1 1) 5 (nI (e + 1)))).1 1 5 = _
        rw [ds_rowI_self, pk_us]
      obtain ⟨z', w1, w2, w3⟩ := ih (e + 1) z1 (by omega) (by omega) (dr_bC_f1 hb f1) h51
      refine ⟨z', ?_, by rw [ea]; exact w2, dr_f1_trans f1 w3⟩
      rw [← w1, b_Reader_advance_8]
      simp (disch := first | assumption | omega) only [ds_cI, ds_cV, ds_cL, ds_cR, ds_nn, ds_isK_t, ds_isA_t, ds_chk_t, ds_chkN, ds_nz_t, ds_nzN, ds_isB_t, ds_isB_bo, ↓dl_m1, ↓dl_m2, dl_0, dl_1, dl_2, dl_3, dl_4, dl_5, dl_6, dl_7, dl_8, dl_9, dl_10, dl_11, dl_12, dl_13, dl_14, dl_15, dl_16, dl_20, dl_24, dl_31, dl_50, dl_57, dl_67, dl_68, dl_74, dl_75, dl_79, dl_80, dl_99, dl_100, dl_200, dl_210, dl_224, dl_255, dl_289, dl_900, dl_1000, dl_1728, dl_65536, dl_65537, nI_add, pk_mul, pk_sub, pk_div, pk_rem, ds_rem2, nI_clamp, nI_leI, nI_ltI, nI_eq, ds_m1_eq, ds_eq_m1, ds_m2_eq, ds_eq_m2, ds_m1_le, ds_le_m1, ds_m1_lt, ds_lt_m1, ds_in_N, ds_bo0, ds_bo1, if_pos, if_neg, Nat.not_le, Nat.not_lt, not_true_eq_false, not_false_eq_true, if_true, if_false, ne_eq, Option.some.injEq, Prod.mk.injEq, Value.int.injEq, true_and, and_true, and_self, ite_self, Bool.not_eq_true, Bool.not_eq_false, Bool.true_eq_false, Bool.false_eq_true, reduceCtorEq, Nat.zero_add, Nat.reduceAdd, Nat.reduceMul, Nat.reduceSub, ds_setI_row, ds_setL_row, ds_rowI_self, ds_rowI_ne, ds_rowI_2, ds_rowI_rowI, ds_setS_1, ds_setS_21, ds_setS_self, ds_setS_ne, pk_us, pk_un, h3, h5, by_, dl_32, dr_sb_32 b2, q]
      rfl
    · have ea : dr_at B n e = e := by
        unfold dr_at
        rw [dr_rn_n (fun _ => by unfold dr_sp; simpa using q)]
        rfl
      refine ⟨z, ?_, by rw [ea]; exact h5, dr_f1_refl z⟩
      rw [b_Reader_advance_8]
      simp (disch := first | assumption | omega) only [ds_cI, ds_cV, ds_cL, ds_cR, ds_nn, ds_isK_t, ds_isA_t, ds_chk_t, ds_chkN, ds_nz_t, ds_nzN, ds_isB_t, ds_isB_bo, ↓dl_m1, ↓dl_m2, dl_0, dl_1, dl_2, dl_3, dl_4, dl_5, dl_6, dl_7, dl_8, dl_9, dl_10, dl_11, dl_12, dl_13, dl_14, dl_15, dl_16, dl_20, dl_24, dl_31, dl_50, dl_57, dl_67, dl_68, dl_74, dl_75, dl_79, dl_80, dl_99, dl_100, dl_200, dl_210, dl_224, dl_255, dl_289, dl_900, dl_1000, dl_1728, dl_65536, dl_65537, nI_add, pk_mul, pk_sub, pk_div, pk_rem, ds_rem2, nI_clamp, nI_leI, nI_ltI, nI_eq, ds_m1_eq, ds_eq_m1, ds_m2_eq, ds_eq_m2, ds_m1_le, ds_le_m1, ds_m1_lt, ds_lt_m1, ds_in_N, ds_bo0, ds_bo1, if_pos, if_neg, Nat.not_le, Nat.not_lt, not_true_eq_false, not_false_eq_true, if_true, if_false, ne_eq, Option.some.injEq, Prod.mk.injEq, Value.int.injEq, true_and, and_true, and_self, ite_self, Bool.not_eq_true, Bool.not_eq_false, Bool.true_eq_false, Bool.false_eq_true, reduceCtorEq, Nat.zero_add, Nat.reduceAdd, Nat.reduceMul, Nat.reduceSub, ds_setI_row, ds_setL_row, ds_rowI_self, ds_rowI_ne, ds_rowI_2, ds_rowI_rowI, ds_setS_1, ds_setS_21, ds_setS_self, ds_setS_ne, pk_us, pk_un, h3, h5, by_, dl_32, dr_sb_32 b2, q]
theorem dr_let : ∀ x, x < 123 → 97 ≤ x → ((nI x - nI 97) + nI 1).toInt64 = lN (x - 96) := by decide +kernel
theorem s_spell (d a x : Nat) (z : ds_St) (h1 : 97 ≤ x) (h2 : x ≤ 122) : ds_call (d + 1) j_Sea_spell [.long (lN a), .int (nI x)] z = some (some (.long (lN (dr_c1 a x))), z) := by
  rw [c_Sea_spell, b_Sea_spell_0]
  have e := dr_let x (by omega) h1
  rw [dl_97, dl_1, e, dL_32, lN_mul, lN_add, Nat.mul_comm a 32]
  rfl
theorem dr_word (d : Nat) (B : Nat → Nat) (n : Nat) : ∀ m e a z, n - e = m → e ≤ n → dr_bC z B n → z.1 1 5 = nI e → z.2.1 1 7 = lN a → ∃ z', ds_Rw ds_c_Reader_takeWord ds_u_Reader_takeWord (ds_call (d + 1)) 5 [some (.ref 1)] [] z = ds_Rw ds_c_Reader_takeWord ds_u_Reader_takeWord (ds_call (d + 1)) 62 [some (.ref 1)] [] z' ∧ z'.1 1 5 = nI (e + (dr_rn dr_lt B n e).length) ∧ z'.2.1 1 7 = lN (dr_cod a (dr_rn dr_lt B n e)) ∧ z'.1 1 4 = z.1 1 4 ∧ dr_f1 z z' := by
  intro m
  induction m with
  | zero =>
    intro e a z hm he hb h5 h7
    have h3 := hb.2.1
    have n9 := hb.2.2.1
    rw [dr_rn_n (fun q => by omega)]
    refine ⟨z, ?_, h5, h7, rfl, dr_f1_refl z⟩
    rw [b_Reader_takeWord_5]
    simp (disch := first | assumption | omega) only [ds_cI, ds_cV, ds_cL, ds_cR, ds_nn, ds_isK_t, ds_isA_t, ds_chk_t, ds_chkN, ds_nz_t, ds_nzN, ds_isB_t, ds_isB_bo, ↓dl_m1, ↓dl_m2, dl_0, dl_1, dl_2, dl_3, dl_4, dl_5, dl_6, dl_7, dl_8, dl_9, dl_10, dl_11, dl_12, dl_13, dl_14, dl_15, dl_16, dl_20, dl_24, dl_31, dl_50, dl_57, dl_67, dl_68, dl_74, dl_75, dl_79, dl_80, dl_99, dl_100, dl_200, dl_210, dl_224, dl_255, dl_289, dl_900, dl_1000, dl_1728, dl_65536, dl_65537, nI_add, pk_mul, pk_sub, pk_div, pk_rem, ds_rem2, nI_clamp, nI_leI, nI_ltI, nI_eq, ds_m1_eq, ds_eq_m1, ds_m2_eq, ds_eq_m2, ds_m1_le, ds_le_m1, ds_m1_lt, ds_lt_m1, ds_in_N, ds_bo0, ds_bo1, if_pos, if_neg, Nat.not_le, Nat.not_lt, not_true_eq_false, not_false_eq_true, if_true, if_false, ne_eq, Option.some.injEq, Prod.mk.injEq, Value.int.injEq, true_and, and_true, and_self, ite_self, Bool.not_eq_true, Bool.not_eq_false, Bool.true_eq_false, Bool.false_eq_true, reduceCtorEq, Nat.zero_add, Nat.reduceAdd, Nat.reduceMul, Nat.reduceSub, ds_setI_row, ds_setL_row, ds_rowI_self, ds_rowI_ne, ds_rowI_2, ds_rowI_rowI, ds_setS_1, ds_setS_21, ds_setS_self, ds_setS_ne, pk_us, pk_un, h3, h5]
  | succ m ih =>
    intro e a z hm he hb h5 h7
    have h3 := hb.2.1
    have n9 := hb.2.2.1
    have by_ := s_byteAt d e z B n hb (by omega)
    have b2 := hb.2.2.2.2 e (by omega)
    have il := s_isLetter d (B e) z b2
    cases q : dr_lt (B e)
    · rw [q] at il
      rw [dr_rn_n (fun _ => q)]
      refine ⟨z, ?_, h5, h7, rfl, dr_f1_refl z⟩
      rw [b_Reader_takeWord_5]
      simp (disch := first | assumption | omega) only [ds_cI, ds_cV, ds_cL, ds_cR, ds_nn, ds_isK_t, ds_isA_t, ds_chk_t, ds_chkN, ds_nz_t, ds_nzN, ds_isB_t, ds_isB_bo, ↓dl_m1, ↓dl_m2, dl_0, dl_1, dl_2, dl_3, dl_4, dl_5, dl_6, dl_7, dl_8, dl_9, dl_10, dl_11, dl_12, dl_13, dl_14, dl_15, dl_16, dl_20, dl_24, dl_31, dl_50, dl_57, dl_67, dl_68, dl_74, dl_75, dl_79, dl_80, dl_99, dl_100, dl_200, dl_210, dl_224, dl_255, dl_289, dl_900, dl_1000, dl_1728, dl_65536, dl_65537, nI_add, pk_mul, pk_sub, pk_div, pk_rem, ds_rem2, nI_clamp, nI_leI, nI_ltI, nI_eq, ds_m1_eq, ds_eq_m1, ds_m2_eq, ds_eq_m2, ds_m1_le, ds_le_m1, ds_m1_lt, ds_lt_m1, ds_in_N, ds_bo0, ds_bo1, if_pos, if_neg, Nat.not_le, Nat.not_lt, not_true_eq_false, not_false_eq_true, if_true, if_false, ne_eq, Option.some.injEq, Prod.mk.injEq, Value.int.injEq, true_and, and_true, and_self, ite_self, Bool.not_eq_true, Bool.not_eq_false, Bool.true_eq_false, Bool.false_eq_true, reduceCtorEq, Nat.zero_add, Nat.reduceAdd, Nat.reduceMul, Nat.reduceSub, ds_setI_row, ds_setL_row, ds_rowI_self, ds_rowI_ne, ds_rowI_2, ds_rowI_rowI, ds_setS_1, ds_setS_21, ds_setS_self, ds_setS_ne, pk_us, pk_un, h3, h5, by_, il]
    · rw [q] at il
      rw [dr_rn_c (by omega) q]
      obtain ⟨q1, q2⟩ := dr_lt_iff.mp q
      have sp := s_spell d a (B e) z q1 q2
      rw [← dr_sb_id b2 (.inl q)] at sp
      let z1 := ds_rowI (ds_rowL z 1 (vp_updL (z.2.1 1) 7 (lN (dr_c1 a (B e))))) 1 (upd (z.1 1) 5 (nI (e + 1)))
      have f1 : dr_f1 z z1 := dr_f1_fld (z1 := ds_rowL z 1 (vp_updL (z.2.1 1) 7 (lN (dr_c1 a (B e))))) _ (dr_f1_lng _ (dr_f1_refl z)) (.inr (.inl rfl))
      have h51 : z1.1 1 5 = nI (e + 1) := by
        show (ds_rowI (ds_rowL z 1 _) 1 (upd (z.1 1) 5 (nI (e + 1)))).1 1 5 = _
        rw [ds_rowI_self, pk_us]
      have h41 : z1.1 1 4 = z.1 1 4 := by
        show (ds_rowI (ds_rowL z 1 _) 1 (upd (z.1 1) 5 (nI (e + 1)))).1 1 4 = _
        rw [ds_rowI_self, pk_un (by decide)]
      have h71 : z1.2.1 1 7 = lN (dr_c1 a (B e)) := by
        show (ds_rowL z 1 (vp_updL (z.2.1 1) 7 (lN (dr_c1 a (B e))))).2.1 1 7 = _
        rw [ds_rowL_self]
        exact if_pos rfl
      have z1e : ds_setI (ds_setL z 1 7 (lN (dr_c1 a (B e)))) 1 5 (nI (e + 1)) = z1 := rfl
      clear_value z1
      obtain ⟨z', w1, w2, w3, w4, w5⟩ := ih (e + 1) _ z1 (by omega) (by omega) (dr_bC_f1 hb f1) h51 h71
      refine ⟨z', ?_, ?_, by rw [dr_cod_c]; exact w3, w4.trans h41, dr_f1_trans f1 w5⟩
      · rw [← w1, b_Reader_takeWord_5]
        simp (disch := first | assumption | omega) only [h3, h5, h7, nI_leI, if_neg, Nat.not_le, ds_cI_t by_, ds_cI_t il, dl_0, ds_bo0, Bool.true_eq_false, if_false, ds_cL, sp]
        have g5 : (ds_setL z 1 7 (lN (dr_c1 a (B e)))).1 1 5 = nI e := h5
        have e1 : (1 : Int32) = nI 1 := rfl
        rw [e1, nI_add, z1e]
      · rw [w2, List.length_cons]
        congr 1
        omega
theorem dr_digs (d : Nat) (B : Nat → Nat) (n : Nat) : ∀ m e a z, n - e = m → e ≤ n → dr_bC z B n → z.1 1 5 = nI e → z.1 1 8 = nI a → ∃ z', ds_Rw ds_c_Reader_takeWhole ds_u_Reader_takeWhole (ds_call (d + 1)) 5 [some (.ref 1)] [] z = ds_Rw ds_c_Reader_takeWhole ds_u_Reader_takeWhole (ds_call (d + 1)) 66 [some (.ref 1)] [] z' ∧ z'.1 1 5 = nI (e + (dr_rn dr_dg B n e).length) ∧ z'.1 1 8 = nI (dr_val a (dr_rn dr_dg B n e)) ∧ z'.1 1 4 = z.1 1 4 ∧ dr_f1 z z' := by
  intro m
  induction m with
  | zero =>
    intro e a z hm he hb h5 h8
    have h3 := hb.2.1
    have n9 := hb.2.2.1
    rw [dr_rn_n (fun q => by omega)]
    refine ⟨z, ?_, h5, h8, rfl, dr_f1_refl z⟩
    rw [b_Reader_takeWhole_5]
    simp (disch := first | assumption | omega) only [ds_cI, ds_cV, ds_cL, ds_cR, ds_nn, ds_isK_t, ds_isA_t, ds_chk_t, ds_chkN, ds_nz_t, ds_nzN, ds_isB_t, ds_isB_bo, ↓dl_m1, ↓dl_m2, dl_0, dl_1, dl_2, dl_3, dl_4, dl_5, dl_6, dl_7, dl_8, dl_9, dl_10, dl_11, dl_12, dl_13, dl_14, dl_15, dl_16, dl_20, dl_24, dl_31, dl_50, dl_57, dl_67, dl_68, dl_74, dl_75, dl_79, dl_80, dl_99, dl_100, dl_200, dl_210, dl_224, dl_255, dl_289, dl_900, dl_1000, dl_1728, dl_65536, dl_65537, nI_add, pk_mul, pk_sub, pk_div, pk_rem, ds_rem2, nI_clamp, nI_leI, nI_ltI, nI_eq, ds_m1_eq, ds_eq_m1, ds_m2_eq, ds_eq_m2, ds_m1_le, ds_le_m1, ds_m1_lt, ds_lt_m1, ds_in_N, ds_bo0, ds_bo1, if_pos, if_neg, Nat.not_le, Nat.not_lt, not_true_eq_false, not_false_eq_true, if_true, if_false, ne_eq, Option.some.injEq, Prod.mk.injEq, Value.int.injEq, true_and, and_true, and_self, ite_self, Bool.not_eq_true, Bool.not_eq_false, Bool.true_eq_false, Bool.false_eq_true, reduceCtorEq, Nat.zero_add, Nat.reduceAdd, Nat.reduceMul, Nat.reduceSub, ds_setI_row, ds_setL_row, ds_rowI_self, ds_rowI_ne, ds_rowI_2, ds_rowI_rowI, ds_setS_1, ds_setS_21, ds_setS_self, ds_setS_ne, pk_us, pk_un, h3, h5]
  | succ m ih =>
    intro e a z hm he hb h5 h8
    have h3 := hb.2.1
    have n9 := hb.2.2.1
    have by_ := s_byteAt d e z B n hb (by omega)
    have b2 := hb.2.2.2.2 e (by omega)
    have il := s_isDigit d (B e) z b2
    cases q : dr_dg (B e)
    · rw [q] at il
      rw [dr_rn_n (fun _ => q)]
      refine ⟨z, ?_, h5, h8, rfl, dr_f1_refl z⟩
      rw [b_Reader_takeWhole_5]
      simp (disch := first | assumption | omega) only [ds_cI, ds_cV, ds_cL, ds_cR, ds_nn, ds_isK_t, ds_isA_t, ds_chk_t, ds_chkN, ds_nz_t, ds_nzN, ds_isB_t, ds_isB_bo, ↓dl_m1, ↓dl_m2, dl_0, dl_1, dl_2, dl_3, dl_4, dl_5, dl_6, dl_7, dl_8, dl_9, dl_10, dl_11, dl_12, dl_13, dl_14, dl_15, dl_16, dl_20, dl_24, dl_31, dl_50, dl_57, dl_67, dl_68, dl_74, dl_75, dl_79, dl_80, dl_99, dl_100, dl_200, dl_210, dl_224, dl_255, dl_289, dl_900, dl_1000, dl_1728, dl_65536, dl_65537, nI_add, pk_mul, pk_sub, pk_div, pk_rem, ds_rem2, nI_clamp, nI_leI, nI_ltI, nI_eq, ds_m1_eq, ds_eq_m1, ds_m2_eq, ds_eq_m2, ds_m1_le, ds_le_m1, ds_m1_lt, ds_lt_m1, ds_in_N, ds_bo0, ds_bo1, if_pos, if_neg, Nat.not_le, Nat.not_lt, not_true_eq_false, not_false_eq_true, if_true, if_false, ne_eq, Option.some.injEq, Prod.mk.injEq, Value.int.injEq, true_and, and_true, and_self, ite_self, Bool.not_eq_true, Bool.not_eq_false, Bool.true_eq_false, Bool.false_eq_true, reduceCtorEq, Nat.zero_add, Nat.reduceAdd, Nat.reduceMul, Nat.reduceSub, ds_setI_row, ds_setL_row, ds_rowI_self, ds_rowI_ne, ds_rowI_2, ds_rowI_rowI, ds_setS_1, ds_setS_21, ds_setS_self, ds_setS_ne, pk_us, pk_un, h3, h5, by_, il]
    · rw [q] at il
      rw [dr_rn_c (by omega) q]
      have q1 : 48 ≤ B e := by
        unfold dr_dg at q
        simp at q
        exact q.1
      have ev : nI a * nI 10 + dr_sb (B e) - nI 48 = nI (dr_v1 a (B e)) := by
        rw [dr_sb_id b2 (.inr q), pk_mul, nI_add, pk_sub (by omega)]
        unfold dr_v1
        congr 1
        omega
      let z1 := ds_rowI (ds_rowI z 1 (upd (z.1 1) 8 (nI (dr_v1 a (B e))))) 1 (upd ((ds_rowI z 1 (upd (z.1 1) 8 (nI (dr_v1 a (B e))))).1 1) 5 (nI (e + 1)))
      have f1 : dr_f1 z z1 := dr_f1_fld _ (dr_f1_fld _ (dr_f1_refl z) (.inr (.inr (.inr rfl)))) (.inr (.inl rfl))
      have h51 : z1.1 1 5 = nI (e + 1) := by
        show (ds_rowI (ds_rowI z 1 (upd (z.1 1) 8 (nI (dr_v1 a (B e))))) 1 (upd ((ds_rowI z 1 (upd (z.1 1) 8 (nI (dr_v1 a (B e))))).1 1) 5 (nI (e + 1)))).1 1 5 = _
        rw [ds_rowI_self, pk_us]
      have h41 : z1.1 1 4 = z.1 1 4 := by
        show (ds_rowI (ds_rowI z 1 (upd (z.1 1) 8 (nI (dr_v1 a (B e))))) 1 (upd ((ds_rowI z 1 (upd (z.1 1) 8 (nI (dr_v1 a (B e))))).1 1) 5 (nI (e + 1)))).1 1 4 = _
        rw [ds_rowI_self, pk_un (by decide), ds_rowI_self, pk_un (by decide)]
      have h81 : z1.1 1 8 = nI (dr_v1 a (B e)) := by
        show (ds_rowI (ds_rowI z 1 (upd (z.1 1) 8 (nI (dr_v1 a (B e))))) 1 (upd ((ds_rowI z 1 (upd (z.1 1) 8 (nI (dr_v1 a (B e))))).1 1) 5 (nI (e + 1)))).1 1 8 = _
        rw [ds_rowI_self, pk_un (by decide), ds_rowI_self, pk_us]
      have z1e : ds_setI (ds_setI z 1 8 (nI (dr_v1 a (B e)))) 1 5 (nI (e + 1)) = z1 := by rw [ds_setI_row, ds_setI_row]
      clear_value z1
      obtain ⟨z', w1, w2, w3, w4, w5⟩ := ih (e + 1) _ z1 (by omega) (by omega) (dr_bC_f1 hb f1) h51 h81
      refine ⟨z', ?_, ?_, by rw [dr_val_c]; exact w3, w4.trans h41, dr_f1_trans f1 w5⟩
      · rw [← w1, b_Reader_takeWhole_5]
        simp (disch := first | assumption | omega) only [h3, h5, h8, nI_leI, if_neg, Nat.not_le, ds_cI_t by_, ds_cI_t il, dl_0, ds_bo0, Bool.true_eq_false, if_false, dl_10, dl_48, ev]
        have e1 : (1 : Int32) = nI 1 := rfl
        rw [e1, nI_add, z1e]
      · rw [w2, List.length_cons]
        congr 1
        omega
