/-! the toolkit: every number by nI, every test by numbers -/
theorem dl_0 : (0 : Int32) = nI 0 := rfl
theorem dl_1 : (1 : Int32) = nI 1 := rfl
theorem dl_2 : (2 : Int32) = nI 2 := rfl
theorem dl_3 : (3 : Int32) = nI 3 := rfl
theorem dl_4 : (4 : Int32) = nI 4 := rfl
theorem dl_5 : (5 : Int32) = nI 5 := rfl
theorem dl_6 : (6 : Int32) = nI 6 := rfl
theorem dl_7 : (7 : Int32) = nI 7 := rfl
theorem dl_8 : (8 : Int32) = nI 8 := rfl
theorem dl_9 : (9 : Int32) = nI 9 := rfl
theorem dl_10 : (10 : Int32) = nI 10 := rfl
theorem dl_11 : (11 : Int32) = nI 11 := rfl
theorem dl_12 : (12 : Int32) = nI 12 := rfl
theorem dl_13 : (13 : Int32) = nI 13 := rfl
theorem dl_14 : (14 : Int32) = nI 14 := rfl
theorem dl_15 : (15 : Int32) = nI 15 := rfl
theorem dl_16 : (16 : Int32) = nI 16 := rfl
theorem dl_20 : (20 : Int32) = nI 20 := rfl
theorem dl_24 : (24 : Int32) = nI 24 := rfl
theorem dl_31 : (31 : Int32) = nI 31 := rfl
theorem dl_50 : (50 : Int32) = nI 50 := rfl
theorem dl_57 : (57 : Int32) = nI 57 := rfl
theorem dl_67 : (67 : Int32) = nI 67 := rfl
theorem dl_68 : (68 : Int32) = nI 68 := rfl
theorem dl_74 : (74 : Int32) = nI 74 := rfl
theorem dl_75 : (75 : Int32) = nI 75 := rfl
theorem dl_79 : (79 : Int32) = nI 79 := rfl
theorem dl_80 : (80 : Int32) = nI 80 := rfl
theorem dl_99 : (99 : Int32) = nI 99 := rfl
theorem dl_100 : (100 : Int32) = nI 100 := rfl
theorem dl_200 : (200 : Int32) = nI 200 := rfl
theorem dl_210 : (210 : Int32) = nI 210 := rfl
theorem dl_224 : (224 : Int32) = nI 224 := rfl
theorem dl_255 : (255 : Int32) = nI 255 := rfl
theorem dl_289 : (289 : Int32) = nI 289 := rfl
theorem dl_900 : (900 : Int32) = nI 900 := rfl
theorem dl_1000 : (1000 : Int32) = nI 1000 := rfl
theorem dl_1728 : (1728 : Int32) = nI 1728 := rfl
theorem dl_65536 : (65536 : Int32) = nI 65536 := rfl
theorem dl_65537 : (65537 : Int32) = nI 65537 := rfl
def ds_m1 : Int32 := -1
def ds_m2 : Int32 := -2
theorem dl_m1 : (-1 : Int32) = ds_m1 := rfl
theorem dl_m2 : (-2 : Int32) = ds_m2 := rfl
theorem ds_m1_toInt : ds_m1.toInt = -1 := by decide
theorem ds_m2_toInt : ds_m2.toInt = -2 := by decide
theorem ds_eq_m1 {a : Nat} (h : a < 2 ^ 31) : (nI a = ds_m1) = False := by
  apply eq_false
  intro q
  have := congrArg Int32.toInt q
  rw [nI_toInt h, ds_m1_toInt] at this
  omega
theorem ds_m1_eq {a : Nat} (h : a < 2 ^ 31) : (ds_m1 = nI a) = False := by
  apply eq_false
  intro q
  have e := ds_eq_m1 h
  rw [← e]
  exact q.symm
theorem ds_eq_m2 {a : Nat} (h : a < 2 ^ 31) : (nI a = ds_m2) = False := by
  apply eq_false
  intro q
  have := congrArg Int32.toInt q
  rw [nI_toInt h, ds_m2_toInt] at this
  omega
theorem ds_m2_eq {a : Nat} (h : a < 2 ^ 31) : (ds_m2 = nI a) = False := by
  apply eq_false
  intro q
  have e := ds_eq_m2 h
  rw [← e]
  exact q.symm
theorem ds_m1_le {a : Nat} (h : a < 2 ^ 31) : (ds_m1 ≤ nI a) = True := by
  apply eq_true
  rw [Int32.le_iff_toInt_le, nI_toInt h, ds_m1_toInt]
  omega
theorem ds_le_m1 {a : Nat} (h : a < 2 ^ 31) : (nI a ≤ ds_m1) = False := by
  apply eq_false
  rw [Int32.le_iff_toInt_le, nI_toInt h, ds_m1_toInt]
  omega
theorem ds_m1_lt {a : Nat} (h : a < 2 ^ 31) : (ds_m1 < nI a) = True := by
  apply eq_true
  rw [Int32.lt_iff_toInt_lt, nI_toInt h, ds_m1_toInt]
  omega
theorem ds_lt_m1 {a : Nat} (h : a < 2 ^ 31) : (nI a < ds_m1) = False := by
  apply eq_false
  rw [Int32.lt_iff_toInt_lt, nI_toInt h, ds_m1_toInt]
  omega
def ds_bo (b : Bool) : Int32 := nI (if b = true then 1 else 0)
theorem ds_bo0 {b : Bool} : (ds_bo b = nI 0) = (b = false) := by cases b <;> simp [ds_bo] <;> decide
theorem ds_bo1 {b : Bool} : (ds_bo b = nI 1) = (b = true) := by cases b <;> simp [ds_bo] <;> decide
theorem ds_isB_bo {b : Bool} {a : Option ds_Out} : ds_isB (ds_bo b) a = a := ds_isB_t (by cases b <;> decide)
theorem ds_bo_t : ds_bo true = nI 1 := rfl
theorem ds_bo_f : ds_bo false = nI 0 := rfl
/-! bits of small numbers -/
theorem ds_or (a b : Nat) : nI a ||| nI b = nI (a ||| b) := by
  apply Int32.toBitVec_inj.mp
  rw [Int32.toBitVec_or]
  show BitVec.ofNat 32 a ||| BitVec.ofNat 32 b = BitVec.ofNat 32 (a ||| b)
  apply BitVec.eq_of_getLsbD_eq
  intro i hi
  simp [BitVec.getLsbD_or, BitVec.getLsbD_ofNat, hi]
theorem ds_and (a b : Nat) : nI a &&& nI b = nI (a &&& b) := by
  apply Int32.toBitVec_inj.mp
  rw [Int32.toBitVec_and]
  show BitVec.ofNat 32 a &&& BitVec.ofNat 32 b = BitVec.ofNat 32 (a &&& b)
  apply BitVec.eq_of_getLsbD_eq
  intro i hi
  simp [BitVec.getLsbD_and, BitVec.getLsbD_ofNat, hi]
theorem dl_sh : ∀ n, n < 32 → ((nI n &&& nI 31).toBitVec.smod 32).toNat = n := by decide +kernel
theorem ds_pow {k : Nat} (h : k < 32) : nI 1 <<< (nI k &&& nI 31) = nI (2 ^ k) := by
  rw [pk_shlN (nI k &&& nI 31) k (dl_sh k h) (by rw [Nat.one_mul]; exact Nat.pow_lt_pow_right (by decide) h), Nat.one_mul]
theorem ds_bit {a k : Nat} (ha : a < 2 ^ 31) (hk : k < 32) : (nI a >>> (nI k &&& nI 31)) &&& nI 1 = ds_bo (a.testBit k) := by
  rw [pk_shrN ha (nI k &&& nI 31) k (dl_sh k hk), ds_and, Nat.and_one_is_mod]
  unfold ds_bo
  congr 1
  rw [Nat.testBit, Nat.shiftRight_eq_div_pow, Nat.one_and_eq_mod_two]
  rcases Nat.mod_two_eq_zero_or_one (a / 2 ^ k) with h | h <;> rw [h] <;> simp
/-- the number of a set -/
def ds_bs (S : Nat → Bool) : Nat → Nat
  | 0 => 0
  | n + 1 => if S n = true then ds_bs S n ||| 2 ^ n else ds_bs S n
theorem ds_bs_tb (S : Nat → Bool) : ∀ n k, (ds_bs S n).testBit k = (decide (k < n) && S k) := by
  intro n
  induction n with
  | zero => intro k; simp [ds_bs]
  | succ n ih =>
    intro k
    unfold ds_bs
    by_cases h : S n = true
    · rw [if_pos h, Nat.testBit_or, ih, Nat.testBit_two_pow]
      by_cases h2 : n = k
      · subst h2; simp [h]
      · have e : decide (k < n + 1) = decide (k < n) := decide_eq_decide.mpr (by omega)
        rw [e]; simp [h2]
    · rw [if_neg h, ih]
      by_cases h2 : n = k
      · subst h2; simp [h]
      · have e : decide (k < n + 1) = decide (k < n) := decide_eq_decide.mpr (by omega)
        rw [e]
theorem ds_bs_lt (S : Nat → Bool) : ∀ n, ds_bs S n < 2 ^ n := by
  intro n
  induction n with
  | zero => simp [ds_bs]
  | succ n ih =>
    unfold ds_bs
    have h1 : 2 ^ n < 2 ^ (n + 1) := Nat.pow_lt_pow_right (by decide) (by omega)
    by_cases h : S n = true
    · rw [if_pos h]
      exact Nat.or_lt_two_pow (by omega) h1
    · rw [if_neg h]; omega
theorem ds_bs_lt31 (S : Nat → Bool) {n : Nat} (h : n ≤ 31) : ds_bs S n < 2 ^ 31 := Nat.lt_of_lt_of_le (ds_bs_lt S n) (Nat.pow_le_pow_right (by decide) h)
theorem ds_eqb {a b : Nat} (h : ∀ k, a.testBit k = b.testBit k) : a = b := Nat.eq_of_testBit_eq h
/-- a loop that goes up -/
theorem ds_up {α : Type} {F : Nat → α} {n : Nat} (a : Nat) (h : ∀ k, a ≤ k → k < n → F k = F (k + 1)) (hn : a ≤ n) : F a = F n := by
  obtain ⟨m, rfl⟩ := Nat.exists_eq_add_of_le hn
  clear hn
  induction m with
  | zero => rfl
  | succ m ih =>
    rw [ih (fun k h1 h2 => h k h1 (by omega))]
    exact h (a + m) (by omega) (by omega)
theorem ds_chkN {p n : Nat} {a : Option ds_Out} (h : p < n) (hn : n < 2 ^ 31) : ds_chk (nI p) n a = a := ds_chk_t (ds_in_N h hn)
theorem ds_nzN {p : Nat} {a : Option ds_Out} (h : 0 < p) (hn : p < 2 ^ 31) : ds_nz (nI p) a = a := ds_nz_t (nI_ne0 h hn)
theorem ds_setS_1 (z : ds_St) (j v : Nat) : (ds_setS z j v).1 = z.1 := rfl
theorem ds_setS_21 (z : ds_St) (j v : Nat) : (ds_setS z j v).2.1 = z.2.1 := rfl
theorem ds_setS_self (z : ds_St) (j v : Nat) : (ds_setS z j v).2.2 j = v := by simp [ds_setS]
theorem ds_setS_ne (z : ds_St) {i j : Nat} (v : Nat) (h : i ≠ j) : (ds_setS z j v).2.2 i = z.2.2 i := by simp [ds_setS, h]
theorem s_putN (d p i n : Nat) (v : Int32) (z : ds_St) (hK : ds_K p = 11) (hN : ds_N p = n) (hn : n < 2 ^ 31) (hi : i < n) : ds_call (d + 1) j_Sea_put [.ref p, .int (nI i), .int v] z = some (none, ds_rowI z p (upd (z.1 p) i v)) := by
  rw [s_put d p (nI i) v z hK (by rw [hN]; exact hn) (ds_in_N (by rw [hN]; exact hi) (by rw [hN]; exact hn)), nI_clamp (by omega)]
theorem ds_rowI_congr (z : ds_St) (p : Nat) {f g : Nat → Int32} (h : ∀ j, f j = g j) : ds_rowI z p f = ds_rowI z p g := by rw [funext h]
/-- all places but those from a up to b are as they were -/
def dk_fr (a b : Nat) (z z' : ds_St) : Prop := (∀ p, p < a ∨ b ≤ p → z'.1 p = z.1 p) ∧ (∀ j, j < 2 → z'.2.2 j = z.2.2 j)
theorem dk_fr_refl (a b : Nat) (z : ds_St) : dk_fr a b z z := ⟨fun _ _ => rfl, fun _ _ => rfl⟩
theorem dk_fr_trans {a b : Nat} {z z1 z2 : ds_St} (h : dk_fr a b z z1) (h2 : dk_fr a b z1 z2) : dk_fr a b z z2 := ⟨fun p q => (h2.1 p q).trans (h.1 p q), fun j q => (h2.2 j q).trans (h.2 j q)⟩
theorem dk_fr_mono {a b a' b' : Nat} {z z' : ds_St} (h : dk_fr a b z z') (ha : a' ≤ a) (hb : b ≤ b') : dk_fr a' b' z z' := ⟨fun p q => h.1 p (by omega), h.2⟩
theorem dk_fr_row {a b p : Nat} {z z' : ds_St} (f : Nat → Int32) (h : dk_fr a b z z') (ha : a ≤ p) (hb : p < b) : dk_fr a b z (ds_rowI z' p f) := ⟨fun q hq => by rw [ds_rowI_ne _ _ (by omega)]; exact h.1 q hq, h.2⟩
theorem dk_fr_setS {a b j v : Nat} {z z' : ds_St} (h : dk_fr a b z z') (hj : 2 ≤ j) : dk_fr a b z (ds_setS z' j v) := ⟨fun q hq => h.1 q hq, fun i hi => by rw [ds_setS_ne _ _ (by omega)]; exact h.2 i hi⟩
theorem ds_rem2 (a d : Nat) : nI a - nI (a / d * d) = nI (a % d) := by
  rw [pk_sub (Nat.div_mul_le_self a d)]
  congr 1
  have := Nat.div_add_mod a d
  rw [Nat.mul_comm] at this
  omega
