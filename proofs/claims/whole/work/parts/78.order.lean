/-! a row of at most twelve comes back to its order within sixty times -/
def dk_ite (f : Nat → Nat) : Nat → Nat → Nat
  | 0, q => q
  | k + 1, q => f (dk_ite f k q)
theorem dk_ite_in (f : Nat → Nat) : ∀ k q, dk_ite f (k + 1) q = dk_ite f k (f q) := by
  intro k
  induction k with
  | zero => intro q; rfl
  | succ k ih => intro q; show f (dk_ite f (k + 1) q) = f (dk_ite f k (f q)); rw [ih]
theorem dk_ite_add (f : Nat → Nat) (a : Nat) : ∀ b q, dk_ite f (a + b) q = dk_ite f a (dk_ite f b q) := by
  intro b
  induction b with
  | zero => intro q; rfl
  | succ b ih => intro q; rw [show a + (b + 1) = (a + b) + 1 from rfl, dk_ite_in, ih, dk_ite_in]
theorem dk_ite_lt {f : Nat → Nat} {c : Nat} (h : dk_inj f c c) : ∀ k q, q < c → dk_ite f k q < c := by
  intro k
  induction k with
  | zero => intro q hq; exact hq
  | succ k ih => intro q hq; exact h.1 _ (ih q hq)
theorem dk_ite_inj {f : Nat → Nat} {c : Nat} (h : dk_inj f c c) : ∀ k p q, p < c → q < c → dk_ite f k p = dk_ite f k q → p = q := by
  intro k
  induction k with
  | zero => intro p q _ _ e; exact e
  | succ k ih => intro p q hp hq e; exact ih p q hp hq (h.2 _ _ (dk_ite_lt h k p hp) (dk_ite_lt h k q hq) e)
theorem dk_sum_mono {f g : Nat → Nat} : ∀ {n : Nat}, (∀ k, k < n → f k ≤ g k) → dk_sum f n ≤ dk_sum g n := by
  intro n
  induction n with
  | zero => intro _; exact Nat.le_refl _
  | succ n ih =>
    intro h
    simp only [dk_sum]
    have := ih (fun k hk => h k (by omega))
    have := h n (by omega)
    omega
theorem dk_sum_one : ∀ n, dk_sum (fun _ => 1) n = n := by
  intro n
  induction n with
  | zero => rfl
  | succ n ih => simp only [dk_sum]; rw [ih]
theorem dk_pigeon {C : Nat → Nat} {L n : Nat} (h : dk_inj C L n) : L ≤ n := by
  have e := dk_reix0 C (fun _ => 1) n L h
  have e2 : dk_sum (fun p => (fun _ => 1) (C p)) L = L := dk_sum_one L
  have e3 : dk_sum (fun i => if dk_any (fun p => C p == i) L = true then (fun _ => 1) i else 0) n ≤ n := by
    have := dk_sum_mono (f := fun i => if dk_any (fun p => C p == i) L = true then (fun _ => 1) i else 0) (g := fun _ => 1) (n := n) (fun k _ => by
      by_cases q : dk_any (fun p => C p == k) L = true
      · simp [q]
      · simp [q])
    rw [dk_sum_one] at this
    exact this
  exact Nat.le_trans (Nat.le_of_eq (e.trans e2).symm) e3
theorem dk_comes {f : Nat → Nat} {c q : Nat} (h : dk_inj f c c) (hq : q < c) : ∃ r, 1 ≤ r ∧ r ≤ c ∧ dk_ite f r q = q := by
  rcases Classical.em (∃ i j, i < j ∧ j ≤ c ∧ dk_ite f i q = dk_ite f j q) with ⟨i, j, h1, h2, h3⟩ | hno
  · refine ⟨j - i, by omega, by omega, ?_⟩
    have e := dk_ite_add f i (j - i) q
    rw [show i + (j - i) = j by omega, ← h3] at e
    exact (dk_ite_inj h i _ _ hq (dk_ite_lt h _ q hq) e).symm
  · have : dk_inj (fun j => dk_ite f j q) (c + 1) c := by
      refine ⟨fun j _ => dk_ite_lt h j q hq, fun i j hi hj e => ?_⟩
      rcases Nat.lt_trichotomy i j with h1 | h1 | h1
      · exact absurd ⟨i, j, h1, by omega, e⟩ hno
      · exact h1
      · exact absurd ⟨j, i, h1, by omega, e.symm⟩ hno
    have := dk_pigeon this
    omega
/-- the least below n that has P -/
def dk_lst (P : Nat → Bool) : Nat → Nat
  | 0 => 0
  | n + 1 => if dk_any P n = true then dk_lst P n else n
theorem dk_lst_ok {P : Nat → Bool} : ∀ {n : Nat}, dk_any P n = true → dk_lst P n < n ∧ P (dk_lst P n) = true ∧ ∀ j, j < dk_lst P n → P j = false := by
  intro n
  induction n with
  | zero => intro h; simp [dk_any] at h
  | succ n ih =>
    intro h
    simp only [dk_lst]
    by_cases q : dk_any P n = true
    · rw [if_pos q]
      obtain ⟨a, b, c⟩ := ih q
      exact ⟨by omega, b, c⟩
    · rw [if_neg q]
      have q' : dk_any P n = false := by simpa using q
      simp only [dk_any] at h
      rw [q', Bool.false_or] at h
      exact ⟨by omega, h, (dk_any_f P n).mp q'⟩
theorem dk_lst_congr {P Q : Nat → Bool} (h : ∀ k, P k = Q k) : ∀ n, dk_lst P n = dk_lst Q n := by
  intro n
  have : P = Q := funext h
  rw [this]
/-- the period of q, less one -/
def dk_pe (f : Nat → Nat) (q : Nat) : Nat := dk_lst (fun r => dk_ite f (r + 1) q == q) 12
theorem dk_pe_ok {f : Nat → Nat} {c q : Nat} (h : dk_inj f c c) (hc : c ≤ 12) (hq : q < c) : dk_pe f q < 12 ∧ dk_ite f (dk_pe f q + 1) q = q ∧ ∀ j, j < dk_pe f q → dk_ite f (j + 1) q ≠ q := by
  obtain ⟨r, h1, h2, h3⟩ := dk_comes h hq
  have ha : dk_any (fun r => dk_ite f (r + 1) q == q) 12 = true := by
    rw [dk_any_iff]
    refine ⟨r - 1, by omega, ?_⟩
    rw [show r - 1 + 1 = r by omega]
    simpa using h3
  obtain ⟨a, b, e⟩ := dk_lst_ok ha
  refine ⟨a, (show dk_ite f (dk_pe f q + 1) q = q from (beq_iff_eq).mp b), fun j hj => ?_⟩
  have := e j hj
  simpa using this
theorem dk_pe_same {f : Nat → Nat} {c q : Nat} (h : dk_inj f c c) (hq : q < c) (j : Nat) : dk_pe f (dk_ite f j q) = dk_pe f q := by
  unfold dk_pe
  apply dk_lst_congr
  intro r
  apply dk_boolext
  simp only [beq_iff_eq]
  rw [← dk_ite_add, Nat.add_comm, dk_ite_add]
  constructor
  · intro e; exact dk_ite_inj h j _ _ (dk_ite_lt h _ q hq) hq e
  · intro e; rw [e]
def dk_gcd12 (a b : Nat) : Nat := Nat.gcd a b
def dk_lc (B : Nat → Bool) : Nat → Nat
  | 0 => 1
  | r + 1 => if B r = true then dk_lc B r * (r + 1) / Nat.gcd (dk_lc B r) (r + 1) else dk_lc B r
theorem dk_lc_dvd (B : Nat → Bool) (r : Nat) (hr : B r = true) : ∀ n, r < n → (r + 1) ∣ dk_lc B n := by
  intro n
  induction n with
  | zero => intro h; omega
  | succ n ih =>
    intro h
    simp only [dk_lc]
    have step : ∀ a b : Nat, a ∣ a * b / Nat.gcd a b ∧ b ∣ a * b / Nat.gcd a b := fun a b => ⟨Nat.dvd_lcm_left a b, Nat.dvd_lcm_right a b⟩
    by_cases e : r = n
    · subst e
      rw [if_pos hr]
      exact (step _ _).2
    · have := ih (by omega)
      split
      · exact Nat.dvd_trans this (step _ _).1
      · exact this
def dk_bm (m r : Nat) : Bool := m.testBit r
theorem dk_lc_all0 : ∀ a, a < 64 → ∀ b, b < 64 → (decide (12 < dk_sum (fun r => if dk_bm (64 * a + b) r = true then r + 1 else 0) 12) || (decide (dk_lc (dk_bm (64 * a + b)) 12 ≤ 60) && decide (1 ≤ dk_lc (dk_bm (64 * a + b)) 12))) = true := by decide +kernel
theorem dk_lc_all (m : Nat) (h : m < 4096) : (decide (12 < dk_sum (fun r => if dk_bm m r = true then r + 1 else 0) 12) || (decide (dk_lc (dk_bm m) 12 ≤ 60) && decide (1 ≤ dk_lc (dk_bm m) 12))) = true := by
  have := dk_lc_all0 (m / 64) (by omega) (m % 64) (by omega)
  rw [show 64 * (m / 64) + m % 64 = m by omega] at this
  exact this
theorem dk_lc_congr {B B' : Nat → Bool} : ∀ {n : Nat}, (∀ k, k < n → B k = B' k) → dk_lc B n = dk_lc B' n := by
  intro n
  induction n with
  | zero => intro _; rfl
  | succ n ih =>
    intro h
    simp only [dk_lc]
    rw [ih (fun k hk => h k (by omega)), h n (by omega)]
theorem dk_lc_le {B : Nat → Bool} (h : dk_sum (fun r => if B r = true then r + 1 else 0) 12 ≤ 12) : 1 ≤ dk_lc B 12 ∧ dk_lc B 12 ≤ 60 := by
  have e : ∀ k, k < 12 → dk_bm (ds_bs B 12) k = B k := by
    intro k hk
    unfold dk_bm
    rw [ds_bs_tb, decide_eq_true hk, Bool.true_and]
  have := dk_lc_all (ds_bs B 12) (ds_bs_lt B 12)
  rw [dk_lc_congr e, dk_sum_congr (g := fun r => if B r = true then r + 1 else 0) (fun k hk => by rw [e k hk]), decide_eq_false (by omega), Bool.false_or, Bool.and_eq_true, decide_eq_true_eq, decide_eq_true_eq] at this
  exact ⟨this.2, this.1⟩
theorem dk_ite_mul {f : Nat → Nat} {q r : Nat} (h : dk_ite f r q = q) : ∀ t, dk_ite f (r * t) q = q := by
  intro t
  induction t with
  | zero => rfl
  | succ t ih => rw [Nat.mul_succ, dk_ite_add, h, ih]
theorem dk_order {f : Nat → Nat} {c : Nat} (h : dk_inj f c c) (hc : c ≤ 12) : ∃ k, 1 ≤ k ∧ k ≤ 60 ∧ ∀ q, q < c → dk_ite f k q = q := by
  let B : Nat → Bool := fun r => dk_any (fun q => dk_pe f q == r) c
  have hB : dk_sum (fun r => if B r = true then r + 1 else 0) 12 ≤ 12 := by
    have h1 : dk_sum (fun r => if B r = true then r + 1 else 0) 12 ≤ dk_sum (fun r => dk_sum (fun q => if dk_pe f q = r then 1 else 0) c) 12 := by
      apply dk_sum_mono
      intro r hr
      by_cases hb : B r = true
      · rw [if_pos hb]
        obtain ⟨q, hq, e⟩ := (dk_any_iff _ _).mp hb
        have e' : dk_pe f q = r := by simpa using e
        have po := dk_pe_ok h hc hq
        have hin : dk_inj (fun j => dk_ite f j q) (r + 1) c := by
          refine ⟨fun j _ => dk_ite_lt h j q hq, ?_⟩
          have aux : ∀ i j, i < j → j < r + 1 → dk_ite f i q ≠ dk_ite f j q := by
            intro i j h1 h2 h3
            have e := dk_ite_add f i (j - i) q
            rw [show i + (j - i) = j by omega, ← h3] at e
            have e2 := (dk_ite_inj h i _ _ hq (dk_ite_lt h _ q hq) e).symm
            apply po.2.2 (j - i - 1) (by omega)
            rw [show j - i - 1 + 1 = j - i by omega]
            exact e2
          intro i j hi hj e
          rcases Nat.lt_trichotomy i j with a | a | a
          · exact absurd e (aux i j a hj)
          · exact a
          · exact absurd e.symm (aux j i a hi)
        have re := dk_reix0 (fun j => dk_ite f j q) (fun _ => 1) c (r + 1) hin
        have e9 : dk_sum (fun p => (fun _ => 1) ((fun j => dk_ite f j q) p)) (r + 1) = r + 1 := dk_sum_one (r + 1)
        have le := dk_sum_mono (f := fun i => if dk_any (fun p => (fun j => dk_ite f j q) p == i) (r + 1) = true then (fun _ => 1) i else 0) (g := fun q => if dk_pe f q = r then 1 else 0) (n := c) (fun i hi => by
          by_cases q9 : dk_any (fun p => (fun j => dk_ite f j q) p == i) (r + 1) = true
          · obtain ⟨j, hj, e7⟩ := (dk_any_iff _ _).mp q9
            have e8 : dk_ite f j q = i := by simpa using e7
            have e6 : dk_pe f i = r := by rw [← e8, dk_pe_same h hq j]; exact e'
            simp [q9, e6]
          · simp [q9])
        exact Nat.le_trans (Nat.le_of_eq (re.trans e9).symm) le
      · rw [if_neg hb]
        exact Nat.zero_le _
    have h2 : dk_sum (fun r => dk_sum (fun q => if dk_pe f q = r then 1 else 0) c) 12 = c := by
      rw [dk_sum_comm]
      rw [dk_sum_congr (g := fun _ => 1) (fun q hq => by
        rw [dk_sum_delta (dk_pe f q) (fun _ => 1), if_pos (dk_pe_ok h hc hq).1])]
      exact dk_sum_one c
    omega
  obtain ⟨l1, l2⟩ := dk_lc_le hB
  refine ⟨dk_lc B 12, l1, l2, fun q hq => ?_⟩
  have po := dk_pe_ok h hc hq
  have hb : B (dk_pe f q) = true := (dk_any_iff _ _).mpr ⟨q, hq, by simp⟩
  obtain ⟨t, ht⟩ := dk_lc_dvd B (dk_pe f q) hb 12 po.1
  rw [ht]
  exact dk_ite_mul po.2.1 t
