/-! sums and sets, by numbers alone -/
def dk_sum (f : Nat → Nat) : Nat → Nat
  | 0 => 0
  | n + 1 => dk_sum f n + f n
theorem dk_sum_congr {f g : Nat → Nat} : ∀ {n : Nat}, (∀ k, k < n → f k = g k) → dk_sum f n = dk_sum g n
  | 0, _ => rfl
  | n + 1, h => by
    simp only [dk_sum]
    rw [dk_sum_congr (fun k q => h k (by omega)), h n (by omega)]
theorem dk_sum_zero {f : Nat → Nat} : ∀ {n : Nat}, (∀ k, k < n → f k = 0) → dk_sum f n = 0
  | 0, _ => rfl
  | n + 1, h => by
    simp only [dk_sum]
    rw [dk_sum_zero (fun k q => h k (by omega)), h n (by omega)]
theorem dk_sum_add (f g : Nat → Nat) : ∀ n, dk_sum (fun k => f k + g k) n = dk_sum f n + dk_sum g n
  | 0 => rfl
  | n + 1 => by
    simp only [dk_sum]
    rw [dk_sum_add f g n]
    omega
theorem dk_sum_le {f : Nat → Nat} {b : Nat} : ∀ {n : Nat}, (∀ k, k < n → f k ≤ b) → dk_sum f n ≤ n * b
  | 0, _ => by simp [dk_sum]
  | n + 1, h => by
    simp only [dk_sum]
    have h1 := dk_sum_le (n := n) (fun k q => h k (by omega))
    have h2 := h n (by omega)
    rw [Nat.succ_mul]
    omega
theorem dk_sum_comm (f : Nat → Nat → Nat) (m : Nat) : ∀ n, dk_sum (fun i => dk_sum (fun j => f i j) m) n = dk_sum (fun j => dk_sum (fun i => f i j) n) m
  | 0 => by
    simp only [dk_sum]
    exact (dk_sum_zero (fun k _ => rfl)).symm
  | n + 1 => by
    simp only [dk_sum]
    rw [dk_sum_comm f m n, dk_sum_add]
theorem dk_sum_delta (c : Nat) (g : Nat → Nat) : ∀ n, dk_sum (fun i => if c = i then g i else 0) n = if c < n then g c else 0
  | 0 => by simp [dk_sum]
  | n + 1 => by
    simp only [dk_sum]
    rw [dk_sum_delta c g n]
    by_cases h : c = n
    · subst h; simp
    · by_cases h2 : c < n
      · rw [if_pos h2, if_neg h, if_pos (by omega)]; rfl
      · rw [if_neg h2, if_neg h, if_neg (by omega)]
/-- C brings different places below L to different numbers below n -/
def dk_inj (C : Nat → Nat) (L n : Nat) : Prop := (∀ p, p < L → C p < n) ∧ (∀ p q, p < L → q < L → C p = C q → p = q)
def dk_any (f : Nat → Bool) : Nat → Bool
  | 0 => false
  | n + 1 => dk_any f n || f n
theorem dk_any_iff (f : Nat → Bool) : ∀ n, dk_any f n = true ↔ ∃ p, p < n ∧ f p = true
  | 0 => by simp [dk_any]
  | n + 1 => by
    simp only [dk_any, Bool.or_eq_true]
    rw [dk_any_iff f n]
    constructor
    · rintro (⟨p, h1, h2⟩ | h)
      · exact ⟨p, by omega, h2⟩
      · exact ⟨n, by omega, h⟩
    · rintro ⟨p, h1, h2⟩
      rcases Nat.lt_or_ge p n with h | h
      · exact .inl ⟨p, h, h2⟩
      · have : p = n := by omega
        subst this
        exact .inr h2
theorem dk_any_f (f : Nat → Bool) (n : Nat) : dk_any f n = false ↔ ∀ p, p < n → f p = false := by
  constructor
  · intro h p hp
    cases hf : f p with
    | false => rfl
    | true => rw [(dk_any_iff f n).mpr ⟨p, hp, hf⟩] at h; exact absurd h (by decide)
  · intro h
    cases hf : dk_any f n with
    | false => rfl
    | true =>
      obtain ⟨p, hp, h2⟩ := (dk_any_iff f n).mp hf
      rw [h p hp] at h2
      exact absurd h2 (by decide)
theorem dk_boolext {a b : Bool} (h : a = true ↔ b = true) : a = b := by cases a <;> cases b <;> simp_all
theorem dk_inj_sub {C : Nat → Nat} {L M n : Nat} (h : dk_inj C L n) (hM : M ≤ L) : dk_inj C M n := ⟨fun p hp => h.1 p (by omega), fun p q hp hq => h.2 p q (by omega) (by omega)⟩
theorem dk_reix0 (C g : Nat → Nat) (n : Nat) : ∀ L, dk_inj C L n → dk_sum (fun i => if dk_any (fun p => C p == i) L = true then g i else 0) n = dk_sum (fun p => g (C p)) L
  | 0, _ => by
    simp only [dk_any, dk_sum]
    exact dk_sum_zero (fun k _ => by simp)
  | L + 1, h => by
    have ih := dk_reix0 C g n L (dk_inj_sub h (by omega))
    simp only [dk_sum]
    rw [← ih]
    have e : dk_sum (fun i => if dk_any (fun p => C p == i) (L + 1) = true then g i else 0) n = dk_sum (fun i => (if dk_any (fun p => C p == i) L = true then g i else 0) + (if C L = i then g i else 0)) n := by
      apply dk_sum_congr
      intro i hi
      by_cases h1 : dk_any (fun p => C p == i) L = true
      · have h2 : ¬ C L = i := by
          intro h2
          obtain ⟨p, hp, h3⟩ := (dk_any_iff _ _).mp h1
          have h4 : C p = i := by simpa using h3
          have := h.2 p L (by omega) (by omega) (by omega)
          omega
        simp [dk_any, h1, h2]
      · simp [dk_any, h1]
    rw [e, dk_sum_add, dk_sum_delta, if_pos (h.1 L (by omega))]
theorem dk_reix {C g : Nat → Nat} {n L : Nat} (h : dk_inj C L n) (hz : ∀ i, i < n → (∀ p, p < L → C p ≠ i) → g i = 0) : dk_sum g n = dk_sum (fun p => g (C p)) L := by
  rw [← dk_reix0 C g n L h]
  apply dk_sum_congr
  intro i hi
  by_cases h1 : dk_any (fun p => C p == i) L = true
  · rw [if_pos h1]
  · rw [if_neg h1]
    apply hz i hi
    intro p hp h2
    exact h1 ((dk_any_iff _ _).mpr ⟨p, hp, by simpa using h2⟩)
theorem dk_tri {G : Nat → Nat → Nat} (hs : ∀ i j, G i j = G j i) (h0 : ∀ i, G i i = 0) : ∀ n, dk_sum (fun i => dk_sum (fun j => G i j) n) n = 2 * dk_sum (fun i => dk_sum (fun j => G i j) i) n
  | 0 => rfl
  | n + 1 => by
    have ih := dk_tri hs h0 n
    simp only [dk_sum]
    rw [dk_sum_add (fun i => dk_sum (fun j => G i j) n) (fun i => G i n), h0 n]
    have : dk_sum (fun i => G i n) n = dk_sum (fun j => G n j) n := dk_sum_congr (fun k _ => hs k n)
    rw [this]
    omega
/-- pairs of numbers against pairs of places -/
theorem dk_pairs {C : Nat → Nat} {G : Nat → Nat → Nat} {n L : Nat} (h : dk_inj C L n) (hs : ∀ i j, G i j = G j i) (h0 : ∀ i, G i i = 0) (hz : ∀ i j, (∀ p, p < L → C p ≠ i) → G i j = 0) : dk_sum (fun i => dk_sum (fun j => G i j) i) n = dk_sum (fun p => dk_sum (fun q => G (C p) (C q)) p) L := by
  have h1 := dk_tri hs h0 n
  have h2 := dk_tri (G := fun p q => G (C p) (C q)) (fun i j => hs _ _) (fun i => h0 _) L
  have h3 : dk_sum (fun i => dk_sum (fun j => G i j) n) n = dk_sum (fun p => dk_sum (fun q => G (C p) (C q)) L) L := by
    rw [dk_reix (g := fun i => dk_sum (fun j => G i j) n) h (fun i hi q => dk_sum_zero (fun j _ => hz i j q))]
    apply dk_sum_congr
    intro p hp
    exact dk_reix (g := fun j => G (C p) j) h (fun j hj q => by rw [hs]; exact hz j _ q)
  omega
/-- islands i and j lie beside each other: A says which places are -/
def dk_be (A : Nat → Nat → Bool) (C : Nat → Nat) (c i j : Nat) : Bool := dk_any (fun p => C p == i && dk_any (fun q => C q == j && A p q) c) c
theorem dk_be_iff {A : Nat → Nat → Bool} {C : Nat → Nat} {c i j : Nat} : dk_be A C c i j = true ↔ ∃ p q, p < c ∧ q < c ∧ C p = i ∧ C q = j ∧ A p q = true := by
  unfold dk_be
  rw [dk_any_iff]
  constructor
  · rintro ⟨p, hp, h⟩
    simp only [Bool.and_eq_true, beq_iff_eq] at h
    obtain ⟨h1, h2⟩ := h
    obtain ⟨q, hq, h3⟩ := (dk_any_iff _ _).mp h2
    simp only [Bool.and_eq_true, beq_iff_eq] at h3
    exact ⟨p, q, hp, hq, h1, h3.1, h3.2⟩
  · rintro ⟨p, q, hp, hq, h1, h2, h3⟩
    refine ⟨p, hp, ?_⟩
    simp only [Bool.and_eq_true, beq_iff_eq]
    refine ⟨h1, (dk_any_iff _ _).mpr ⟨q, hq, ?_⟩⟩
    simp only [Bool.and_eq_true, beq_iff_eq]
    exact ⟨h2, h3⟩
theorem dk_be_at {A : Nat → Nat → Bool} {C : Nat → Nat} {c n p q : Nat} (h : dk_inj C c n) (hp : p < c) (hq : q < c) : dk_be A C c (C p) (C q) = A p q := by
  apply dk_boolext
  rw [dk_be_iff]
  constructor
  · rintro ⟨p', q', h1, h2, h3, h4, h5⟩
    have e1 := h.2 p' p h1 hp h3
    have e2 := h.2 q' q h2 hq h4
    subst e1; subst e2
    exact h5
  · intro h5
    exact ⟨p, q, hp, hq, rfl, rfl, h5⟩
theorem dk_be_no {A : Nat → Nat → Bool} {C : Nat → Nat} {c i j : Nat} (h : ∀ p, p < c → C p ≠ i) : dk_be A C c i j = false := by
  cases hf : dk_be A C c i j with
  | false => rfl
  | true =>
    obtain ⟨p, q, h1, _, h3, _⟩ := dk_be_iff.mp hf
    exact absurd h3 (h p h1)
theorem dk_be_sym {A : Nat → Nat → Bool} {C : Nat → Nat} {c i j : Nat} (hA : ∀ p q, A p q = A q p) : dk_be A C c i j = dk_be A C c j i := by
  apply dk_boolext
  rw [dk_be_iff, dk_be_iff]
  constructor
  · rintro ⟨p, q, h1, h2, h3, h4, h5⟩; exact ⟨q, p, h2, h1, h4, h3, by rw [hA]; exact h5⟩
  · rintro ⟨p, q, h1, h2, h3, h4, h5⟩; exact ⟨q, p, h2, h1, h4, h3, by rw [hA]; exact h5⟩
theorem dk_be_self {A : Nat → Nat → Bool} {C : Nat → Nat} {c n i : Nat} (h : dk_inj C c n) (hA : ∀ p, A p p = false) : dk_be A C c i i = false := by
  cases hf : dk_be A C c i i with
  | false => rfl
  | true =>
    obtain ⟨p, q, h1, h2, h3, h4, h5⟩ := dk_be_iff.mp hf
    have := h.2 p q h1 h2 (by omega)
    subst this
    rw [hA] at h5
    exact absurd h5 (by decide)
theorem dk_be_cut {A : Nat → Nat → Bool} {C : Nat → Nat} {c R i j : Nat} (hA : ∀ p q, A p q = true → p < R ∧ q < R) : dk_be A C c i j = dk_be A C (min R c) i j := by
  apply dk_boolext
  rw [dk_be_iff, dk_be_iff]
  constructor
  · rintro ⟨p, q, h1, h2, h3, h4, h5⟩
    have := hA p q h5
    exact ⟨p, q, by omega, by omega, h3, h4, h5⟩
  · rintro ⟨p, q, h1, h2, h3, h4, h5⟩
    exact ⟨p, q, by omega, by omega, h3, h4, h5⟩
theorem dk_adj_sym (W H T p q : Nat) : dk_adj W H T p q = dk_adj W H T q p := by
  unfold dk_adj
  rw [Bool.and_comm (decide (p < W * H)), Bool.or_comm (dk_cor W H p), Bool.or_comm (p / W == q / W + 1), Bool.or_comm (p % W == q % W + 1), BEq.comm (a := p % W) (b := q % W), BEq.comm (a := p / W) (b := q / W)]
theorem dk_adj_self (W H T p : Nat) : dk_adj W H T p p = false := by
  unfold dk_adj
  simp
theorem dk_adj_lt {W H T p q : Nat} (h : dk_adj W H T p q = true) : p < W * H ∧ q < W * H := by
  unfold dk_adj at h
  simp only [Bool.and_eq_true, decide_eq_true_eq] at h
  exact ⟨h.1.1.1, h.1.1.2⟩
theorem dk_adj_up0 : ∀ W, W < 5 → ∀ H, H < 4 → ∀ T, T < 2 → ∀ p, p < 12 → ∀ q, q < 12 → (!(decide (2 ≤ W) && decide (q < p) && dk_adj W H T q p) || (decide (p = q + 1) || decide (p = q + W))) = true := by decide +kernel
theorem dk_adj_up {W H T p q : Nat} (h2 : 2 ≤ W) (hW : W ≤ 4) (hH : H ≤ 3) (hT : T < 2) (hp : p < 12) (hq : q < p) (h : dk_adj W H T q p = true) : p = q + 1 ∨ p = q + W := by
  have := dk_adj_up0 W (by omega) H (by omega) T hT p hp q (by omega)
  rw [h, decide_eq_true h2, decide_eq_true hq] at this
  simpa using this
