/-! what holds between two calls -/
/-- the palmed card of the class: x is 0 for none, else the card and one -/
def dk_pm (x : Nat) : Int32 := if x = 0 then ds_m1 else nI (x - 1)
/-- a deck K: its cards, at 12 how many, at 13 the palmed one and one -/
def dk_okK (D : Nat → Nat → Nat) (K : Nat → Nat) : Prop := K 12 ≤ 12 ∧ dk_inj K (K 12) (D 0 4) ∧ ((K 13 = 0 ∧ K 12 = D 0 4) ∨ (0 < K 13 ∧ K 13 ≤ D 0 4 ∧ K 12 + 1 = D 0 4 ∧ 2 ≤ K 12 ∧ ∀ p, p < K 12 → K p + 1 ≠ K 13))
/-- a deck in a row of a shelf: class, model -/
def dk_rwC (g : Nat → Int32) (a : Nat) (K : Nat → Nat) : Prop := (∀ p, p < K 12 → g (a + p) = nI (K p)) ∧ g (a + 12) = nI (K 12) ∧ g (a + 13) = dk_pm (K 13)
def dk_rwM (g : Nat → Int32) (a : Nat) (K : Nat → Nat) : Prop := (∀ p, p < K 12 → g (a + p) = nI (K p)) ∧ g (a + 12) = nI (K 12) ∧ g (a + 13) = nI (K 13)
def dk_IC (z : ds_St) (t t' : Nat) (D : Nat → Nat → Nat) (K : Nat → Nat) (U : Nat → Nat → Nat) (u : Nat) (M : Nat → Nat → Nat) (m f : Nat) (B : Nat → Nat) : Prop :=
  (z.2.2 0 = t ∧ z.2.2 1 = t' ∧ ((t = 10 ∧ t' = 30) ∨ (t = 30 ∧ t' = 10))) ∧ dk_tC z t D ∧ (z.1 61 2 = nI (K 12) ∧ (∀ p, p < K 12 → z.1 62 p = nI (K p)) ∧ z.1 61 3 = dk_pm (K 13)) ∧ (∃ a, a < 16 ∧ z.1 80 0 = nI 16 ∧ z.1 80 2 = nI a ∧ z.1 80 3 = nI u ∧ ∀ q, q < u → dk_rwC (z.1 81) ((a + q) % 16 * 14) (U q)) ∧ (∃ a, a < 3 ∧ z.1 82 0 = nI 3 ∧ z.1 82 2 = nI a ∧ z.1 82 3 = nI m ∧ (0 < a → m = 3) ∧ ∀ q, q < m → dk_rwC (z.1 83) ((a + q) % 3 * 14) (M q)) ∧ (z.1 1 1 = nI f ∧ ∀ k, k < f → z.1 2 k = (nI (B k)).toInt8.toInt32)
def dk_IM (z : ds_St) (D : Nat → Nat → Nat) (K : Nat → Nat) (U : Nat → Nat → Nat) (u : Nat) (M : Nat → Nat → Nat) (m f : Nat) (B : Nat → Nat) : Prop :=
  dk_tM z D ∧ z.1 90 14 = ds_bo (decide (0 < D 0 4)) ∧ dk_rwM (z.1 95) 0 K ∧ (z.1 90 20 = nI u ∧ ∀ q, q < u → dk_rwM (z.1 96) (14 * q) (U q)) ∧ (z.1 90 21 = nI m ∧ ∀ q, q < m → dk_rwM (z.1 97) (14 * q) (M q)) ∧ (z.1 90 2 = nI f ∧ ∀ k, k < f → z.1 91 k = nI (B k))
def dk_OK (D : Nat → Nat → Nat) (K : Nat → Nat) (U : Nat → Nat → Nat) (u : Nat) (M : Nat → Nat → Nat) (m f : Nat) (B : Nat → Nat) : Prop :=
  ((dk_ok D ∧ dk_okK D K ∧ (∀ q, q < u → dk_okK D (U q)) ∧ (∀ q, q < m → dk_okK D (M q)) ∧ u ≤ 16 ∧ m ≤ 3) ∨ ((∀ k, k < 8 → D 0 k = 0) ∧ K 12 = 0 ∧ K 13 = 0 ∧ u = 0 ∧ m = 0)) ∧ f ≤ 900 ∧ (∀ k, k < f → B k < 256)
def dk_Inv (z : ds_St) : Prop := ∃ t t' D K U u M m f B, dk_IC z t t' D K U u M m f B ∧ dk_IM z D K U u M m f B ∧ dk_OK D K U u M m f B ∧ z.1 0 10 = z.1 90 11 ∧ z.1 0 11 = z.1 90 9 ∧ z.1 0 12 = z.1 90 10
/-- what a question of the class may change -/
def dk_qC (z z1 : ds_St) (v : Int32) : Prop := (∀ p, 0 < p → p < 64 ∨ 80 ≤ p → z1.1 p = z.1 p) ∧ z1.1 0 = upd (z.1 0) 10 v ∧ (∀ j, j < 2 → z1.2.2 j = z.2.2 j)
/-- and of the model -/
def dk_qM (z z1 : ds_St) (v : Int32) : Prop := (∀ p, p < 98 → p ≠ 90 → z1.1 p = z.1 p) ∧ (∀ k, k = 2 ∨ k = 9 ∨ k = 10 ∨ k = 14 ∨ k = 20 ∨ k = 21 → z1.1 90 k = z.1 90 k) ∧ z1.1 90 11 = v ∧ (∀ j, j < 2 → z1.2.2 j = z.2.2 j)
theorem dk_tC_eq {t : Nat} {z z' : ds_St} {D : Nat → Nat → Nat} (h : dk_tC z t D) (hf : ∀ p, 0 < p → p < 61 → z'.1 p = z.1 p) : dk_tC z' t D := by
  obtain ⟨ht, h0, h1, h2, h3, h4, h5⟩ := h
  unfold dk_tC
  rw [hf t (by omega) (by omega), hf (t + 1) (by omega) (by omega), hf (t + 2) (by omega) (by omega), hf (t + 3) (by omega) (by omega), hf (t + 4) (by omega) (by omega), hf (t + 5) (by omega) (by omega), hf (t + 6) (by omega) (by omega), hf (t + 7) (by omega) (by omega), hf (t + 8) (by omega) (by omega), hf (t + 9) (by omega) (by omega), hf (t + 10) (by omega) (by omega)]
  exact ⟨ht, h0, h1, h2, h3, h4, h5⟩
theorem dk_tM_eq {z z' : ds_St} {D : Nat → Nat → Nat} (h : dk_tM z D) (hf : z'.1 93 = z.1 93) : dk_tM z' D := by
  unfold dk_tM
  rw [hf]
  exact h
theorem dk_IC_q {z z1 : ds_St} {v : Int32} {t t' : Nat} {D : Nat → Nat → Nat} {K : Nat → Nat} {U : Nat → Nat → Nat} {u : Nat} {M : Nat → Nat → Nat} {m f : Nat} {B : Nat → Nat} (h : dk_IC z t t' D K U u M m f B) (q : ∀ p, 0 < p → p < 64 ∨ (80 ≤ p ∧ p < 84) → z1.1 p = z.1 p) (hr : ∀ j, j < 2 → z1.2.2 j = z.2.2 j) : dk_IC z1 t t' D K U u M m f B := by
  obtain ⟨h1, h2, h3, h4, h5, h6⟩ := h
  unfold dk_IC
  rw [hr 0 (by decide), hr 1 (by decide), q 61 (by decide) (by decide), q 62 (by decide) (by decide), q 80 (by decide) (by decide), q 81 (by decide) (by decide), q 82 (by decide) (by decide), q 83 (by decide) (by decide), q 1 (by decide) (by decide), q 2 (by decide) (by decide)]
  exact ⟨h1, dk_tC_eq h2 (fun p a b => q p a (by omega)), h3, h4, h5, h6⟩
theorem dk_IM_q {z z1 : ds_St} {D : Nat → Nat → Nat} {K : Nat → Nat} {U : Nat → Nat → Nat} {u : Nat} {M : Nat → Nat → Nat} {m f : Nat} {B : Nat → Nat} (h : dk_IM z D K U u M m f B) (q : ∀ p, 90 < p → p < 98 → z1.1 p = z.1 p) (q2 : ∀ k, k = 2 ∨ k = 14 ∨ k = 20 ∨ k = 21 → z1.1 90 k = z.1 90 k) : dk_IM z1 D K U u M m f B := by
  obtain ⟨h1, h2, h3, h4, h5, h6⟩ := h
  unfold dk_IM
  rw [q2 14 (by decide), q2 20 (by decide), q2 21 (by decide), q2 2 (by decide), q 95 (by decide) (by decide), q 96 (by decide) (by decide), q 97 (by decide) (by decide), q 91 (by decide) (by decide)]
  exact ⟨dk_tM_eq h1 (q 93 (by decide) (by decide)), h2, h3, h4, h5, h6⟩
theorem dk_Inv_q {z z1 z2 : ds_St} {v : Int32} (h : dk_Inv z) (h1 : dk_qC z z1 v) (h2 : dk_qM z1 z2 v) : dk_Inv z2 := by
  obtain ⟨t, t', D, K, U, u, M, m, f, B, hc, hm, ho, e1, e2, e3⟩ := h
  obtain ⟨a1, a2, a3⟩ := h1
  obtain ⟨b1, b2, b3, b4⟩ := h2
  refine ⟨t, t', D, K, U, u, M, m, f, B, ?_, ?_, ho, ?_, ?_, ?_⟩
  · exact dk_IC_q (v := v) hc (fun p x y => (b1 p (by omega) (by omega)).trans (a1 p x (by omega))) (fun j hj => (b4 j hj).trans (a3 j hj))
  · exact dk_IM_q hm (fun p x y => (b1 p (by omega) (by omega)).trans (a1 p (by omega) (by omega))) (fun k hk => by rw [b2 k (by omega), a1 90 (by decide) (by decide)])
  · rw [b1 0 (by decide) (by decide), a2, b3, pk_us]
  · rw [b1 0 (by decide) (by decide), a2, pk_un (by decide), b2 9 (by decide), a1 90 (by decide) (by decide), e2]
  · rw [b1 0 (by decide) (by decide), a2, pk_un (by decide), b2 10 (by decide), a1 90 (by decide) (by decide), e3]
/-- x is a number below n -/
def dk_rng (x : Int32) (n : Nat) : Bool := !(decide (x < nI 0)) && !(decide (nI n ≤ x))
theorem dk_rng_iff {x : Int32} {n : Nat} (hn : n < 2 ^ 31) : dk_rng x n = true ↔ ∃ i, i < n ∧ x = nI i := by
  unfold dk_rng
  simp only [Bool.and_eq_true, Bool.not_eq_true', decide_eq_false_iff_not]
  constructor
  · rintro ⟨h1, h2⟩
    rcases pk_ix x hn with h | h | h
    · exact absurd h h1
    · exact absurd h h2
    · exact h
  · rintro ⟨i, hi, rfl⟩
    exact ⟨nI_pos (by omega), nI_ge hi hn⟩
theorem dk_rng_0 (x : Int32) : dk_rng x 0 = false := by
  cases h : dk_rng x 0 with
  | false => rfl
  | true =>
    obtain ⟨i, hi, _⟩ := (dk_rng_iff (by decide)).mp h
    omega
/-- the class of a state that has no flaw -/
def dk_HC (z : ds_St) (t : Nat) (D : Nat → Nat → Nat) (K : Nat → Nat) : Prop := z.2.2 0 = t ∧ dk_tC z t D ∧ z.1 61 2 = nI (K 12) ∧ (∀ p, p < K 12 → z.1 62 p = nI (K p)) ∧ z.1 61 3 = dk_pm (K 13)
def dk_HM (z : ds_St) (D : Nat → Nat → Nat) (K : Nat → Nat) : Prop := dk_tM z D ∧ z.1 90 14 = ds_bo (decide (0 < D 0 4)) ∧ dk_rwM (z.1 95) 0 K
def dk_Hz (D : Nat → Nat → Nat) (K : Nat → Nat) : Prop := (dk_ok D ∧ dk_okK D K) ∨ ((∀ k, k < 8 → D 0 k = 0) ∧ K 12 = 0 ∧ K 13 = 0)
theorem dk_IC_HC {z : ds_St} {t t' : Nat} {D : Nat → Nat → Nat} {K : Nat → Nat} {U : Nat → Nat → Nat} {u : Nat} {M : Nat → Nat → Nat} {m f : Nat} {B : Nat → Nat} (h : dk_IC z t t' D K U u M m f B) : dk_HC z t D K := ⟨h.1.1, h.2.1, h.2.2.1.1, h.2.2.1.2.1, h.2.2.1.2.2⟩
theorem dk_IM_HM {z : ds_St} {D : Nat → Nat → Nat} {K : Nat → Nat} {U : Nat → Nat → Nat} {u : Nat} {M : Nat → Nat → Nat} {m f : Nat} {B : Nat → Nat} (h : dk_IM z D K U u M m f B) : dk_HM z D K := ⟨h.1, h.2.1, h.2.2.1⟩
theorem dk_OK_Hz {D : Nat → Nat → Nat} {K : Nat → Nat} {U : Nat → Nat → Nat} {u : Nat} {M : Nat → Nat → Nat} {m f : Nat} {B : Nat → Nat} (h : dk_OK D K U u M m f B) : dk_Hz D K := by
  rcases h.1 with h | h
  · exact .inl ⟨h.1, h.2.1⟩
  · exact .inr ⟨h.1, h.2.1, h.2.2.1⟩
theorem dk_HM_q {z z1 : ds_St} {D : Nat → Nat → Nat} {K : Nat → Nat} (h : dk_HM z D K) (h1 : z1.1 93 = z.1 93) (h2 : z1.1 95 = z.1 95) (h3 : z1.1 90 14 = z.1 90 14) : dk_HM z1 D K := by
  obtain ⟨a, b, c⟩ := h
  exact ⟨dk_tM_eq a h1, by rw [h3]; exact b, by rw [h2]; exact c⟩
/-- two answers of a question are the same, and the state is in order behind it -/
theorem dk_both {z : ds_St} {j1 j2 d : Nat} {a1 a2 : List Value} (h : dk_Inv z) (hq : ∀ t D K, dk_HC z t D K → dk_HM z D K → dk_Hz D K → ∃ v w z1, ds_call d j1 a1 z = some (some v, z1) ∧ dk_qC z z1 w ∧ (∀ z0, dk_HM z0 D K → ∃ z2, ds_call d j2 a2 z0 = some (some v, z2) ∧ dk_qM z0 z2 w)) : ∃ v z1 z2, ds_call d j1 a1 z = some (some v, z1) ∧ ds_call d j2 a2 z1 = some (some v, z2) ∧ dk_Inv z2 := by
  have h0 := h
  obtain ⟨t, t', D, K, U, u, M, m, f, B, hc, hm, ho, e1, e2, e3⟩ := h0
  obtain ⟨v, w, z1, g1, g2, g3⟩ := hq t D K (dk_IC_HC hc) (dk_IM_HM hm) (dk_OK_Hz ho)
  obtain ⟨z2, g4, g5⟩ := g3 z1 (dk_HM_q (dk_IM_HM hm) (g2.1 93 (by decide) (by decide)) (g2.1 95 (by decide) (by decide)) (by rw [g2.1 90 (by decide) (by decide)]))
  exact ⟨v, z1, z2, g1, g4, dk_Inv_q h g2 g5⟩
