/-! the same sums, by pairs of islands and by places -/
theorem dk_sum_cut {f : Nat → Nat} {L : Nat} : ∀ {c : Nat}, L ≤ c → (∀ k, L ≤ k → k < c → f k = 0) → dk_sum f c = dk_sum f L := by
  intro c
  induction c with
  | zero => intro h _; have : L = 0 := by omega
            rw [this]
  | succ c ih =>
    intro h hz
    rcases Nat.lt_or_ge L (c + 1) with h1 | h1
    · simp only [dk_sum]
      rw [ih (by omega) (fun k q1 q2 => hz k q1 (by omega)), hz c (by omega) (by omega), Nat.add_zero]
    · have : L = c + 1 := by omega
      rw [this]
theorem dk_sum_trunc (f : Nat → Nat) {p L : Nat} (h : p ≤ L) : dk_sum f p = dk_sum (fun q => if q < p then f q else 0) L := by
  rw [dk_sum_cut (f := fun q => if q < p then f q else 0) h (fun k h1 _ => if_neg (by omega))]
  exact dk_sum_congr (fun k hk => (if_pos hk).symm)
theorem dk_places {D : Nat → Nat → Nat} {H : Nat → Nat → Nat} {c : Nat} (hD : dk_ok D) (hc : c ≤ 12) (hz : ∀ p q, p < c → q < c → dk_A D q p = false → H p q = 0) : dk_sum (fun p => dk_sum (fun q => H p q) p) c = dk_sum (fun p => (if p + 1 < min (D 0 0 * D 0 1) c then H (p + 1) p else 0) + (if p + D 0 0 < min (D 0 0 * D 0 1) c then H (p + D 0 0) p else 0)) (min (D 0 0 * D 0 1) c) := by
  obtain ⟨⟨w2, w4⟩, ⟨g2, g3⟩, o2, o3, _⟩ := hD
  generalize hL : min (D 0 0 * D 0 1) c = L
  have hAf : ∀ p q, D 0 0 * D 0 1 ≤ p → dk_A D q p = false := by
    intro p q h
    cases h1 : dk_A D q p with
    | false => rfl
    | true => have := (dk_A_lt h1).2; omega
  rw [dk_sum_cut (L := L) (f := fun p => dk_sum (fun q => H p q) p) (by omega) (fun p h1 h2 => dk_sum_zero (fun q h3 => hz p q h2 (by omega) (hAf p q (by omega))))]
  have e1 : dk_sum (fun p => dk_sum (fun q => H p q) p) L = dk_sum (fun p => dk_sum (fun q => if q < p then H p q else 0) L) L := dk_sum_congr (fun p hp => dk_sum_trunc _ (by omega))
  rw [e1, dk_sum_comm (fun p q => if q < p then H p q else 0)]
  apply dk_sum_congr
  intro q hq
  have e2 : dk_sum (fun p => if q < p then H p q else 0) L = dk_sum (fun p => (if q + 1 = p then H p q else 0) + (if q + D 0 0 = p then H p q else 0)) L := by
    apply dk_sum_congr
    intro p hp
    by_cases h : q < p
    · rw [if_pos h]
      by_cases h1 : q + 1 = p
      · rw [if_pos h1, if_neg (by omega)]; rfl
      · by_cases h2 : q + D 0 0 = p
        · rw [if_neg h1, if_pos h2]; omega
        · rw [if_neg h1, if_neg h2]
          apply hz p q (by omega) (by omega)
          cases h3 : dk_A D q p with
          | false => rfl
          | true =>
            rcases dk_adj_up w2 w4 g3 o3 (by omega) h h3 with h4 | h4 <;> omega
    · rw [if_neg h, if_neg (by omega), if_neg (by omega)]
  rw [e2, dk_sum_add, dk_sum_delta (q + 1) (fun p => H p q), dk_sum_delta (q + D 0 0) (fun p => H p q)]
theorem dk_wor_sym (D : Nat → Nat → Nat) (i j : Nat) : dk_wor D i j = dk_wor D j i := by
  unfold dk_wor
  by_cases h : D 2 i = D 2 j
  · rw [h]
    by_cases h1 : D 1 i = 2 <;> by_cases h2 : D 1 j = 2 <;> by_cases h3 : D 1 i = 1 <;> by_cases h4 : D 1 j = 1 <;> simp [h1, h2, h3, h4]
  · rw [if_pos (.inr (.inr h)), if_pos (.inr (.inr (fun q => h q.symm)))]
theorem dk_gd_eq {D : Nat → Nat → Nat} {x : Int32} {G : Nat → Bool} (hx : dk_gd D x G) {i j : Nat} (h : D 2 i = D 2 j) : G i = G j := by
  rcases hx with ⟨_, hG⟩ | ⟨g, _, _, hG⟩
  · rw [hG, hG]
  · rw [hG, hG, h]
theorem dk_tr_same {D : Nat → Nat → Nat} {C : Nat → Nat} {c : Nat} {x : Int32} {G : Nat → Bool} (hD : dk_ok D) (hc : c ≤ 12) (hin : dk_inj C c (D 0 4)) (hx : dk_gd D x G) : dk_tr D C (min (D 0 0 * D 0 1) c) G = dk_trm D C c G := by
  unfold dk_trm
  have hs : ∀ i j, (if G i = true then dk_ti D C c i j else 0) = (if G j = true then dk_ti D C c j i else 0) := by
    intro i j
    unfold dk_ti
    rw [dk_be_sym (dk_A_sym D) (i := j) (j := i), dk_wor_sym D j i]
    by_cases h : D 2 i = D 2 j
    · rw [dk_gd_eq hx h]
    · have : dk_wor D i j = 0 := by
        unfold dk_wor
        rw [if_pos (.inr (.inr h))]
      rw [this]
      simp
  rw [dk_pairs (G := fun i j => if G i = true then dk_ti D C c i j else 0) hin hs (fun i => by
    unfold dk_ti
    rw [dk_be_self hin (dk_A_self D)]
    simp) (fun i j h => by
    unfold dk_ti
    rw [dk_be_no h]
    simp)]
  have h2 := dk_places (D := D) (H := fun p q => if G (C p) = true then dk_ti D C c (C p) (C q) else 0) hD hc (fun p q hp hq h => by
    unfold dk_ti
    rw [dk_be_at hin hp hq, dk_A_sym, h]
    simp)
  rw [h2]
  unfold dk_tr
  apply dk_sum_congr
  intro p hp
  have one : ∀ q, (if q < min (D 0 0 * D 0 1) c then (if G (C q) = true then dk_ti D C c (C q) (C p) else 0) else 0) = (if G (C p) = true then dk_tb D C (min (D 0 0 * D 0 1) c) p q else 0) := by
    intro q
    by_cases h : q < min (D 0 0 * D 0 1) c
    · rw [if_pos h, hs]
      unfold dk_ti dk_tb
      rw [dk_be_at hin (by omega) (by omega)]
      simp [h]
    · rw [if_neg h]
      unfold dk_tb
      simp [h]
  rw [one, one]
  by_cases h : G (C p) = true
  · simp [h]
  · simp [h]
theorem dk_wis_same (D : Nat → Nat → Nat) (C : Nat → Nat) (c : Nat) : dk_wis D C (min (D 0 0 * D 0 1) c) = dk_wim D C c := by
  unfold dk_wis dk_wim
  apply dk_sum_congr
  intro k _
  rw [← dk_be_cut (fun p q => dk_A_lt)]
/-- the model's wars -/
def dk_wm (D : Nat → Nat → Nat) (C : Nat → Nat) (c i j : Nat) : Bool := !(D 1 i == 2) && !(D 1 j == 2) && dk_be (dk_A D) C c i j && decide (5 ≤ D 3 i - D 3 j + (D 3 j - D 3 i))
theorem dk_wm_sym (D : Nat → Nat → Nat) (C : Nat → Nat) (c i j : Nat) : dk_wm D C c i j = dk_wm D C c j i := by
  unfold dk_wm
  rw [dk_be_sym (dk_A_sym D), Bool.and_comm (!(D 1 i == 2)), Nat.add_comm]
theorem dk_wars_same {D : Nat → Nat → Nat} {C : Nat → Nat} {c : Nat} (hD : dk_ok D) (hc : c ≤ 12) (hin : dk_inj C c (D 0 4)) : dk_wars D C (min (D 0 0 * D 0 1) c) = dk_sum (fun i => dk_sum (fun j => dk_n (dk_wm D C c i j)) i) (D 0 4) := by
  rw [dk_pairs (G := fun i j => dk_n (dk_wm D C c i j)) hin (fun i j => by rw [dk_wm_sym]) (fun i => by
    unfold dk_wm
    rw [dk_be_self hin (dk_A_self D)]
    simp [dk_n]) (fun i j h => by
    unfold dk_wm
    rw [dk_be_no h]
    simp [dk_n])]
  have h2 := dk_places (D := D) (H := fun p q => dk_n (dk_wm D C c (C p) (C q))) hD hc (fun p q hp hq h => by
    unfold dk_wm
    rw [dk_be_at hin hp hq, dk_A_sym, h]
    simp [dk_n])
  rw [h2]
  unfold dk_wars
  apply dk_sum_congr
  intro p hp
  have one : ∀ q, (if q < min (D 0 0 * D 0 1) c then dk_n (dk_wm D C c (C q) (C p)) else 0) = dk_n (dk_war D C (min (D 0 0 * D 0 1) c) p q) := by
    intro q
    by_cases h : q < min (D 0 0 * D 0 1) c
    · rw [if_pos h, dk_wm_sym]
      unfold dk_wm dk_war
      rw [dk_be_at hin (by omega) (by omega)]
      congr 1
      rw [decide_eq_true h]
      cases dk_A D p q <;> cases (D 1 (C p) == 2) <;> cases (D 1 (C q) == 2) <;> rfl
    · rw [if_neg h]
      unfold dk_war
      simp [h, dk_n]
  rw [one, one]
theorem dk_people_same {D : Nat → Nat → Nat} {C : Nat → Nat} {c : Nat} (P : Nat → Bool) (f : Nat → Nat) (hin : dk_inj C c (D 0 4)) : dk_sum (fun i => if (P i && dk_is D C c i) = true then f i else 0) (D 0 4) = dk_sum (fun p => if P (C p) = true then f (C p) else 0) (min (D 0 0 * D 0 1) c) := by
  rw [dk_reix (g := fun i => if (P i && dk_is D C c i) = true then f i else 0) (dk_inj_sub hin (Nat.min_le_right _ _)) (fun i hi h => by
    have : dk_is D C c i = false := by
      unfold dk_is
      rw [dk_any_f]
      intro p hp
      simpa using h p hp
    simp [this])]
  apply dk_sum_congr
  intro p hp
  have : dk_is D C c (C p) = true := by
    unfold dk_is
    rw [dk_any_iff]
    exact ⟨p, hp, by simp⟩
  simp [this]
