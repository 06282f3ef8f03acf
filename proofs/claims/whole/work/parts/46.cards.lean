/-! a card at a place; is the deck in its order; the model's deck laid -/
theorem s_cardAt_61 (d n p : Nat) (z : ds_St) (hn : z.1 61 2 = nI n) (h12 : n ≤ 12) (hp : p < 2 ^ 31) : ds_call (d + 2) j_Deck_cardAt [.ref 61, .int (nI p)] z = some (some (.int (if p < n then z.1 62 p else -1)), z) := by
  rw [c_Deck_cardAt, b_Deck_cardAt_0_61, hn]
  by_cases h : p < n
  · rw [if_neg (nI_ge h (by omega)), ds_cI_t (s_look d 62 (nI p) z rfl (by decide)), ds_lookF_in (show p < ds_N 62 from Nat.lt_of_lt_of_le (show p < 12 by omega) (Nat.le_refl 12)) (by decide), if_pos h]
    rfl
  · rw [if_pos (nI_le (by omega) hp), if_neg h]
    rfl
theorem s_cardAt_64 (d n p : Nat) (z : ds_St) (hn : z.1 64 2 = nI n) (h12 : n ≤ 12) (hp : p < 2 ^ 31) : ds_call (d + 2) j_Deck_cardAt [.ref 64, .int (nI p)] z = some (some (.int (if p < n then z.1 65 p else -1)), z) := by
  rw [c_Deck_cardAt, b_Deck_cardAt_0_64, hn]
  by_cases h : p < n
  · rw [if_neg (nI_ge h (by omega)), ds_cI_t (s_look d 65 (nI p) z rfl (by decide)), ds_lookF_in (show p < ds_N 65 from Nat.lt_of_lt_of_le (show p < 12 by omega) (Nat.le_refl 12)) (by decide), if_pos h]
    rfl
  · rw [if_pos (nI_le (by omega) hp), if_neg h]
    rfl
/-- the first n cards lie in their order -/
def ds_ord (f : Nat → Int32) : Nat → Nat → Bool
  | _, 0 => true
  | k, m + 1 => if f k = nI k then ds_ord f (k + 1) m else false
theorem s_isOrdered_loop (d n : Nat) (z : ds_St) (hn : z.1 64 2 = nI n) (h12 : n ≤ 12) : ∀ m k, k + m = n → ds_Rw ds_c_Deck_isOrdered ds_u_Deck_isOrdered (ds_call (d + 1)) 2 [some (.ref 64), some (.int (nI k))] [] z = some (some (.int (if ds_ord (z.1 65) k m = true then 1 else 0)), z) := by
  intro m
  induction m with
  | zero =>
    intro k hk
    rw [b_Deck_isOrdered_2_64, hn, if_pos (nI_le (by omega) (by omega))]
    rfl
  | succ m ih =>
    intro k hk
    rw [b_Deck_isOrdered_2_64, hn, if_neg (nI_ge (by omega) (by omega)), ds_cI_t (s_look d 65 (nI k) z rfl (by decide)), ds_lookF_in (show k < ds_N 65 from Nat.lt_of_lt_of_le (show k < 12 by omega) (Nat.le_refl 12)) (by decide)]
    by_cases h : z.1 65 k = nI k
    · rw [if_pos h, nI_1, ih (k + 1) (by omega)]
      simp only [ds_ord, h, if_true]
    · rw [if_neg h]
      simp only [ds_ord, h, if_false]
      rfl
theorem s_isOrdered (d n : Nat) (z : ds_St) (hn : z.1 64 2 = nI n) (h12 : n ≤ 12) : ds_call (d + 2) j_Deck_isOrdered [.ref 64] z = some (some (.int (if ds_ord (z.1 65) 0 n = true then 1 else 0)), z) := by
  rw [c_Deck_isOrdered, b_Deck_isOrdered_0_64]
  have h := s_isOrdered_loop d n z hn h12 n 0 (by omega)
  rw [nI_0] at h
  rw [h]
  rfl
theorem s_layDeck_loop (d n x1 : Nat) (hK : ds_K x1 = 11) (hN : ds_N x1 = 14) (h93 : x1 ≠ 93) (h12 : n ≤ 12) : ∀ (m k : Nat) (z : ds_St), k + m = 14 → z.1 93 4 = nI n → ds_Rw ds_c_Mod_layDeck ds_u_Mod_layDeck (ds_call d) 2 [some (.ref 90), some (.ref x1), some (.int (nI k))] [] z = some (none, ds_rowI z x1 (upd (upd (fun j => if k ≤ j ∧ j < 14 then (if j < n then nI j else 0) else z.1 x1 j) 12 (nI n)) 13 0)) := by
  intro m
  induction m with
  | zero =>
    intro k z hk hn
    rw [b_Mod_layDeck_2, if_pos (show (14 : Int32) ≤ nI k from nI_le (a := 14) (by omega) (by omega)), ds_isK_t hK, ds_chk_t (by rw [hN]; decide), ds_isK_t hK, ds_chk_t (by rw [hN]; decide), hn, ds_setI_row, ds_setI_row, ds_rowI_rowI, ds_rowI_self]
    have : (fun j => if k ≤ j ∧ j < 14 then (if j < n then nI j else 0) else z.1 x1 j) = z.1 x1 := by
      funext j
      rw [if_neg (by omega)]
    rw [this]
  | succ m ih =>
    intro k z hk hn
    have i1 : ds_in (nI k) (ds_N x1) = true := by rw [hN]; exact (ds_in_iff (by decide)).mpr ⟨nI_pos (by omega), nI_ge (show k < 14 by omega) (by decide)⟩
    rw [b_Mod_layDeck_2, if_neg (show ¬ (14 : Int32) ≤ nI k from nI_ge (b := 14) (by omega) (by decide)), hn]
    have key : ∀ v : Int32, v = (if k < n then nI k else 0) → ds_Rw ds_c_Mod_layDeck ds_u_Mod_layDeck (ds_call d) 2 [some (.ref 90), some (.ref x1), some (.int (nI k + 1))] [] (ds_setI z x1 (nI k).toNatClampNeg v) = some (none, ds_rowI z x1 (upd (upd (fun j => if k ≤ j ∧ j < 14 then (if j < n then nI j else 0) else z.1 x1 j) 12 (nI n)) 13 0)) := by
      intro v hv
      rw [nI_1, ds_setI_row, nI_clamp (by omega), ih (k + 1) _ (by omega) (by rw [ds_rowI_ne _ _ (fun h => h93 h.symm)]; exact hn), ds_rowI_self, ds_rowI_rowI]
      have : (fun j => if k + 1 ≤ j ∧ j < 14 then (if j < n then nI j else 0) else upd (z.1 x1) k v j) = (fun j => if k ≤ j ∧ j < 14 then (if j < n then nI j else 0) else z.1 x1 j) := by
        funext j
        unfold upd
        by_cases h1 : k + 1 ≤ j ∧ j < 14
        · rw [if_pos h1, if_pos (show k ≤ j ∧ j < 14 by omega)]
        · rw [if_neg h1]
          by_cases h2 : j = k
          · rw [if_pos h2, if_pos (show k ≤ j ∧ j < 14 by omega), h2, hv]
          · rw [if_neg h2, if_neg (by omega)]
      rw [this]
    by_cases h : k < n
    · rw [if_neg (nI_ge h (by omega)), ds_isK_t hK, ds_chk_t i1]
      exact key _ (by rw [if_pos h])
    · rw [if_pos (nI_le (by omega) (by omega)), ds_isK_t hK, ds_chk_t i1]
      exact key _ (by rw [if_neg h])
theorem s_layDeck (d n x1 : Nat) (z : ds_St) (hK : ds_K x1 = 11) (hN : ds_N x1 = 14) (h93 : x1 ≠ 93) (h12 : n ≤ 12) (hn : z.1 93 4 = nI n) : ds_call (d + 1) j_Mod_layDeck [.ref 90, .ref x1] z = some (none, ds_rowI z x1 (upd (upd (fun j => if j < 14 then (if j < n then nI j else 0) else z.1 x1 j) 12 (nI n)) 13 0)) := by
  rw [c_Mod_layDeck, b_Mod_layDeck_0]
  have h := s_layDeck_loop d n x1 hK hN h93 h12 14 0 z (by omega) hn
  rw [nI_0] at h
  rw [h]
  have : (fun j => if 0 ≤ j ∧ j < 14 then (if j < n then nI j else 0) else z.1 x1 j) = (fun j => if j < 14 then (if j < n then nI j else 0) else z.1 x1 j) := by
    funext j
    simp
  rw [this]
  rfl
