/-! a deck written to a row, and read from it -/
theorem ds_in_N {p N : Nat} (h : p < N) (hN : N < 2 ^ 31) : ds_in (nI p) N = true := (ds_in_iff hN).mpr ⟨nI_pos (by omega), nI_ge h hN⟩
theorem s_writeTo_loop (d x1 b : Nat) (hK : ds_K x1 = 11) (hb : b + 14 ≤ ds_N x1) (hs : ds_N x1 < 10000) (n61 : x1 ≠ 61) (n62 : x1 ≠ 62) : ∀ (m k : Nat) (z : ds_St), k + m = 12 → ds_Rw ds_c_Deck_writeTo ds_u_Deck_writeTo (ds_call (d + 1)) 2 [some (.ref 61), some (.ref x1), some (.int (nI b)), some (.int (nI k))] [] z = some (none, ds_rowI z x1 (upd (upd (fun j => if b + k ≤ j ∧ j < b + 12 then z.1 62 (j - b) else z.1 x1 j) (b + 12) (z.1 61 2)) (b + 13) (z.1 61 3))) := by
  intro m
  induction m with
  | zero =>
    intro k z hk
    have e1 : nI b + 12 = nI (b + 12) := nI_add b 12
    have e2 : nI (b + 12) + 1 = nI (b + 13) := nI_1 (b + 12)
    rw [b_Deck_writeTo_2_61, if_pos (show (12 : Int32) ≤ nI k from nI_le (a := 12) (by omega) (by omega)), e1, e2, ds_cV_t (s_put d x1 (nI (b + 12)) _ z hK (by omega) (ds_in_N (by omega) (by omega))), ds_rowI_ne _ _ (fun h => n61 h.symm), ds_cV_t (s_put d x1 (nI (b + 13)) _ _ hK (by omega) (ds_in_N (by omega) (by omega))), nI_clamp (by omega), nI_clamp (by omega), ds_rowI_self, ds_rowI_rowI]
    have : (fun j => if b + k ≤ j ∧ j < b + 12 then z.1 62 (j - b) else z.1 x1 j) = z.1 x1 := by
      funext j
      rw [if_neg (by omega)]
    rw [this]
  | succ m ih =>
    intro k z hk
    have e1 : nI b + nI k = nI (b + k) := nI_add b k
    rw [b_Deck_writeTo_2_61, if_neg (show ¬ (12 : Int32) ≤ nI k from nI_ge (b := 12) (by omega) (by decide)), ds_cI_t (s_look d 62 (nI k) z rfl (by decide)), ds_lookF_in (show k < ds_N 62 from Nat.lt_of_lt_of_le (show k < 12 by omega) (Nat.le_refl 12)) (by decide), e1, ds_cV_t (s_put d x1 (nI (b + k)) _ z hK (by omega) (ds_in_N (by omega) (by omega))), nI_clamp (by omega), nI_1, ih (k + 1) _ (by omega), ds_rowI_ne _ _ (fun h => n62 h.symm), ds_rowI_ne _ _ (fun h => n61 h.symm), ds_rowI_self, ds_rowI_rowI]
    have : (fun j => if b + (k + 1) ≤ j ∧ j < b + 12 then z.1 62 (j - b) else upd (z.1 x1) (b + k) (z.1 62 k) j) = (fun j => if b + k ≤ j ∧ j < b + 12 then z.1 62 (j - b) else z.1 x1 j) := by
      funext j
      unfold upd
      by_cases h1 : b + (k + 1) ≤ j ∧ j < b + 12
      · rw [if_pos h1, if_pos (by omega)]
      · rw [if_neg h1]
        by_cases h2 : j = b + k
        · rw [if_pos h2, if_pos (by omega), h2, Nat.add_sub_cancel_left]
        · rw [if_neg h2, if_neg (by omega)]
    rw [this]
theorem s_writeTo (d x1 b : Nat) (z : ds_St) (hK : ds_K x1 = 11) (hb : b + 14 ≤ ds_N x1) (hs : ds_N x1 < 10000) (n61 : x1 ≠ 61) (n62 : x1 ≠ 62) : ds_call (d + 2) j_Deck_writeTo [.ref 61, .ref x1, .int (nI b)] z = some (none, ds_rowI z x1 (upd (upd (fun j => if b ≤ j ∧ j < b + 12 then z.1 62 (j - b) else z.1 x1 j) (b + 12) (z.1 61 2)) (b + 13) (z.1 61 3))) := by
  rw [c_Deck_writeTo, b_Deck_writeTo_0_61]
  have h := s_writeTo_loop d x1 b hK hb hs n61 n62 12 0 z (by omega)
  rw [nI_0] at h
  rw [h]
  rfl
theorem s_readFrom_loop (d x1 b : Nat) (hK : ds_K x1 = 11) (hb : b + 14 ≤ ds_N x1) (hs : ds_N x1 < 10000) (n61 : x1 ≠ 61) (n62 : x1 ≠ 62) : ∀ (m k : Nat) (z : ds_St), k + m = 12 → ds_Rw ds_c_Deck_readFrom ds_u_Deck_readFrom (ds_call (d + 1)) 2 [some (.ref 61), some (.ref x1), some (.int (nI b)), some (.int (nI k))] [] z = some (none, ds_rowI (ds_rowI z 62 (fun j => if k ≤ j ∧ j < 12 then z.1 x1 (b + j) else z.1 62 j)) 61 (upd (upd (z.1 61) 2 (z.1 x1 (b + 12))) 3 (z.1 x1 (b + 13)))) := by
  intro m
  induction m with
  | zero =>
    intro k z hk
    have e1 : nI b + 12 = nI (b + 12) := nI_add b 12
    have e2 : nI (b + 12) + 1 = nI (b + 13) := nI_1 (b + 12)
    rw [b_Deck_readFrom_2_61, if_pos (show (12 : Int32) ≤ nI k from nI_le (a := 12) (by omega) (by omega)), e1, e2, ds_cI_t (s_look d x1 (nI (b + 12)) z hK (by omega)), ds_lookF_in (by omega) (by omega), ds_setI_row, ds_cI_t (s_look d x1 (nI (b + 13)) _ hK (by omega)), ds_lookF_in (by omega) (by omega), ds_setI_row, ds_rowI_ne _ _ n61, ds_rowI_self, ds_rowI_rowI]
    have : (fun j => if k ≤ j ∧ j < 12 then z.1 x1 (b + j) else z.1 62 j) = z.1 62 := by
      funext j
      rw [if_neg (by omega)]
    rw [this, ds_rowI_id]
  | succ m ih =>
    intro k z hk
    have e1 : nI b + nI k = nI (b + k) := nI_add b k
    rw [b_Deck_readFrom_2_61, if_neg (show ¬ (12 : Int32) ≤ nI k from nI_ge (b := 12) (by omega) (by decide)), e1, ds_cI_t (s_look d x1 (nI (b + k)) z hK (by omega)), ds_lookF_in (by omega) (by omega), ds_cV_t (s_put d 62 (nI k) _ z rfl (by decide) (ds_in_N (show k < ds_N 62 from Nat.lt_of_lt_of_le (show k < 12 by omega) (Nat.le_refl 12)) (by decide))), nI_clamp (by omega), nI_1, ih (k + 1) _ (by omega), ds_rowI_ne _ _ n62, ds_rowI_ne _ _ (show (61 : Nat) ≠ 62 by decide), ds_rowI_self, ds_rowI_rowI]
    have : (fun j => if k + 1 ≤ j ∧ j < 12 then z.1 x1 (b + j) else upd (z.1 62) k (z.1 x1 (b + k)) j) = (fun j => if k ≤ j ∧ j < 12 then z.1 x1 (b + j) else z.1 62 j) := by
      funext j
      unfold upd
      by_cases h1 : k + 1 ≤ j ∧ j < 12
      · rw [if_pos h1, if_pos (by omega)]
      · rw [if_neg h1]
        by_cases h2 : j = k
        · rw [if_pos h2, if_pos (by omega), h2]
        · rw [if_neg h2, if_neg (by omega)]
    rw [this]
theorem s_readFrom (d x1 b : Nat) (z : ds_St) (hK : ds_K x1 = 11) (hb : b + 14 ≤ ds_N x1) (hs : ds_N x1 < 10000) (n61 : x1 ≠ 61) (n62 : x1 ≠ 62) : ds_call (d + 2) j_Deck_readFrom [.ref 61, .ref x1, .int (nI b)] z = some (none, ds_rowI (ds_rowI z 62 (fun j => if 0 ≤ j ∧ j < 12 then z.1 x1 (b + j) else z.1 62 j)) 61 (upd (upd (z.1 61) 2 (z.1 x1 (b + 12))) 3 (z.1 x1 (b + 13)))) := by
  rw [c_Deck_readFrom, b_Deck_readFrom_0_61]
  have h := s_readFrom_loop d x1 b hK hb hs n61 n62 12 0 z (by omega)
  rw [nI_0] at h
  rw [h]
  rfl
