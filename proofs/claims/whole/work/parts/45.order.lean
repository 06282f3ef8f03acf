/-! the deck laid in its order, a deck taken over -/
theorem s_order_61_loop (d : Nat) : ∀ (m k : Nat) (z : ds_St), k + m = 12 → ds_Rw ds_c_Deck_order ds_u_Deck_order (ds_call d) 12 [some (.ref 61), none, some (.int (nI k))] [] z = some (none, ds_rowI z 62 (fun j => if k ≤ j ∧ j < 12 then nI j else z.1 62 j)) := by
  intro m
  induction m with
  | zero =>
    intro k z hk
    rw [b_Deck_order_12_61, if_pos (show (12 : Int32) ≤ nI k from nI_le (a := 12) (by omega) (by omega))]
    have : (fun j => if k ≤ j ∧ j < 12 then nI j else z.1 62 j) = z.1 62 := by
      funext j
      rw [if_neg (by omega)]
    rw [this, ds_rowI_id]
  | succ m ih =>
    intro k z hk
    rw [b_Deck_order_12_61, if_neg (show ¬ (12 : Int32) ≤ nI k from nI_ge (b := 12) (by omega) (by decide)), ds_chk_t ((ds_in_iff (by decide)).mpr ⟨nI_pos (by omega), nI_ge (show k < 12 by omega) (by decide)⟩), nI_clamp (by omega), nI_1, ds_setI_row, ih (k + 1) _ (by omega), ds_rowI_self, ds_rowI_rowI]
    have : (fun j => if k + 1 ≤ j ∧ j < 12 then nI j else upd (z.1 62) k (nI k) j) = (fun j => if k ≤ j ∧ j < 12 then nI j else z.1 62 j) := by
      funext j
      unfold upd
      by_cases h1 : k + 1 ≤ j ∧ j < 12
      · rw [if_pos h1, if_pos (by omega)]
      · rw [if_neg h1]
        by_cases h2 : j = k
        · rw [if_pos h2, if_pos (by omega), h2]
        · rw [if_neg h2, if_neg (by omega)]
    rw [this]
theorem s_order_61 (d : Nat) (x : Int32) (z : ds_St) : ds_call (d + 1) j_Deck_order [.ref 61, .int x] z = some (none, ds_rowI (ds_rowI z 61 (upd (upd (z.1 61) 2 x) 3 (-1))) 62 (fun j => if j < 12 then nI j else z.1 62 j)) := by
  rw [c_Deck_order, b_Deck_order_0_61, ds_setI_row, ds_setI_row, ds_rowI_rowI, ds_rowI_self]
  have h := s_order_61_loop d 12 0 (ds_rowI z 61 (upd (upd (z.1 61) 2 x) 3 (-1))) (by omega)
  rw [nI_0] at h
  rw [h, ds_rowI_ne _ _ (by decide)]
  have : (fun j => if 0 ≤ j ∧ j < 12 then nI j else z.1 62 j) = (fun j => if j < 12 then nI j else z.1 62 j) := by
    funext j
    simp
  rw [this]
  rfl
theorem s_order_64_loop (d : Nat) : ∀ (m k : Nat) (z : ds_St), k + m = 12 → ds_Rw ds_c_Deck_order ds_u_Deck_order (ds_call d) 12 [some (.ref 64), none, some (.int (nI k))] [] z = some (none, ds_rowI z 65 (fun j => if k ≤ j ∧ j < 12 then nI j else z.1 65 j)) := by
  intro m
  induction m with
  | zero =>
    intro k z hk
    rw [b_Deck_order_12_64, if_pos (show (12 : Int32) ≤ nI k from nI_le (a := 12) (by omega) (by omega))]
    have : (fun j => if k ≤ j ∧ j < 12 then nI j else z.1 65 j) = z.1 65 := by
      funext j
      rw [if_neg (by omega)]
    rw [this, ds_rowI_id]
  | succ m ih =>
    intro k z hk
    rw [b_Deck_order_12_64, if_neg (show ¬ (12 : Int32) ≤ nI k from nI_ge (b := 12) (by omega) (by decide)), ds_chk_t ((ds_in_iff (by decide)).mpr ⟨nI_pos (by omega), nI_ge (show k < 12 by omega) (by decide)⟩), nI_clamp (by omega), nI_1, ds_setI_row, ih (k + 1) _ (by omega), ds_rowI_self, ds_rowI_rowI]
    have : (fun j => if k + 1 ≤ j ∧ j < 12 then nI j else upd (z.1 65) k (nI k) j) = (fun j => if k ≤ j ∧ j < 12 then nI j else z.1 65 j) := by
      funext j
      unfold upd
      by_cases h1 : k + 1 ≤ j ∧ j < 12
      · rw [if_pos h1, if_pos (by omega)]
      · rw [if_neg h1]
        by_cases h2 : j = k
        · rw [if_pos h2, if_pos (by omega), h2]
        · rw [if_neg h2, if_neg (by omega)]
    rw [this]
theorem s_order_64 (d : Nat) (x : Int32) (z : ds_St) : ds_call (d + 1) j_Deck_order [.ref 64, .int x] z = some (none, ds_rowI (ds_rowI z 64 (upd (upd (z.1 64) 2 x) 3 (-1))) 65 (fun j => if j < 12 then nI j else z.1 65 j)) := by
  rw [c_Deck_order, b_Deck_order_0_64, ds_setI_row, ds_setI_row, ds_rowI_rowI, ds_rowI_self]
  have h := s_order_64_loop d 12 0 (ds_rowI z 64 (upd (upd (z.1 64) 2 x) 3 (-1))) (by omega)
  rw [nI_0] at h
  rw [h, ds_rowI_ne _ _ (by decide)]
  have : (fun j => if 0 ≤ j ∧ j < 12 then nI j else z.1 65 j) = (fun j => if j < 12 then nI j else z.1 65 j) := by
    funext j
    simp
  rw [this]
  rfl
theorem s_take (d : Nat) (z : ds_St) : ds_call (d + 1) j_Deck_take [.ref 64, .ref 61] z = some (none, ds_rowI (ds_rowI z 65 (va_cpy (z.1 62) (z.1 65) 0 0 12)) 64 (upd (upd (z.1 64) 2 (z.1 61 2)) 3 (z.1 61 3))) := by
  rw [c_Deck_take, b_Deck_take_0, ds_setI_row, ds_setI_row, ds_rowI_rowI, ds_rowI_self, ds_rowI_ne _ _ (by decide)]
  rfl
