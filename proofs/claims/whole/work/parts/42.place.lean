/-! where a card lies: the first place that holds it -/
def ds_fnd (f : Nat → Int32) (i : Int32) : Nat → Nat → Option Nat
  | _, 0 => none
  | p, m + 1 => if f p = i then some p else ds_fnd f i (p + 1) m
theorem ds_K62 : ds_K 62 = 11 := rfl
theorem ds_K65 : ds_K 65 = 11 := rfl
theorem ds_lookF_in {f : Nat → Int32} {n p : Nat} (h : p < n) (hn : n < 2 ^ 31) : ds_lookF f n (nI p) = f p := by
  have h1 : ds_in (nI p) n = true := (ds_in_iff hn).mpr ⟨nI_pos (by omega), nI_ge h hn⟩
  unfold ds_lookF
  rw [if_pos h1, nI_clamp (by omega)]
def ds_pos (o : Option Nat) (v : Int32) : Int32 := match o with
  | some p => nI p
  | none => v
theorem s_placeOf_61_loop (d n : Nat) (i : Int32) (z : ds_St) (hn : z.1 61 2 = nI n) (h12 : n ≤ 12) : ∀ m p, p + m = n → ds_Rw ds_c_Deck_placeOf ds_u_Deck_placeOf (ds_call (d + 1)) 2 [some (.ref 61), some (.int i), some (.int (nI p))] [] z = some (some (.int (ds_pos (ds_fnd (z.1 62) i p m) (-1))), z) := by
  intro m
  induction m with
  | zero =>
    intro p hp
    rw [b_Deck_placeOf_2_61, hn, if_pos (nI_le (by omega) (by omega))]
    rfl
  | succ m ih =>
    intro p hp
    rw [b_Deck_placeOf_2_61, hn, if_neg (nI_ge (by omega) (by omega)), ds_cI_t (s_look d 62 (nI p) z ds_K62 (by decide)), ds_lookF_in (show p < ds_N 62 from Nat.lt_of_lt_of_le (show p < 12 by omega) (Nat.le_refl 12)) (by decide)]
    by_cases h : z.1 62 p = i
    · rw [if_neg (fun q => q h)]
      simp only [ds_fnd, h, if_true]
      rfl
    · rw [if_pos h, nI_1, ih (p + 1) (by omega)]
      simp only [ds_fnd, h, if_false]
theorem s_placeOf_61 (d n : Nat) (i : Int32) (z : ds_St) (hn : z.1 61 2 = nI n) (h12 : n ≤ 12) : ds_call (d + 2) j_Deck_placeOf [.ref 61, .int i] z = some (some (.int (ds_pos (ds_fnd (z.1 62) i 0 n) (-1))), z) := by
  rw [c_Deck_placeOf, b_Deck_placeOf_0_61]
  have := s_placeOf_61_loop d n i z hn h12 n 0 (by omega)
  rw [nI_0] at this
  rw [this]
  rfl
theorem s_placeOf_64_loop (d n : Nat) (i : Int32) (z : ds_St) (hn : z.1 64 2 = nI n) (h12 : n ≤ 12) : ∀ m p, p + m = n → ds_Rw ds_c_Deck_placeOf ds_u_Deck_placeOf (ds_call (d + 1)) 2 [some (.ref 64), some (.int i), some (.int (nI p))] [] z = some (some (.int (ds_pos (ds_fnd (z.1 65) i p m) (-1))), z) := by
  intro m
  induction m with
  | zero =>
    intro p hp
    rw [b_Deck_placeOf_2_64, hn, if_pos (nI_le (by omega) (by omega))]
    rfl
  | succ m ih =>
    intro p hp
    rw [b_Deck_placeOf_2_64, hn, if_neg (nI_ge (by omega) (by omega)), ds_cI_t (s_look d 65 (nI p) z ds_K65 (by decide)), ds_lookF_in (show p < ds_N 65 from Nat.lt_of_lt_of_le (show p < 12 by omega) (Nat.le_refl 12)) (by decide)]
    by_cases h : z.1 65 p = i
    · rw [if_neg (fun q => q h)]
      simp only [ds_fnd, h, if_true]
      rfl
    · rw [if_pos h, nI_1, ih (p + 1) (by omega)]
      simp only [ds_fnd, h, if_false]
theorem s_placeOf_64 (d n : Nat) (i : Int32) (z : ds_St) (hn : z.1 64 2 = nI n) (h12 : n ≤ 12) : ds_call (d + 2) j_Deck_placeOf [.ref 64, .int i] z = some (some (.int (ds_pos (ds_fnd (z.1 65) i 0 n) (-1))), z) := by
  rw [c_Deck_placeOf, b_Deck_placeOf_0_64]
  have := s_placeOf_64_loop d n i z hn h12 n 0 (by omega)
  rw [nI_0] at this
  rw [this]
  rfl
theorem s_placeIn_loop (d n x0 : Nat) (i : Int32) (z : ds_St) (hK : ds_K x0 = 11) (hN : ds_N x0 = 14) (hn : z.1 x0 12 = nI n) (h12 : n ≤ 12) : ∀ m p, p + m = n → ds_Rw ds_c_Mod_placeIn ds_u_Mod_placeIn (ds_call d) 2 [some (.ref x0), some (.int i), some (.int (nI p))] [] z = some (some (.int (ds_pos (ds_fnd (z.1 x0) i p m) (-2))), z) := by
  intro m
  induction m with
  | zero =>
    intro p hp
    rw [b_Mod_placeIn_2, ds_isK_t hK, ds_chk_t (by rw [hN]; decide), hn, if_pos (nI_le (by omega) (by omega))]
    rfl
  | succ m ih =>
    intro p hp
    rw [b_Mod_placeIn_2, ds_isK_t hK, ds_chk_t (by rw [hN]; decide), hn, if_neg (nI_ge (by omega) (by omega)), ds_isK_t hK, ds_chk_t ((ds_in_iff (by rw [hN]; decide)).mpr ⟨nI_pos (by omega), by rw [hN]; exact nI_ge (show p < 14 by omega) (by decide)⟩), nI_clamp (by omega)]
    by_cases h : z.1 x0 p = i
    · rw [if_neg (fun q => q h)]
      simp only [ds_fnd, h, if_true]
      rfl
    · rw [if_pos h, nI_1, ih (p + 1) (by omega)]
      simp only [ds_fnd, h, if_false]
theorem s_placeIn (d n x0 : Nat) (i : Int32) (z : ds_St) (hK : ds_K x0 = 11) (hN : ds_N x0 = 14) (hn : z.1 x0 12 = nI n) (h12 : n ≤ 12) : ds_call (d + 1) j_Mod_placeIn [.ref x0, .int i] z = some (some (.int (ds_pos (ds_fnd (z.1 x0) i 0 n) (-2))), z) := by
  rw [c_Mod_placeIn, b_Mod_placeIn_0]
  have := s_placeIn_loop d n x0 i z hK hN hn h12 n 0 (by omega)
  rw [nI_0] at this
  rw [this]
  rfl
