/-! a move made: class and model -/
def ds_mkF (f : Nat → Int32) (a n : Nat) : (Nat → Int32) → Nat → Nat → (Nat → Int32)
  | g, _, 0 => g
  | g, k, m + 1 => ds_mkF f a n (upd g (ds_mv a k n) (f k)) (k + 1) m
theorem ds_mkF_congr {f f' : Nat → Int32} {a n : Nat} : ∀ (m k : Nat) (g : Nat → Int32), (∀ j, k ≤ j → j < k + m → f j = f' j) → ds_mkF f a n g k m = ds_mkF f' a n g k m := by
  intro m
  induction m with
  | zero => intro k g _; rfl
  | succ m ih =>
    intro k g h
    simp only [ds_mkF]
    rw [h k (Nat.le_refl k) (by omega)]
    exact ih (k + 1) _ (fun j h1 h2 => h j (by omega) (by omega))
theorem ds_mkF_out {f : Nat → Int32} {a n : Nat} (ha : a < 14) (hn : n < 13) : ∀ (m k : Nat) (g : Nat → Int32) (j : Nat), k + m ≤ n → n ≤ j → ds_mkF f a n g k m j = g j := by
  intro m
  induction m with
  | zero => intro k g j _ _; rfl
  | succ m ih =>
    intro k g j hk hj
    simp only [ds_mkF]
    rw [ih (k + 1) _ j (by omega) hj]
    have h1 := (ds_gF_all a ha n hn k (by omega)).2
    unfold upd
    rw [if_neg (by omega)]
theorem s_makeMove_61_loop (d a n : Nat) (ha : a < 14) (hn13 : n < 13) : ∀ (m k : Nat) (z : ds_St), k + m = n → z.1 61 2 = nI n → ds_Rw ds_c_Deck_makeMove ds_u_Deck_makeMove (ds_call (d + 2)) 17 [some (.ref 61), some (.int (nI a)), some (.int (nI k))] [] z = some (none, ds_rowI z 62 (ds_mkF (z.1 63) a n (z.1 62) k m)) := by
  intro m
  induction m with
  | zero =>
    intro k z hk hn
    rw [b_Deck_makeMove_17_61, hn, if_pos (nI_le (by omega) (by omega))]
    simp only [ds_mkF]
    rw [ds_rowI_id]
  | succ m ih =>
    intro k z hk hn
    have hmv := (ds_gF_all a ha n hn13 k (by omega)).2
    rw [b_Deck_makeMove_17_61, hn, if_neg (nI_ge (by omega) (by omega)), ds_cI_t (s_goesTo d a k n z ha hn13 (by omega)), ds_cI_t (s_look (d + 1) 63 (nI k) z rfl (by decide)), ds_lookF_in (show k < ds_N 63 from Nat.lt_of_lt_of_le (show k < 12 by omega) (Nat.le_refl 12)) (by decide),
      ds_cV_t (s_put (d + 1) 62 (nI (ds_mv a k n)) (z.1 63 k) z rfl (by decide) ((ds_in_iff (by decide)).mpr ⟨nI_pos (by omega), nI_ge (show ds_mv a k n < ds_N 62 from Nat.lt_of_lt_of_le (show ds_mv a k n < 12 by omega) (Nat.le_refl 12)) (by decide)⟩)), nI_clamp (by omega), nI_1]
    rw [ih (k + 1) _ (by omega) (by rw [ds_rowI_ne _ _ (by decide)]; exact hn), ds_rowI_ne _ _ (by decide), ds_rowI_self, ds_rowI_rowI]
    rfl
theorem s_makeMove_61 (d a n : Nat) (z : ds_St) (ha : a < 14) (hn13 : n < 13) (hn : z.1 61 2 = nI n) : ds_call (d + 3) j_Deck_makeMove [.ref 61, .int (nI a)] z = some (none, ds_rowI (ds_rowI z 63 (va_cpy (z.1 62) (z.1 63) 0 0 12)) 62 (ds_mkF (z.1 62) a n (z.1 62) 0 n)) := by
  rw [c_Deck_makeMove, b_Deck_makeMove_0_61]
  have h := s_makeMove_61_loop d a n ha hn13 n 0 (ds_rowI z 63 (va_cpy (z.1 62) (z.1 63) 0 0 12)) (by omega) (by rw [ds_rowI_ne _ _ (by decide)]; exact hn)
  rw [nI_0] at h
  rw [h, ds_rowI_self, ds_rowI_ne _ _ (by decide), ds_mkF_congr (f' := z.1 62) n 0 _ (fun j h1 h2 => by unfold va_cpy; rw [if_pos (by omega), Nat.zero_add, Nat.sub_zero])]
  rfl
theorem s_makeMove_64_loop (d a n : Nat) (ha : a < 14) (hn13 : n < 13) : ∀ (m k : Nat) (z : ds_St), k + m = n → z.1 64 2 = nI n → ds_Rw ds_c_Deck_makeMove ds_u_Deck_makeMove (ds_call (d + 2)) 17 [some (.ref 64), some (.int (nI a)), some (.int (nI k))] [] z = some (none, ds_rowI z 65 (ds_mkF (z.1 66) a n (z.1 65) k m)) := by
  intro m
  induction m with
  | zero =>
    intro k z hk hn
    rw [b_Deck_makeMove_17_64, hn, if_pos (nI_le (by omega) (by omega))]
    simp only [ds_mkF]
    rw [ds_rowI_id]
  | succ m ih =>
    intro k z hk hn
    have hmv := (ds_gF_all a ha n hn13 k (by omega)).2
    rw [b_Deck_makeMove_17_64, hn, if_neg (nI_ge (by omega) (by omega)), ds_cI_t (s_goesTo d a k n z ha hn13 (by omega)), ds_cI_t (s_look (d + 1) 66 (nI k) z rfl (by decide)), ds_lookF_in (show k < ds_N 66 from Nat.lt_of_lt_of_le (show k < 12 by omega) (Nat.le_refl 12)) (by decide),
      ds_cV_t (s_put (d + 1) 65 (nI (ds_mv a k n)) (z.1 66 k) z rfl (by decide) ((ds_in_iff (by decide)).mpr ⟨nI_pos (by omega), nI_ge (show ds_mv a k n < ds_N 65 from Nat.lt_of_lt_of_le (show ds_mv a k n < 12 by omega) (Nat.le_refl 12)) (by decide)⟩)), nI_clamp (by omega), nI_1]
    rw [ih (k + 1) _ (by omega) (by rw [ds_rowI_ne _ _ (by decide)]; exact hn), ds_rowI_ne _ _ (by decide), ds_rowI_self, ds_rowI_rowI]
    rfl
theorem s_makeMove_64 (d a n : Nat) (z : ds_St) (ha : a < 14) (hn13 : n < 13) (hn : z.1 64 2 = nI n) : ds_call (d + 3) j_Deck_makeMove [.ref 64, .int (nI a)] z = some (none, ds_rowI (ds_rowI z 66 (va_cpy (z.1 65) (z.1 66) 0 0 12)) 65 (ds_mkF (z.1 65) a n (z.1 65) 0 n)) := by
  rw [c_Deck_makeMove, b_Deck_makeMove_0_64]
  have h := s_makeMove_64_loop d a n ha hn13 n 0 (ds_rowI z 66 (va_cpy (z.1 65) (z.1 66) 0 0 12)) (by omega) (by rw [ds_rowI_ne _ _ (by decide)]; exact hn)
  rw [nI_0] at h
  rw [h, ds_rowI_self, ds_rowI_ne _ _ (by decide), ds_mkF_congr (f' := z.1 65) n 0 _ (fun j h1 h2 => by unfold va_cpy; rw [if_pos (by omega), Nat.zero_add, Nat.sub_zero])]
  rfl
theorem s_makes_loop (d a n x1 : Nat) (hK : ds_K x1 = 11) (hN : ds_N x1 = 14) (h98 : x1 ≠ 98) (ha : a < 14) (hn13 : n < 13) : ∀ (m k : Nat) (z : ds_St), k + m = n → z.1 x1 12 = nI n → ds_Rw ds_c_Mod_makes ds_u_Mod_makes (ds_call (d + 1)) 14 [some (.ref 90), some (.ref x1), some (.int (nI a)), some (.int (nI k))] [] z = some (none, ds_rowI z x1 (ds_mkF (z.1 98) a n (z.1 x1) k m)) := by
  intro m
  induction m with
  | zero =>
    intro k z hk hn
    rw [b_Mod_makes_14, ds_isK_t hK, ds_chk_t (by rw [hN]; decide), hn, if_pos (nI_le (by omega) (by omega))]
    simp only [ds_mkF]
    rw [ds_rowI_id]
  | succ m ih =>
    intro k z hk hn
    have hmv := (ds_gF_all a ha n hn13 k (by omega)).2
    have i1 : ds_in (nI k) 14 = true := (ds_in_iff (by decide)).mpr ⟨nI_pos (by omega), nI_ge (show k < 14 by omega) (by decide)⟩
    have i2 : ds_in (nI (ds_mv a k n)) (ds_N x1) = true := by rw [hN]; exact (ds_in_iff (by decide)).mpr ⟨nI_pos (by omega), nI_ge (show ds_mv a k n < 14 by omega) (by decide)⟩
    rw [b_Mod_makes_14, ds_isK_t hK, ds_chk_t (by rw [hN]; decide), hn, if_neg (nI_ge (by omega) (by omega)), ds_isK_t hK, ds_chk_t (by rw [hN]; decide), ds_cI_t (s_mgoesTo d a k n z ha hn13 (by omega)), ds_chk_t i1, ds_isK_t hK, ds_chk_t i2, nI_clamp (by omega), nI_clamp (by omega), nI_1, ds_setI_row]
    have h12 : (ds_rowI z x1 (upd (z.1 x1) (ds_mv a k n) (z.1 98 k))).1 x1 12 = nI n := by
      rw [ds_rowI_self]
      unfold upd
      rw [if_neg (by omega)]
      exact hn
    rw [ih (k + 1) _ (by omega) h12, ds_rowI_ne _ _ (fun h => h98 h.symm), ds_rowI_self, ds_rowI_rowI]
    rfl
theorem s_makes (d a n x1 : Nat) (z : ds_St) (hK : ds_K x1 = 11) (hN : ds_N x1 = 14) (h98 : x1 ≠ 98) (ha : a < 14) (hn13 : n < 13) (hn : z.1 x1 12 = nI n) : ds_call (d + 2) j_Mod_makes [.ref 90, .ref x1, .int (nI a)] z = some (none, ds_rowI (ds_rowI z 98 (ds_cpF (z.1 x1) (z.1 98) 0 0 0 14)) x1 (ds_mkF (z.1 x1) a n (z.1 x1) 0 n)) := by
  rw [c_Mod_makes, b_Mod_makes_0]
  have hc := s_copy d x1 98 0 0 14 z hK rfl h98 (by rw [hN]; decide) (by decide) (by rw [hN]; decide)
  rw [nI_0, show nI 14 = 14 from rfl] at hc
  rw [ds_cV_t hc]
  have h := s_makes_loop d a n x1 hK hN h98 ha hn13 n 0 (ds_rowI z 98 (ds_cpF (z.1 x1) (z.1 98) 0 0 0 14)) (by omega) (by rw [ds_rowI_ne _ _ h98]; exact hn)
  rw [nI_0] at h
  rw [h, ds_rowI_self, ds_rowI_ne _ _ h98, ds_mkF_congr (f' := z.1 x1) n 0 _ (fun j h1 h2 => by rw [ds_cpF_at, if_pos (by omega), Nat.zero_add, Nat.sub_zero])]
  rfl
