/-! rows of a state -/
theorem ds_setI_row (z : ds_St) (p k : Nat) (v : Int32) : ds_setI z p k v = ds_rowI z p (upd (z.1 p) k v) := rfl
theorem ds_setL_row (z : ds_St) (p k : Nat) (v : Int64) : ds_setL z p k v = ds_rowL z p (vp_updL (z.2.1 p) k v) := rfl
theorem ds_rowI_self (z : ds_St) (p : Nat) (f : Nat → Int32) : (ds_rowI z p f).1 p = f := by simp [ds_rowI]
theorem ds_rowI_ne (z : ds_St) {p q : Nat} (f : Nat → Int32) (h : q ≠ p) : (ds_rowI z p f).1 q = z.1 q := by simp [ds_rowI, h]
theorem ds_rowI_2 (z : ds_St) (p : Nat) (f : Nat → Int32) : (ds_rowI z p f).2 = z.2 := rfl
theorem ds_rowI_rowI (z : ds_St) (p : Nat) (f g : Nat → Int32) : ds_rowI (ds_rowI z p f) p g = ds_rowI z p g := by
  unfold ds_rowI
  refine Prod.ext ?_ rfl
  funext q
  by_cases h : q = p <;> simp [h]
theorem ds_rowI_comm (z : ds_St) {p q : Nat} (f g : Nat → Int32) (h : p ≠ q) : ds_rowI (ds_rowI z p f) q g = ds_rowI (ds_rowI z q g) p f := by
  unfold ds_rowI
  refine Prod.ext ?_ rfl
  funext r
  by_cases h1 : r = p
  · subst h1; simp [h]
  · by_cases h2 : r = q
    · subst h2; simp [h1]
    · simp [h1, h2]
theorem ds_rowI_id (z : ds_St) (p : Nat) : ds_rowI z p (z.1 p) = z := by
  unfold ds_rowI
  refine Prod.ext ?_ rfl
  funext q
  by_cases h : q = p <;> simp [h]
theorem s_put (d p : Nat) (i v : Int32) (z : ds_St) (hK : ds_K p = 11) (hN : ds_N p < 2 ^ 31) (hi : ds_in i (ds_N p) = true) : ds_call (d + 1) j_Sea_put [.ref p, .int i, .int v] z = some (none, ds_rowI z p (upd (z.1 p) i.toNatClampNeg v)) := by
  obtain ⟨h1, h2⟩ := (ds_in_iff hN).mp hi
  rw [c_Sea_put, b_Sea_put_0, ds_isA_t hK, ds_isK_t hK, if_neg h1, if_neg h2, ds_chk_t hi]
  rfl
theorem s_put_out (d p : Nat) (i v : Int32) (z : ds_St) (hK : ds_K p = 11) (hN : ds_N p < 2 ^ 31) (hi : ¬ ds_in i (ds_N p) = true) : ds_call (d + 1) j_Sea_put [.ref p, .int i, .int v] z = some (none, z) := by
  rw [c_Sea_put, b_Sea_put_0, ds_isA_t hK, ds_isK_t hK]
  by_cases h1 : i < 0
  · rw [if_pos h1]; rfl
  · by_cases h2 : Int32.ofNat (ds_N p) ≤ i
    · rw [if_neg h1, if_pos h2]; rfl
    · exact absurd ((ds_in_iff hN).mpr ⟨h1, h2⟩) hi
theorem s_movesOf (d n : Nat) (z : ds_St) (hn : n < 1000) : ds_call (d + 1) j_Sea_movesOf [.int (nI n)] z = some (some (.int (nI (if n = 0 then 0 else n + 2))), z) := by
  rw [c_Sea_movesOf, b_Sea_movesOf_0]
  by_cases h : n = 0
  · subst h
    rw [nI_0, if_pos (by decide)]
    rfl
  · rw [if_neg (nI_nle (by omega) (by omega)), if_neg h]
    show (some (some (Value.int (2 + nI n)), z) : Option ds_Out) = _
    rw [show (2 : Int32) = nI 2 from rfl, nI_add, Nat.add_comm]
theorem s_mmovesOf (d n x1 : Nat) (z : ds_St) (hK : ds_K x1 = 11) (hN : ds_N x1 = 14) (hn : z.1 x1 12 = nI n) : ds_call (d + 1) j_Mod_movesOf [.ref 90, .ref x1] z = some (some (.int (nI (n + 2))), z) := by
  rw [c_Mod_movesOf, b_Mod_movesOf_0, ds_isK_t hK, ds_chk_t (by rw [hN]; decide), hn, show (2 : Int32) = nI 2 from rfl, nI_add]
  rfl
/-- the model's copy, from the k-th on: what is copied stands apart -/
def ds_cpF (f g : Nat → Int32) (a b : Nat) : Nat → Nat → (Nat → Int32)
  | _, 0 => g
  | k, m + 1 => ds_cpF f (upd g (b + k) (f (a + k))) a b (k + 1) m
theorem s_copy_loop (d x0 x2 a b n : Nat) (hK0 : ds_K x0 = 11) (hK2 : ds_K x2 = 11) (hne : x0 ≠ x2) (ha : a + n ≤ ds_N x0) (hb : b + n ≤ ds_N x2) (hs : ds_N x0 < 10000 ∧ ds_N x2 < 10000) : ∀ (m k : Nat) (z : ds_St), k + m = n → ds_Rw ds_c_Mod_copy ds_u_Mod_copy (ds_call d) 3 [some (.ref x0), some (.int (nI a)), some (.ref x2), some (.int (nI b)), some (.int (nI n)), some (.int (nI k))] [] z = some (none, ds_rowI z x2 (ds_cpF (z.1 x0) (z.1 x2) a b k m)) := by
  intro m
  induction m with
  | zero =>
    intro k z hk
    rw [b_Mod_copy_3, if_pos (nI_le (by omega) (by omega))]
    simp only [ds_cpF]
    rw [ds_rowI_id]
  | succ m ih =>
    intro k z hk
    have e1 : nI a + nI k = nI (a + k) := nI_add a k
    have e2 : nI b + nI k = nI (b + k) := nI_add b k
    have i1 : ds_in (nI (a + k)) (ds_N x0) = true := (ds_in_iff (by omega)).mpr ⟨nI_pos (by omega), nI_ge (by omega) (by omega)⟩
    have i2 : ds_in (nI (b + k)) (ds_N x2) = true := (ds_in_iff (by omega)).mpr ⟨nI_pos (by omega), nI_ge (by omega) (by omega)⟩
    rw [b_Mod_copy_3, if_neg (nI_ge (by omega) (by omega)), ds_isK_t hK0, e1, e2, ds_chk_t i1, ds_isK_t hK2, ds_chk_t i2, nI_clamp (by omega), nI_clamp (by omega), nI_1, ds_setI_row, ih (k + 1) _ (by omega)]
    rw [ds_rowI_ne _ _ hne, ds_rowI_self, ds_rowI_rowI]
    rfl
theorem s_copy (d x0 x2 a b n : Nat) (z : ds_St) (hK0 : ds_K x0 = 11) (hK2 : ds_K x2 = 11) (hne : x0 ≠ x2) (ha : a + n ≤ ds_N x0) (hb : b + n ≤ ds_N x2) (hs : ds_N x0 < 10000 ∧ ds_N x2 < 10000) : ds_call (d + 1) j_Mod_copy [.ref x0, .int (nI a), .ref x2, .int (nI b), .int (nI n)] z = some (none, ds_rowI z x2 (ds_cpF (z.1 x0) (z.1 x2) a b 0 n)) := by
  rw [c_Mod_copy, b_Mod_copy_0]
  have := s_copy_loop d x0 x2 a b n hK0 hK2 hne ha hb hs n 0 z (by omega)
  rw [nI_0] at this
  rw [this]
  rfl
theorem ds_cpF_at (f : Nat → Int32) (a b : Nat) : ∀ (m k : Nat) (g : Nat → Int32) (j : Nat), ds_cpF f g a b k m j = if b + k ≤ j ∧ j < b + k + m then f (a + (j - b)) else g j := by
  intro m
  induction m with
  | zero => intro k g j; simp only [ds_cpF]; rw [if_neg (by omega)]
  | succ m ih =>
    intro k g j
    simp only [ds_cpF]
    rw [ih]
    by_cases h1 : b + (k + 1) ≤ j ∧ j < b + (k + 1) + m
    · rw [if_pos h1, if_pos (by omega)]
    · rw [if_neg h1]
      unfold upd
      by_cases h2 : j = b + k
      · rw [if_pos h2, if_pos (by omega)]
        congr 1
        omega
      · rw [if_neg h2, if_neg (by omega)]
