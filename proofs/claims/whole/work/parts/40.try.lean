theorem ds_in_of {i : Int32} {n : Nat} (h : ds_in i n = true) : ¬ i < 0 ∧ i.toNatClampNeg < n := by
  unfold ds_in at h
  simpa using h
theorem ds_chk_t {i : Int32} {n : Nat} {a : Option ds_Out} (h : ds_in i n = true) : ds_chk i n a = a := by unfold ds_chk; rw [h]
theorem ds_isK_t {p c : Nat} {a : Option ds_Out} (h : ds_K p = c) : ds_isK p c a = a := by
  unfold ds_isK
  subst h
  have : Nat.beq (ds_K p) (ds_K p) = true := Nat.beq_refl _
  rw [this]
theorem ds_isA_t {p : Nat} {a : Option ds_Out} (h : ds_K p = 11) : ds_isA p a = a := by
  unfold ds_isA
  rw [h]
  rfl
/-- a row's int, -1 outside of it -/
def ds_lookF (f : Nat → Int32) (n : Nat) (i : Int32) : Int32 := if ds_in i n = true then f i.toNatClampNeg else -1
theorem ds_in_iff {i : Int32} {n : Nat} (hn : n < 2 ^ 31) : ds_in i n = true ↔ ¬ i < 0 ∧ ¬ Int32.ofNat n ≤ i := by
  constructor
  · intro h
    obtain ⟨h1, h2⟩ := ds_in_of h
    refine ⟨h1, ?_⟩
    obtain ⟨j, hj, rfl⟩ := nI_of h1
    rw [nI_clamp hj] at h2
    exact nI_ge h2 hn
  · rintro ⟨h1, h2⟩
    obtain ⟨j, hj, rfl⟩ := nI_of h1
    unfold ds_in
    rw [nI_clamp hj]
    simp only [Bool.and_eq_true, Bool.not_eq_true', decide_eq_false_iff_not, decide_eq_true_eq]
    refine ⟨h1, ?_⟩
    rcases Nat.lt_or_ge j n with q | q
    · exact q
    · exact absurd (nI_le q hj) h2
theorem s_look (d p : Nat) (i : Int32) (z : ds_St) (hK : ds_K p = 11) (hN : ds_N p < 2 ^ 31) : ds_call (d + 1) j_Sea_look [.ref p, .int i] z = some (some (.int (ds_lookF (z.1 p) (ds_N p) i)), z) := by
  rw [c_Sea_look, b_Sea_look_0, ds_isA_t hK, ds_isK_t hK]
  unfold ds_lookF
  by_cases h1 : i < 0
  · have : ¬ ds_in i (ds_N p) = true := fun h => (ds_in_of h).1 h1
    simp [h1, this, ds_nn]
  · by_cases h2 : Int32.ofNat (ds_N p) ≤ i
    · have : ¬ ds_in i (ds_N p) = true := fun h => ((ds_in_iff hN).mp h).2 h2
      simp [h1, h2, this, ds_nn]
    · have h3 : ds_in i (ds_N p) = true := (ds_in_iff hN).mpr ⟨h1, h2⟩
      simp [h1, h2, h3, ds_chk_t h3, ds_nn]
