/-! where a move brings a card: both sides -/
theorem ds_cI_t {cl : Nat → List Value → ds_St → Option ds_Out} {j : Nat} {as : List Value} {z z1 : ds_St} {r : Int32} {f : Int32 → ds_St → Option ds_Out} (h : cl j as z = some (some (.int r), z1)) : ds_cI cl j as z f = f r z1 := by unfold ds_cI; rw [h]
theorem ds_cL_t {cl : Nat → List Value → ds_St → Option ds_Out} {j : Nat} {as : List Value} {z z1 : ds_St} {r : Int64} {f : Int64 → ds_St → Option ds_Out} (h : cl j as z = some (some (.long r), z1)) : ds_cL cl j as z f = f r z1 := by unfold ds_cL; rw [h]
theorem ds_cR_t {cl : Nat → List Value → ds_St → Option ds_Out} {j : Nat} {as : List Value} {z z1 : ds_St} {r : Nat} {f : Nat → ds_St → Option ds_Out} (h : cl j as z = some (some (.ref r), z1)) : ds_cR cl j as z f = f r z1 := by unfold ds_cR; rw [h]
theorem ds_cV_t {cl : Nat → List Value → ds_St → Option ds_Out} {j : Nat} {as : List Value} {z z1 : ds_St} {f : ds_St → Option ds_Out} (h : cl j as z = some (none, z1)) : ds_cV cl j as z f = f z1 := by unfold ds_cV; rw [h]
theorem ds_nz_t {y : Int32} {a : Option ds_Out} (h : ¬ y = 0) : ds_nz y a = a := by
  unfold ds_nz
  have : decide (y = 0) = false := decide_eq_false h
  rw [this]
theorem ds_isB_t {v : Int32} {a : Option ds_Out} (h : v = 0 ∨ v = 1) : ds_isB v a = a := by
  unfold ds_isB
  have : (decide (v = 0) || decide (v = 1)) = true := by simpa using h
  rw [this]
def ds_fmod (x y : Int32) : Int32 := if 0 ≤ (x ^^^ y) then x - x / y * y else if (x - x / y * y) = 0 then x - x / y * y else (x - x / y * y) + y
theorem s_floorMod (d : Nat) (x y : Int32) (z : ds_St) (hy : ¬ y = 0) : ds_call (d + 1) j_Math_floorMod [.int x, .int y] z = some (some (.int (ds_fmod x y)), z) := by
  rw [c_Math_floorMod, b_Math_floorMod_0, ds_nz_t hy]
  unfold ds_fmod
  by_cases h1 : 0 ≤ (x ^^^ y)
  · simp only [h1, if_true]; rfl
  · by_cases h2 : (x - x / y * y) = 0
    · simp only [h1, h2, if_true, if_false]; rfl
    · simp only [h1, h2, if_false]; rfl
def ds_gF (x0 x1 x2 : Int32) : Int32 := if ¬ x0 = 0 then (if ¬ x0 = 1 then (if x0 = 2 then (x2 - 1) - x1 else if 1 ≤ x2 then ds_fmod (x1 - (x0 - 2)) x2 else (x2 - 1) - x1) else if (x2 / 2) ≤ x1 then 2 * (x1 - (x2 / 2)) else (2 * x1) + 1) else if ((x2 + 1) / 2) ≤ x1 then (2 * (x1 - ((x2 + 1) / 2))) + 1 else 2 * x1
theorem s_goesTo0 (d : Nat) (x0 x1 x2 : Int32) (z : ds_St) : ds_call (d + 2) j_Sea_goesTo [.int x0, .int x1, .int x2] z = some (some (.int (ds_gF x0 x1 x2)), z) := by
  rw [c_Sea_goesTo, b_Sea_goesTo_0]
  unfold ds_gF
  by_cases h0 : x0 = 0
  · by_cases h1 : ((x2 + 1) / 2) ≤ x1
    · simp only [h0, h1, not_true_eq_false, if_true, if_false]; rfl
    · simp only [h0, h1, not_true_eq_false, if_true, if_false]; rfl
  · by_cases h1 : x0 = 1
    · by_cases h2 : (x2 / 2) ≤ x1
      · simp only [h0, h1, h2, not_true_eq_false, not_false_eq_true, if_true, if_false]; rfl
      · simp only [h0, h1, h2, not_true_eq_false, not_false_eq_true, if_true, if_false]; rfl
    · by_cases h2 : x0 = 2
      · simp only [h0, h1, h2, not_true_eq_false, not_false_eq_true, if_true, if_false]; rfl
      · by_cases h3 : 1 ≤ x2
        · have hy : ¬ x2 = 0 := fun h => by rw [h] at h3; exact absurd h3 (by decide)
          simp only [h0, h1, h2, h3, not_true_eq_false, not_false_eq_true, if_true, if_false]
          rw [ds_cI_t (s_floorMod d _ _ z hy)]
          rfl
        · simp only [h0, h1, h2, h3, not_true_eq_false, not_false_eq_true, if_true, if_false]; rfl
/-- the place behind a move -/
def ds_mv (a b c : Nat) : Nat := if a = 0 then (if b < (c + 1) / 2 then 2 * b else 2 * (b - (c + 1) / 2) + 1) else if a = 1 then (if b < c / 2 then 2 * b + 1 else 2 * (b - c / 2)) else if a = 2 then c - 1 - b else (b + 13 * c - (a - 2)) % c
theorem ds_gF_all : ∀ a, a < 14 → ∀ c, c < 13 → ∀ b, b < c → ds_gF (nI a) (nI b) (nI c) = nI (ds_mv a b c) ∧ ds_mv a b c < c := by decide +kernel
theorem s_goesTo (d a b c : Nat) (z : ds_St) (ha : a < 14) (hc : c < 13) (hb : b < c) : ds_call (d + 2) j_Sea_goesTo [.int (nI a), .int (nI b), .int (nI c)] z = some (some (.int (nI (ds_mv a b c))), z) := by
  rw [s_goesTo0, (ds_gF_all a ha c hc b hb).1]
def ds_gM (x0 x1 x2 : Int32) : Int32 := if ¬ x0 = 2 then (if x0 ≤ 2 then (if ((if ¬ x0 = 0 then x2 / 2 else (x2 + 1) / 2)) ≤ x1 then ((2 * (x1 - (if ¬ x0 = 0 then x2 / 2 else (x2 + 1) / 2))) + 1) - (if ¬ x0 = 0 then 1 else 0) else (2 * x1) + (if ¬ x0 = 0 then 1 else 0)) else ((x1 + (13 * x2)) - (x0 - 2)) - ((x1 + (13 * x2)) - (x0 - 2)) / x2 * x2) else (x2 - 1) - x1
theorem s_mgoesTo0 (d : Nat) (x0 x1 x2 : Int32) (z : ds_St) (hx : ¬ x2 = 0) : ds_call (d + 1) j_Mod_goesTo [.int x0, .int x1, .int x2] z = some (some (.int (ds_gM x0 x1 x2)), z) := by
  rw [c_Mod_goesTo, b_Mod_goesTo_0, ds_nz_t hx]
  unfold ds_gM
  by_cases h2 : x0 = 2
  · simp only [h2, not_true_eq_false, if_false]; rfl
  · by_cases h3 : x0 ≤ 2
    · by_cases h0 : x0 = 0
      · subst h0
        simp only [h2, h3, eq_self, not_true_eq_false, not_false_eq_true, if_true, if_false]
        rw [b_Mod_goesTo_44]
        simp only [eq_self, not_true_eq_false, if_false]
        rw [b_Mod_goesTo_54]
        by_cases h4 : ((x2 + 1) / 2) ≤ x1
        · simp only [h4, if_true]; rfl
        · simp only [h4, if_false]; rfl
      · simp only [h2, h3, h0, not_true_eq_false, not_false_eq_true, if_true, if_false]
        rw [b_Mod_goesTo_44, if_pos h0, b_Mod_goesTo_54]
        by_cases h4 : (x2 / 2) ≤ x1
        · rw [if_pos h4, if_pos h4]; rfl
        · rw [if_neg h4, if_neg h4]; rfl
    · simp only [h2, h3, not_true_eq_false, not_false_eq_true, if_true, if_false]; rfl
theorem ds_gM_all : ∀ a, a < 14 → ∀ c, c < 13 → ∀ b, b < c → ds_gM (nI a) (nI b) (nI c) = nI (ds_mv a b c) := by decide +kernel
theorem s_mgoesTo (d a b c : Nat) (z : ds_St) (ha : a < 14) (hc : c < 13) (hb : b < c) : ds_call (d + 1) j_Mod_goesTo [.int (nI a), .int (nI b), .int (nI c)] z = some (some (.int (nI (ds_mv a b c))), z) := by
  rw [s_mgoesTo0 d _ _ _ z (nI_ne0 (by omega) (by omega)), ds_gM_all a ha c hc b hb]
