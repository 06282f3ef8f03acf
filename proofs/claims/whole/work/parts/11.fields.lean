/-! the fields, kind by kind -/
set_option maxRecDepth 100000 in
theorem ds_uw0 : ∀ w ∈ u_ws RX0 TX0 4, w ∈ lw_tbl := ds_picks _ [397, 399, 401, 403] rfl
theorem ds_ug0 : ∀ w ∈ u_ws RX0 TX0 4, goodWord w = true := by decide +kernel
set_option maxRecDepth 100000 in
theorem ds_uw1 : ∀ w ∈ u_ws RX1 TX1 4, w ∈ lw_tbl := ds_picks _ [346, 348, 350, 352] rfl
theorem ds_ug1 : ∀ w ∈ u_ws RX1 TX1 4, goodWord w = true := by decide +kernel
set_option maxRecDepth 100000 in
theorem ds_uw2 : ∀ w ∈ u_ws RX2 TX2 4, w ∈ lw_tbl := ds_picks _ [325, 327, 329, 331] rfl
theorem ds_ug2 : ∀ w ∈ u_ws RX2 TX2 4, goodWord w = true := by decide +kernel
set_option maxRecDepth 100000 in
theorem ds_uw3 : ∀ w ∈ u_ws RX3 TX3 2, w ∈ lw_tbl := ds_picks _ [415, 417] rfl
theorem ds_ug3 : ∀ w ∈ u_ws RX3 TX3 2, goodWord w = true := by decide +kernel
set_option maxRecDepth 100000 in
theorem ds_uw4 : ∀ w ∈ u_ws RX4 TX4 13, w ∈ lw_tbl := ds_picks _ [282, 284, 286, 288, 290, 292, 294, 296, 298, 300, 302, 304, 306] rfl
theorem ds_ug4 : ∀ w ∈ u_ws RX4 TX4 13, goodWord w = true := by decide +kernel
set_option maxRecDepth 100000 in
theorem ds_uw5 : ∀ w ∈ u_ws RX5 TX5 8, w ∈ lw_tbl := ds_picks _ [369, 371, 373, 375, 377, 379, 381, 383] rfl
theorem ds_ug5 : ∀ w ∈ u_ws RX5 TX5 8, goodWord w = true := by decide +kernel
set_option maxRecDepth 100000 in
theorem ds_uw6 : ∀ w ∈ u_ws RX6 TX6 4, w ∈ lw_tbl := ds_picks _ [434, 436, 438, 440] rfl
theorem ds_ug6 : ∀ w ∈ u_ws RX6 TX6 4, goodWord w = true := by decide +kernel
set_option maxRecDepth 100000 in
theorem ds_uw7 : ∀ w ∈ u_ws RX7 TX7 18, w ∈ lw_tbl := ds_picks _ [229, 231, 233, 235, 237, 239, 241, 243, 245, 247, 249, 251, 253, 255, 257, 259, 261, 263] rfl
theorem ds_ug7 : ∀ w ∈ u_ws RX7 TX7 18, goodWord w = true := by decide +kernel
set_option maxRecDepth 100000 in
theorem ds_uw8 : ∀ w ∈ u_ws RX8 TX8 13, w ∈ lw_tbl := ds_picks _ [456, 458, 460, 462, 464, 466, 468, 470, 472, 474, 476, 478, 480] rfl
theorem ds_ug8 : ∀ w ∈ u_ws RX8 TX8 13, goodWord w = true := by decide +kernel
set_option maxRecDepth 100000 in
theorem ds_uw9 : ∀ w ∈ u_ws RX9 TX9 45, w ∈ lw_tbl := ds_picks _ [1462, 1464, 1466, 1468, 1470, 1472, 1474, 1476, 1478, 1480, 1482, 1484, 1486, 1488, 1490, 1492, 1494, 1496, 1498, 1500, 1502, 1504, 1506, 1508, 1510, 1512, 1514, 1516, 1518, 1520, 1522, 1524, 1526, 1528, 1530, 1532, 1534, 1536, 1538, 1540, 1542, 1544, 1546, 1548, 1550] rfl
theorem ds_ug9 : ∀ w ∈ u_ws RX9 TX9 45, goodWord w = true := by decide +kernel
/-- what is known of a kind of objects -/
def ds_Kd (c : Nat) (C : String) (T : u_T) (N : Nat) (ty0 : Nat → FieldType) : Prop :=
  vwCl[c]? = some (C, T, N) ∧ N = ds_nf c ∧ (∀ k, k < N → parseFieldDescriptor (T k).2.2.1 = some (ty0 k)) ∧ (∀ a, a < N → ∀ b, b < N → a ≠ b → (T a).2.1 ≠ (T b).2.1) ∧
  (∀ w ∈ u_ws C T N, w ∈ lw_tbl ∧ goodWord w = true) ∧ (∀ k, k < N → (T k).1 = C) ∧
  (∀ k, k < N → (ds_FT c k = 1 → ty0 k = .int) ∧ (ds_FT c k = 2 → ty0 k = .long) ∧ (ds_FT c k = 3 → ty0 k = .boolean) ∧ (ds_FT c k = 0 → (narrow (ty0 k) (.ref 0) = .ref 0 ∧ fits (ty0 k) (.ref 0) = true)))
theorem ds_Kd0 : ds_Kd 0 RX0 TX0 4 tyX0 := ⟨rfl, rfl, tyX0_ok, nmX0, fun w h => ⟨ds_uw0 w h, ds_ug0 w h⟩, by decide +kernel, by decide +kernel⟩
theorem ds_Kd1 : ds_Kd 1 RX1 TX1 4 tyX1 := ⟨rfl, rfl, tyX1_ok, nmX1, fun w h => ⟨ds_uw1 w h, ds_ug1 w h⟩, by decide +kernel, by decide +kernel⟩
theorem ds_Kd2 : ds_Kd 2 RX2 TX2 4 tyX2 := ⟨rfl, rfl, tyX2_ok, nmX2, fun w h => ⟨ds_uw2 w h, ds_ug2 w h⟩, by decide +kernel, by decide +kernel⟩
theorem ds_Kd3 : ds_Kd 3 RX3 TX3 2 tyX3 := ⟨rfl, rfl, tyX3_ok, nmX3, fun w h => ⟨ds_uw3 w h, ds_ug3 w h⟩, by decide +kernel, by decide +kernel⟩
theorem ds_Kd4 : ds_Kd 4 RX4 TX4 13 tyX4 := ⟨rfl, rfl, tyX4_ok, nmX4, fun w h => ⟨ds_uw4 w h, ds_ug4 w h⟩, by decide +kernel, by decide +kernel⟩
theorem ds_Kd5 : ds_Kd 5 RX5 TX5 8 tyX5 := ⟨rfl, rfl, tyX5_ok, nmX5, fun w h => ⟨ds_uw5 w h, ds_ug5 w h⟩, by decide +kernel, by decide +kernel⟩
theorem ds_Kd6 : ds_Kd 6 RX6 TX6 4 tyX6 := ⟨rfl, rfl, tyX6_ok, nmX6, fun w h => ⟨ds_uw6 w h, ds_ug6 w h⟩, by decide +kernel, by decide +kernel⟩
theorem ds_Kd7 : ds_Kd 7 RX7 TX7 18 tyX7 := ⟨rfl, rfl, tyX7_ok, nmX7, fun w h => ⟨ds_uw7 w h, ds_ug7 w h⟩, by decide +kernel, by decide +kernel⟩
theorem ds_Kd8 : ds_Kd 8 RX8 TX8 13 tyX8 := ⟨rfl, rfl, tyX8_ok, nmX8, fun w h => ⟨ds_uw8 w h, ds_ug8 w h⟩, by decide +kernel, by decide +kernel⟩
theorem ds_Kd9 : ds_Kd 9 RX9 TX9 45 tyX9 := ⟨rfl, rfl, tyX9_ok, nmX9, fun w h => ⟨ds_uw9 w h, ds_ug9 w h⟩, by decide +kernel, by decide +kernel⟩
theorem ds_Kd_all {c : Nat} (h : c < 10) : ∃ C T N ty0, ds_Kd c C T N ty0 := by
  match c, h with
  | 0, _ => exact ⟨_, _, _, _, ds_Kd0⟩
  | 1, _ => exact ⟨_, _, _, _, ds_Kd1⟩
  | 2, _ => exact ⟨_, _, _, _, ds_Kd2⟩
  | 3, _ => exact ⟨_, _, _, _, ds_Kd3⟩
  | 4, _ => exact ⟨_, _, _, _, ds_Kd4⟩
  | 5, _ => exact ⟨_, _, _, _, ds_Kd5⟩
  | 6, _ => exact ⟨_, _, _, _, ds_Kd6⟩
  | 7, _ => exact ⟨_, _, _, _, ds_Kd7⟩
  | 8, _ => exact ⟨_, _, _, _, ds_Kd8⟩
  | 9, _ => exact ⟨_, _, _, _, ds_Kd9⟩
  | n + 10, h => exact absurd h (by omega)
theorem ds_f3_mem {α : Type} : ∀ {L : List (String × Nat × α)} {own : String} {i : Nat} {x : α}, ds_f3 L own i = some x → (own, i, x) ∈ L := by
  intro L
  induction L with
  | nil => intro own i x h; cases h
  | cons q r ih =>
    intro own i x h
    simp only [ds_f3] at h
    split at h
    · rename_i hc
      cases h
      obtain ⟨a, b, y⟩ := q
      simp only at hc
      rw [← hc.1, ← hc.2]
      exact List.mem_cons_self
    · exact List.mem_cons_of_mem _ (ih h)
theorem ds_fl_small : ∀ q ∈ ds_fl, q.2.2 / 64 < 10 ∧ q.2.2 % 64 < ds_nf (q.2.2 / 64) := by decide +kernel
theorem ds_fl_good : ∀ w ∈ ds_fl.map ds_flw, goodWord w = true := by decide +kernel
theorem ds_fl_word {own : String} {i f : Nat} (h : ds_f3 ds_fl own i = some f) : Cond.fieldLink own i (ds_Tk f).1 (ds_Tk f).2.1 (ds_Tk f).2.2.1 ∈ lw_tbl ∧ goodWord (Cond.fieldLink own i (ds_Tk f).1 (ds_Tk f).2.1 (ds_Tk f).2.2.1) = true :=
  have hm := List.mem_map.mpr ⟨_, ds_f3_mem h, rfl⟩
  ⟨ds_fl_in _ hm, ds_fl_good _ hm⟩
