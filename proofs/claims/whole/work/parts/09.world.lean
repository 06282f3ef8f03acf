/-! THE WORLD OF A STATE: its cells, by places -/
def ds_v (ad : Nat → Nat) (v : Value) : Value := match v with
  | .ref q => .ref (ad q)
  | w => w
def ds_fv (ad : Nat → Nat) (z : ds_St) (q c k : Nat) : Value := match ds_FT c k with
  | 0 => .ref (ad (ds_R z q k))
  | 2 => .long (z.2.1 q k)
  | _ => .int (z.1 q k)
def ds_nf (c : Nat) : Nat := (ds_ft.getD c []).length
def ds_cell (cy : Nat → ClassId) (ad : Nat → Nat) (z : ds_St) (q : Nat) : va_E :=
  if ds_K q = 10 then .inl (cy 10, ds_N q, .inl (z.1 q)) else
  if ds_K q = 11 then .inl (cy 11, ds_N q, .inl (z.1 q)) else
  if ds_K q = 12 then .inl (cy 12, ds_N q, .inr (.inl (z.2.1 q))) else
  .inr (ds_K q, (List.range (ds_nf (ds_K q))).map (ds_fv ad z q (ds_K q)))
def ds_pls : List Nat := (List.range 112).filter fun q => !(Nat.beq (ds_K q) 99)
def ds_ws (cy : Nat → ClassId) (ad : Nat → Nat) (z : ds_St) : va_W := ds_pls.map fun q => (ad q, ds_cell cy ad z q)
def ds_tys (cy : Nat → ClassId) : List (ClassId × FieldType) := [(cy 10, .byte), (cy 11, .int), (cy 12, .long)]
theorem ds_gd {α : Type} {l : List α} {i : Nat} (d : α) (h : l.length ≤ i) : l.getD i d = d := by
  rw [List.getD_eq_getElem?_getD, List.getElem?_eq_none h]
  rfl
theorem ds_K_out {q : Nat} (h : 112 ≤ q) : ds_K q = 99 := by
  unfold ds_K
  rw [ds_gd (l := ds_lay) (99, 0, []) h]
theorem ds_pls_mem {q : Nat} (h : ds_K q ≠ 99) : q ∈ ds_pls := by
  refine List.mem_filter.mpr ⟨List.mem_range.mpr ?_, ?_⟩
  · rcases Nat.lt_or_ge q 112 with h1 | h1
    · exact h1
    · exact absurd (ds_K_out h1) h
  · cases hb : Nat.beq (ds_K q) 99 with
    | false => rfl
    | true => exact absurd (Nat.eq_of_beq_eq_true hb) h
theorem ds_pls_at {q : Nat} (h : ds_K q ≠ 99) : ∃ k : Nat, ds_pls[k]? = some q := List.getElem?_of_mem (ds_pls_mem h)
theorem ds_pls_nd : ds_pls.Nodup := List.Pairwise.filter _ List.nodup_range
theorem ds_pls_inj {i k q : Nat} (h1 : ds_pls[i]? = some q) (h2 : ds_pls[k]? = some q) : i = k := by
  have hi : i < ds_pls.length := (List.getElem?_eq_some_iff.mp h1).1
  exact (List.getElem?_inj hi ds_pls_nd).mp (h1.trans h2.symm)
theorem ds_ws_at (cy : Nat → ClassId) (ad : Nat → Nat) (z : ds_St) {k q : Nat} (h : ds_pls[k]? = some q) : (ds_ws cy ad z)[k]? = some (ad q, ds_cell cy ad z q) := by
  unfold ds_ws
  rw [List.getElem?_map, h]
  rfl
/-- a change of one cell -/
theorem ds_ws_set (cy : Nat → ClassId) (ad : Nat → Nat) (z z1 : ds_St) {k q : Nat} (h : ds_pls[k]? = some q) (hz : ∀ r, r ≠ q → ds_cell cy ad z1 r = ds_cell cy ad z r) : (ds_ws cy ad z).set k (ad q, ds_cell cy ad z1 q) = ds_ws cy ad z1 := by
  apply List.ext_getElem?
  intro i
  by_cases hi : i = k
  · subst hi
    rw [ds_ws_at cy ad z1 h, List.getElem?_set_self]
    unfold ds_ws
    rw [List.length_map]
    exact (List.getElem?_eq_some_iff.mp h).1
  · rw [List.getElem?_set_ne (fun e => hi e.symm)]
    unfold ds_ws
    rw [List.getElem?_map, List.getElem?_map]
    cases hr : ds_pls[i]? with
    | none => rfl
    | some r =>
      have hne : r ≠ q := fun e => hi (ds_pls_inj (e ▸ hr) h)
      simp only [Option.map_some, hz r hne]
theorem ds_D_any {A : Nat → Prop} {cy : Nat → ClassId} {ad : Nat → Nat} {z : ds_St} (h : va_D A (ds_ws cy ad z)) (z1 : ds_St) : va_D A (ds_ws cy ad z1) := by
  have key : ∀ (i : Nat) (x : Nat × va_E), (ds_ws cy ad z1)[i]? = some x → ∃ y, (ds_ws cy ad z)[i]? = some y ∧ y.1 = x.1 := by
    intro i x hx
    unfold ds_ws at hx ⊢
    rw [List.getElem?_map] at hx
    rw [List.getElem?_map]
    cases hr : ds_pls[i]? with
    | none => rw [hr] at hx; cases hx
    | some r => rw [hr] at hx; cases hx; exact ⟨_, rfl, rfl⟩
  refine ⟨fun i j x y hx hy hxy => ?_, fun k x hx => ?_⟩
  · obtain ⟨x1, a1, b1⟩ := key i x hx
    obtain ⟨y1, a2, b2⟩ := key j y hy
    exact h.1 i j x1 y1 a1 a2 (by rw [b1, b2, hxy])
  · obtain ⟨x1, a1, b1⟩ := key k x hx
    rw [← b1]
    exact h.2 k x1 a1
theorem ds_A_any {cy : Nat → ClassId} {ad : Nat → Nat} {z : ds_St} (z1 : ds_St) {sz q : Nat} (h : va_A (ds_ws cy ad z) sz q) : va_A (ds_ws cy ad z1) sz q := by
  rcases h with ⟨k, e, h⟩ | h
  · unfold ds_ws at h
    rw [List.getElem?_map] at h
    cases hr : ds_pls[k]? with
    | none => rw [hr] at h; cases h
    | some r =>
      rw [hr] at h
      cases h
      exact Or.inl ⟨k, _, by unfold ds_ws; rw [List.getElem?_map, hr]; rfl⟩
  · exact Or.inr h
theorem ds_cell_I (cy : Nat → ClassId) (ad : Nat → Nat) (z : ds_St) (q k : Nat) (v : Int32) : ∀ r, r ≠ q → ds_cell cy ad (ds_setI z q k v) r = ds_cell cy ad z r := by
  intro r hr
  have h1 : (ds_setI z q k v).1 r = z.1 r := by simp [ds_setI, hr]
  have h2 : (ds_setI z q k v).2 = z.2 := rfl
  have h3 : ds_fv ad (ds_setI z q k v) r (ds_K r) = ds_fv ad z r (ds_K r) := by
    funext j
    unfold ds_fv ds_R ds_Rr
    rw [h1, h2]
  unfold ds_cell
  rw [h1, h2, h3]
theorem ds_cell_L (cy : Nat → ClassId) (ad : Nat → Nat) (z : ds_St) (q k : Nat) (v : Int64) : ∀ r, r ≠ q → ds_cell cy ad (ds_setL z q k v) r = ds_cell cy ad z r := by
  intro r hr
  have h1 : (ds_setL z q k v).2.1 r = z.2.1 r := by simp [ds_setL, hr]
  have h2 : (ds_setL z q k v).1 = z.1 := rfl
  have h4 : (ds_setL z q k v).2.2 = z.2.2 := rfl
  have h3 : ds_fv ad (ds_setL z q k v) r (ds_K r) = ds_fv ad z r (ds_K r) := by
    funext j
    unfold ds_fv ds_R ds_Rr
    rw [h1, h2, h4]
  unfold ds_cell
  rw [h1, h2, h3]
theorem ds_cell_rI (cy : Nat → ClassId) (ad : Nat → Nat) (z : ds_St) (q : Nat) (f : Nat → Int32) : ∀ r, r ≠ q → ds_cell cy ad (ds_rowI z q f) r = ds_cell cy ad z r := by
  intro r hr
  have h1 : (ds_rowI z q f).1 r = z.1 r := by simp [ds_rowI, hr]
  have h2 : (ds_rowI z q f).2 = z.2 := rfl
  have h3 : ds_fv ad (ds_rowI z q f) r (ds_K r) = ds_fv ad z r (ds_K r) := by
    funext j
    unfold ds_fv ds_R ds_Rr
    rw [h1, h2]
  unfold ds_cell
  rw [h1, h2, h3]
theorem ds_cell_rL (cy : Nat → ClassId) (ad : Nat → Nat) (z : ds_St) (q : Nat) (f : Nat → Int64) : ∀ r, r ≠ q → ds_cell cy ad (ds_rowL z q f) r = ds_cell cy ad z r := by
  intro r hr
  have h1 : (ds_rowL z q f).2.1 r = z.2.1 r := by simp [ds_rowL, hr]
  have h2 : (ds_rowL z q f).1 = z.1 := rfl
  have h4 : (ds_rowL z q f).2.2 = z.2.2 := rfl
  have h3 : ds_fv ad (ds_rowL z q f) r (ds_K r) = ds_fv ad z r (ds_K r) := by
    funext j
    unfold ds_fv ds_R ds_Rr
    rw [h1, h2, h4]
  unfold ds_cell
  rw [h1, h2, h3]
/-- where the references that change lie: code j at one place alone -/
def ds_code (q k : Nat) : Nat := (ds_lay.getD q (99, 0, [])).2.2.getD k 4
theorem ds_code_in {q k : Nat} (h : ds_code q k < 4) : q < 112 ∧ k < 45 := by
  constructor
  · rcases Nat.lt_or_ge q 112 with h1 | h1
    · exact h1
    · exfalso
      unfold ds_code at h
      rw [ds_gd _ (show ds_lay.length ≤ q from h1)] at h
      simp at h
  · rcases Nat.lt_or_ge k 45 with h1 | h1
    · exact h1
    · exfalso
      unfold ds_code at h
      have hl : ((ds_lay.getD q (99, 0, [])).2.2).length ≤ 45 := by
        rcases Nat.lt_or_ge q 112 with h2 | h2
        · have : ∀ q, q < 112 → ((ds_lay.getD q (99, 0, [])).2.2).length ≤ 45 := by decide +kernel
          exact this q h2
        · rw [ds_gd _ (show ds_lay.length ≤ q from h2)]
          simp
      rw [ds_gd _ (Nat.le_trans hl h1)] at h
      omega
def ds_home (j : Nat) : Nat × Nat := if j = 0 then (0, 1) else if j = 1 then (1, 2) else if j = 2 then (67, 0) else (70, 3)
theorem ds_home_all : ∀ q, q < 112 → ∀ k, k < 45 → ds_code q k < 4 → (q, k) = ds_home (ds_code q k) := by decide +kernel
theorem ds_home_of {q k : Nat} (h : ds_code q k < 4) : (q, k) = ds_home (ds_code q k) := ds_home_all q (ds_code_in h).1 k (ds_code_in h).2 h
theorem ds_R_S (z : ds_St) (j v q k : Nat) (hq : ds_code q k ≠ j) : ds_R (ds_setS z j v) q k = ds_R z q k := by
  unfold ds_R
  show ds_Rr _ (ds_code q k) = ds_Rr _ (ds_code q k)
  unfold ds_Rr
  split <;> first | rfl | (rename_i h; simp only [ds_setS]; rw [if_neg (by intro e; exact hq (by rw [h, ← e]))])
theorem ds_cell_S (cy : Nat → ClassId) (ad : Nat → Nat) (z : ds_St) (q k v : Nat) (hj : ds_code q k < 4) : ∀ r, r ≠ q → ds_cell cy ad (ds_setS z (ds_code q k) v) r = ds_cell cy ad z r := by
  intro r hr
  have h3 : ds_fv ad (ds_setS z (ds_code q k) v) r (ds_K r) = ds_fv ad z r (ds_K r) := by
    funext i
    unfold ds_fv
    rw [ds_R_S]
    · rfl
    · intro e
      have h1 := ds_home_of (q := r) (k := i) (by rw [e]; exact hj)
      have h2 := ds_home_of hj
      rw [e, ← h2] at h1
      exact hr (congrArg Prod.fst h1)
  unfold ds_cell
  rw [h3]
  rfl
