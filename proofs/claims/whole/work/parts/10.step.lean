/-! ONE STEP IS THE MACHINE'S: an instruction's row for each instruction of the abstract run -/
theorem ds_k_of (n : Int) : Int32.ofInt n = ds_k n := by
  cases n with
  | ofNat m => exact Int32.ofInt_eq_ofNat
  | negSucc m =>
    show Int32.ofInt (Int.negSucc m) = -(Int32.ofNat (m + 1))
    rw [show Int.negSucc m = -((m + 1 : Nat) : Int) from rfl, Int32.ofInt_neg, Int32.ofInt_eq_ofNat]
def ds_al (ad : Nat → Nat) : Nat → ds_Lv → List (Nat × Value)
  | _, [] => []
  | i, none :: r => ds_al ad (i + 1) r
  | i, some v :: r => (i, ds_v ad v) :: ds_al ad (i + 1) r
theorem ds_al_mem {ad : Nat → Nat} : ∀ {lv : ds_Lv} {i : Nat} {q : Nat × Value}, q ∈ ds_al ad i lv ↔ ∃ (j : Nat) (v : Value), lv[j]? = some (some v) ∧ q = (i + j, ds_v ad v) := by
  intro lv
  induction lv with
  | nil => intro i q; simp [ds_al]
  | cons a r ih =>
    intro i q
    cases a with
    | none =>
      simp only [ds_al]
      rw [ih]
      constructor
      · rintro ⟨j, v, h1, h2⟩
        exact ⟨j + 1, v, by simpa using h1, by rw [h2]; congr 1; omega⟩
      · rintro ⟨j, v, h1, h2⟩
        cases j with
        | zero => simp at h1
        | succ j => exact ⟨j, v, by simpa using h1, by rw [h2]; congr 1; omega⟩
    | some w =>
      simp only [ds_al, List.mem_cons]
      rw [ih]
      constructor
      · rintro (h | ⟨j, v, h1, h2⟩)
        · exact ⟨0, w, by simp, h⟩
        · exact ⟨j + 1, v, by simpa using h1, by rw [h2]; congr 1; omega⟩
      · rintro ⟨j, v, h1, h2⟩
        cases j with
        | zero => simp at h1; subst h1; exact Or.inl h2
        | succ j => exact Or.inr ⟨j, v, by simpa using h1, by rw [h2]; congr 1; omega⟩
theorem ds_v_cat (ad : Nat → Nat) (v : Value) : (ds_v ad v).category = v.category := by cases v <;> rfl
/-- the locals of the machine hold those of the abstract run -/
def ds_LV (ad : Nat → Nat) (ls : Array Slot) (nL : Nat) (lv : ds_Lv) : Prop := lv_has ls nL (ds_al ad 0 lv) ∧ lv.length = nL ∧ ∀ (j : Nat) (b : UInt64), lv[j]? ≠ some (some (.double b))
theorem ds_lv_getD {lv : ds_Lv} {i : Nat} {v : Value} (h : lv.getD i none = some v) : lv[i]? = some (some v) := by
  rw [List.getD_eq_getElem?_getD] at h
  cases hq : lv[i]? with
  | none => rw [hq] at h; cases h
  | some w => rw [hq] at h; simp at h; rw [h]
theorem ds_LV.at {ad : Nat → Nat} {ls : Array Slot} {nL : Nat} {lv : ds_Lv} (h : ds_LV ad ls nL lv) {i : Nat} {v : Value} (hv : lv.getD i none = some v) : ls[i]? = some (.val (ds_v ad v)) := by
  have h1 : (0 + i, ds_v ad v) ∈ ds_al ad 0 lv := ds_al_mem.mpr ⟨i, v, ds_lv_getD hv, rfl⟩
  have h2 := h.1.2.2 _ h1
  simpa using h2
theorem ds_store1_at {lv : ds_Lv} {i : Nat} {v : Value} {j : Nat} {u : Value} (h : (ds_store1 lv i v)[j]? = some (some u)) : (j = i ∧ u = v ∧ i < lv.length) ∨ (j ≠ i ∧ lv[j]? = some (some u) ∧ ¬ (j + 1 = i ∧ ∃ x, u = .long x)) := by
  unfold ds_store1 at h
  have key : ∀ l0 : ds_Lv, l0.length = lv.length → (∀ j u, l0[j]? = some (some u) → lv[j]? = some (some u) ∧ ¬ (j + 1 = i ∧ ∃ x, u = .long x)) → (l0.set i (some v))[j]? = some (some u) → (j = i ∧ u = v ∧ i < lv.length) ∨ (j ≠ i ∧ lv[j]? = some (some u) ∧ ¬ (j + 1 = i ∧ ∃ x, u = .long x)) := by
    intro l0 hlen h0 h1
    by_cases hj : j = i
    · subst hj
      left
      rw [List.getElem?_set_self'] at h1
      cases hq : l0[j]? with
      | none => rw [hq] at h1; simp at h1
      | some w =>
        rw [hq] at h1
        simp at h1
        exact ⟨rfl, h1.symm, by rw [← hlen]; exact (List.getElem?_eq_some_iff.mp hq).1⟩
    · right
      rw [List.getElem?_set_ne (fun e => hj e.symm)] at h1
      exact ⟨hj, h0 j u h1⟩
  cases i with
  | zero => exact key lv rfl (fun j u hu => ⟨hu, by rintro ⟨h2, -⟩; omega⟩) h
  | succ i0 =>
    dsimp only at h
    split at h
    · rename_i x hx
      refine key (lv.set i0 none) (by simp) (fun j u hu => ?_) h
      by_cases hj : j = i0
      · subst hj
        rw [List.getElem?_set_self'] at hu
        cases hq : lv[j]? with
        | none => rw [hq] at hu; simp at hu
        | some w => rw [hq] at hu; simp at hu
      · rw [List.getElem?_set_ne (fun e => hj e.symm)] at hu
        exact ⟨hu, by rintro ⟨h2, -⟩; omega⟩
    · rename_i hx
      refine key lv rfl (fun j u hu => ⟨hu, ?_⟩) h
      rintro ⟨h2, x, rfl⟩
      have hj : j = i0 := by omega
      subst hj
      exact hx x (by rw [List.getD_eq_getElem?_getD, hu]; rfl)
theorem ds_store1_len (lv : ds_Lv) (i : Nat) (v : Value) : (ds_store1 lv i v).length = lv.length := by
  unfold ds_store1
  rw [List.length_set]
  split
  · rfl
  · split <;> simp
theorem ds_LV.store1 {ad : Nat → Nat} {ls ls' : Array Slot} {nL : Nat} {lv : ds_Lv} (h : ds_LV ad ls nL lv) {i : Nat} {v : Value} (hnd : ∀ b, v ≠ .double b)
    (h' : lv_has ls' nL ((i, ds_v ad v) :: (ds_al ad 0 lv).filter (fun q => !(q.1 == i) && !(q.1 + 1 == i && q.2.category == 2)))) : ds_LV ad ls' nL (ds_store1 lv i v) := by
  refine ⟨⟨h'.1, h'.2.1, fun q hq => h'.2.2 q ?_⟩, by rw [ds_store1_len]; exact h.2.1, fun j b hb => ?_⟩
  · obtain ⟨j, u, h1, rfl⟩ := ds_al_mem.mp hq
    rcases ds_store1_at h1 with ⟨rfl, rfl, -⟩ | ⟨h2, h3, h4⟩
    · simp
    · refine List.mem_cons_of_mem _ (List.mem_filter.mpr ⟨ds_al_mem.mpr ⟨j, u, h3, rfl⟩, ?_⟩)
      have hc : ¬ (j + 1 = i ∧ u.category = 2) := by
        rintro ⟨e1, e2⟩
        cases u with
        | long x => exact h4 ⟨e1, x, rfl⟩
        | double b => exact h.2.2 j b h3
        | _ => simp [Value.category] at e2
      simp only [Nat.zero_add, ds_v_cat, Bool.and_eq_true, Bool.not_eq_true', beq_eq_false_iff_ne, ne_eq, h2, not_false_iff, true_and]
      by_cases e1 : j + 1 = i
      · have : ¬ u.category = 2 := fun e2 => hc ⟨e1, e2⟩
        simp [this]
      · simp [e1]
  · rcases ds_store1_at hb with ⟨-, h2, -⟩ | ⟨-, h3, -⟩
    · exact hnd b h2.symm
    · exact h.2.2 j b h3
theorem ds_LV.store2 {ad : Nat → Nat} {ls ls' : Array Slot} {nL : Nat} {lv : ds_Lv} (h : ds_LV ad ls nL lv) {i : Nat} {v : Value} (hnd : ∀ b, v ≠ .double b)
    (h' : lv_has ls' nL ((i, ds_v ad v) :: (ds_al ad 0 lv).filter (fun q => !(q.1 == i) && (!(q.1 == i + 1) && !(q.1 + 1 == i && q.2.category == 2))))) : ds_LV ad ls' nL (ds_store2 lv i v) := by
  have key : ∀ j u, (ds_store2 lv i v)[j]? = some (some u) → j ≠ i + 1 ∧ (ds_store1 lv i v)[j]? = some (some u) := by
    intro j u hu
    unfold ds_store2 at hu
    by_cases hj : j = i + 1
    · subst hj
      rw [List.getElem?_set_self'] at hu
      cases hq : (ds_store1 lv i v)[i + 1]? with
      | none => rw [hq] at hu; simp at hu
      | some w => rw [hq] at hu; simp at hu
    · rw [List.getElem?_set_ne (fun e => hj e.symm)] at hu
      exact ⟨hj, hu⟩
  refine ⟨⟨h'.1, h'.2.1, fun q hq => h'.2.2 q ?_⟩, by unfold ds_store2; rw [List.length_set, ds_store1_len]; exact h.2.1, fun j b hb => ?_⟩
  · obtain ⟨j, u, h0, rfl⟩ := ds_al_mem.mp hq
    obtain ⟨hj1, h1⟩ := key j u h0
    rcases ds_store1_at h1 with ⟨rfl, rfl, -⟩ | ⟨h2, h3, h4⟩
    · simp
    · refine List.mem_cons_of_mem _ (List.mem_filter.mpr ⟨ds_al_mem.mpr ⟨j, u, h3, rfl⟩, ?_⟩)
      have hc : ¬ (j + 1 = i ∧ u.category = 2) := by
        rintro ⟨e1, e2⟩
        cases u with
        | long x => exact h4 ⟨e1, x, rfl⟩
        | double b => exact h.2.2 j b h3
        | _ => simp [Value.category] at e2
      simp only [Nat.zero_add, ds_v_cat, Bool.and_eq_true, Bool.not_eq_true', beq_eq_false_iff_ne, ne_eq, h2, hj1, not_false_iff, true_and]
      by_cases e1 : j + 1 = i
      · have : ¬ u.category = 2 := fun e2 => hc ⟨e1, e2⟩
        simp [this]
      · simp [e1]
  · obtain ⟨-, h1⟩ := key j _ hb
    rcases ds_store1_at h1 with ⟨-, h2, -⟩ | ⟨-, h3, -⟩
    · exact hnd b h2.symm
    · exact h.2.2 j b h3
/-- fewer locals -/
theorem ds_keep_at : ∀ {bs : List Bool} {lv : ds_Lv} {j : Nat} {u : Value}, (ds_keep bs lv)[j]? = some (some u) → lv[j]? = some (some u) := by
  intro bs
  induction bs with
  | nil => intro lv j u h; simp only [ds_keep, List.getElem?_map] at h; cases hq : lv[j]? <;> rw [hq] at h <;> simp at h
  | cons b bs ih =>
    intro lv j u h
    cases lv with
    | nil => simp [ds_keep] at h
    | cons v vs =>
      simp only [ds_keep] at h
      cases j with
      | zero => cases b <;> simp at h ⊢; exact h
      | succ j => simp only [List.getElem?_cons_succ] at h ⊢; exact ih h
theorem ds_keep_len : ∀ (bs : List Bool) (lv : ds_Lv), (ds_keep bs lv).length = lv.length := by
  intro bs
  induction bs with
  | nil => intro lv; simp [ds_keep]
  | cons b bs ih =>
    intro lv
    cases lv with
    | nil => simp [ds_keep]
    | cons v vs => simp [ds_keep, ih]
theorem ds_LV.msk {ad : Nat → Nat} {ls : Array Slot} {nL : Nat} {lv : ds_Lv} (h : ds_LV ad ls nL lv) (cu : ds_Cuts) (pc : Nat) : ds_LV ad ls nL (ds_msk cu pc lv) := by
  unfold ds_msk
  split
  · rename_i bs _
    refine ⟨⟨h.1.1, h.1.2.1, fun q hq => ?_⟩, by rw [ds_keep_len]; exact h.2.1, fun j b hb => h.2.2 j b (ds_keep_at hb)⟩
    obtain ⟨j, u, h1, rfl⟩ := ds_al_mem.mp hq
    exact h.1.2.2 _ (ds_al_mem.mpr ⟨j, u, ds_keep_at h1, rfl⟩)
  · exact h
