/-! wishes, shows -/
def dr_addW (D : Nat → Nat → Nat) (a b : Nat) : Nat → Nat → Nat := dr_D1 (dr_D1 (dr_D1 D 6 (D 0 6) a) 7 (D 0 6) b) 0 6 (D 0 6 + 1)
def dr_addS (D : Nat → Nat → Nat) (a b : Nat) : Nat → Nat → Nat := dr_D1 (dr_D1 (dr_D1 D 8 (D 0 7) a) 9 (D 0 7) b) 0 7 (D 0 7 + 1)
theorem s_addW (d t : Nat) (z0 z : ds_St) (a b : Nat) (B : Nat → Nat) (n e : Nat) (Nm : Nat → List Nat) (D : Nat → Nat → Nat) (hO : dr_O z B n e) (hS : dr_S z0 t true Nm D D z) (h6 : D 0 6 < 6) : ∃ z', ds_call (d + 2) j_Told_addWish [.ref t, .int (nI a), .int (nI b)] z = some (none, z') ∧ dr_O z' B n e ∧ dr_S z0 t true Nm (dr_addW D a b) (dr_addW D a b) z' := by
  obtain ⟨⟨s1, ht⟩, ⟨a0, ⟨a4, a9, a11, a14⟩, b2, b3, b4, b5⟩, s3, s4⟩ := hS
  have hDc : dr_addW D a b 0 6 = D 0 6 + 1 := by simp [dr_addW, dr_D1]
  have hD0 : ∀ j, j ≠ 6 → dr_addW D a b 0 j = D 0 j := by intro j hj; simp [dr_addW, dr_D1, hj]
  have hDa : ∀ i, dr_addW D a b 6 i = if i = D 0 6 then a else D 6 i := by intro i; simp [dr_addW, dr_D1]
  have hDb : ∀ i, dr_addW D a b 7 i = if i = D 0 6 then b else D 7 i := by intro i; simp [dr_addW, dr_D1]
  have hDr : ∀ w i, w ≠ 0 → w ≠ 6 → w ≠ 7 → dr_addW D a b w i = D w i := by intro w i h0 h5 h7; simp [dr_addW, dr_D1, h0, h5, h7]
  generalize dr_addW D a b = D' at *
  let z1 := ds_rowI z (t + 6) (upd (z.1 (t + 6)) (D 0 6) (nI a))
  let z2 := ds_rowI z1 (t + 7) (upd (z1.1 (t + 7)) (D 0 6) (nI b))
  let z5 := ds_rowI z2 t (upd (z2.1 t) 11 (nI (D 0 6 + 1)))
  have p1 := s_putN d (t + 6) (D 0 6) 6 (nI a) z (ds_Kti ht (by decide) (by decide)) (ds_Ntj ht (by decide)) (by decide) h6
  have p2 := s_putN d (t + 7) (D 0 6) 6 (nI b) z1 (ds_Kti ht (by decide) (by decide)) (ds_Ntj ht (by decide)) (by decide) h6
  have g1 : z1.1 t = z.1 t := ds_rowI_ne _ _ (by omega)
  have g2 : z2.1 t = z.1 t := (ds_rowI_ne _ _ (by omega)).trans g1
  have z5e : ds_setI z2 t 11 (nI (D 0 6 + 1)) = z5 := ds_setI_row _ _ _ _
  have pp : ∀ q, q ≠ t → q ≠ t + 6 → q ≠ t + 7 → z5.1 q = z.1 q := fun q a b c => by
    show (ds_rowI (ds_rowI (ds_rowI z (t + 6) _) (t + 7) _) t _).1 q = _
    rw [ds_rowI_ne _ _ a, ds_rowI_ne _ _ c, ds_rowI_ne _ _ b]
  have ea : ∀ i, z5.1 (t + 6) i = upd (z.1 (t + 6)) (D 0 6) (nI a) i := fun i => by
    show (ds_rowI (ds_rowI (ds_rowI z (t + 6) (upd (z.1 (t + 6)) (D 0 6) (nI a))) (t + 7) _) t _).1 (t + 6) i = _
    rw [ds_rowI_ne _ _ (by omega), ds_rowI_ne _ _ (by omega), ds_rowI_self]
  have eb : ∀ i, z5.1 (t + 7) i = upd (z.1 (t + 7)) (D 0 6) (nI b) i := fun i => by
    show (ds_rowI (ds_rowI z1 (t + 7) (upd (z1.1 (t + 7)) (D 0 6) (nI b))) t _).1 (t + 7) i = _
    rw [ds_rowI_ne _ _ (by omega), ds_rowI_self]
    show upd ((ds_rowI z (t + 6) _).1 (t + 7)) _ _ i = _
    rw [ds_rowI_ne _ _ (by omega)]
  have e0 : ∀ i, z5.1 t i = upd (z.1 t) 11 (nI (D 0 6 + 1)) i := fun i => by
    show (ds_rowI z2 t (upd (z2.1 t) 11 (nI (D 0 6 + 1)))).1 t i = _
    rw [ds_rowI_self, g2]
  have O5 : dr_O z5 B n e := dr_O_row _ (dr_O_row _ (dr_O_row _ hO (by omega) (by omega)) (by omega) (by omega)) (by omega) (by omega)
  have C5 : dr_nC z5 D Nm := dr_nC_row _ (dr_nC_row _ (dr_nC_row _ s3 (by omega) (by omega)) (by omega) (by omega)) (by omega) (by omega)
  have F5 : dr_fC t z0 z5 := dr_fC_row _ (dr_fC_row _ (dr_fC_row _ s4 (by omega) (by omega) ht) (by omega) (by omega) ht) (by omega) (by omega) ht
  have rr : z5.2.2 = z.2.2 := rfl
  have p1' : ds_call (d + 1) j_Sea_put [.ref (t + 6), .int (nI (D 0 6)), .int (nI a)] z = some (none, z1) := p1
  have p2' : ds_call (d + 1) j_Sea_put [.ref (t + 7), .int (nI (D 0 6)), .int (nI b)] z1 = some (none, z2) := p2
  clear_value z5
  clear_value z2
  clear_value z1
  refine ⟨z5, ?_, O5, ⟨by rw [rr]; exact s1, ht⟩, ⟨fun _ => ?_, ⟨?_, ?_, ?_, ?_⟩, fun i hi => ?_, fun i hi => ?_, fun i hi => ?_, fun i hi => ?_⟩, dr_nC_c (hD0 4 (by decide)) (hD0 5 (by decide)) C5, F5⟩
  · rw [c_Told_addWish, b_Told_addWish_0 t ht]
    have g1' : z1.1 t 11 = nI (D 0 6) := by rw [g1]; exact a11
    have g2' : z2.1 t 11 = nI (D 0 6) := by rw [g2]; exact a11
    simp only [a11, ds_cV_t p1', g1', ds_cV_t p2', g2', dl_1, nI_add, z5e, ds_nn]
  · obtain ⟨x0, x1, x2, x3⟩ := a0 rfl
    rw [e0, e0, e0, e0, pk_un (by decide), pk_un (by decide), pk_un (by decide), pk_un (by decide), hD0 0 (by decide), hD0 1 (by decide), hD0 2 (by decide), hD0 3 (by decide)]
    exact ⟨x0, x1, x2, x3⟩
  · rw [e0, pk_un (by decide), hD0 4 (by decide)]; exact a4
  · rw [e0, pk_un (by decide), hD0 5 (by decide)]; exact a9
  · rw [e0, pk_us, hDc]
  · rw [e0, pk_un (by decide), hD0 7 (by decide)]; exact a14
  · rw [hD0 4 (by decide)] at hi
    rw [pp (t + 1) (by omega) (by omega) (by omega), pp (t + 2) (by omega) (by omega) (by omega), pp (t + 3) (by omega) (by omega) (by omega), pp (t + 4) (by omega) (by omega) (by omega), hDr 1 i (by decide) (by decide) (by decide), hDr 2 i (by decide) (by decide) (by decide), hDr 3 i (by decide) (by decide) (by decide), hDr 4 i (by decide) (by decide) (by decide)]
    exact b2 i hi
  · rw [hD0 5 (by decide)] at hi
    rw [pp (t + 5) (by omega) (by omega) (by omega), hDr 5 i (by decide) (by decide) (by decide)]
    exact b3 i hi
  · rw [hDc] at hi
    rw [ea, eb, hDa, hDb]
    by_cases q : i = D 0 6
    · rw [q, pk_us, pk_us, if_pos rfl, if_pos rfl]
      exact ⟨rfl, rfl⟩
    · rw [pk_un q, pk_un q, if_neg q, if_neg q]
      exact b4 i (by omega)
  · rw [hD0 7 (by decide)] at hi
    rw [pp (t + 8) (by omega) (by omega) (by omega), pp (t + 9) (by omega) (by omega) (by omega), hDr 8 i (by decide) (by decide) (by decide), hDr 9 i (by decide) (by decide) (by decide)]
    exact b5 i hi
theorem s_addS (d t : Nat) (z0 z : ds_St) (a b : Nat) (B : Nat → Nat) (n e : Nat) (Nm : Nat → List Nat) (D : Nat → Nat → Nat) (hO : dr_O z B n e) (hS : dr_S z0 t true Nm D D z) (h6 : D 0 7 < 6) : ∃ z', ds_call (d + 2) j_Told_addShows [.ref t, .int (nI a), .int (nI b)] z = some (none, z') ∧ dr_O z' B n e ∧ dr_S z0 t true Nm (dr_addS D a b) (dr_addS D a b) z' := by
  obtain ⟨⟨s1, ht⟩, ⟨a0, ⟨a4, a9, a11, a14⟩, b2, b3, b4, b5⟩, s3, s4⟩ := hS
  have hDc : dr_addS D a b 0 7 = D 0 7 + 1 := by simp [dr_addS, dr_D1]
  have hD0 : ∀ j, j ≠ 7 → dr_addS D a b 0 j = D 0 j := by intro j hj; simp [dr_addS, dr_D1, hj]
  have hDa : ∀ i, dr_addS D a b 8 i = if i = D 0 7 then a else D 8 i := by intro i; simp [dr_addS, dr_D1]
  have hDb : ∀ i, dr_addS D a b 9 i = if i = D 0 7 then b else D 9 i := by intro i; simp [dr_addS, dr_D1]
  have hDr : ∀ w i, w ≠ 0 → w ≠ 8 → w ≠ 9 → dr_addS D a b w i = D w i := by intro w i h0 h5 h7; simp [dr_addS, dr_D1, h0, h5, h7]
  generalize dr_addS D a b = D' at *
  let z1 := ds_rowI z (t + 8) (upd (z.1 (t + 8)) (D 0 7) (nI a))
  let z2 := ds_rowI z1 (t + 9) (upd (z1.1 (t + 9)) (D 0 7) (nI b))
  let z5 := ds_rowI z2 t (upd (z2.1 t) 14 (nI (D 0 7 + 1)))
  have p1 := s_putN d (t + 8) (D 0 7) 6 (nI a) z (ds_Kti ht (by decide) (by decide)) (ds_Ntj ht (by decide)) (by decide) h6
  have p2 := s_putN d (t + 9) (D 0 7) 6 (nI b) z1 (ds_Kti ht (by decide) (by decide)) (ds_Ntj ht (by decide)) (by decide) h6
  have g1 : z1.1 t = z.1 t := ds_rowI_ne _ _ (by omega)
  have g2 : z2.1 t = z.1 t := (ds_rowI_ne _ _ (by omega)).trans g1
  have z5e : ds_setI z2 t 14 (nI (D 0 7 + 1)) = z5 := ds_setI_row _ _ _ _
  have pp : ∀ q, q ≠ t → q ≠ t + 8 → q ≠ t + 9 → z5.1 q = z.1 q := fun q a b c => by
    show (ds_rowI (ds_rowI (ds_rowI z (t + 8) _) (t + 9) _) t _).1 q = _
    rw [ds_rowI_ne _ _ a, ds_rowI_ne _ _ c, ds_rowI_ne _ _ b]
  have ea : ∀ i, z5.1 (t + 8) i = upd (z.1 (t + 8)) (D 0 7) (nI a) i := fun i => by
    show (ds_rowI (ds_rowI (ds_rowI z (t + 8) (upd (z.1 (t + 8)) (D 0 7) (nI a))) (t + 9) _) t _).1 (t + 8) i = _
    rw [ds_rowI_ne _ _ (by omega), ds_rowI_ne _ _ (by omega), ds_rowI_self]
  have eb : ∀ i, z5.1 (t + 9) i = upd (z.1 (t + 9)) (D 0 7) (nI b) i := fun i => by
    show (ds_rowI (ds_rowI z1 (t + 9) (upd (z1.1 (t + 9)) (D 0 7) (nI b))) t _).1 (t + 9) i = _
    rw [ds_rowI_ne _ _ (by omega), ds_rowI_self]
    show upd ((ds_rowI z (t + 8) _).1 (t + 9)) _ _ i = _
    rw [ds_rowI_ne _ _ (by omega)]
  have e0 : ∀ i, z5.1 t i = upd (z.1 t) 14 (nI (D 0 7 + 1)) i := fun i => by
    show (ds_rowI z2 t (upd (z2.1 t) 14 (nI (D 0 7 + 1)))).1 t i = _
    rw [ds_rowI_self, g2]
  have O5 : dr_O z5 B n e := dr_O_row _ (dr_O_row _ (dr_O_row _ hO (by omega) (by omega)) (by omega) (by omega)) (by omega) (by omega)
  have C5 : dr_nC z5 D Nm := dr_nC_row _ (dr_nC_row _ (dr_nC_row _ s3 (by omega) (by omega)) (by omega) (by omega)) (by omega) (by omega)
  have F5 : dr_fC t z0 z5 := dr_fC_row _ (dr_fC_row _ (dr_fC_row _ s4 (by omega) (by omega) ht) (by omega) (by omega) ht) (by omega) (by omega) ht
  have rr : z5.2.2 = z.2.2 := rfl
  have p1' : ds_call (d + 1) j_Sea_put [.ref (t + 8), .int (nI (D 0 7)), .int (nI a)] z = some (none, z1) := p1
  have p2' : ds_call (d + 1) j_Sea_put [.ref (t + 9), .int (nI (D 0 7)), .int (nI b)] z1 = some (none, z2) := p2
  clear_value z5
  clear_value z2
  clear_value z1
  refine ⟨z5, ?_, O5, ⟨by rw [rr]; exact s1, ht⟩, ⟨fun _ => ?_, ⟨?_, ?_, ?_, ?_⟩, fun i hi => ?_, fun i hi => ?_, fun i hi => ?_, fun i hi => ?_⟩, dr_nC_c (hD0 4 (by decide)) (hD0 5 (by decide)) C5, F5⟩
  · rw [c_Told_addShows, b_Told_addShows_0 t ht]
    have g1' : z1.1 t 14 = nI (D 0 7) := by rw [g1]; exact a14
    have g2' : z2.1 t 14 = nI (D 0 7) := by rw [g2]; exact a14
    simp only [a14, ds_cV_t p1', g1', ds_cV_t p2', g2', dl_1, nI_add, z5e, ds_nn]
  · obtain ⟨x0, x1, x2, x3⟩ := a0 rfl
    rw [e0, e0, e0, e0, pk_un (by decide), pk_un (by decide), pk_un (by decide), pk_un (by decide), hD0 0 (by decide), hD0 1 (by decide), hD0 2 (by decide), hD0 3 (by decide)]
    exact ⟨x0, x1, x2, x3⟩
  · rw [e0, pk_un (by decide), hD0 4 (by decide)]; exact a4
  · rw [e0, pk_un (by decide), hD0 5 (by decide)]; exact a9
  · rw [e0, pk_un (by decide), hD0 6 (by decide)]; exact a11
  · rw [e0, pk_us, hDc]
  · rw [hD0 4 (by decide)] at hi
    rw [pp (t + 1) (by omega) (by omega) (by omega), pp (t + 2) (by omega) (by omega) (by omega), pp (t + 3) (by omega) (by omega) (by omega), pp (t + 4) (by omega) (by omega) (by omega), hDr 1 i (by decide) (by decide) (by decide), hDr 2 i (by decide) (by decide) (by decide), hDr 3 i (by decide) (by decide) (by decide), hDr 4 i (by decide) (by decide) (by decide)]
    exact b2 i hi
  · rw [hD0 5 (by decide)] at hi
    rw [pp (t + 5) (by omega) (by omega) (by omega), hDr 5 i (by decide) (by decide) (by decide)]
    exact b3 i hi
  · rw [hD0 6 (by decide)] at hi
    rw [pp (t + 6) (by omega) (by omega) (by omega), pp (t + 7) (by omega) (by omega) (by omega), hDr 6 i (by decide) (by decide) (by decide), hDr 7 i (by decide) (by decide) (by decide)]
    exact b4 i hi
  · rw [hDc] at hi
    rw [ea, eb, hDa, hDb]
    by_cases q : i = D 0 7
    · rw [q, pk_us, pk_us, if_pos rfl, if_pos rfl]
      exact ⟨rfl, rfl⟩
    · rw [pk_un q, pk_un q, if_neg q, if_neg q]
      exact b5 i (by omega)
def dr_pIsl {α : Type} (B : Nat → Nat) (n e : Nat) (Nm : Nat → List Nat) (f : Nat → (Nat × Nat) ⊕ α) : (Nat × Nat) ⊕ α := if dr_isn B n e = true then (if (dr_has Nm (dr_wl B n e) && decide (dr_slot Nm (dr_wl B n e) < 12)) = true then f (dr_slot Nm (dr_wl B n e)) else .inl (2, dr_at B n e)) else .inl (1, dr_at B n e)
def dr_hw (D : Nat → Nat → Nat) (i j : Nat) : Bool := dk_any (fun w => (D 6 w == i && D 7 w == j) || (D 6 w == j && D 7 w == i)) (D 0 6)
def dr_wsh (B : Nat → Nat) (n e : Nat) (Nm : Nat → List Nat) (D : Nat → Nat → Nat) : dr_Rs :=
  dr_pIsl B n e Nm fun a => dr_pIsl B n (dr_nx B n e) Nm fun b => if (decide (a = b) || dr_hw D a b) = true then .inl (3, dr_at B n (dr_nx B n e)) else .inr (dr_nx B n (dr_nx B n e), Nm, dr_addW D a b)
def dr_shw (B : Nat → Nat) (n e : Nat) (Nm : Nat → List Nat) (D : Nat → Nat → Nat) : dr_Rs :=
  dr_pNum B n e 0 (D 0 0 * D 0 1 - 1) fun p e => dr_pIsl B n e Nm fun i => .inr (dr_nx B n e, Nm, dr_addS D p i)
/-- the fault of an island's name, 0 if it is one -/
def dr_ni (B : Nat → Nat) (n e : Nat) (Nm : Nat → List Nat) : Nat := if dr_isn B n e = true then (if (dr_has Nm (dr_wl B n e) && decide (dr_slot Nm (dr_wl B n e) < 12)) = true then 0 else 2) else 1
theorem dr_pIsl_s {α : Type} {B : Nat → Nat} {n e : Nat} {Nm : Nat → List Nat} {f : Nat → (Nat × Nat) ⊕ α} (h : dr_ni B n e Nm = 0) : dr_pIsl B n e Nm f = f (dr_slot Nm (dr_wl B n e)) := by
  unfold dr_ni at h
  unfold dr_pIsl
  split at h
  · rename_i a
    rw [if_pos a]
    split at h
    · rename_i b
      rw [if_pos b]
    · omega
  · omega
theorem dr_pIsl_n {α : Type} {B : Nat → Nat} {n e : Nat} {Nm : Nat → List Nat} {f : Nat → (Nat × Nat) ⊕ α} (h : ¬ dr_ni B n e Nm = 0) : dr_pIsl B n e Nm f = .inl (dr_ni B n e Nm, dr_at B n e) := by
  unfold dr_ni at h ⊢
  unfold dr_pIsl
  split at h
  · rename_i a
    rw [if_pos a, if_pos a]
    split at h
    · omega
    · rename_i b
      rw [if_neg b, if_neg b]
  · rename_i a
    rw [if_neg a, if_neg a]
theorem dr_ni_6 (B : Nat → Nat) (n e : Nat) (Nm : Nat → List Nat) : dr_ni B n e Nm = 0 ∨ (1 ≤ dr_ni B n e Nm ∧ dr_ni B n e Nm ≤ 6) := by
  unfold dr_ni
  split
  · split <;> omega
  · omega
theorem dr_ni_0 {B : Nat → Nat} {n e : Nat} {Nm : Nat → List Nat} (h : dr_ni B n e Nm = 0) : dr_isn B n e = true ∧ dr_has Nm (dr_wl B n e) = true ∧ dr_slot Nm (dr_wl B n e) < 12 := by
  unfold dr_ni at h
  split at h
  · rename_i a
    split at h
    · rename_i b
      rw [Bool.and_eq_true] at b
      exact ⟨a, b.1, by simpa using b.2⟩
    · omega
  · omega
theorem s_named (d : Nat) (z z0 : ds_St) (t : Nat) (hs : Bool) (B : Nat → Nat) (n e : Nat) (Nm : Nat → List Nat) (N D : Nat → Nat → Nat) (hO : dr_O z B n e) (hS : dr_S z0 t hs Nm N D z) (hn : dr_nok N Nm) : (dr_ni B n e Nm = 0 → ds_call (d + 4) j_Reader_namedIsland [.ref 1] z = some (some (.int (nI (dr_slot Nm (dr_wl B n e)))), z)) ∧ (¬ dr_ni B n e Nm = 0 → ∃ r, ds_call (d + 4) j_Reader_namedIsland [.ref 1] z = some (some (.int r), dr_zb z (dr_ni B n e Nm))) := by
  have h0 := hO
  obtain ⟨hb, he, ht⟩ := hO
  have h9 := hb.1
  have an := s_isAtName d z B n e h0
  have bl := fun v => s_blame (d + 2) v z h9
  unfold dr_ni
  cases q : dr_isn B n e
  · rw [q] at an
    simp only [↓reduceIte, Bool.false_eq_true]
    refine ⟨fun c => absurd c (by decide), fun _ => ⟨ds_m1, ?_⟩⟩
    rw [c_Reader_namedIsland, b_Reader_namedIsland_0]
    simp (disch := first | assumption | omega) only [ds_cI, ds_cV, ds_cL, ds_cR, ds_nn, ds_isK_t, ds_isA_t, ds_chk_t, ds_chkN, ds_nz_t, ds_nzN, ds_isB_t, ds_isB_bo, ↓dl_m1, ↓dl_m2, dl_0, dl_1, dl_2, dl_3, dl_4, dl_5, dl_6, dl_7, dl_8, dl_9, dl_10, dl_11, dl_12, dl_13, dl_14, dl_15, dl_16, dl_20, dl_24, dl_31, dl_50, dl_57, dl_67, dl_68, dl_74, dl_75, dl_79, dl_80, dl_99, dl_100, dl_200, dl_210, dl_224, dl_255, dl_289, dl_900, dl_1000, dl_1728, dl_65536, dl_65537, nI_add, pk_mul, pk_sub, pk_div, pk_rem, ds_rem2, nI_clamp, nI_leI, nI_ltI, nI_eq, ds_m1_eq, ds_eq_m1, ds_m2_eq, ds_eq_m2, ds_m1_le, ds_le_m1, ds_m1_lt, ds_lt_m1, ds_in_N, ds_bo0, ds_bo1, if_pos, if_neg, Nat.not_le, Nat.not_lt, not_true_eq_false, not_false_eq_true, if_true, if_false, ne_eq, Option.some.injEq, Prod.mk.injEq, Value.int.injEq, true_and, and_true, and_self, ite_self, Bool.not_eq_true, Bool.not_eq_false, Bool.true_eq_false, Bool.false_eq_true, reduceCtorEq, Nat.zero_add, Nat.reduceAdd, Nat.reduceMul, Nat.reduceSub, ds_setI_row, ds_setL_row, ds_rowI_self, ds_rowI_ne, ds_rowI_2, ds_rowI_rowI, ds_setS_1, ds_setS_21, ds_setS_self, ds_setS_ne, pk_us, pk_un, an, bl]
  · rw [q] at an
    have k1 := dr_isn_k q
    have wd := dr_wl_ok he k1
    have ow := s_owner (d + 1) z N Nm (dr_wl B n e) hS.2.2.1 hn wd (ht.2.2.2.1 k1)
    simp only [↓reduceIte]
    cases qh : dr_has Nm (dr_wl B n e)
    · have ee : dr_own Nm (dr_wl B n e) = ds_m1 := by
        unfold dr_own
        rw [qh]
        rfl
      rw [ee] at ow
      simp only [Bool.false_and, Bool.false_eq_true, ↓reduceIte]
      refine ⟨fun c => absurd c (by decide), fun _ => ⟨ds_m1, ?_⟩⟩
      have nn : ¬ nI 0 ≤ ds_m1 := by decide
      rw [c_Reader_namedIsland, b_Reader_namedIsland_0]
      simp (disch := first | assumption | omega) only [ds_cI, ds_cV, ds_cL, ds_cR, ds_nn, ds_isK_t, ds_isA_t, ds_chk_t, ds_chkN, ds_nz_t, ds_nzN, ds_isB_t, ds_isB_bo, ↓dl_m1, ↓dl_m2, dl_0, dl_1, dl_2, dl_3, dl_4, dl_5, dl_6, dl_7, dl_8, dl_9, dl_10, dl_11, dl_12, dl_13, dl_14, dl_15, dl_16, dl_20, dl_24, dl_31, dl_50, dl_57, dl_67, dl_68, dl_74, dl_75, dl_79, dl_80, dl_99, dl_100, dl_200, dl_210, dl_224, dl_255, dl_289, dl_900, dl_1000, dl_1728, dl_65536, dl_65537, nI_add, pk_mul, pk_sub, pk_div, pk_rem, ds_rem2, nI_clamp, nI_leI, nI_ltI, nI_eq, ds_m1_eq, ds_eq_m1, ds_m2_eq, ds_eq_m2, ds_m1_le, ds_le_m1, ds_m1_lt, ds_lt_m1, ds_in_N, ds_bo0, ds_bo1, if_pos, if_neg, Nat.not_le, Nat.not_lt, not_true_eq_false, not_false_eq_true, if_true, if_false, ne_eq, Option.some.injEq, Prod.mk.injEq, Value.int.injEq, true_and, and_true, and_self, ite_self, Bool.not_eq_true, Bool.not_eq_false, Bool.true_eq_false, Bool.false_eq_true, reduceCtorEq, Nat.zero_add, Nat.reduceAdd, Nat.reduceMul, Nat.reduceSub, ds_setI_row, ds_setL_row, ds_rowI_self, ds_rowI_ne, ds_rowI_2, ds_rowI_rowI, ds_setS_1, ds_setS_21, ds_setS_self, ds_setS_ne, pk_us, pk_un, an, ow, nn, bl]
    · by_cases sl : dr_slot Nm (dr_wl B n e) < 12
      · have ee : dr_own Nm (dr_wl B n e) = nI (dr_slot Nm (dr_wl B n e)) := by
          unfold dr_own
          rw [if_pos qh, if_pos sl]
        rw [ee] at ow
        rw [decide_eq_true sl]
        simp only [Bool.true_and, ↓reduceIte]
        refine ⟨fun _ => ?_, fun c => absurd trivial c⟩
        generalize dr_slot Nm (dr_wl B n e) = s at *
        rw [c_Reader_namedIsland, b_Reader_namedIsland_0]
        simp (disch := first | assumption | omega) only [ds_cI, ds_cV, ds_cL, ds_cR, ds_nn, ds_isK_t, ds_isA_t, ds_chk_t, ds_chkN, ds_nz_t, ds_nzN, ds_isB_t, ds_isB_bo, ↓dl_m1, ↓dl_m2, dl_0, dl_1, dl_2, dl_3, dl_4, dl_5, dl_6, dl_7, dl_8, dl_9, dl_10, dl_11, dl_12, dl_13, dl_14, dl_15, dl_16, dl_20, dl_24, dl_31, dl_50, dl_57, dl_67, dl_68, dl_74, dl_75, dl_79, dl_80, dl_99, dl_100, dl_200, dl_210, dl_224, dl_255, dl_289, dl_900, dl_1000, dl_1728, dl_65536, dl_65537, nI_add, pk_mul, pk_sub, pk_div, pk_rem, ds_rem2, nI_clamp, nI_leI, nI_ltI, nI_eq, ds_m1_eq, ds_eq_m1, ds_m2_eq, ds_eq_m2, ds_m1_le, ds_le_m1, ds_m1_lt, ds_lt_m1, ds_in_N, ds_bo0, ds_bo1, if_pos, if_neg, Nat.not_le, Nat.not_lt, not_true_eq_false, not_false_eq_true, if_true, if_false, ne_eq, Option.some.injEq, Prod.mk.injEq, Value.int.injEq, true_and, and_true, and_self, ite_self, Bool.not_eq_true, Bool.not_eq_false, Bool.true_eq_false, Bool.false_eq_true, reduceCtorEq, Nat.zero_add, Nat.reduceAdd, Nat.reduceMul, Nat.reduceSub, ds_setI_row, ds_setL_row, ds_rowI_self, ds_rowI_ne, ds_rowI_2, ds_rowI_rowI, ds_setS_1, ds_setS_21, ds_setS_self, ds_setS_ne, pk_us, pk_un, an, ow]
      · have ee : dr_own Nm (dr_wl B n e) = ds_m2 := by
          unfold dr_own
          rw [if_pos qh, if_neg sl]
        rw [ee] at ow
        rw [decide_eq_false sl]
        simp only [Bool.true_and, Bool.false_eq_true, ↓reduceIte]
        refine ⟨fun c => absurd c (by decide), fun _ => ⟨ds_m2, ?_⟩⟩
        have nn : ¬ nI 0 ≤ ds_m2 := by decide
        rw [c_Reader_namedIsland, b_Reader_namedIsland_0]
        simp (disch := first | assumption | omega) only [ds_cI, ds_cV, ds_cL, ds_cR, ds_nn, ds_isK_t, ds_isA_t, ds_chk_t, ds_chkN, ds_nz_t, ds_nzN, ds_isB_t, ds_isB_bo, ↓dl_m1, ↓dl_m2, dl_0, dl_1, dl_2, dl_3, dl_4, dl_5, dl_6, dl_7, dl_8, dl_9, dl_10, dl_11, dl_12, dl_13, dl_14, dl_15, dl_16, dl_20, dl_24, dl_31, dl_50, dl_57, dl_67, dl_68, dl_74, dl_75, dl_79, dl_80, dl_99, dl_100, dl_200, dl_210, dl_224, dl_255, dl_289, dl_900, dl_1000, dl_1728, dl_65536, dl_65537, nI_add, pk_mul, pk_sub, pk_div, pk_rem, ds_rem2, nI_clamp, nI_leI, nI_ltI, nI_eq, ds_m1_eq, ds_eq_m1, ds_m2_eq, ds_eq_m2, ds_m1_le, ds_le_m1, ds_m1_lt, ds_lt_m1, ds_in_N, ds_bo0, ds_bo1, if_pos, if_neg, Nat.not_le, Nat.not_lt, not_true_eq_false, not_false_eq_true, if_true, if_false, ne_eq, Option.some.injEq, Prod.mk.injEq, Value.int.injEq, true_and, and_true, and_self, ite_self, Bool.not_eq_true, Bool.not_eq_false, Bool.true_eq_false, Bool.false_eq_true, reduceCtorEq, Nat.zero_add, Nat.reduceAdd, Nat.reduceMul, Nat.reduceSub, ds_setI_row, ds_setL_row, ds_rowI_self, ds_rowI_ne, ds_rowI_2, ds_rowI_rowI, ds_setS_1, ds_setS_21, ds_setS_self, ds_setS_ne, pk_us, pk_un, an, ow, nn, bl]
theorem s_namedX (d : Nat) {z0 z : ds_St} {t v a : Nat} (h : dr_X z0 t v a z) : ∃ r, ds_call (d + 4) j_Reader_namedIsland [.ref 1] z = some (some (.int r), z) := by
  obtain ⟨b, an⟩ := s_isAtName_x d z
  obtain ⟨c, c1, c2⟩ := h.2.2.2.2.1
  obtain ⟨r, ow⟩ := s_owner_x (d + 1) c z c2 c1
  have bl := fun k => s_blame_x (d + 2) v (nI k) z h.1 h.2.1.1 h.2.1.2
  rw [c_Reader_namedIsland, b_Reader_namedIsland_0]
  cases b
  · exact ⟨ds_m1, by
      simp (disch := first | assumption | omega) only [ds_cI, ds_cV, ds_cL, ds_cR, ds_nn, ds_isK_t, ds_isA_t, ds_chk_t, ds_chkN, ds_nz_t, ds_nzN, ds_isB_t, ds_isB_bo, ↓dl_m1, ↓dl_m2, dl_0, dl_1, dl_2, dl_3, dl_4, dl_5, dl_6, dl_7, dl_8, dl_9, dl_10, dl_11, dl_12, dl_13, dl_14, dl_15, dl_16, dl_20, dl_24, dl_31, dl_50, dl_57, dl_67, dl_68, dl_74, dl_75, dl_79, dl_80, dl_99, dl_100, dl_200, dl_210, dl_224, dl_255, dl_289, dl_900, dl_1000, dl_1728, dl_65536, dl_65537, nI_add, pk_mul, pk_sub, pk_div, pk_rem, ds_rem2, nI_clamp, nI_leI, nI_ltI, nI_eq, ds_m1_eq, ds_eq_m1, ds_m2_eq, ds_eq_m2, ds_m1_le, ds_le_m1, ds_m1_lt, ds_lt_m1, ds_in_N, ds_bo0, ds_bo1, if_pos, if_neg, Nat.not_le, Nat.not_lt, not_true_eq_false, not_false_eq_true, if_true, if_false, ne_eq, Option.some.injEq, Prod.mk.injEq, Value.int.injEq, true_and, and_true, and_self, ite_self, Bool.not_eq_true, Bool.not_eq_false, Bool.true_eq_false, Bool.false_eq_true, reduceCtorEq, Nat.zero_add, Nat.reduceAdd, Nat.reduceMul, Nat.reduceSub, ds_setI_row, ds_setL_row, ds_rowI_self, ds_rowI_ne, ds_rowI_2, ds_rowI_rowI, ds_setS_1, ds_setS_21, ds_setS_self, ds_setS_ne, pk_us, pk_un, an, bl]⟩
  · by_cases q : nI 0 ≤ r
    · exact ⟨r, by
        simp (disch := first | assumption | omega) only [ds_cI, ds_cV, ds_cL, ds_cR, ds_nn, ds_isK_t, ds_isA_t, ds_chk_t, ds_chkN, ds_nz_t, ds_nzN, ds_isB_t, ds_isB_bo, ↓dl_m1, ↓dl_m2, dl_0, dl_1, dl_2, dl_3, dl_4, dl_5, dl_6, dl_7, dl_8, dl_9, dl_10, dl_11, dl_12, dl_13, dl_14, dl_15, dl_16, dl_20, dl_24, dl_31, dl_50, dl_57, dl_67, dl_68, dl_74, dl_75, dl_79, dl_80, dl_99, dl_100, dl_200, dl_210, dl_224, dl_255, dl_289, dl_900, dl_1000, dl_1728, dl_65536, dl_65537, nI_add, pk_mul, pk_sub, pk_div, pk_rem, ds_rem2, nI_clamp, nI_leI, nI_ltI, nI_eq, ds_m1_eq, ds_eq_m1, ds_m2_eq, ds_eq_m2, ds_m1_le, ds_le_m1, ds_m1_lt, ds_lt_m1, ds_in_N, ds_bo0, ds_bo1, if_pos, if_neg, Nat.not_le, Nat.not_lt, not_true_eq_false, not_false_eq_true, if_true, if_false, ne_eq, Option.some.injEq, Prod.mk.injEq, Value.int.injEq, true_and, and_true, and_self, ite_self, Bool.not_eq_true, Bool.not_eq_false, Bool.true_eq_false, Bool.false_eq_true, reduceCtorEq, Nat.zero_add, Nat.reduceAdd, Nat.reduceMul, Nat.reduceSub, ds_setI_row, ds_setL_row, ds_rowI_self, ds_rowI_ne, ds_rowI_2, ds_rowI_rowI, ds_setS_1, ds_setS_21, ds_setS_self, ds_setS_ne, pk_us, pk_un, an, ow, q]⟩
    · exact ⟨r, by
        simp (disch := first | assumption | omega) only [ds_cI, ds_cV, ds_cL, ds_cR, ds_nn, ds_isK_t, ds_isA_t, ds_chk_t, ds_chkN, ds_nz_t, ds_nzN, ds_isB_t, ds_isB_bo, ↓dl_m1, ↓dl_m2, dl_0, dl_1, dl_2, dl_3, dl_4, dl_5, dl_6, dl_7, dl_8, dl_9, dl_10, dl_11, dl_12, dl_13, dl_14, dl_15, dl_16, dl_20, dl_24, dl_31, dl_50, dl_57, dl_67, dl_68, dl_74, dl_75, dl_79, dl_80, dl_99, dl_100, dl_200, dl_210, dl_224, dl_255, dl_289, dl_900, dl_1000, dl_1728, dl_65536, dl_65537, nI_add, pk_mul, pk_sub, pk_div, pk_rem, ds_rem2, nI_clamp, nI_leI, nI_ltI, nI_eq, ds_m1_eq, ds_eq_m1, ds_m2_eq, ds_eq_m2, ds_m1_le, ds_le_m1, ds_m1_lt, ds_lt_m1, ds_in_N, ds_bo0, ds_bo1, if_pos, if_neg, Nat.not_le, Nat.not_lt, not_true_eq_false, not_false_eq_true, if_true, if_false, ne_eq, Option.some.injEq, Prod.mk.injEq, Value.int.injEq, true_and, and_true, and_self, ite_self, Bool.not_eq_true, Bool.not_eq_false, Bool.true_eq_false, Bool.false_eq_true, reduceCtorEq, Nat.zero_add, Nat.reduceAdd, Nat.reduceMul, Nat.reduceSub, ds_setI_row, ds_setL_row, ds_rowI_self, ds_rowI_ne, ds_rowI_2, ds_rowI_rowI, ds_setS_1, ds_setS_21, ds_setS_self, ds_setS_ne, pk_us, pk_un, an, ow, q, bl]⟩
theorem s_hasWish (d t i j : Nat) (z : ds_St) (D : Nat → Nat → Nat) (ht : t = 10 ∨ t = 30) (h11 : z.1 t 11 = nI (D 0 6)) (h6 : D 0 6 ≤ 6) (hw : ∀ m, m < D 0 6 → z.1 (t + 6) m = nI (D 6 m) ∧ z.1 (t + 7) m = nI (D 7 m)) (hb : ∀ m, m < D 0 6 → D 6 m < 12 ∧ D 7 m < 12) (hi : i < 12) (hj : j < 12) : ds_call (d + 2) j_Told_hasWish [.ref t, .int (nI i), .int (nI j)] z = some (some (.int (ds_bo (dr_hw D i j))), z) := by
  have go : ∀ m k, k + m = D 0 6 → (∀ w, w < k → ((D 6 w == i && D 7 w == j) || (D 6 w == j && D 7 w == i)) = false) → ds_Rw ds_c_Told_hasWish ds_u_Told_hasWish (ds_call (d + 1)) 2 [some (.ref t), some (.int (nI i)), some (.int (nI j)), some (.int (nI k)), none, none] [] z = some (some (.int (ds_bo (dr_hw D i j))), z) := by
    intro m
    induction m with
    | zero =>
      intro k hk hno
      have e : dr_hw D i j = false := (dk_any_f _ _).mpr (fun w hw => hno w (by omega))
      rw [e, b_Told_hasWish_2 t ht]
      simp (disch := first | assumption | omega) only [ds_cI, ds_cV, ds_cL, ds_cR, ds_nn, ds_isK_t, ds_isA_t, ds_chk_t, ds_chkN, ds_nz_t, ds_nzN, ds_isB_t, ds_isB_bo, ↓dl_m1, ↓dl_m2, dl_0, dl_1, dl_2, dl_3, dl_4, dl_5, dl_6, dl_7, dl_8, dl_9, dl_10, dl_11, dl_12, dl_13, dl_14, dl_15, dl_16, dl_20, dl_24, dl_31, dl_50, dl_57, dl_67, dl_68, dl_74, dl_75, dl_79, dl_80, dl_99, dl_100, dl_200, dl_210, dl_224, dl_255, dl_289, dl_900, dl_1000, dl_1728, dl_65536, dl_65537, nI_add, pk_mul, pk_sub, pk_div, pk_rem, ds_rem2, nI_clamp, nI_leI, nI_ltI, nI_eq, ds_m1_eq, ds_eq_m1, ds_m2_eq, ds_eq_m2, ds_m1_le, ds_le_m1, ds_m1_lt, ds_lt_m1, ds_in_N, ds_bo0, ds_bo1, if_pos, if_neg, Nat.not_le, Nat.not_lt, not_true_eq_false, not_false_eq_true, if_true, if_false, ne_eq, Option.some.injEq, Prod.mk.injEq, Value.int.injEq, true_and, and_true, and_self, ite_self, Bool.not_eq_true, Bool.not_eq_false, Bool.true_eq_false, Bool.false_eq_true, reduceCtorEq, Nat.zero_add, Nat.reduceAdd, Nat.reduceMul, Nat.reduceSub, ds_setI_row, ds_setL_row, ds_rowI_self, ds_rowI_ne, ds_rowI_2, ds_rowI_rowI, ds_setS_1, ds_setS_21, ds_setS_self, ds_setS_ne, pk_us, pk_un, h11]
      rfl
    | succ m ih =>
      intro k hk hno
      obtain ⟨x1, x2⟩ := hw k (by omega)
      obtain ⟨y1, y2⟩ := hb k (by omega)
      have l6 := s_look6 d t 6 k z ht (by decide) (by omega)
      have l7 := s_look6 d t 7 k z ht (by decide) (by omega)
      rw [x1] at l6
      rw [x2] at l7
      have yes : (D 6 k = i ∧ D 7 k = j) ∨ (D 6 k = j ∧ D 7 k = i) → dr_hw D i j = true := fun h => (dk_any_iff _ _).mpr ⟨k, by omega, by simpa using h⟩
      have no : ¬ ((D 6 k = i ∧ D 7 k = j) ∨ (D 6 k = j ∧ D 7 k = i)) → ds_Rw ds_c_Told_hasWish ds_u_Told_hasWish (ds_call (d + 1)) 2 [some (.ref t), some (.int (nI i)), some (.int (nI j)), some (.int (nI ((k + 1)))), none, none] [] z = some (some (.int (ds_bo (dr_hw D i j))), z) := fun h => ih (k + 1) (by omega) (fun w hw => by
        rcases Nat.lt_or_ge w k with a | a
        · exact hno w a
        · have : w = k := by omega
          subst this
          cases q : ((D 6 w == i && D 7 w == j) || (D 6 w == j && D 7 w == i))
          · rfl
          · exact absurd (by simpa using q) h)
      generalize dr_hw D i j = R at *
      generalize D 6 k = a at *
      generalize D 7 k = b at *
      rw [b_Told_hasWish_2 t ht]
      by_cases q1 : a = i
      · by_cases q2 : b = j
        · have y := yes (.inl ⟨q1, q2⟩)
          subst y
          simp (disch := first | assumption | omega) only [ds_cI, ds_cV, ds_cL, ds_cR, ds_nn, ds_isK_t, ds_isA_t, ds_chk_t, ds_chkN, ds_nz_t, ds_nzN, ds_isB_t, ds_isB_bo, ↓dl_m1, ↓dl_m2, dl_0, dl_1, dl_2, dl_3, dl_4, dl_5, dl_6, dl_7, dl_8, dl_9, dl_10, dl_11, dl_12, dl_13, dl_14, dl_15, dl_16, dl_20, dl_24, dl_31, dl_50, dl_57, dl_67, dl_68, dl_74, dl_75, dl_79, dl_80, dl_99, dl_100, dl_200, dl_210, dl_224, dl_255, dl_289, dl_900, dl_1000, dl_1728, dl_65536, dl_65537, nI_add, pk_mul, pk_sub, pk_div, pk_rem, ds_rem2, nI_clamp, nI_leI, nI_ltI, nI_eq, ds_m1_eq, ds_eq_m1, ds_m2_eq, ds_eq_m2, ds_m1_le, ds_le_m1, ds_m1_lt, ds_lt_m1, ds_in_N, ds_bo0, ds_bo1, if_pos, if_neg, Nat.not_le, Nat.not_lt, not_true_eq_false, not_false_eq_true, if_true, if_false, ne_eq, Option.some.injEq, Prod.mk.injEq, Value.int.injEq, true_and, and_true, and_self, ite_self, Bool.not_eq_true, Bool.not_eq_false, Bool.true_eq_false, Bool.false_eq_true, reduceCtorEq, Nat.zero_add, Nat.reduceAdd, Nat.reduceMul, Nat.reduceSub, ds_setI_row, ds_setL_row, ds_rowI_self, ds_rowI_ne, ds_rowI_2, ds_rowI_rowI, ds_setS_1, ds_setS_21, ds_setS_self, ds_setS_ne, pk_us, pk_un, h11, l6, l7, q1, q2]
          rfl
        · by_cases q3 : a = j
          · by_cases q4 : b = i
            · exact absurd (show b = j by omega) q2
            · have nn := no (by omega)
              simp (disch := first | assumption | omega) only [ds_cI, ds_cV, ds_cL, ds_cR, ds_nn, ds_isK_t, ds_isA_t, ds_chk_t, ds_chkN, ds_nz_t, ds_nzN, ds_isB_t, ds_isB_bo, ↓dl_m1, ↓dl_m2, dl_0, dl_1, dl_2, dl_3, dl_4, dl_5, dl_6, dl_7, dl_8, dl_9, dl_10, dl_11, dl_12, dl_13, dl_14, dl_15, dl_16, dl_20, dl_24, dl_31, dl_50, dl_57, dl_67, dl_68, dl_74, dl_75, dl_79, dl_80, dl_99, dl_100, dl_200, dl_210, dl_224, dl_255, dl_289, dl_900, dl_1000, dl_1728, dl_65536, dl_65537, nI_add, pk_mul, pk_sub, pk_div, pk_rem, ds_rem2, nI_clamp, nI_leI, nI_ltI, nI_eq, ds_m1_eq, ds_eq_m1, ds_m2_eq, ds_eq_m2, ds_m1_le, ds_le_m1, ds_m1_lt, ds_lt_m1, ds_in_N, ds_bo0, ds_bo1, if_pos, if_neg, Nat.not_le, Nat.not_lt, not_true_eq_false, not_false_eq_true, if_true, if_false, ne_eq, Option.some.injEq, Prod.mk.injEq, Value.int.injEq, true_and, and_true, and_self, ite_self, Bool.not_eq_true, Bool.not_eq_false, Bool.true_eq_false, Bool.false_eq_true, reduceCtorEq, Nat.zero_add, Nat.reduceAdd, Nat.reduceMul, Nat.reduceSub, ds_setI_row, ds_setL_row, ds_rowI_self, ds_rowI_ne, ds_rowI_2, ds_rowI_rowI, ds_setS_1, ds_setS_21, ds_setS_self, ds_setS_ne, pk_us, pk_un, h11, l6, l7, q1, q2, b_Told_hasWish_42 t ht]
              have q6 : i = j := by omega
              have q7 : ¬ b = i := q4
              simp (disch := first | assumption | omega) only [ds_cI, ds_cV, ds_cL, ds_cR, ds_nn, ds_isK_t, ds_isA_t, ds_chk_t, ds_chkN, ds_nz_t, ds_nzN, ds_isB_t, ds_isB_bo, ↓dl_m1, ↓dl_m2, dl_0, dl_1, dl_2, dl_3, dl_4, dl_5, dl_6, dl_7, dl_8, dl_9, dl_10, dl_11, dl_12, dl_13, dl_14, dl_15, dl_16, dl_20, dl_24, dl_31, dl_50, dl_57, dl_67, dl_68, dl_74, dl_75, dl_79, dl_80, dl_99, dl_100, dl_200, dl_210, dl_224, dl_255, dl_289, dl_900, dl_1000, dl_1728, dl_65536, dl_65537, nI_add, pk_mul, pk_sub, pk_div, pk_rem, ds_rem2, nI_clamp, nI_leI, nI_ltI, nI_eq, ds_m1_eq, ds_eq_m1, ds_m2_eq, ds_eq_m2, ds_m1_le, ds_le_m1, ds_m1_lt, ds_lt_m1, ds_in_N, ds_bo0, ds_bo1, if_pos, if_neg, Nat.not_le, Nat.not_lt, not_true_eq_false, not_false_eq_true, if_true, if_false, ne_eq, Option.some.injEq, Prod.mk.injEq, Value.int.injEq, true_and, and_true, and_self, ite_self, Bool.not_eq_true, Bool.not_eq_false, Bool.true_eq_false, Bool.false_eq_true, reduceCtorEq, Nat.zero_add, Nat.reduceAdd, Nat.reduceMul, Nat.reduceSub, ds_setI_row, ds_setL_row, ds_rowI_self, ds_rowI_ne, ds_rowI_2, ds_rowI_rowI, ds_setS_1, ds_setS_21, ds_setS_self, ds_setS_ne, pk_us, pk_un, q7, q6]
              rw [← q6]
              rw [← q6] at nn
              exact nn
          · have nn := no (by omega)
            have q6 : ¬ i = j := by omega
            simp (disch := first | assumption | omega) only [ds_cI, ds_cV, ds_cL, ds_cR, ds_nn, ds_isK_t, ds_isA_t, ds_chk_t, ds_chkN, ds_nz_t, ds_nzN, ds_isB_t, ds_isB_bo, ↓dl_m1, ↓dl_m2, dl_0, dl_1, dl_2, dl_3, dl_4, dl_5, dl_6, dl_7, dl_8, dl_9, dl_10, dl_11, dl_12, dl_13, dl_14, dl_15, dl_16, dl_20, dl_24, dl_31, dl_50, dl_57, dl_67, dl_68, dl_74, dl_75, dl_79, dl_80, dl_99, dl_100, dl_200, dl_210, dl_224, dl_255, dl_289, dl_900, dl_1000, dl_1728, dl_65536, dl_65537, nI_add, pk_mul, pk_sub, pk_div, pk_rem, ds_rem2, nI_clamp, nI_leI, nI_ltI, nI_eq, ds_m1_eq, ds_eq_m1, ds_m2_eq, ds_eq_m2, ds_m1_le, ds_le_m1, ds_m1_lt, ds_lt_m1, ds_in_N, ds_bo0, ds_bo1, if_pos, if_neg, Nat.not_le, Nat.not_lt, not_true_eq_false, not_false_eq_true, if_true, if_false, ne_eq, Option.some.injEq, Prod.mk.injEq, Value.int.injEq, true_and, and_true, and_self, ite_self, Bool.not_eq_true, Bool.not_eq_false, Bool.true_eq_false, Bool.false_eq_true, reduceCtorEq, Nat.zero_add, Nat.reduceAdd, Nat.reduceMul, Nat.reduceSub, ds_setI_row, ds_setL_row, ds_rowI_self, ds_rowI_ne, ds_rowI_2, ds_rowI_rowI, ds_setS_1, ds_setS_21, ds_setS_self, ds_setS_ne, pk_us, pk_un, h11, l6, l7, q1, q2, b_Told_hasWish_42 t ht, q6, nn]
      · by_cases q3 : a = j
        · by_cases q4 : b = i
          · have y := yes (.inr ⟨q3, q4⟩)
            subst y
            have q6 : ¬ j = i := by omega
            simp (disch := first | assumption | omega) only [ds_cI, ds_cV, ds_cL, ds_cR, ds_nn, ds_isK_t, ds_isA_t, ds_chk_t, ds_chkN, ds_nz_t, ds_nzN, ds_isB_t, ds_isB_bo, ↓dl_m1, ↓dl_m2, dl_0, dl_1, dl_2, dl_3, dl_4, dl_5, dl_6, dl_7, dl_8, dl_9, dl_10, dl_11, dl_12, dl_13, dl_14, dl_15, dl_16, dl_20, dl_24, dl_31, dl_50, dl_57, dl_67, dl_68, dl_74, dl_75, dl_79, dl_80, dl_99, dl_100, dl_200, dl_210, dl_224, dl_255, dl_289, dl_900, dl_1000, dl_1728, dl_65536, dl_65537, nI_add, pk_mul, pk_sub, pk_div, pk_rem, ds_rem2, nI_clamp, nI_leI, nI_ltI, nI_eq, ds_m1_eq, ds_eq_m1, ds_m2_eq, ds_eq_m2, ds_m1_le, ds_le_m1, ds_m1_lt, ds_lt_m1, ds_in_N, ds_bo0, ds_bo1, if_pos, if_neg, Nat.not_le, Nat.not_lt, not_true_eq_false, not_false_eq_true, if_true, if_false, ne_eq, Option.some.injEq, Prod.mk.injEq, Value.int.injEq, true_and, and_true, and_self, ite_self, Bool.not_eq_true, Bool.not_eq_false, Bool.true_eq_false, Bool.false_eq_true, reduceCtorEq, Nat.zero_add, Nat.reduceAdd, Nat.reduceMul, Nat.reduceSub, ds_setI_row, ds_setL_row, ds_rowI_self, ds_rowI_ne, ds_rowI_2, ds_rowI_rowI, ds_setS_1, ds_setS_21, ds_setS_self, ds_setS_ne, pk_us, pk_un, h11, l6, l7, q1, b_Told_hasWish_42 t ht, q3, q4, q6]
            rfl
          · have nn := no (by omega)
            have q6 : ¬ j = i := by omega
            simp (disch := first | assumption | omega) only [ds_cI, ds_cV, ds_cL, ds_cR, ds_nn, ds_isK_t, ds_isA_t, ds_chk_t, ds_chkN, ds_nz_t, ds_nzN, ds_isB_t, ds_isB_bo, ↓dl_m1, ↓dl_m2, dl_0, dl_1, dl_2, dl_3, dl_4, dl_5, dl_6, dl_7, dl_8, dl_9, dl_10, dl_11, dl_12, dl_13, dl_14, dl_15, dl_16, dl_20, dl_24, dl_31, dl_50, dl_57, dl_67, dl_68, dl_74, dl_75, dl_79, dl_80, dl_99, dl_100, dl_200, dl_210, dl_224, dl_255, dl_289, dl_900, dl_1000, dl_1728, dl_65536, dl_65537, nI_add, pk_mul, pk_sub, pk_div, pk_rem, ds_rem2, nI_clamp, nI_leI, nI_ltI, nI_eq, ds_m1_eq, ds_eq_m1, ds_m2_eq, ds_eq_m2, ds_m1_le, ds_le_m1, ds_m1_lt, ds_lt_m1, ds_in_N, ds_bo0, ds_bo1, if_pos, if_neg, Nat.not_le, Nat.not_lt, not_true_eq_false, not_false_eq_true, if_true, if_false, ne_eq, Option.some.injEq, Prod.mk.injEq, Value.int.injEq, true_and, and_true, and_self, ite_self, Bool.not_eq_true, Bool.not_eq_false, Bool.true_eq_false, Bool.false_eq_true, reduceCtorEq, Nat.zero_add, Nat.reduceAdd, Nat.reduceMul, Nat.reduceSub, ds_setI_row, ds_setL_row, ds_rowI_self, ds_rowI_ne, ds_rowI_2, ds_rowI_rowI, ds_setS_1, ds_setS_21, ds_setS_self, ds_setS_ne, pk_us, pk_un, h11, l6, l7, q1, b_Told_hasWish_42 t ht, q3, q4, q6, nn]
        · have nn := no (by omega)
          simp (disch := first | assumption | omega) only [ds_cI, ds_cV, ds_cL, ds_cR, ds_nn, ds_isK_t, ds_isA_t, ds_chk_t, ds_chkN, ds_nz_t, ds_nzN, ds_isB_t, ds_isB_bo, ↓dl_m1, ↓dl_m2, dl_0, dl_1, dl_2, dl_3, dl_4, dl_5, dl_6, dl_7, dl_8, dl_9, dl_10, dl_11, dl_12, dl_13, dl_14, dl_15, dl_16, dl_20, dl_24, dl_31, dl_50, dl_57, dl_67, dl_68, dl_74, dl_75, dl_79, dl_80, dl_99, dl_100, dl_200, dl_210, dl_224, dl_255, dl_289, dl_900, dl_1000, dl_1728, dl_65536, dl_65537, nI_add, pk_mul, pk_sub, pk_div, pk_rem, ds_rem2, nI_clamp, nI_leI, nI_ltI, nI_eq, ds_m1_eq, ds_eq_m1, ds_m2_eq, ds_eq_m2, ds_m1_le, ds_le_m1, ds_m1_lt, ds_lt_m1, ds_in_N, ds_bo0, ds_bo1, if_pos, if_neg, Nat.not_le, Nat.not_lt, not_true_eq_false, not_false_eq_true, if_true, if_false, ne_eq, Option.some.injEq, Prod.mk.injEq, Value.int.injEq, true_and, and_true, and_self, ite_self, Bool.not_eq_true, Bool.not_eq_false, Bool.true_eq_false, Bool.false_eq_true, reduceCtorEq, Nat.zero_add, Nat.reduceAdd, Nat.reduceMul, Nat.reduceSub, ds_setI_row, ds_setL_row, ds_rowI_self, ds_rowI_ne, ds_rowI_2, ds_rowI_rowI, ds_setS_1, ds_setS_21, ds_setS_self, ds_setS_ne, pk_us, pk_un, h11, l6, l7, q1, b_Told_hasWish_42 t ht, q3, nn]
  have g := go (D 0 6) 0 (by omega) (fun w hw => by omega)
  rw [c_Told_hasWish, b_Told_hasWish_0 t ht]
  generalize dr_hw D i j = R at *
  simp (disch := first | assumption | omega) only [ds_cI, ds_cV, ds_cL, ds_cR, ds_nn, ds_isK_t, ds_isA_t, ds_chk_t, ds_chkN, ds_nz_t, ds_nzN, ds_isB_t, ds_isB_bo, ↓dl_m1, ↓dl_m2, dl_0, dl_1, dl_2, dl_3, dl_4, dl_5, dl_6, dl_7, dl_8, dl_9, dl_10, dl_11, dl_12, dl_13, dl_14, dl_15, dl_16, dl_20, dl_24, dl_31, dl_50, dl_57, dl_67, dl_68, dl_74, dl_75, dl_79, dl_80, dl_99, dl_100, dl_200, dl_210, dl_224, dl_255, dl_289, dl_900, dl_1000, dl_1728, dl_65536, dl_65537, nI_add, pk_mul, pk_sub, pk_div, pk_rem, ds_rem2, nI_clamp, nI_leI, nI_ltI, nI_eq, ds_m1_eq, ds_eq_m1, ds_m2_eq, ds_eq_m2, ds_m1_le, ds_le_m1, ds_m1_lt, ds_lt_m1, ds_in_N, ds_bo0, ds_bo1, if_pos, if_neg, Nat.not_le, Nat.not_lt, not_true_eq_false, not_false_eq_true, if_true, if_false, ne_eq, Option.some.injEq, Prod.mk.injEq, Value.int.injEq, true_and, and_true, and_self, ite_self, Bool.not_eq_true, Bool.not_eq_false, Bool.true_eq_false, Bool.false_eq_true, reduceCtorEq, Nat.zero_add, Nat.reduceAdd, Nat.reduceMul, Nat.reduceSub, ds_setI_row, ds_setL_row, ds_rowI_self, ds_rowI_ne, ds_rowI_2, ds_rowI_rowI, ds_setS_1, ds_setS_21, ds_setS_self, ds_setS_ne, pk_us, pk_un, g]
theorem s_hasWishX (d : Nat) (x y : Int32) {z0 z : ds_St} {t v a : Nat} (h : dr_X z0 t v a z) : ∃ b, ds_call (d + 2) j_Told_hasWish [.ref t, .int x, .int y] z = some (some (.int (ds_bo b)), z) := by
  obtain ⟨w, w1, w2⟩ := h.2.2.2.2.2.1
  have ht := h.2.2.2.1.2
  have go : ∀ m k, k + m = w → ∃ b, ds_Rw ds_c_Told_hasWish ds_u_Told_hasWish (ds_call (d + 1)) 2 [some (.ref t), some (.int x), some (.int y), some (.int (nI k)), none, none] [] z = some (some (.int (ds_bo b)), z) := by
    intro m
    induction m with
    | zero =>
      intro k hk
      refine ⟨false, ?_⟩
      rw [b_Told_hasWish_2 t ht]
      simp (disch := first | assumption | omega) only [ds_cI, ds_cV, ds_cL, ds_cR, ds_nn, ds_isK_t, ds_isA_t, ds_chk_t, ds_chkN, ds_nz_t, ds_nzN, ds_isB_t, ds_isB_bo, ↓dl_m1, ↓dl_m2, dl_0, dl_1, dl_2, dl_3, dl_4, dl_5, dl_6, dl_7, dl_8, dl_9, dl_10, dl_11, dl_12, dl_13, dl_14, dl_15, dl_16, dl_20, dl_24, dl_31, dl_50, dl_57, dl_67, dl_68, dl_74, dl_75, dl_79, dl_80, dl_99, dl_100, dl_200, dl_210, dl_224, dl_255, dl_289, dl_900, dl_1000, dl_1728, dl_65536, dl_65537, nI_add, pk_mul, pk_sub, pk_div, pk_rem, ds_rem2, nI_clamp, nI_leI, nI_ltI, nI_eq, ds_m1_eq, ds_eq_m1, ds_m2_eq, ds_eq_m2, ds_m1_le, ds_le_m1, ds_m1_lt, ds_lt_m1, ds_in_N, ds_bo0, ds_bo1, if_pos, if_neg, Nat.not_le, Nat.not_lt, not_true_eq_false, not_false_eq_true, if_true, if_false, ne_eq, Option.some.injEq, Prod.mk.injEq, Value.int.injEq, true_and, and_true, and_self, ite_self, Bool.not_eq_true, Bool.not_eq_false, Bool.true_eq_false, Bool.false_eq_true, reduceCtorEq, Nat.zero_add, Nat.reduceAdd, Nat.reduceMul, Nat.reduceSub, ds_setI_row, ds_setL_row, ds_rowI_self, ds_rowI_ne, ds_rowI_2, ds_rowI_rowI, ds_setS_1, ds_setS_21, ds_setS_self, ds_setS_ne, pk_us, pk_un, w2]
      rfl
    | succ m ih =>
      intro k hk
      obtain ⟨b, nn⟩ := ih (k + 1) (by omega)
      have l6 := s_look6 d t 6 k z ht (by decide) (by omega)
      have l7 := s_look6 d t 7 k z ht (by decide) (by omega)
      have yes : ∀ r1 r2, ∃ b, ds_Rw ds_c_Told_hasWish ds_u_Told_hasWish (ds_call (d + 1)) 42 [some (.ref t), some (.int x), some (.int y), some (.int (nI k)), some (.int r1), some (.int r2)] [] z = some (some (.int (ds_bo b)), z) := by
        intro r1 r2
        rw [b_Told_hasWish_42 t ht]
        simp only [dl_1, nI_add]
        by_cases q1 : r1 = y
        · by_cases q2 : r2 = x
          · refine ⟨true, ?_⟩
            rw [if_neg (fun h => h q1), if_neg (fun h => h q2)]
            rfl
          · refine ⟨b, ?_⟩
            rw [if_neg (fun h => h q1), if_pos q2]
            exact nn
        · refine ⟨b, ?_⟩
          rw [if_pos q1]
          exact nn
      obtain ⟨b2, n2⟩ := yes (z.1 (t + 6) k) (z.1 (t + 7) k)
      rw [b_Told_hasWish_2 t ht]
      generalize z.1 (t + 6) k = r1 at *
      generalize z.1 (t + 7) k = r2 at *
      by_cases q1 : r1 = x
      · by_cases q2 : r2 = y
        · refine ⟨true, ?_⟩
          simp (disch := first | assumption | omega) only [w2, nI_leI, if_neg, Nat.not_le, ds_cI_t l6, ds_cI_t l7, if_pos, q2, not_true_eq_false, if_false, q1]
          rfl
        · refine ⟨b2, ?_⟩
          rw [← n2]
          simp (disch := first | assumption | omega) only [w2, nI_leI, if_neg, Nat.not_le, ds_cI_t l6, ds_cI_t l7, q1, not_true_eq_false, if_false, q2]
      · refine ⟨b2, ?_⟩
        rw [← n2]
        simp (disch := first | assumption | omega) only [w2, nI_leI, if_neg, Nat.not_le, ds_cI_t l6, ds_cI_t l7, q1, not_false_eq_true, if_true]
  obtain ⟨b, g⟩ := go w 0 (by omega)
  refine ⟨b, ?_⟩
  rw [c_Told_hasWish, b_Told_hasWish_0 t ht]
  simp (disch := first | assumption | omega) only [ds_cI, ds_cV, ds_cL, ds_cR, ds_nn, ds_isK_t, ds_isA_t, ds_chk_t, ds_chkN, ds_nz_t, ds_nzN, ds_isB_t, ds_isB_bo, ↓dl_m1, ↓dl_m2, dl_0, dl_1, dl_2, dl_3, dl_4, dl_5, dl_6, dl_7, dl_8, dl_9, dl_10, dl_11, dl_12, dl_13, dl_14, dl_15, dl_16, dl_20, dl_24, dl_31, dl_50, dl_57, dl_67, dl_68, dl_74, dl_75, dl_79, dl_80, dl_99, dl_100, dl_200, dl_210, dl_224, dl_255, dl_289, dl_900, dl_1000, dl_1728, dl_65536, dl_65537, nI_add, pk_mul, pk_sub, pk_div, pk_rem, ds_rem2, nI_clamp, nI_leI, nI_ltI, nI_eq, ds_m1_eq, ds_eq_m1, ds_m2_eq, ds_eq_m2, ds_m1_le, ds_le_m1, ds_m1_lt, ds_lt_m1, ds_in_N, ds_bo0, ds_bo1, if_pos, if_neg, Nat.not_le, Nat.not_lt, not_true_eq_false, not_false_eq_true, if_true, if_false, ne_eq, Option.some.injEq, Prod.mk.injEq, Value.int.injEq, true_and, and_true, and_self, ite_self, Bool.not_eq_true, Bool.not_eq_false, Bool.true_eq_false, Bool.false_eq_true, reduceCtorEq, Nat.zero_add, Nat.reduceAdd, Nat.reduceMul, Nat.reduceSub, ds_setI_row, ds_setL_row, ds_rowI_self, ds_rowI_ne, ds_rowI_2, ds_rowI_rowI, ds_setS_1, ds_setS_21, ds_setS_self, ds_setS_ne, pk_us, pk_un, g]
