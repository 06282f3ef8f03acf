/-! islands, families -/
def dr_addI (D : Nat → Nat → Nat) (k g r p : Nat) : Nat → Nat → Nat := dr_D1 (dr_D1 (dr_D1 (dr_D1 (dr_D1 D 1 (D 0 4) k) 2 (D 0 4) g) 3 (D 0 4) r) 4 (D 0 4) p) 0 4 (D 0 4 + 1)
def dr_addF (D : Nat → Nat → Nat) (m : Nat) : Nat → Nat → Nat := dr_D1 (dr_D1 D 5 (D 0 5) m) 0 5 (D 0 5 + 1)
def dr_isl (B : Nat → Nat) (n e : Nat) (Nm : Nat → List Nat) (D : Nat → Nat → Nat) : dr_Rs :=
  dr_pNew B n e (D 0 4) Nm fun Nm' e => dr_pOne B n e 306 fun k e => dr_pOne B n e 304 fun g e => dr_pOne B n e 307 fun _ e => dr_pNum B n e 1 9 fun r e => dr_pOne B n e 308 fun _ e => dr_pNum B n e 0 99 fun p e => .inr (e, Nm', dr_addI D k g r p)
def dr_fam (B : Nat → Nat) (n e : Nat) (Nm : Nat → List Nat) (D : Nat → Nat → Nat) : dr_Rs :=
  dr_pNew B n e (12 + D 0 5) Nm fun Nm' e => dr_pOne B n e 309 fun k e => if k ≤ 2 then .inr (e, Nm', dr_addF D k) else dr_pNum B n e 1 11 fun m e => .inr (e, Nm', dr_addF D (2 + m))
theorem dr_O_row {z : ds_St} {B : Nat → Nat} {n e p : Nat} (f : Nat → Int32) (h : dr_O z B n e) (h1 : p ≠ 1) (h2 : p ≠ 2) : dr_O (ds_rowI z p f) B n e := by
  obtain ⟨⟨b1, b2, b3, b4, b5⟩, he, t1, t2, t3, t4, t5⟩ := h
  refine ⟨⟨?_, ?_, b3, ?_, b5⟩, he, ?_, ?_, ?_, t4, fun q => ?_⟩
  · rw [ds_rowI_ne _ _ (by omega)]; exact b1
  · rw [ds_rowI_ne _ _ (by omega)]; exact b2
  · rw [ds_rowI_ne _ _ (by omega)]; exact b4
  · rw [ds_rowI_ne _ _ (by omega)]; exact t1
  · rw [ds_rowI_ne _ _ (by omega)]; exact t2
  · rw [ds_rowI_ne _ _ (by omega)]; exact t3
  · rw [ds_rowI_ne _ _ (by omega)]; exact t5 q
theorem dr_nC_row {z : ds_St} {D : Nat → Nat → Nat} {Nm : Nat → List Nat} {p : Nat} (f : Nat → Int32) (h : dr_nC z D Nm) (h1 : p ≠ 1) (h2 : p ≠ 4) : dr_nC (ds_rowI z p f) D Nm := by
  obtain ⟨ord, c1, c2, c3⟩ := h
  refine ⟨ord, ?_, ?_, c3⟩
  · rw [ds_rowI_ne _ _ (by omega)]; exact c1
  · rw [ds_rowI_ne _ _ (by omega)]; exact c2
theorem s_addIsland (d t : Nat) (z0 z : ds_St) (k g r p : Nat) (B : Nat → Nat) (n e : Nat) (Nm : Nat → List Nat) (D N' : Nat → Nat → Nat) (hO : dr_O z B n e) (hS : dr_S z0 t true Nm N' D z) (h12 : D 0 4 < 12) (hN : N' 0 4 = D 0 4 + 1 ∧ N' 0 5 = D 0 5) : ∃ z', ds_call (d + 2) j_Told_addIsland [.ref t, .int (nI k), .int (nI g), .int (nI r), .int (nI p)] z = some (none, z') ∧ dr_O z' B n e ∧ dr_S z0 t true Nm (dr_addI D k g r p) (dr_addI D k g r p) z' := by
  obtain ⟨⟨s1, ht⟩, ⟨a0, ⟨a4, a9, a11, a14⟩, b2, b3, b4, b5⟩, s3, s4⟩ := hS
  have hD4 : dr_addI D k g r p 0 4 = D 0 4 + 1 := by simp [dr_addI, dr_D1]
  have hD0 : ∀ j, j ≠ 4 → dr_addI D k g r p 0 j = D 0 j := by intro j hj; simp [dr_addI, dr_D1, hj]
  have hD1 : ∀ i, dr_addI D k g r p 1 i = if i = D 0 4 then k else D 1 i := by intro i; simp [dr_addI, dr_D1]
  have hD2 : ∀ i, dr_addI D k g r p 2 i = if i = D 0 4 then g else D 2 i := by intro i; simp [dr_addI, dr_D1]
  have hD3 : ∀ i, dr_addI D k g r p 3 i = if i = D 0 4 then r else D 3 i := by intro i; simp [dr_addI, dr_D1]
  have hDp : ∀ i, dr_addI D k g r p 4 i = if i = D 0 4 then p else D 4 i := by intro i; simp [dr_addI, dr_D1]
  have hDr : ∀ w i, 5 ≤ w → dr_addI D k g r p w i = D w i := by
    intro w i hw
    have h0 : ¬ w = 0 := by omega
    have h1 : ¬ w = 1 := by omega
    have h2 : ¬ w = 2 := by omega
    have h3 : ¬ w = 3 := by omega
    have h4 : ¬ w = 4 := by omega
    simp [dr_addI, dr_D1, h0, h1, h2, h3, h4]
  generalize dr_addI D k g r p = D' at *
  have K1 := fun q h1 h2 => ds_Kti (i := q) ht h1 h2
  let z1 := ds_rowI z (t + 1) (upd (z.1 (t + 1)) (D 0 4) (nI k))
  let z2 := ds_rowI z1 (t + 2) (upd (z1.1 (t + 2)) (D 0 4) (nI g))
  let z3 := ds_rowI z2 (t + 3) (upd (z2.1 (t + 3)) (D 0 4) (nI r))
  let z4 := ds_rowI z3 (t + 4) (upd (z3.1 (t + 4)) (D 0 4) (nI p))
  let z5 := ds_rowI z4 t (upd (z4.1 t) 4 (nI (D 0 4 + 1)))
  have p1 := s_putN d (t + 1) (D 0 4) 12 (nI k) z (K1 1 (by decide) (by decide)) (ds_Nti ht (by decide)) (by decide) h12
  have p2 := s_putN d (t + 2) (D 0 4) 12 (nI g) z1 (K1 2 (by decide) (by decide)) (ds_Nti ht (by decide)) (by decide) h12
  have p3 := s_putN d (t + 3) (D 0 4) 12 (nI r) z2 (K1 3 (by decide) (by decide)) (ds_Nti ht (by decide)) (by decide) h12
  have p4 := s_putN d (t + 4) (D 0 4) 12 (nI p) z3 (K1 4 (by decide) (by decide)) (ds_Nti ht (by decide)) (by decide) h12
  have g1 : z1.1 t = z.1 t := ds_rowI_ne _ _ (by omega)
  have g2 : z2.1 t = z.1 t := (ds_rowI_ne _ _ (by omega)).trans g1
  have g3 : z3.1 t = z.1 t := (ds_rowI_ne _ _ (by omega)).trans g2
  have g4 : z4.1 t = z.1 t := (ds_rowI_ne _ _ (by omega)).trans g3
  have z5e : ds_setI z4 t 4 (nI (D 0 4 + 1)) = z5 := ds_setI_row _ _ _ _
  have pp : ∀ q, q ≠ t → q ≠ t + 1 → q ≠ t + 2 → q ≠ t + 3 → q ≠ t + 4 → z5.1 q = z.1 q := fun q a b c e f => by
    show (ds_rowI (ds_rowI (ds_rowI (ds_rowI (ds_rowI z (t + 1) _) (t + 2) _) (t + 3) _) (t + 4) _) t _).1 q = _
    rw [ds_rowI_ne _ _ a, ds_rowI_ne _ _ f, ds_rowI_ne _ _ e, ds_rowI_ne _ _ c, ds_rowI_ne _ _ b]
  have e1 : ∀ i, z5.1 (t + 1) i = upd (z.1 (t + 1)) (D 0 4) (nI k) i := fun i => by
    show (ds_rowI (ds_rowI (ds_rowI (ds_rowI (ds_rowI z (t + 1) (upd (z.1 (t + 1)) (D 0 4) (nI k))) (t + 2) _) (t + 3) _) (t + 4) _) t _).1 (t + 1) i = _
    rw [ds_rowI_ne _ _ (by omega), ds_rowI_ne _ _ (by omega), ds_rowI_ne _ _ (by omega), ds_rowI_ne _ _ (by omega), ds_rowI_self]
  have e2 : ∀ i, z5.1 (t + 2) i = upd (z.1 (t + 2)) (D 0 4) (nI g) i := fun i => by
    show (ds_rowI (ds_rowI (ds_rowI (ds_rowI z1 (t + 2) (upd (z1.1 (t + 2)) (D 0 4) (nI g))) (t + 3) _) (t + 4) _) t _).1 (t + 2) i = _
    rw [ds_rowI_ne _ _ (by omega), ds_rowI_ne _ _ (by omega), ds_rowI_ne _ _ (by omega), ds_rowI_self]
    show upd ((ds_rowI z (t + 1) _).1 (t + 2)) _ _ i = _
    rw [ds_rowI_ne _ _ (by omega)]
  have e3 : ∀ i, z5.1 (t + 3) i = upd (z.1 (t + 3)) (D 0 4) (nI r) i := fun i => by
    show (ds_rowI (ds_rowI (ds_rowI z2 (t + 3) (upd (z2.1 (t + 3)) (D 0 4) (nI r))) (t + 4) _) t _).1 (t + 3) i = _
    rw [ds_rowI_ne _ _ (by omega), ds_rowI_ne _ _ (by omega), ds_rowI_self]
    show upd ((ds_rowI (ds_rowI z (t + 1) _) (t + 2) _).1 (t + 3)) _ _ i = _
    rw [ds_rowI_ne _ _ (by omega), ds_rowI_ne _ _ (by omega)]
  have e4 : ∀ i, z5.1 (t + 4) i = upd (z.1 (t + 4)) (D 0 4) (nI p) i := fun i => by
    show (ds_rowI (ds_rowI z3 (t + 4) (upd (z3.1 (t + 4)) (D 0 4) (nI p))) t _).1 (t + 4) i = _
    rw [ds_rowI_ne _ _ (by omega), ds_rowI_self]
    show upd ((ds_rowI (ds_rowI (ds_rowI z (t + 1) _) (t + 2) _) (t + 3) _).1 (t + 4)) _ _ i = _
    rw [ds_rowI_ne _ _ (by omega), ds_rowI_ne _ _ (by omega), ds_rowI_ne _ _ (by omega)]
  have e0 : ∀ i, z5.1 t i = upd (z.1 t) 4 (nI (D 0 4 + 1)) i := fun i => by
    show (ds_rowI z4 t (upd (z4.1 t) 4 (nI (D 0 4 + 1)))).1 t i = _
    rw [ds_rowI_self, g4]
  have O5 : dr_O z5 B n e := dr_O_row _ (dr_O_row _ (dr_O_row _ (dr_O_row _ (dr_O_row _ hO (by omega) (by omega)) (by omega) (by omega)) (by omega) (by omega)) (by omega) (by omega)) (by omega) (by omega)
  have C5 : dr_nC z5 N' Nm := dr_nC_row _ (dr_nC_row _ (dr_nC_row _ (dr_nC_row _ (dr_nC_row _ s3 (by omega) (by omega)) (by omega) (by omega)) (by omega) (by omega)) (by omega) (by omega)) (by omega) (by omega)
  have F5 : dr_fC t z0 z5 := dr_fC_row _ (dr_fC_row _ (dr_fC_row _ (dr_fC_row _ (dr_fC_row _ s4 (by omega) (by omega) ht) (by omega) (by omega) ht) (by omega) (by omega) ht) (by omega) (by omega) ht) (by omega) (by omega) ht
  have rr : z5.2.2 = z.2.2 := rfl
  have p1' : ds_call (d + 1) j_Sea_put [.ref (t + 1), .int (nI (D 0 4)), .int (nI k)] z = some (none, z1) := p1
  have p2' : ds_call (d + 1) j_Sea_put [.ref (t + 2), .int (nI (D 0 4)), .int (nI g)] z1 = some (none, z2) := p2
  have p3' : ds_call (d + 1) j_Sea_put [.ref (t + 3), .int (nI (D 0 4)), .int (nI r)] z2 = some (none, z3) := p3
  have p4' : ds_call (d + 1) j_Sea_put [.ref (t + 4), .int (nI (D 0 4)), .int (nI p)] z3 = some (none, z4) := p4
  clear_value z5
  clear_value z4
  clear_value z3
  clear_value z2
  clear_value z1
  refine ⟨z5, ?_, O5, ⟨by rw [rr]; exact s1, ht⟩, ⟨fun _ => ?_, ⟨?_, ?_, ?_, ?_⟩, fun i hi => ?_, fun i hi => ?_, fun i hi => ?_, fun i hi => ?_⟩, dr_nC_c (by rw [hD4, hN.1]) (by rw [hD0 5 (by decide), hN.2]) C5, F5⟩
  · rw [c_Told_addIsland, b_Told_addIsland_0 t ht]
    have g1' : z1.1 t 4 = nI (D 0 4) := by rw [g1]; exact a4
    have g2' : z2.1 t 4 = nI (D 0 4) := by rw [g2]; exact a4
    have g3' : z3.1 t 4 = nI (D 0 4) := by rw [g3]; exact a4
    have g4' : z4.1 t 4 = nI (D 0 4) := by rw [g4]; exact a4
    simp only [a4, ds_cV_t p1', g1', ds_cV_t p2', g2', ds_cV_t p3', g3', ds_cV_t p4', g4', dl_1, nI_add, z5e, ds_nn]
  · obtain ⟨x0, x1, x2, x3⟩ := a0 rfl
    rw [e0, e0, e0, e0, pk_un (by decide), pk_un (by decide), pk_un (by decide), pk_un (by decide), hD0 0 (by decide), hD0 1 (by decide), hD0 2 (by decide), hD0 3 (by decide)]
    exact ⟨x0, x1, x2, x3⟩
  · rw [e0, pk_us, hD4]
  · rw [e0, pk_un (by decide), hD0 5 (by decide)]; exact a9
  · rw [e0, pk_un (by decide), hD0 6 (by decide)]; exact a11
  · rw [e0, pk_un (by decide), hD0 7 (by decide)]; exact a14
  · rw [hD4] at hi
    rw [e1, e2, e3, e4, hD1, hD2, hD3, hDp]
    by_cases q : i = D 0 4
    · rw [q, pk_us, pk_us, pk_us, pk_us, if_pos rfl, if_pos rfl, if_pos rfl, if_pos rfl]
      exact ⟨rfl, rfl, rfl, rfl⟩
    · rw [pk_un q, pk_un q, pk_un q, pk_un q, if_neg q, if_neg q, if_neg q, if_neg q]
      exact b2 i (by omega)
  · rw [hD0 5 (by decide)] at hi
    rw [pp (t + 5) (by omega) (by omega) (by omega) (by omega) (by omega), hDr 5 i (by decide)]
    exact b3 i hi
  · rw [hD0 6 (by decide)] at hi
    rw [pp (t + 6) (by omega) (by omega) (by omega) (by omega) (by omega), pp (t + 7) (by omega) (by omega) (by omega) (by omega) (by omega), hDr 6 i (by decide), hDr 7 i (by decide)]
    exact b4 i hi
  · rw [hD0 7 (by decide)] at hi
    rw [pp (t + 8) (by omega) (by omega) (by omega) (by omega) (by omega), pp (t + 9) (by omega) (by omega) (by omega) (by omega) (by omega), hDr 8 i (by decide), hDr 9 i (by decide)]
    exact b5 i hi
theorem s_addFamily (d t : Nat) (z0 z : ds_St) (m : Nat) (B : Nat → Nat) (n e : Nat) (Nm : Nat → List Nat) (D N' : Nat → Nat → Nat) (hO : dr_O z B n e) (hS : dr_S z0 t true Nm N' D z) (h10 : D 0 5 < 10) (hN : N' 0 4 = D 0 4 ∧ N' 0 5 = D 0 5 + 1) : ∃ z', ds_call (d + 2) j_Told_addFamily [.ref t, .int (nI m)] z = some (none, z') ∧ dr_O z' B n e ∧ dr_S z0 t true Nm (dr_addF D m) (dr_addF D m) z' := by
  obtain ⟨⟨s1, ht⟩, ⟨a0, ⟨a4, a9, a11, a14⟩, b2, b3, b4, b5⟩, s3, s4⟩ := hS
  have hD5 : dr_addF D m 0 5 = D 0 5 + 1 := by simp [dr_addF, dr_D1]
  have hD0 : ∀ j, j ≠ 5 → dr_addF D m 0 j = D 0 j := by intro j hj; simp [dr_addF, dr_D1, hj]
  have hDm : ∀ i, dr_addF D m 5 i = if i = D 0 5 then m else D 5 i := by intro i; simp [dr_addF, dr_D1]
  have hDr : ∀ w i, w ≠ 0 → w ≠ 5 → dr_addF D m w i = D w i := by intro w i h0 h5; simp [dr_addF, dr_D1, h0, h5]
  generalize dr_addF D m = D' at *
  let z1 := ds_rowI z (t + 5) (upd (z.1 (t + 5)) (D 0 5) (nI m))
  let z5 := ds_rowI z1 t (upd (z1.1 t) 9 (nI (D 0 5 + 1)))
  have p1 := s_putN d (t + 5) (D 0 5) 10 (nI m) z (ds_Kti ht (by decide) (by decide)) (ds_Nt5 ht) (by decide) h10
  have g1 : z1.1 t = z.1 t := ds_rowI_ne _ _ (by omega)
  have z5e : ds_setI z1 t 9 (nI (D 0 5 + 1)) = z5 := ds_setI_row _ _ _ _
  have pp : ∀ q, q ≠ t → q ≠ t + 5 → z5.1 q = z.1 q := fun q a b => by
    show (ds_rowI (ds_rowI z (t + 5) _) t _).1 q = _
    rw [ds_rowI_ne _ _ a, ds_rowI_ne _ _ b]
  have e5 : ∀ i, z5.1 (t + 5) i = upd (z.1 (t + 5)) (D 0 5) (nI m) i := fun i => by
    show (ds_rowI (ds_rowI z (t + 5) (upd (z.1 (t + 5)) (D 0 5) (nI m))) t _).1 (t + 5) i = _
    rw [ds_rowI_ne _ _ (by omega), ds_rowI_self]
  have e0 : ∀ i, z5.1 t i = upd (z.1 t) 9 (nI (D 0 5 + 1)) i := fun i => by
    show (ds_rowI z1 t (upd (z1.1 t) 9 (nI (D 0 5 + 1)))).1 t i = _
    rw [ds_rowI_self, g1]
  have O5 : dr_O z5 B n e := dr_O_row _ (dr_O_row _ hO (by omega) (by omega)) (by omega) (by omega)
  have C5 : dr_nC z5 N' Nm := dr_nC_row _ (dr_nC_row _ s3 (by omega) (by omega)) (by omega) (by omega)
  have F5 : dr_fC t z0 z5 := dr_fC_row _ (dr_fC_row _ s4 (by omega) (by omega) ht) (by omega) (by omega) ht
  have rr : z5.2.2 = z.2.2 := rfl
  have p1' : ds_call (d + 1) j_Sea_put [.ref (t + 5), .int (nI (D 0 5)), .int (nI m)] z = some (none, z1) := p1
  clear_value z5
  clear_value z1
  refine ⟨z5, ?_, O5, ⟨by rw [rr]; exact s1, ht⟩, ⟨fun _ => ?_, ⟨?_, ?_, ?_, ?_⟩, fun i hi => ?_, fun i hi => ?_, fun i hi => ?_, fun i hi => ?_⟩, dr_nC_c (by rw [hD0 4 (by decide), hN.1]) (by rw [hD5, hN.2]) C5, F5⟩
  · rw [c_Told_addFamily, b_Told_addFamily_0 t ht]
    have g1' : z1.1 t 9 = nI (D 0 5) := by rw [g1]; exact a9
    simp only [a9, ds_cV_t p1', g1', dl_1, nI_add, z5e, ds_nn]
  · obtain ⟨x0, x1, x2, x3⟩ := a0 rfl
    rw [e0, e0, e0, e0, pk_un (by decide), pk_un (by decide), pk_un (by decide), pk_un (by decide), hD0 0 (by decide), hD0 1 (by decide), hD0 2 (by decide), hD0 3 (by decide)]
    exact ⟨x0, x1, x2, x3⟩
  · rw [e0, pk_un (by decide), hD0 4 (by decide)]; exact a4
  · rw [e0, pk_us, hD5]
  · rw [e0, pk_un (by decide), hD0 6 (by decide)]; exact a11
  · rw [e0, pk_un (by decide), hD0 7 (by decide)]; exact a14
  · rw [hD0 4 (by decide)] at hi
    rw [pp (t + 1) (by omega) (by omega), pp (t + 2) (by omega) (by omega), pp (t + 3) (by omega) (by omega), pp (t + 4) (by omega) (by omega), hDr 1 i (by decide) (by decide), hDr 2 i (by decide) (by decide), hDr 3 i (by decide) (by decide), hDr 4 i (by decide) (by decide)]
    exact b2 i hi
  · rw [hD5] at hi
    rw [e5, hDm]
    by_cases q : i = D 0 5
    · rw [q, pk_us, if_pos rfl]
    · rw [pk_un q, if_neg q]
      exact b3 i (by omega)
  · rw [hD0 6 (by decide)] at hi
    rw [pp (t + 6) (by omega) (by omega), pp (t + 7) (by omega) (by omega), hDr 6 i (by decide) (by decide), hDr 7 i (by decide) (by decide)]
    exact b4 i hi
  · rw [hD0 7 (by decide)] at hi
    rw [pp (t + 8) (by omega) (by omega), pp (t + 9) (by omega) (by omega), hDr 8 i (by decide) (by decide), hDr 9 i (by decide) (by decide)]
    exact b5 i hi
theorem dr_wT {c : Prop} [Decidable c] {a b : Option ds_Out} {Q : Option Value → ds_St → Prop} (h : c) (g : dr_w a Q) : dr_w (if c then a else b) Q := by
  rw [if_pos h]
  exact g
theorem dr_wF {c : Prop} [Decidable c] {a b : Option ds_Out} {Q : Option Value → ds_St → Prop} (h : ¬ c) (g : dr_w b Q) : dr_w (if c then a else b) Q := by
  rw [if_neg h]
  exact g
theorem s_readIsland (d t : Nat) (z0 z : ds_St) (B : Nat → Nat) (n e : Nat) (Nm : Nat → List Nat) (D N' : Nat → Nat → Nat) (hO : dr_O z B n e) (hS : dr_S z0 t true Nm D D z) (hn : dr_nok D Nm) (hm : dr_more D N' (D 0 4)) (h12 : D 0 4 < 12) (hc : N' 0 4 + N' 0 5 ≤ 22) (hw : D 0 6 ≤ 6) (hN : N' 0 4 = D 0 4 + 1 ∧ N' 0 5 = D 0 5) : ∃ z', ds_call (d + 5) j_Reader_readIsland [.ref 1] z = some (none, z') ∧ dr_postC z0 t B n (dr_isl B n e Nm D) z' := by
  have hc0 : D 0 4 + D 0 5 ≤ 22 := by omega
  apply dr_wc (c_Reader_readIsland _ _ _)
  rw [b_Reader_readIsland_0]
  simp only [dl_0, dl_1, dl_2, dl_3, dl_4, dl_9, dl_11, dl_99, ↓dl_m1, ↓dl_m2]
  unfold dr_isl
  have ht := hS.1.2
  have hKt := ds_Kt ht
  have hx : nI (D 0 4) = if D 0 4 < 12 then nI (D 0 4) else ds_m2 := (if_pos h12).symm
  rw [hS.1.1, hS.2.1.2.1.1]
  refine dr_wK hKt ?_
  obtain ⟨a0, b0, c0⟩ := s_tellName d (D 0 4) (nI (D 0 4)) z z0 t true B n e Nm D N' D hO hS hn hm (hx)
  unfold dr_pNew
  cases q : dr_isn B n e
  · have X := dr_X_zb (v := 1) hO hS hc0 hw (by decide) (by decide)
    refine dr_wV (a0 q) ?_
    refine dr_wI (s_oneX (d + 2) 306 X) ?_
    refine dr_wI (s_oneX (d + 2) 304 X) ?_
    refine dr_wI (s_oneX (d + 2) 307 X) ?_
    refine dr_wI (s_wholeX (d + 2) (nI 1) (nI 9) X) ?_
    refine dr_wI (s_oneX (d + 2) 308 X) ?_
    refine dr_wI (s_wholeX (d + 2) (nI 0) (nI 99) X) ?_
    have ne : ¬ _ := dr_ne0 X.1 X.2.1.1 X.2.1.2
    refine dr_wT ne ?_
    exact dr_wR ⟨rfl, X⟩
  cases qh : dr_has Nm (dr_wl B n e)
  rotate_left
  · have X := dr_X_zb (v := 3) hO hS hc0 hw (by decide) (by decide)
    refine dr_wV (b0 q qh) ?_
    refine dr_wI (s_oneX (d + 2) 306 X) ?_
    refine dr_wI (s_oneX (d + 2) 304 X) ?_
    refine dr_wI (s_oneX (d + 2) 307 X) ?_
    refine dr_wI (s_wholeX (d + 2) (nI 1) (nI 9) X) ?_
    refine dr_wI (s_oneX (d + 2) 308 X) ?_
    refine dr_wI (s_wholeX (d + 2) (nI 0) (nI 99) X) ?_
    have ne : ¬ _ := dr_ne0 X.1 X.2.1.1 X.2.1.2
    refine dr_wT ne ?_
    exact dr_wR ⟨rfl, X⟩
  simp only [↓reduceIte, Bool.false_eq_true]
  obtain ⟨zz, ww, OO, SS⟩ := c0 q qh
  refine dr_wV ww ?_
  obtain ⟨a1, b1⟩ := s_one d 306 _ B n _ OO (by decide) (by decide)
  cases h1 : dr_on B n (dr_nx B n e) 306 with
  | none =>
    rw [dr_pOne_n h1]
    have X := dr_X_zb (v := 1) OO SS hc hw (by decide) (by decide)
    refine dr_wI (b1 h1) ?_
    refine dr_wI (s_oneX (d + 2) 304 X) ?_
    refine dr_wI (s_oneX (d + 2) 307 X) ?_
    refine dr_wI (s_wholeX (d + 2) (nI 1) (nI 9) X) ?_
    refine dr_wI (s_oneX (d + 2) 308 X) ?_
    refine dr_wI (s_wholeX (d + 2) (nI 0) (nI 99) X) ?_
    have ne : ¬ _ := dr_ne0 X.1 X.2.1.1 X.2.1.2
    refine dr_wT ne ?_
    exact dr_wR ⟨rfl, X⟩
  | some i1 =>
    rw [dr_pOne_s h1]
    obtain ⟨z1, w1, O1, f1⟩ := a1 i1 h1
    have S1 := dr_S_f1 SS f1
    refine dr_wI w1 ?_
    obtain ⟨a2, b2⟩ := s_one d 304 _ B n _ O1 (by decide) (by decide)
    cases h2 : dr_on B n (dr_nx B n (dr_nx B n e)) 304 with
    | none =>
      rw [dr_pOne_n h2]
      have X := dr_X_zb (v := 1) O1 S1 hc hw (by decide) (by decide)
      refine dr_wI (b2 h2) ?_
      refine dr_wI (s_oneX (d + 2) 307 X) ?_
      refine dr_wI (s_wholeX (d + 2) (nI 1) (nI 9) X) ?_
      refine dr_wI (s_oneX (d + 2) 308 X) ?_
      refine dr_wI (s_wholeX (d + 2) (nI 0) (nI 99) X) ?_
      have ne : ¬ _ := dr_ne0 X.1 X.2.1.1 X.2.1.2
      refine dr_wT ne ?_
      exact dr_wR ⟨rfl, X⟩
    | some i2 =>
      rw [dr_pOne_s h2]
      obtain ⟨z2, w2, O2, f2⟩ := a2 i2 h2
      have S2 := dr_S_f1 S1 f2
      refine dr_wI w2 ?_
      obtain ⟨a3, b3⟩ := s_one d 307 _ B n _ O2 (by decide) (by decide)
      cases h3 : dr_on B n (dr_nx B n (dr_nx B n (dr_nx B n e))) 307 with
      | none =>
        rw [dr_pOne_n h3]
        have X := dr_X_zb (v := 1) O2 S2 hc hw (by decide) (by decide)
        refine dr_wI (b3 h3) ?_
        refine dr_wI (s_wholeX (d + 2) (nI 1) (nI 9) X) ?_
        refine dr_wI (s_oneX (d + 2) 308 X) ?_
        refine dr_wI (s_wholeX (d + 2) (nI 0) (nI 99) X) ?_
        have ne : ¬ _ := dr_ne0 X.1 X.2.1.1 X.2.1.2
        refine dr_wT ne ?_
        exact dr_wR ⟨rfl, X⟩
      | some i3 =>
        rw [dr_pOne_s h3]
        obtain ⟨z3, w3, O3, f3⟩ := a3 i3 h3
        have S3 := dr_S_f1 S2 f3
        refine dr_wI w3 ?_
        obtain ⟨a4, b4⟩ := s_whole d 1 9 _ B n _ O3 (by decide) (by decide)
        by_cases h4 : dr_nu B n (dr_nx B n (dr_nx B n (dr_nx B n (dr_nx B n e)))) 1 9 = 0
        rotate_left
        · rw [dr_pNum_n h4]
          have u4 := (dr_nu_6 B n (dr_nx B n (dr_nx B n (dr_nx B n (dr_nx B n e)))) 1 9).resolve_left h4
          have X := dr_X_zb O3 S3 hc hw u4.1 u4.2
          refine dr_wI (b4 h4) ?_
          refine dr_wI (s_oneX (d + 2) 308 X) ?_
          refine dr_wI (s_wholeX (d + 2) (nI 0) (nI 99) X) ?_
          have ne : ¬ _ := dr_ne0 X.1 X.2.1.1 X.2.1.2
          refine dr_wT ne ?_
          exact dr_wR ⟨rfl, X⟩
        rw [dr_pNum_s h4]
        obtain ⟨z4, w4, O4, f4⟩ := a4 h4
        have S4 := dr_S_f1 S3 f4
        refine dr_wI w4 ?_
        obtain ⟨a5, b5⟩ := s_one d 308 _ B n _ O4 (by decide) (by decide)
        cases h5 : dr_on B n (dr_nx B n (dr_nx B n (dr_nx B n (dr_nx B n (dr_nx B n e))))) 308 with
        | none =>
          rw [dr_pOne_n h5]
          have X := dr_X_zb (v := 1) O4 S4 hc hw (by decide) (by decide)
          refine dr_wI (b5 h5) ?_
          refine dr_wI (s_wholeX (d + 2) (nI 0) (nI 99) X) ?_
          have ne : ¬ _ := dr_ne0 X.1 X.2.1.1 X.2.1.2
          refine dr_wT ne ?_
          exact dr_wR ⟨rfl, X⟩
        | some i5 =>
          rw [dr_pOne_s h5]
          obtain ⟨z5, w5, O5, f5⟩ := a5 i5 h5
          have S5 := dr_S_f1 S4 f5
          refine dr_wI w5 ?_
          obtain ⟨a6, b6⟩ := s_whole d 0 99 _ B n _ O5 (by decide) (by decide)
          by_cases h6 : dr_nu B n (dr_nx B n (dr_nx B n (dr_nx B n (dr_nx B n (dr_nx B n (dr_nx B n e)))))) 0 99 = 0
          rotate_left
          · rw [dr_pNum_n h6]
            have u6 := (dr_nu_6 B n (dr_nx B n (dr_nx B n (dr_nx B n (dr_nx B n (dr_nx B n (dr_nx B n e)))))) 0 99).resolve_left h6
            have X := dr_X_zb O5 S5 hc hw u6.1 u6.2
            refine dr_wI (b6 h6) ?_
            have ne : ¬ _ := dr_ne0 X.1 X.2.1.1 X.2.1.2
            refine dr_wT ne ?_
            exact dr_wR ⟨rfl, X⟩
          rw [dr_pNum_s h6]
          obtain ⟨z6, w6, O6, f6⟩ := a6 h6
          have S6 := dr_S_f1 S5 f6
          refine dr_wI w6 ?_
          refine dr_wF (fun q => q O6.1.1) ?_
          rw [S6.1.1]
          refine dr_wK hKt ?_
          obtain ⟨zz2, v1, v2, v3⟩ := s_addIsland (d + 2) t z0 z6 i1 i2 (dr_wh B n (dr_nx B n (dr_nx B n (dr_nx B n (dr_nx B n e))))) (dr_wh B n (dr_nx B n (dr_nx B n (dr_nx B n (dr_nx B n (dr_nx B n (dr_nx B n e))))))) B n _ _ D N' O6 S6 h12 hN
          refine dr_wV v1 ?_
          exact dr_wR ⟨rfl, v2, v3⟩
theorem s_readFamily (d t : Nat) (z0 z : ds_St) (B : Nat → Nat) (n e : Nat) (Nm : Nat → List Nat) (D N' : Nat → Nat → Nat) (hO : dr_O z B n e) (hS : dr_S z0 t true Nm D D z) (hn : dr_nok D Nm) (hm : dr_more D N' (12 + D 0 5)) (h10 : D 0 5 < 10) (hc : N' 0 4 + N' 0 5 ≤ 22) (hw : D 0 6 ≤ 6) (hN : N' 0 4 = D 0 4 ∧ N' 0 5 = D 0 5 + 1) : ∃ z', ds_call (d + 5) j_Reader_readFamily [.ref 1] z = some (none, z') ∧ dr_postC z0 t B n (dr_fam B n e Nm D) z' := by
  have hc0 : D 0 4 + D 0 5 ≤ 22 := by omega
  apply dr_wc (c_Reader_readFamily _ _ _)
  rw [b_Reader_readFamily_0]
  simp only [dl_0, dl_1, dl_2, dl_3, dl_4, dl_9, dl_11, dl_99, ↓dl_m1, ↓dl_m2]
  unfold dr_fam
  have ht := hS.1.2
  have hKt := ds_Kt ht
  have hx : ds_m2 = if 12 + D 0 5 < 12 then nI (12 + D 0 5) else ds_m2 := (if_neg (by omega)).symm
  have xx : ∀ (r : Int32) (y : ds_St) (v a : Nat), dr_X z0 t v a y → dr_w (ds_Rw ds_c_Reader_readFamily ds_u_Reader_readFamily (ds_call (d + 4)) 28 [some (.ref 1), some (.int r)] [] y) (fun w z' => w = none ∧ dr_X z0 t v a z') := by
    intro r y v a X
    rw [b_Reader_readFamily_28, dl_0, if_pos (dr_ne0 X.1 X.2.1.1 X.2.1.2)]
    exact dr_wR ⟨rfl, X⟩
  have ok : ∀ (m e' : Nat) (y : ds_St) (Nm' : Nat → List Nat), dr_O y B n e' → dr_S z0 t true Nm' N' D y → dr_w (ds_Rw ds_c_Reader_readFamily ds_u_Reader_readFamily (ds_call (d + 4)) 28 [some (.ref 1), some (.int (nI m))] [] y) (fun w z' => w = none ∧ dr_O z' B n e' ∧ dr_S z0 t true Nm' (dr_addF D m) (dr_addF D m) z') := by
    intro m e' y Nm' O S
    rw [b_Reader_readFamily_28, dl_0, if_neg (fun q => q O.1.1), S.1.1]
    refine dr_wK hKt ?_
    obtain ⟨y2, v1, v2, v3⟩ := s_addFamily (d + 2) t z0 y m B n e' Nm' D N' O S h10 hN
    exact dr_wV v1 (dr_wR ⟨rfl, v2, v3⟩)
  have m12 : ds_m1 ≤ nI 2 := by decide
  obtain ⟨a0, b0, c0⟩ := s_tellName d (12 + D 0 5) (ds_m2) z z0 t true B n e Nm D N' D hO hS hn hm (hx)
  unfold dr_pNew
  cases q : dr_isn B n e
  · have X := dr_X_zb (v := 1) hO hS hc0 hw (by decide) (by decide)
    refine dr_wV (a0 q) ?_
    refine dr_wI (s_oneX (d + 2) 309 X) ?_
    refine dr_wT m12 ?_
    exact xx _ _ _ _ X
  cases qh : dr_has Nm (dr_wl B n e)
  rotate_left
  · have X := dr_X_zb (v := 3) hO hS hc0 hw (by decide) (by decide)
    refine dr_wV (b0 q qh) ?_
    refine dr_wI (s_oneX (d + 2) 309 X) ?_
    refine dr_wT m12 ?_
    exact xx _ _ _ _ X
  simp only [↓reduceIte, Bool.false_eq_true]
  obtain ⟨zz, ww, OO, SS⟩ := c0 q qh
  refine dr_wV ww ?_
  obtain ⟨a1, b1⟩ := s_one d 309 _ B n _ OO (by decide) (by decide)
  cases h1 : dr_on B n (dr_nx B n e) 309 with
  | none =>
    rw [dr_pOne_n h1]
    have X := dr_X_zb (v := 1) OO SS hc hw (by decide) (by decide)
    refine dr_wI (b1 h1) ?_
    refine dr_wT m12 ?_
    exact xx _ _ _ _ X
  | some i1 =>
    rw [dr_pOne_s h1]
    obtain ⟨z1, w1, O1, f1⟩ := a1 i1 h1
    have S1 := dr_S_f1 SS f1
    refine dr_wI w1 ?_
    have i4 : i1 < 4 := dr_on_lt h1
    by_cases q2 : i1 ≤ 2
    · rw [if_pos q2]
      refine dr_wT (by rw [nI_leI (by omega) (by decide)]; exact q2) ?_
      exact ok i1 _ _ _ O1 S1
    rw [if_neg q2]
    refine dr_wF (by rw [nI_leI (by omega) (by decide)]; exact q2) ?_
    obtain ⟨a2, b2⟩ := s_whole d 1 11 _ B n _ O1 (by decide) (by decide)
    by_cases h2 : dr_nu B n (dr_nx B n (dr_nx B n e)) 1 11 = 0
    · rw [dr_pNum_s h2]
      obtain ⟨z2, w2, O2, f2⟩ := a2 h2
      refine dr_wI w2 ?_
      rw [nI_add]
      exact ok _ _ _ _ O2 (dr_S_f1 S1 f2)
    · rw [dr_pNum_n h2]
      have u2 := (dr_nu_6 B n (dr_nx B n (dr_nx B n e)) 1 11).resolve_left h2
      have X := dr_X_zb O1 S1 hc hw u2.1 u2.2
      refine dr_wI (b2 h2) ?_
      exact xx _ _ _ _ X
