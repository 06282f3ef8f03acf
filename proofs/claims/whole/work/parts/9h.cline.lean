/-! the class reads lines: states -/
def dr_w (a : Option ds_Out) (Q : Option Value → ds_St → Prop) : Prop := ∃ v z', a = some (v, z') ∧ Q v z'
theorem dr_wI {cl : Nat → List Value → ds_St → Option ds_Out} {j : Nat} {as : List Value} {z z1 : ds_St} {f : Int32 → ds_St → Option ds_Out} {r : Int32} {Q : Option Value → ds_St → Prop} (h : cl j as z = some (some (.int r), z1)) (g : dr_w (f r z1) Q) : dr_w (ds_cI cl j as z f) Q := by
  rw [ds_cI_t h]
  exact g
theorem dr_wV {cl : Nat → List Value → ds_St → Option ds_Out} {j : Nat} {as : List Value} {z z1 : ds_St} {f : ds_St → Option ds_Out} {Q : Option Value → ds_St → Prop} (h : cl j as z = some (none, z1)) (g : dr_w (f z1) Q) : dr_w (ds_cV cl j as z f) Q := by
  rw [ds_cV_t h]
  exact g
theorem dr_wK {p c : Nat} {a : Option ds_Out} {Q : Option Value → ds_St → Prop} (h : ds_K p = c) (g : dr_w a Q) : dr_w (ds_isK p c a) Q := by
  rw [ds_isK_t h]
  exact g
theorem dr_wR {v : Option Value} {z : ds_St} {Q : Option Value → ds_St → Prop} (h : Q v z) : dr_w (some (v, z)) Q := ⟨v, z, rfl, h⟩
theorem dr_wc {d j : Nat} {as : List Value} {z : ds_St} {a : Option ds_Out} {Q : ds_St → Prop} (h : ds_call d j as z = ds_nn a) (g : dr_w a (fun v z' => v = none ∧ Q z')) : ∃ z', ds_call d j as z = some (none, z') ∧ Q z' := by
  obtain ⟨v, z', e, hv, q⟩ := g
  refine ⟨z', ?_, q⟩
  rw [h, e, hv]
  rfl
def dr_dC (z : ds_St) (t : Nat) (hs : Bool) (D : Nat → Nat → Nat) : Prop := (hs = true → z.1 t 0 = nI (D 0 0) ∧ z.1 t 1 = nI (D 0 1) ∧ z.1 t 2 = nI (D 0 2) ∧ z.1 t 3 = nI (D 0 3)) ∧ (z.1 t 4 = nI (D 0 4) ∧ z.1 t 9 = nI (D 0 5) ∧ z.1 t 11 = nI (D 0 6) ∧ z.1 t 14 = nI (D 0 7)) ∧ (∀ i, i < D 0 4 → z.1 (t + 1) i = nI (D 1 i) ∧ z.1 (t + 2) i = nI (D 2 i) ∧ z.1 (t + 3) i = nI (D 3 i) ∧ z.1 (t + 4) i = nI (D 4 i)) ∧ (∀ m, m < D 0 5 → z.1 (t + 5) m = nI (D 5 m)) ∧ (∀ m, m < D 0 6 → z.1 (t + 6) m = nI (D 6 m) ∧ z.1 (t + 7) m = nI (D 7 m)) ∧ (∀ m, m < D 0 7 → z.1 (t + 8) m = nI (D 8 m) ∧ z.1 (t + 9) m = nI (D 9 m))
def dr_dok (hs : Bool) (D : Nat → Nat → Nat) : Prop := D 0 4 ≤ 12 ∧ D 0 5 ≤ 10 ∧ D 0 6 ≤ 6 ∧ D 0 7 ≤ 6 ∧ (hs = true → (2 ≤ D 0 0 ∧ D 0 0 ≤ 4) ∧ (2 ≤ D 0 1 ∧ D 0 1 ≤ 3) ∧ D 0 2 < 4 ∧ D 0 3 < 2) ∧ (∀ i, i < D 0 4 → D 1 i < 3 ∧ D 2 i < 4 ∧ (1 ≤ D 3 i ∧ D 3 i ≤ 9) ∧ D 4 i < 100) ∧ (∀ m, m < D 0 5 → D 5 m < 14) ∧ (∀ m, m < D 0 6 → D 6 m < D 0 4 ∧ D 7 m < D 0 4 ∧ D 6 m ≠ D 7 m) ∧ (∀ m, m < D 0 7 → D 8 m < D 0 0 * D 0 1 ∧ D 9 m < D 0 4)
def dr_fC (t : Nat) (z z' : ds_St) : Prop := (∀ p, p ≠ 1 → p ≠ 4 → p < t ∨ t + 10 < p → z'.1 p = z.1 p) ∧ z'.1 1 1 = z.1 1 1 ∧ z'.2.2 = z.2.2
theorem dr_fC_refl (t : Nat) (z : ds_St) : dr_fC t z z := ⟨fun _ _ _ _ => rfl, rfl, rfl⟩
theorem dr_fC_trans {t : Nat} {z z1 z2 : ds_St} (h : dr_fC t z z1) (h2 : dr_fC t z1 z2) : dr_fC t z z2 := ⟨fun p a b c => (h2.1 p a b c).trans (h.1 p a b c), h2.2.1.trans h.2.1, h2.2.2.trans h.2.2⟩
theorem dr_fC_f1 {t : Nat} {z z1 z2 : ds_St} (h : dr_fC t z z1) (h2 : dr_f1 z1 z2) : dr_fC t z z2 := ⟨fun p a b c => (h2.1 p a).trans (h.1 p a b c), (h2.2.1 1 (by decide) (by decide) (by decide) (by decide)).trans h.2.1, h2.2.2.2.trans h.2.2⟩
theorem dr_fC_zb {t v : Nat} {z z1 : ds_St} (h : dr_fC t z z1) : dr_fC t z (dr_zb z1 v) := ⟨fun p a b c => (dr_zb_p z1 v a).trans (h.1 p a b c), (dr_zb_k z1 v (by decide)).trans h.2.1, h.2.2⟩
theorem dr_fC_row {t p : Nat} {z z1 : ds_St} (f : Nat → Int32) (h : dr_fC t z z1) (hp : t ≤ p) (hp2 : p ≤ t + 10) (ht : t = 10 ∨ t = 30) : dr_fC t z (ds_rowI z1 p f) := ⟨fun q a b c => by rw [ds_rowI_ne _ _ (by omega)]; exact h.1 q a b c, by rw [ds_rowI_ne _ _ (by omega)]; exact h.2.1, h.2.2⟩
/-- the rest of the class's reader: draft, names -/
def dr_S (z0 : ds_St) (t : Nat) (hs : Bool) (Nm : Nat → List Nat) (D : Nat → Nat → Nat) (z : ds_St) : Prop := (z.2.2 1 = t ∧ (t = 10 ∨ t = 30)) ∧ dr_dC z t hs D ∧ dr_nC z D Nm ∧ dr_fC t z0 z
theorem dr_S_f1 {z0 z z' : ds_St} {t : Nat} {hs : Bool} {Nm : Nat → List Nat} {D : Nat → Nat → Nat} (h : dr_S z0 t hs Nm D z) (hf : dr_f1 z z') : dr_S z0 t hs Nm D z' := by
  obtain ⟨⟨h1, ht⟩, h2, ⟨ord, c1, c2, c3⟩, h4⟩ := h
  refine ⟨⟨by rw [hf.2.2.2]; exact h1, ht⟩, ?_, ⟨ord, ?_, ?_, c3⟩, dr_fC_f1 h4 hf⟩
  · unfold dr_dC
    rw [hf.1 t (by omega), hf.1 (t + 1) (by omega), hf.1 (t + 2) (by omega), hf.1 (t + 3) (by omega), hf.1 (t + 4) (by omega), hf.1 (t + 5) (by omega), hf.1 (t + 6) (by omega), hf.1 (t + 7) (by omega), hf.1 (t + 8) (by omega), hf.1 (t + 9) (by omega)]
    exact h2
  · rw [hf.2.1 10 (by decide) (by decide) (by decide) (by decide)]; exact c1
  · rw [hf.2.2.1 3 (by decide), hf.1 4 (by decide)]; exact c2
/-- a fault has been found -/
def dr_X (z0 : ds_St) (t v a : Nat) (z : ds_St) : Prop := z.1 1 9 = nI v ∧ (1 ≤ v ∧ v ≤ 6) ∧ z.1 1 4 = nI a ∧ (z.2.2 1 = t ∧ (t = 10 ∨ t = 30)) ∧ (∃ c, c ≤ 22 ∧ z.1 1 10 = nI c) ∧ (∃ w, w ≤ 6 ∧ z.1 t 11 = nI w) ∧ dr_fC t z0 z
theorem dr_X_zb {z0 z : ds_St} {t v n e : Nat} {hs : Bool} {Nm : Nat → List Nat} {B : Nat → Nat} {D : Nat → Nat → Nat} (hO : dr_O z B n e) (hS : dr_S z0 t hs Nm D z) (hd : dr_dok hs D) (h1 : 1 ≤ v) (h6 : v ≤ 6) : dr_X z0 t v (dr_at B n e) (dr_zb z v) := by
  obtain ⟨⟨a1, ht⟩, a2, ⟨ord, c1, c2, c3⟩, a4⟩ := hS
  refine ⟨dr_zb_9 z v, ⟨h1, h6⟩, ?_, ⟨a1, ht⟩, ⟨D 0 4 + D 0 5, ?_, ?_⟩, ⟨D 0 6, hd.2.2.1, ?_⟩, dr_fC_zb a4⟩
  · rw [dr_zb_k z v (by decide)]; exact hO.2.2.1
  · have := hd.1; have := hd.2.1; omega
  · rw [dr_zb_k z v (by decide)]; exact c1
  · rw [dr_zb_p z v (by omega)]; exact a2.2.1.2.2.1
theorem dr_X_set {z0 z : ds_St} {t v a k : Nat} (r : Int32) (h : dr_X z0 t v a z) (hk : k ≤ 3) : dr_X z0 t v a (ds_setI z t k r) := by
  obtain ⟨h1, h2, h3, ⟨h4, ht⟩, ⟨c, c1, c2⟩, ⟨w, w1, w2⟩, h7⟩ := h
  rw [ds_setI_row]
  refine ⟨?_, h2, ?_, ⟨h4, ht⟩, ⟨c, c1, ?_⟩, ⟨w, w1, ?_⟩, dr_fC_row _ h7 (by omega) (by omega) ht⟩
  · rw [ds_rowI_ne _ _ (by omega)]; exact h1
  · rw [ds_rowI_ne _ _ (by omega)]; exact h3
  · rw [ds_rowI_ne _ _ (by omega)]; exact c2
  · rw [ds_rowI_self, pk_un (by omega)]; exact w2
theorem dr_O_set {z : ds_St} {B : Nat → Nat} {n e t k : Nat} (r : Int32) (h : dr_O z B n e) (ht : t = 10 ∨ t = 30) : dr_O (ds_setI z t k r) B n e := by
  obtain ⟨⟨b1, b2, b3, b4, b5⟩, he, t1, t2, t3, t4, t5⟩ := h
  rw [ds_setI_row]
  refine ⟨⟨?_, ?_, b3, ?_, b5⟩, he, ?_, ?_, ?_, t4, fun q => ?_⟩
  · rw [ds_rowI_ne _ _ (by omega)]; exact b1
  · rw [ds_rowI_ne _ _ (by omega)]; exact b2
  · rw [ds_rowI_ne _ _ (by omega)]; exact b4
  · rw [ds_rowI_ne _ _ (by omega)]; exact t1
  · rw [ds_rowI_ne _ _ (by omega)]; exact t2
  · rw [ds_rowI_ne _ _ (by omega)]; exact t3
  · rw [ds_rowI_ne _ _ (by omega)]; exact t5 q
theorem dr_S_set {z0 z : ds_St} {t k : Nat} {Nm : Nat → List Nat} {D : Nat → Nat → Nat} (r : Int32) (h : dr_S z0 t false Nm D z) (hk : k ≤ 3) : dr_S z0 t false Nm D (ds_setI z t k r) := by
  obtain ⟨⟨h1, ht⟩, h2, ⟨ord, c1, c2, c3⟩, h4⟩ := h
  rw [ds_setI_row]
  refine ⟨⟨h1, ht⟩, ⟨fun q => absurd q (by decide), ⟨?_, ?_, ?_, ?_⟩, ?_⟩, ⟨ord, ?_, ?_, c3⟩, dr_fC_row _ h4 (by omega) (by omega) ht⟩
  · rw [ds_rowI_self, pk_un (by omega)]; exact h2.2.1.1
  · rw [ds_rowI_self, pk_un (by omega)]; exact h2.2.1.2.1
  · rw [ds_rowI_self, pk_un (by omega)]; exact h2.2.1.2.2.1
  · rw [ds_rowI_self, pk_un (by omega)]; exact h2.2.1.2.2.2
  · rw [ds_rowI_ne _ _ (by omega), ds_rowI_ne _ _ (by omega), ds_rowI_ne _ _ (by omega), ds_rowI_ne _ _ (by omega), ds_rowI_ne _ _ (by omega), ds_rowI_ne _ _ (by omega), ds_rowI_ne _ _ (by omega), ds_rowI_ne _ _ (by omega), ds_rowI_ne _ _ (by omega)]; exact h2.2.2
  · rw [ds_rowI_ne _ _ (by omega)]; exact c1
  · rw [ds_rowI_ne _ _ (by omega)]; exact c2
/-! what a line says -/
abbrev dr_Rs : Type := (Nat × Nat) ⊕ (Nat × (Nat → List Nat) × (Nat → Nat → Nat))
def dr_postC (z0 : ds_St) (t : Nat) (B : Nat → Nat) (n : Nat) (r : dr_Rs) (z : ds_St) : Prop := match r with
  | .inl q => dr_X z0 t q.1 q.2 z
  | .inr s => dr_O z B n s.1 ∧ dr_S z0 t true s.2.1 s.2.2 z
def dr_D0 (D : Nat → Nat → Nat) (k v : Nat) (r j : Nat) : Nat := if r = 0 ∧ j = k then v else D r j
def dr_pOne {α : Type} (B : Nat → Nat) (n e x : Nat) (f : Nat → Nat → (Nat × Nat) ⊕ α) : (Nat × Nat) ⊕ α := match dr_on B n e x with
  | none => .inl (1, dr_at B n e)
  | some i => f i (dr_nx B n e)
def dr_pNum {α : Type} (B : Nat → Nat) (n e lo hi : Nat) (f : Nat → Nat → (Nat × Nat) ⊕ α) : (Nat × Nat) ⊕ α := if dr_nu B n e lo hi = 0 then f (dr_wh B n e) (dr_nx B n e) else .inl (dr_nu B n e lo hi, dr_at B n e)
def dr_sea (B : Nat → Nat) (n e : Nat) (Nm : Nat → List Nat) (D : Nat → Nat → Nat) : dr_Rs :=
  dr_pOne B n e 301 fun _ e => dr_pNum B n e 2 4 fun w e => dr_pOne B n e 302 fun _ e => dr_pNum B n e 2 3 fun h e => dr_pOne B n e 303 fun _ e => dr_pOne B n e 304 fun g e => dr_pOne B n e 305 fun s e => .inr (e, Nm, dr_D0 (dr_D0 (dr_D0 (dr_D0 D 0 w) 1 h) 2 g) 3 s)
theorem dr_nu_6 (B : Nat → Nat) (n e lo hi : Nat) : dr_nu B n e lo hi = 0 ∨ (1 ≤ dr_nu B n e lo hi ∧ dr_nu B n e lo hi ≤ 6) := by
  unfold dr_nu
  split
  · split <;> omega
  · omega
theorem dr_nu_0 {B : Nat → Nat} {n e lo hi : Nat} (h : dr_nu B n e lo hi = 0) : dr_kd B n e = 2 ∧ lo ≤ dr_wh B n e ∧ dr_wh B n e ≤ hi := by
  unfold dr_nu at h
  split at h
  · split at h <;> omega
  · omega
