/-! the class reads lines: states -/
def dr_w (a : Option ds_Out) (Q : Option Value → ds_St → Prop) : Prop := ∃ v z', a = some (v, z') ∧ Q v z'
theorem dr_wI {cl : Nat → List Value → ds_St → Option ds_Out} {j : Nat} {as : List Value} {z z1 : ds_St} {f : Int32 → ds_St → Option ds_Out} {r : Int32} {Q : Option Value → ds_St → Prop} (h : cl j as z = some (some (.int r), z1)) (g : dr_w (f r z1) Q) : dr_w (ds_cI cl j as z f) Q := by
  rw [ds_cI_t h]
  exact g
theorem dr_wV {cl : Nat → List Value → ds_St → Option ds_Out} {j : Nat} {as : List Value} {z z1 : ds_St} {f : ds_St → Option ds_Out} {Q : Option Value → ds_St → Prop} (h : cl j as z = some (none, z1)) (g : dr_w (f z1) Q) : dr_w (ds_cV cl j as z f) Q := by
  rw [ds_cV_t h]
  exact g
theorem dr_wK {p c : Nat} {a : Option ds_Out} {Q : Option Value → ds_St → Prop} (h : ds_K p = c) (g : dr_w a Q) : dr_w (ds_isK p c a) Q := by
  rw [ds_isK_t h]
  exact g
theorem dr_wR {v : Option Value} {z : ds_St} {Q : Option Value → ds_St → Prop} (h : Q v z) : dr_w (some (v, z)) Q := ⟨v, z, rfl, h⟩
theorem dr_wc {d j : Nat} {as : List Value} {z : ds_St} {a : Option ds_Out} {Q : ds_St → Prop} (h : ds_call d j as z = ds_nn a) (g : dr_w a (fun v z' => v = none ∧ Q z')) : ∃ z', ds_call d j as z = some (none, z') ∧ Q z' := by
  obtain ⟨v, z', e, hv, q⟩ := g
  refine ⟨z', ?_, q⟩
  rw [h, e, hv]
  rfl
def dr_dC (z : ds_St) (t : Nat) (hs : Bool) (D : Nat → Nat → Nat) : Prop := (hs = true → z.1 t 0 = nI (D 0 0) ∧ z.1 t 1 = nI (D 0 1) ∧ z.1 t 2 = nI (D 0 2) ∧ z.1 t 3 = nI (D 0 3)) ∧ (z.1 t 4 = nI (D 0 4) ∧ z.1 t 9 = nI (D 0 5) ∧ z.1 t 11 = nI (D 0 6) ∧ z.1 t 14 = nI (D 0 7)) ∧ (∀ i, i < D 0 4 → z.1 (t + 1) i = nI (D 1 i) ∧ z.1 (t + 2) i = nI (D 2 i) ∧ z.1 (t + 3) i = nI (D 3 i) ∧ z.1 (t + 4) i = nI (D 4 i)) ∧ (∀ m, m < D 0 5 → z.1 (t + 5) m = nI (D 5 m)) ∧ (∀ m, m < D 0 6 → z.1 (t + 6) m = nI (D 6 m) ∧ z.1 (t + 7) m = nI (D 7 m)) ∧ (∀ m, m < D 0 7 → z.1 (t + 8) m = nI (D 8 m) ∧ z.1 (t + 9) m = nI (D 9 m))
def dr_dok (hs : Bool) (D : Nat → Nat → Nat) : Prop := D 0 4 ≤ 12 ∧ D 0 5 ≤ 10 ∧ D 0 6 ≤ 6 ∧ D 0 7 ≤ 6 ∧ (hs = true → (2 ≤ D 0 0 ∧ D 0 0 ≤ 4) ∧ (2 ≤ D 0 1 ∧ D 0 1 ≤ 3) ∧ D 0 2 < 4 ∧ D 0 3 < 2) ∧ (∀ i, i < D 0 4 → D 1 i < 3 ∧ D 2 i < 4 ∧ (1 ≤ D 3 i ∧ D 3 i ≤ 9) ∧ D 4 i < 100) ∧ (∀ m, m < D 0 5 → D 5 m < 14) ∧ (∀ m, m < D 0 6 → D 6 m < D 0 4 ∧ D 7 m < D 0 4 ∧ D 6 m ≠ D 7 m) ∧ (∀ m, m < D 0 7 → D 8 m < D 0 0 * D 0 1 ∧ D 9 m < D 0 4)
def dr_fC (t : Nat) (z z' : ds_St) : Prop := (∀ p, p ≠ 1 → p ≠ 4 → p < t ∨ t + 10 < p → z'.1 p = z.1 p) ∧ z'.1 1 1 = z.1 1 1 ∧ z'.2.2 = z.2.2
theorem dr_fC_refl (t : Nat) (z : ds_St) : dr_fC t z z := ⟨fun _ _ _ _ => rfl, rfl, rfl⟩
theorem dr_fC_trans {t : Nat} {z z1 z2 : ds_St} (h : dr_fC t z z1) (h2 : dr_fC t z1 z2) : dr_fC t z z2 := ⟨fun p a b c => (h2.1 p a b c).trans (h.1 p a b c), h2.2.1.trans h.2.1, h2.2.2.trans h.2.2⟩
theorem dr_fC_f1 {t : Nat} {z z1 z2 : ds_St} (h : dr_fC t z z1) (h2 : dr_f1 z1 z2) : dr_fC t z z2 := ⟨fun p a b c => (h2.1 p a).trans (h.1 p a b c), (h2.2.1 1 (by decide) (by decide) (by decide) (by decide)).trans h.2.1, h2.2.2.2.trans h.2.2⟩
theorem dr_fC_zb {t v : Nat} {z z1 : ds_St} (h : dr_fC t z z1) : dr_fC t z (dr_zb z1 v) := ⟨fun p a b c => (dr_zb_p z1 v a).trans (h.1 p a b c), (dr_zb_k z1 v (by decide)).trans h.2.1, h.2.2⟩
theorem dr_fC_row {t p : Nat} {z z1 : ds_St} (f : Nat → Int32) (h : dr_fC t z z1) (hp : t ≤ p) (hp2 : p ≤ t + 10) (ht : t = 10 ∨ t = 30) : dr_fC t z (ds_rowI z1 p f) := ⟨fun q a b c => by rw [ds_rowI_ne _ _ (by omega)]; exact h.1 q a b c, by rw [ds_rowI_ne _ _ (by omega)]; exact h.2.1, h.2.2⟩
/-- the rest of the class's reader: draft, names -/
def dr_S (z0 : ds_St) (t : Nat) (hs : Bool) (Nm : Nat → List Nat) (N D : Nat → Nat → Nat) (z : ds_St) : Prop := (z.2.2 1 = t ∧ (t = 10 ∨ t = 30)) ∧ dr_dC z t hs D ∧ dr_nC z N Nm ∧ dr_fC t z0 z
theorem dr_S_f1 {z0 z z' : ds_St} {t : Nat} {hs : Bool} {Nm : Nat → List Nat} {N D : Nat → Nat → Nat} (h : dr_S z0 t hs Nm N D z) (hf : dr_f1 z z') : dr_S z0 t hs Nm N D z' := by
  obtain ⟨⟨h1, ht⟩, h2, ⟨ord, c1, c2, c3⟩, h4⟩ := h
  refine ⟨⟨by rw [hf.2.2.2]; exact h1, ht⟩, ?_, ⟨ord, ?_, ?_, c3⟩, dr_fC_f1 h4 hf⟩
  · unfold dr_dC
    rw [hf.1 t (by omega), hf.1 (t + 1) (by omega), hf.1 (t + 2) (by omega), hf.1 (t + 3) (by omega), hf.1 (t + 4) (by omega), hf.1 (t + 5) (by omega), hf.1 (t + 6) (by omega), hf.1 (t + 7) (by omega), hf.1 (t + 8) (by omega), hf.1 (t + 9) (by omega)]
    exact h2
  · rw [hf.2.1 10 (by decide) (by decide) (by decide) (by decide)]; exact c1
  · rw [hf.2.2.1 3 (by decide), hf.1 4 (by decide)]; exact c2
/-- a fault has been found -/
def dr_X (z0 : ds_St) (t v a : Nat) (z : ds_St) : Prop := z.1 1 9 = nI v ∧ (1 ≤ v ∧ v ≤ 6) ∧ z.1 1 4 = nI a ∧ (z.2.2 1 = t ∧ (t = 10 ∨ t = 30)) ∧ (∃ c, c ≤ 22 ∧ z.1 1 10 = nI c) ∧ (∃ w, w ≤ 6 ∧ z.1 t 11 = nI w) ∧ dr_fC t z0 z
theorem dr_X_zb {z0 z : ds_St} {t v n e : Nat} {hs : Bool} {Nm : Nat → List Nat} {B : Nat → Nat} {N D : Nat → Nat → Nat} (hO : dr_O z B n e) (hS : dr_S z0 t hs Nm N D z) (hc : N 0 4 + N 0 5 ≤ 22) (hw : D 0 6 ≤ 6) (h1 : 1 ≤ v) (h6 : v ≤ 6) : dr_X z0 t v (dr_at B n e) (dr_zb z v) := by
  obtain ⟨⟨a1, ht⟩, a2, ⟨ord, c1, c2, c3⟩, a4⟩ := hS
  refine ⟨dr_zb_9 z v, ⟨h1, h6⟩, ?_, ⟨a1, ht⟩, ⟨N 0 4 + N 0 5, hc, ?_⟩, ⟨D 0 6, hw, ?_⟩, dr_fC_zb a4⟩
  · rw [dr_zb_k z v (by decide)]; exact hO.2.2.1
  · rw [dr_zb_k z v (by decide)]; exact c1
  · rw [dr_zb_p z v (by omega)]; exact a2.2.1.2.2.1
theorem dr_X_set {z0 z : ds_St} {t v a k : Nat} (r : Int32) (h : dr_X z0 t v a z) (hk : k ≤ 3) : dr_X z0 t v a (ds_setI z t k r) := by
  obtain ⟨h1, h2, h3, ⟨h4, ht⟩, ⟨c, c1, c2⟩, ⟨w, w1, w2⟩, h7⟩ := h
  rw [ds_setI_row]
  refine ⟨?_, h2, ?_, ⟨h4, ht⟩, ⟨c, c1, ?_⟩, ⟨w, w1, ?_⟩, dr_fC_row _ h7 (by omega) (by omega) ht⟩
  · rw [ds_rowI_ne _ _ (by omega)]; exact h1
  · rw [ds_rowI_ne _ _ (by omega)]; exact h3
  · rw [ds_rowI_ne _ _ (by omega)]; exact c2
  · rw [ds_rowI_self, pk_un (by omega)]; exact w2
theorem dr_O_set {z : ds_St} {B : Nat → Nat} {n e t k : Nat} (r : Int32) (h : dr_O z B n e) (ht : t = 10 ∨ t = 30) : dr_O (ds_setI z t k r) B n e := by
  obtain ⟨⟨b1, b2, b3, b4, b5⟩, he, t1, t2, t3, t4, t5⟩ := h
  rw [ds_setI_row]
  refine ⟨⟨?_, ?_, b3, ?_, b5⟩, he, ?_, ?_, ?_, t4, fun q => ?_⟩
  · rw [ds_rowI_ne _ _ (by omega)]; exact b1
  · rw [ds_rowI_ne _ _ (by omega)]; exact b2
  · rw [ds_rowI_ne _ _ (by omega)]; exact b4
  · rw [ds_rowI_ne _ _ (by omega)]; exact t1
  · rw [ds_rowI_ne _ _ (by omega)]; exact t2
  · rw [ds_rowI_ne _ _ (by omega)]; exact t3
  · rw [ds_rowI_ne _ _ (by omega)]; exact t5 q
theorem dr_S_set {z0 z : ds_St} {t k : Nat} {Nm : Nat → List Nat} {N D : Nat → Nat → Nat} (r : Int32) (h : dr_S z0 t false Nm N D z) (hk : k ≤ 3) : dr_S z0 t false Nm N D (ds_setI z t k r) := by
  obtain ⟨⟨h1, ht⟩, h2, ⟨ord, c1, c2, c3⟩, h4⟩ := h
  rw [ds_setI_row]
  refine ⟨⟨h1, ht⟩, ⟨fun q => absurd q (by decide), ⟨?_, ?_, ?_, ?_⟩, ?_⟩, ⟨ord, ?_, ?_, c3⟩, dr_fC_row _ h4 (by omega) (by omega) ht⟩
  · rw [ds_rowI_self, pk_un (by omega)]; exact h2.2.1.1
  · rw [ds_rowI_self, pk_un (by omega)]; exact h2.2.1.2.1
  · rw [ds_rowI_self, pk_un (by omega)]; exact h2.2.1.2.2.1
  · rw [ds_rowI_self, pk_un (by omega)]; exact h2.2.1.2.2.2
  · rw [ds_rowI_ne _ _ (by omega), ds_rowI_ne _ _ (by omega), ds_rowI_ne _ _ (by omega), ds_rowI_ne _ _ (by omega), ds_rowI_ne _ _ (by omega), ds_rowI_ne _ _ (by omega), ds_rowI_ne _ _ (by omega), ds_rowI_ne _ _ (by omega), ds_rowI_ne _ _ (by omega)]; exact h2.2.2
  · rw [ds_rowI_ne _ _ (by omega)]; exact c1
  · rw [ds_rowI_ne _ _ (by omega)]; exact c2
/-! what a line says -/
abbrev dr_Rs : Type := (Nat × Nat) ⊕ (Nat × (Nat → List Nat) × (Nat → Nat → Nat))
def dr_postC (z0 : ds_St) (t : Nat) (B : Nat → Nat) (n : Nat) (r : dr_Rs) (z : ds_St) : Prop := match r with
  | .inl q => dr_X z0 t q.1 q.2 z
  | .inr s => dr_O z B n s.1 ∧ dr_S z0 t true s.2.1 s.2.2 s.2.2 z
def dr_D1 (D : Nat → Nat → Nat) (w k v : Nat) (r j : Nat) : Nat := if r = w ∧ j = k then v else D r j
theorem dr_D1_s (D : Nat → Nat → Nat) (w k v : Nat) : dr_D1 D w k v w k = v := if_pos ⟨rfl, rfl⟩
theorem dr_D1_n {D : Nat → Nat → Nat} {w k v r j : Nat} (h : ¬ (r = w ∧ j = k)) : dr_D1 D w k v r j = D r j := if_neg h
def dr_pOne {α : Type} (B : Nat → Nat) (n e x : Nat) (f : Nat → Nat → (Nat × Nat) ⊕ α) : (Nat × Nat) ⊕ α := match dr_on B n e x with
  | none => .inl (1, dr_at B n e)
  | some i => f i (dr_nx B n e)
def dr_pNum {α : Type} (B : Nat → Nat) (n e lo hi : Nat) (f : Nat → Nat → (Nat × Nat) ⊕ α) : (Nat × Nat) ⊕ α := if dr_nu B n e lo hi = 0 then f (dr_wh B n e) (dr_nx B n e) else .inl (dr_nu B n e lo hi, dr_at B n e)
def dr_sea (B : Nat → Nat) (n e : Nat) (Nm : Nat → List Nat) (D : Nat → Nat → Nat) : dr_Rs :=
  dr_pOne B n e 301 fun _ e => dr_pNum B n e 2 4 fun w e => dr_pOne B n e 302 fun _ e => dr_pNum B n e 2 3 fun h e => dr_pOne B n e 303 fun _ e => dr_pOne B n e 304 fun g e => dr_pOne B n e 305 fun s e => .inr (e, Nm, dr_D1 (dr_D1 (dr_D1 (dr_D1 D 0 0 w) 0 1 h) 0 2 g) 0 3 s)
theorem dr_nu_6 (B : Nat → Nat) (n e lo hi : Nat) : dr_nu B n e lo hi = 0 ∨ (1 ≤ dr_nu B n e lo hi ∧ dr_nu B n e lo hi ≤ 6) := by
  unfold dr_nu
  split
  · split <;> omega
  · omega
theorem dr_nu_0 {B : Nat → Nat} {n e lo hi : Nat} (h : dr_nu B n e lo hi = 0) : dr_kd B n e = 2 ∧ lo ≤ dr_wh B n e ∧ dr_wh B n e ≤ hi := by
  unfold dr_nu at h
  split at h
  · split at h <;> omega
  · omega
theorem dr_pOne_n {α : Type} {B : Nat → Nat} {n e x : Nat} {f : Nat → Nat → (Nat × Nat) ⊕ α} (h : dr_on B n e x = none) : dr_pOne B n e x f = .inl (1, dr_at B n e) := by
  unfold dr_pOne
  rw [h]
theorem dr_pOne_s {α : Type} {B : Nat → Nat} {n e x i : Nat} {f : Nat → Nat → (Nat × Nat) ⊕ α} (h : dr_on B n e x = some i) : dr_pOne B n e x f = f i (dr_nx B n e) := by
  unfold dr_pOne
  rw [h]
theorem dr_pNum_n {α : Type} {B : Nat → Nat} {n e lo hi : Nat} {f : Nat → Nat → (Nat × Nat) ⊕ α} (h : ¬ dr_nu B n e lo hi = 0) : dr_pNum B n e lo hi f = .inl (dr_nu B n e lo hi, dr_at B n e) := if_neg h
theorem dr_pNum_s {α : Type} {B : Nat → Nat} {n e lo hi : Nat} {f : Nat → Nat → (Nat × Nat) ⊕ α} (h : dr_nu B n e lo hi = 0) : dr_pNum B n e lo hi f = f (dr_wh B n e) (dr_nx B n e) := if_pos h
theorem dr_on_lt {B : Nat → Nat} {n e x i : Nat} (h : dr_on B n e x = some i) : i < (dr_ws x).length := by
  unfold dr_on at h
  split at h
  · exact (dr_ix_s _ _ 0 i h).2
  · exact absurd h (by simp)
/-- names: one more -/
def dr_Nm (Nm : Nat → List Nat) (s : Nat) (l : List Nat) (j : Nat) : List Nat := if j = s then l else Nm j
def dr_pNew {α : Type} (B : Nat → Nat) (n e s : Nat) (Nm : Nat → List Nat) (f : (Nat → List Nat) → Nat → (Nat × Nat) ⊕ α) : (Nat × Nat) ⊕ α := if dr_isn B n e = true then (if dr_has Nm (dr_wl B n e) = true then .inl (3, dr_at B n e) else f (dr_Nm Nm s (dr_wl B n e)) (dr_nx B n e)) else .inl (1, dr_at B n e)
theorem dr_isn_k {B : Nat → Nat} {n e : Nat} (h : dr_isn B n e = true) : dr_kd B n e = 1 := by
  unfold dr_isn at h
  rw [Bool.and_eq_true] at h
  simpa using h.1
/-- N' has one name more than N: slot s -/
def dr_more (N N' : Nat → Nat → Nat) (s : Nat) : Prop := (∀ j, dr_used N' j = (dr_used N j || (j == s))) ∧ dr_used N s = false ∧ N' 0 4 + N' 0 5 = N 0 4 + N 0 5 + 1 ∧ N' 0 4 ≤ 12 ∧ N' 0 5 ≤ 10
theorem dr_nok_more {N N' : Nat → Nat → Nat} {s : Nat} {Nm : Nat → List Nat} {l : List Nat} (hm : dr_more N N' s) (hn : dr_nok N Nm) (hl : dr_wd l) (hh : dr_has Nm l = false) : dr_nok N' (dr_Nm Nm s l) := by
  obtain ⟨m1, m2, m3, m4, m5⟩ := hm
  obtain ⟨n1, n2, n3, n4, n5⟩ := hn
  have no : ∀ j, dr_used N j = true → Nm j ≠ l := fun j hj e => by
    have := (dr_has_at ⟨n1, n2, n3, n4, n5⟩ hl hj e).1
    rw [hh] at this
    exact absurd this (by decide)
  refine ⟨m4, m5, fun j hj => ?_, fun j hj => ?_, fun j j' hj hj' e => ?_⟩
  · unfold dr_Nm
    by_cases q : j = s
    · rw [if_pos q]; exact hl
    · rw [if_neg q]
      rw [m1, Bool.or_eq_true] at hj
      rcases hj with a | a
      · exact n3 j a
      · exact absurd (by simpa using a) q
  · unfold dr_Nm
    rw [m1, Bool.or_eq_false_iff] at hj
    have q : ¬ j = s := by simpa using hj.2
    rw [if_neg q]
    exact n4 j hj.1
  · rw [m1, Bool.or_eq_true] at hj hj'
    unfold dr_Nm at e
    by_cases q : j = s
    · by_cases q' : j' = s
      · omega
      · rw [if_pos q, if_neg q'] at e
        rcases hj' with a | a
        · exact absurd e.symm (no j' a)
        · exact absurd (by simpa using a) q'
    · by_cases q' : j' = s
      · rw [if_neg q, if_pos q'] at e
        rcases hj with a | a
        · exact absurd e (no j a)
        · exact absurd (by simpa using a) q
      · rw [if_neg q, if_neg q'] at e
        rcases hj with a | a
        · rcases hj' with b | b
          · exact n5 j j' a b e
          · exact absurd (by simpa using b) q'
        · exact absurd (by simpa using a) q
theorem s_tellName (d s : Nat) (x : Int32) (z z0 : ds_St) (t : Nat) (hs : Bool) (B : Nat → Nat) (n e : Nat) (Nm : Nat → List Nat) (N N' D : Nat → Nat → Nat) (hO : dr_O z B n e) (hS : dr_S z0 t hs Nm N D z) (hn : dr_nok N Nm) (hm : dr_more N N' s) (hx : x = if s < 12 then nI s else ds_m2) : (dr_isn B n e = false → ds_call (d + 4) j_Reader_tellName [.ref 1, .int x] z = some (none, dr_zb z 1)) ∧ (dr_isn B n e = true → dr_has Nm (dr_wl B n e) = true → ds_call (d + 4) j_Reader_tellName [.ref 1, .int x] z = some (none, dr_zb z 3)) ∧ (dr_isn B n e = true → dr_has Nm (dr_wl B n e) = false → ∃ z', ds_call (d + 4) j_Reader_tellName [.ref 1, .int x] z = some (none, z') ∧ dr_O z' B n (dr_nx B n e) ∧ dr_S z0 t hs (dr_Nm Nm s (dr_wl B n e)) N' D z') := by
  have h0 := hO
  obtain ⟨hb, he, ht⟩ := hO
  have h9 := hb.1
  have an := s_isAtName d z B n e h0
  have bl := fun v => s_blame (d + 2) v z h9
  have ax := fun v a b => s_adv_x (d + 2) v (dr_zb z v) (dr_zb_9 z v) a b
  have ax1 := ax 1 (by decide) (by decide)
  have ax3 := ax 3 (by decide) (by decide)
  refine ⟨fun q => ?_, fun q qh => ?_, fun q qh => ?_⟩
  · rw [q] at an
    rw [c_Reader_tellName, b_Reader_tellName_0]
    simp (disch := first | assumption | omega) only [ds_cI, ds_cV, ds_cL, ds_cR, ds_nn, ds_isK_t, ds_isA_t, ds_chk_t, ds_chkN, ds_nz_t, ds_nzN, ds_isB_t, ds_isB_bo, ↓dl_m1, ↓dl_m2, dl_0, dl_1, dl_2, dl_3, dl_4, dl_5, dl_6, dl_7, dl_8, dl_9, dl_10, dl_11, dl_12, dl_13, dl_14, dl_15, dl_16, dl_20, dl_24, dl_31, dl_50, dl_57, dl_67, dl_68, dl_74, dl_75, dl_79, dl_80, dl_99, dl_100, dl_200, dl_210, dl_224, dl_255, dl_289, dl_900, dl_1000, dl_1728, dl_65536, dl_65537, nI_add, pk_mul, pk_sub, pk_div, pk_rem, ds_rem2, nI_clamp, nI_leI, nI_ltI, nI_eq, ds_m1_eq, ds_eq_m1, ds_m2_eq, ds_eq_m2, ds_m1_le, ds_le_m1, ds_m1_lt, ds_lt_m1, ds_in_N, ds_bo0, ds_bo1, if_pos, if_neg, Nat.not_le, Nat.not_lt, not_true_eq_false, not_false_eq_true, if_true, if_false, ne_eq, Option.some.injEq, Prod.mk.injEq, Value.int.injEq, true_and, and_true, and_self, ite_self, Bool.not_eq_true, Bool.not_eq_false, Bool.true_eq_false, Bool.false_eq_true, reduceCtorEq, Nat.zero_add, Nat.reduceAdd, Nat.reduceMul, Nat.reduceSub, ds_setI_row, ds_setL_row, ds_rowI_self, ds_rowI_ne, ds_rowI_2, ds_rowI_rowI, ds_setS_1, ds_setS_21, ds_setS_self, ds_setS_ne, pk_us, pk_un, an, bl, ax1]
  · rw [q] at an
    have k1 := dr_isn_k q
    have wd := dr_wl_ok he k1
    have ow := s_owner (d + 1) z N Nm (dr_wl B n e) hS.2.2.1 hn wd (ht.2.2.2.1 k1)
    have ne : ¬ dr_own Nm (dr_wl B n e) = ds_m1 := by
      unfold dr_own
      rw [if_pos qh]
      have sl := dr_used_lt hn.1 hn.2.1 (dr_slot_ok hn wd qh).1
      split
      · rw [ds_eq_m1 (by omega)]; exact id
      · exact (by decide)
    generalize dr_own Nm (dr_wl B n e) = w at *
    rw [c_Reader_tellName, b_Reader_tellName_0]
    simp (disch := first | assumption | omega) only [ds_cI, ds_cV, ds_cL, ds_cR, ds_nn, ds_isK_t, ds_isA_t, ds_chk_t, ds_chkN, ds_nz_t, ds_nzN, ds_isB_t, ds_isB_bo, ↓dl_m1, ↓dl_m2, dl_0, dl_1, dl_2, dl_3, dl_4, dl_5, dl_6, dl_7, dl_8, dl_9, dl_10, dl_11, dl_12, dl_13, dl_14, dl_15, dl_16, dl_20, dl_24, dl_31, dl_50, dl_57, dl_67, dl_68, dl_74, dl_75, dl_79, dl_80, dl_99, dl_100, dl_200, dl_210, dl_224, dl_255, dl_289, dl_900, dl_1000, dl_1728, dl_65536, dl_65537, nI_add, pk_mul, pk_sub, pk_div, pk_rem, ds_rem2, nI_clamp, nI_leI, nI_ltI, nI_eq, ds_m1_eq, ds_eq_m1, ds_m2_eq, ds_eq_m2, ds_m1_le, ds_le_m1, ds_m1_lt, ds_lt_m1, ds_in_N, ds_bo0, ds_bo1, if_pos, if_neg, Nat.not_le, Nat.not_lt, not_true_eq_false, not_false_eq_true, if_true, if_false, ne_eq, Option.some.injEq, Prod.mk.injEq, Value.int.injEq, true_and, and_true, and_self, ite_self, Bool.not_eq_true, Bool.not_eq_false, Bool.true_eq_false, Bool.false_eq_true, reduceCtorEq, Nat.zero_add, Nat.reduceAdd, Nat.reduceMul, Nat.reduceSub, ds_setI_row, ds_setL_row, ds_rowI_self, ds_rowI_ne, ds_rowI_2, ds_rowI_rowI, ds_setS_1, ds_setS_21, ds_setS_self, ds_setS_ne, pk_us, pk_un, an, ow, ne, bl, ax3]
  · rw [q] at an
    have k1 := dr_isn_k q
    have wd := dr_wl_ok he k1
    have lw := ht.2.2.2.1 k1
    have ow := s_owner (d + 1) z N Nm (dr_wl B n e) hS.2.2.1 hn wd lw
    have ee : dr_own Nm (dr_wl B n e) = ds_m1 := by
      unfold dr_own
      rw [qh]
      rfl
    rw [ee] at ow
    obtain ⟨⟨s1, st⟩, s2, ⟨ord, c1, c2, c3⟩, s4⟩ := hS
    obtain ⟨m1, m2, m3, m4, m5⟩ := hm
    have c22 : N 0 4 + N 0 5 < 22 := by omega
    generalize hc : N 0 4 + N 0 5 = c at *
    let z1 := ds_rowL z 3 (vp_updL (z.2.1 3) c (lN (dr_cod 0 (dr_wl B n e))))
    have z1e : ds_setL z 3 c (lN (dr_cod 0 (dr_wl B n e))) = z1 := rfl
    let z2 := ds_rowI z1 4 (upd (z1.1 4) c x)
    have pt := s_putN (d + 2) 4 c 22 x z1 rfl rfl (by decide) c22
    let z3 := ds_rowI z2 1 (upd (z2.1 1) 10 (nI (c + 1)))
    have z3e : ds_setI z2 1 10 (nI (c + 1)) = z3 := ds_setI_row _ _ _ _
    have g10 : z2.1 1 10 = nI c := by
      show (ds_rowI z1 4 (upd (z1.1 4) c x)).1 1 10 = _
      rw [ds_rowI_ne _ _ (by decide)]; exact c1
    have r1 : ∀ k, k ≠ 10 → z3.1 1 k = z.1 1 k := fun k hk => by
      show (ds_rowI z2 1 (upd (z2.1 1) 10 (nI (c + 1)))).1 1 k = _
      rw [ds_rowI_self, pk_un hk]
      show (ds_rowI z1 4 (upd (z1.1 4) c x)).1 1 k = _
      rw [ds_rowI_ne _ _ (by decide)]
      rfl
    have r10 : z3.1 1 10 = nI (c + 1) := by
      show (ds_rowI z2 1 (upd (z2.1 1) 10 (nI (c + 1)))).1 1 10 = _
      rw [ds_rowI_self, pk_us]
    have rp : ∀ p, p ≠ 1 → p ≠ 4 → z3.1 p = z.1 p := fun p h1 h4 => by
      show (ds_rowI (ds_rowI z1 4 (upd (z1.1 4) c x)) 1 _).1 p = _
      rw [ds_rowI_ne _ _ h1, ds_rowI_ne _ _ h4]
      rfl
    have r4 : ∀ i, z3.1 4 i = upd (z.1 4) c x i := fun i => by
      show (ds_rowI (ds_rowI z1 4 (upd (z1.1 4) c x)) 1 _).1 4 i = _
      rw [ds_rowI_ne _ _ (by decide), ds_rowI_self]
      rfl
    have l3 : ∀ i, z3.2.1 3 i = vp_updL (z.2.1 3) c (lN (dr_cod 0 (dr_wl B n e))) i := fun i => by
      show (ds_rowL z 3 (vp_updL (z.2.1 3) c (lN (dr_cod 0 (dr_wl B n e))))).2.1 3 i = _
      rw [ds_rowL_self]
    have lp : ∀ p, p ≠ 3 → z3.2.1 p = z.2.1 p := fun p hp => ds_rowL_ne _ _ hp
    have rr : z3.2.2 = z.2.2 := rfl
    have pt' : ds_call (d + 3) j_Sea_put [.ref 4, .int (nI c), .int x] z1 = some (none, z2) := pt
    clear_value z3
    clear_value z2
    clear_value z1
    have hO3 : dr_O z3 B n e := by
      obtain ⟨b1, b2, b3, b4, b5⟩ := hb
      obtain ⟨t1, t2, t3, t4, t5⟩ := ht
      refine ⟨⟨?_, ?_, b3, ?_, b5⟩, he, ?_, ?_, ?_, fun q => ?_, fun q => ?_⟩
      · rw [r1 9 (by decide)]; exact b1
      · rw [r1 3 (by decide)]; exact b2
      · rw [rp 2 (by decide) (by decide)]; exact b4
      · rw [r1 4 (by decide)]; exact t1
      · rw [r1 5 (by decide)]; exact t2
      · rw [r1 6 (by decide)]; exact t3
      · rw [lp 1 (by decide)]; exact t4 q
      · rw [r1 8 (by decide)]; exact t5 q
    obtain ⟨z', w1, w2, w3⟩ := s_next d z3 B n e hO3
    refine ⟨z', ?_, w2, dr_S_f1 ⟨⟨by rw [rr]; exact s1, st⟩, ?_, ?_, ?_⟩ w3⟩
    · rw [c_Reader_tellName, b_Reader_tellName_0]
      simp (disch := first | assumption | omega) only [ds_cI_t an, dl_0, ds_bo0, Bool.true_eq_false, not_false_eq_true, if_true, ds_cI_t ow, ↓dl_m1, c1, dl_22, nI_ltI, nI_leI, if_neg, Nat.not_lt_zero, Nat.not_lt, Nat.not_le, ds_chkN, nI_clamp, lw, z1e, ds_cV_t pt', g10, dl_1, nI_add, z3e, ds_cV_t w1, if_false, ds_nn]
    · unfold dr_dC
      rw [rp t (by omega) (by omega), rp (t + 1) (by omega) (by omega), rp (t + 2) (by omega) (by omega), rp (t + 3) (by omega) (by omega), rp (t + 4) (by omega) (by omega), rp (t + 5) (by omega) (by omega), rp (t + 6) (by omega) (by omega), rp (t + 7) (by omega) (by omega), rp (t + 8) (by omega) (by omega), rp (t + 9) (by omega) (by omega)]
      exact s2
    · refine ⟨fun i => if i = c then s else ord i, by rw [m3]; exact r10, fun i hi => ?_, fun j hj => ?_⟩
      · rw [m3] at hi
        by_cases q : i = c
        · dsimp only
          simp only [if_pos q]
          rw [m1, l3, r4, q, pk_us]
          refine ⟨by simp, ?_, hx⟩
          unfold dr_Nm
          rw [if_pos rfl]
          exact if_pos rfl
        · obtain ⟨u1, u2, u3⟩ := c2 i (by omega)
          have ns : ord i ≠ s := fun h => by rw [h, m2] at u1; exact absurd u1 (by decide)
          dsimp only
          simp only [if_neg q]
          rw [m1, u1, l3, r4, pk_un q]
          refine ⟨rfl, ?_, u3⟩
          unfold dr_Nm
          rw [if_neg ns]
          exact (if_neg q).trans u2
      · rw [m1, Bool.or_eq_true] at hj
        rcases hj with a | a
        · obtain ⟨i, i1, i2⟩ := c3 j a
          exact ⟨i, by omega, by dsimp only; rw [if_neg (by omega)]; exact i2⟩
        · exact ⟨c, by omega, by dsimp only; rw [if_pos rfl]; simpa using (by simpa using a : j = s).symm⟩
    · exact ⟨fun p a b c => (rp p a b).trans (s4.1 p a b c), (r1 1 (by decide)).trans s4.2.1, rr.trans s4.2.2⟩
