/-! a line keeps what holds -/
def dr_good (n e : Nat) (r : dr_Rs) : Prop := e ≤ n → ∀ s, r = .inr s → e ≤ s.1 ∧ s.1 ≤ n ∧ dr_dok true s.2.2 ∧ dr_nok s.2.2 s.2.1
theorem dr_good_l (n e : Nat) (q : Nat × Nat) : dr_good n e (.inl q) := fun _ s h => by cases h
theorem dr_good_next {B : Nat → Nat} {n e : Nat} {r : dr_Rs} (h : dr_good n (dr_nx B n e) r) : dr_good n e r := fun he s hs => by
  obtain ⟨a, b⟩ := dr_nx_ok B he
  obtain ⟨a1, a2⟩ := dr_at_ok B he
  obtain ⟨c1, c2⟩ := h b s hs
  exact ⟨by omega, c2⟩
theorem dr_good_one {B : Nat → Nat} {n e x : Nat} {f : Nat → Nat → dr_Rs} (h : ∀ i, dr_on B n e x = some i → dr_good n (dr_nx B n e) (f i (dr_nx B n e))) : dr_good n e (dr_pOne B n e x f) := by
  cases q : dr_on B n e x with
  | none => rw [dr_pOne_n q]; exact dr_good_l _ _ _
  | some i => rw [dr_pOne_s q]; exact dr_good_next (h i q)
theorem dr_good_num {B : Nat → Nat} {n e lo hi : Nat} {f : Nat → Nat → dr_Rs} (h : lo ≤ dr_wh B n e → dr_wh B n e ≤ hi → dr_good n (dr_nx B n e) (f (dr_wh B n e) (dr_nx B n e))) : dr_good n e (dr_pNum B n e lo hi f) := by
  by_cases q : dr_nu B n e lo hi = 0
  · rw [dr_pNum_s q]
    obtain ⟨_, a, b⟩ := dr_nu_0 q
    exact dr_good_next (h a b)
  · rw [dr_pNum_n q]; exact dr_good_l _ _ _
theorem dr_good_new {B : Nat → Nat} {n e s : Nat} {Nm : Nat → List Nat} {f : (Nat → List Nat) → Nat → dr_Rs} (h : e ≤ n → dr_wd (dr_wl B n e) → dr_has Nm (dr_wl B n e) = false → dr_good n (dr_nx B n e) (f (dr_Nm Nm s (dr_wl B n e)) (dr_nx B n e))) : dr_good n e (dr_pNew B n e s Nm f) := by
  unfold dr_pNew
  split
  · rename_i q
    split
    · exact dr_good_l _ _ _
    · rename_i q2
      intro he
      exact dr_good_next (h he (dr_wl_ok he (dr_isn_k q)) (by simpa using q2)) he
  · exact dr_good_l _ _ _
theorem dr_good_isl {B : Nat → Nat} {n e : Nat} {Nm : Nat → List Nat} {D : Nat → Nat → Nat} {f : Nat → dr_Rs} (hn : dr_nok D Nm) (h : dr_slot Nm (dr_wl B n e) < D 0 4 → dr_good n e (f (dr_slot Nm (dr_wl B n e)))) : dr_good n e (dr_pIsl B n e Nm f) := by
  by_cases q : dr_ni B n e Nm = 0
  · rw [dr_pIsl_s q]
    obtain ⟨a, b, c⟩ := dr_ni_0 q
    intro he
    refine h ?_ he
    have u := (dr_slot_ok hn (dr_wl_ok he (dr_isn_k a)) b).1
    unfold dr_used at u
    simp at u
    omega
  · rw [dr_pIsl_n q]; exact dr_good_l _ _ _
theorem dr_good_r {n e : Nat} {Nm : Nat → List Nat} {D : Nat → Nat → Nat} (hd : dr_dok true D) (hn : dr_nok D Nm) : dr_good n e (.inr (e, Nm, D)) := fun he s hs => by
  have : s = (e, Nm, D) := by
    cases hs
    rfl
  subst this
  exact ⟨Nat.le_refl _, he, hd, hn⟩
theorem dr_nok_c {D D' : Nat → Nat → Nat} {Nm : Nat → List Nat} (h4 : D' 0 4 = D 0 4) (h5 : D' 0 5 = D 0 5) (h : dr_nok D Nm) : dr_nok D' Nm := by
  obtain ⟨a, b, c, e, f⟩ := h
  refine ⟨by omega, by omega, fun s hs => ?_, fun s hs => ?_, fun s s' hs hs' q => ?_⟩
  · rw [dr_used_c h4 h5] at hs; exact c s hs
  · rw [dr_used_c h4 h5] at hs; exact e s hs
  · rw [dr_used_c h4 h5] at hs hs'; exact f s s' hs hs' q
theorem dr_good_sea {B : Nat → Nat} {n e : Nat} {Nm : Nat → List Nat} {D : Nat → Nat → Nat} (hd : dr_dok false D) (hn : dr_nok D Nm) (h7 : D 0 7 = 0) : dr_good n e (dr_sea B n e Nm D) := by
  unfold dr_sea
  refine dr_good_one fun _ _ => dr_good_num fun w1 w2 => dr_good_one fun _ _ => dr_good_num fun g1 g2 => dr_good_one fun _ _ => dr_good_one fun i hi => dr_good_one fun j hj => dr_good_r ?_ ?_
  · have i4 : i < 4 := dr_on_lt hi
    have j2 : j < 2 := dr_on_lt hj
    obtain ⟨a, b, c, e', _, f, g, h, k⟩ := hd
    refine ⟨by simpa [dr_D1] using a, by simpa [dr_D1] using b, by simpa [dr_D1] using c, by simpa [dr_D1] using e', fun _ => ?_, fun i hi => ?_, fun i hi => ?_, fun i hi => ?_, fun i hi => ?_⟩
    · refine ⟨?_, ?_, ?_, ?_⟩
      · simp [dr_D1]; omega
      · simp [dr_D1]; omega
      · simpa [dr_D1] using i4
      · simpa [dr_D1] using j2
    · simp [dr_D1] at hi ⊢
      exact f i hi
    · simp [dr_D1] at hi ⊢
      exact g i hi
    · simp [dr_D1] at hi ⊢
      exact h i hi
    · simp [dr_D1] at hi
      omega
  · exact dr_nok_c (by simp [dr_D1]) (by simp [dr_D1]) hn
theorem dr_good_islL {B : Nat → Nat} {n e : Nat} {Nm : Nat → List Nat} {D : Nat → Nat → Nat} (hd : dr_dok true D) (hn : dr_nok D Nm) (h12 : D 0 4 < 12) : dr_good n e (dr_isl B n e Nm D) := by
  unfold dr_isl
  refine dr_good_new fun _ wd hh => dr_good_one fun k hk => dr_good_one fun g hg => dr_good_one fun _ _ => dr_good_num fun r1 r2 => dr_good_one fun _ _ => dr_good_num fun p1 p2 => dr_good_r ?_ ?_
  · have k3 : k < 3 := dr_on_lt hk
    have g4 : g < 4 := dr_on_lt hg
    obtain ⟨a, b, c, e', s, f, gg, h, kk⟩ := hd
    have D0 : ∀ r p j, j ≠ 4 → dr_addI D k g r p 0 j = D 0 j := by intro r p j hj; simp [dr_addI, dr_D1, hj]
    have D4 : ∀ r p, dr_addI D k g r p 0 4 = D 0 4 + 1 := by intro r p; simp [dr_addI, dr_D1]
    have D1 : ∀ r p i, dr_addI D k g r p 1 i = if i = D 0 4 then k else D 1 i := by intro r p i; simp [dr_addI, dr_D1]
    have D2 : ∀ r p i, dr_addI D k g r p 2 i = if i = D 0 4 then g else D 2 i := by intro r p i; simp [dr_addI, dr_D1]
    have D3 : ∀ r p i, dr_addI D k g r p 3 i = if i = D 0 4 then r else D 3 i := by intro r p i; simp [dr_addI, dr_D1]
    have Dp : ∀ r p i, dr_addI D k g r p 4 i = if i = D 0 4 then p else D 4 i := by intro r p i; simp [dr_addI, dr_D1]
    have Dr : ∀ r p w i, 5 ≤ w → dr_addI D k g r p w i = D w i := by
      intro r p w i hw
      have h0 : ¬ w = 0 := by omega
      have h1 : ¬ w = 1 := by omega
      have h2 : ¬ w = 2 := by omega
      have h3 : ¬ w = 3 := by omega
      have h4 : ¬ w = 4 := by omega
      simp [dr_addI, dr_D1, h0, h1, h2, h3, h4]
    refine ⟨by rw [D4]; omega, by rw [D0 _ _ 5 (by decide)]; exact b, by rw [D0 _ _ 6 (by decide)]; exact c, by rw [D0 _ _ 7 (by decide)]; exact e', fun q => ?_, fun i hi => ?_, fun i hi => ?_, fun i hi => ?_, fun i hi => ?_⟩
    · rw [D0 _ _ 0 (by decide), D0 _ _ 1 (by decide), D0 _ _ 2 (by decide), D0 _ _ 3 (by decide)]
      exact s q
    · rw [D4] at hi
      rw [D1, D2, D3, Dp]
      by_cases q : i = D 0 4
      · rw [if_pos q, if_pos q, if_pos q, if_pos q]
        exact ⟨k3, g4, ⟨r1, r2⟩, by omega⟩
      · rw [if_neg q, if_neg q, if_neg q, if_neg q]
        exact f i (by omega)
    · rw [D0 _ _ 5 (by decide)] at hi
      rw [Dr _ _ 5 i (by decide)]
      exact gg i hi
    · rw [D0 _ _ 6 (by decide)] at hi
      rw [Dr _ _ 6 i (by decide), Dr _ _ 7 i (by decide), D4]
      have := h i hi
      omega
    · rw [D0 _ _ 7 (by decide)] at hi
      rw [Dr _ _ 8 i (by decide), Dr _ _ 9 i (by decide), D4, D0 _ _ 0 (by decide), D0 _ _ 1 (by decide)]
      have := kk i hi
      omega
  · have m := dr_nok_more (dr_more_I h12 hd.2.1) hn wd hh
    exact dr_nok_c (by simp [dr_addI, dr_D1]) (by simp [dr_addI, dr_D1]) m
theorem dr_good_famL {B : Nat → Nat} {n e : Nat} {Nm : Nat → List Nat} {D : Nat → Nat → Nat} (hd : dr_dok true D) (hn : dr_nok D Nm) (h10 : D 0 5 < 10) : dr_good n e (dr_fam B n e Nm D) := by
  have ok : ∀ m, m < 14 → dr_dok true (dr_addF D m) := by
    intro m hm
    obtain ⟨a, b, c, e', s, f, gg, h, kk⟩ := hd
    have D0 : ∀ j, j ≠ 5 → dr_addF D m 0 j = D 0 j := by intro j hj; simp [dr_addF, dr_D1, hj]
    have D5 : dr_addF D m 0 5 = D 0 5 + 1 := by simp [dr_addF, dr_D1]
    have Dm : ∀ i, dr_addF D m 5 i = if i = D 0 5 then m else D 5 i := by intro i; simp [dr_addF, dr_D1]
    have Dr : ∀ w i, w ≠ 0 → w ≠ 5 → dr_addF D m w i = D w i := by intro w i h0 h5; simp [dr_addF, dr_D1, h0, h5]
    refine ⟨by rw [D0 4 (by decide)]; exact a, by rw [D5]; omega, by rw [D0 6 (by decide)]; exact c, by rw [D0 7 (by decide)]; exact e', fun q => ?_, fun i hi => ?_, fun i hi => ?_, fun i hi => ?_, fun i hi => ?_⟩
    · rw [D0 0 (by decide), D0 1 (by decide), D0 2 (by decide), D0 3 (by decide)]
      exact s q
    · rw [D0 4 (by decide)] at hi
      rw [Dr 1 i (by decide) (by decide), Dr 2 i (by decide) (by decide), Dr 3 i (by decide) (by decide), Dr 4 i (by decide) (by decide)]
      exact f i hi
    · rw [D5] at hi
      rw [Dm]
      by_cases q : i = D 0 5
      · rw [if_pos q]; exact hm
      · rw [if_neg q]; exact gg i (by omega)
    · rw [D0 6 (by decide)] at hi
      rw [Dr 6 i (by decide) (by decide), Dr 7 i (by decide) (by decide), D0 4 (by decide)]
      exact h i hi
    · rw [D0 7 (by decide)] at hi
      rw [Dr 8 i (by decide) (by decide), Dr 9 i (by decide) (by decide), D0 4 (by decide), D0 0 (by decide), D0 1 (by decide)]
      exact kk i hi
  unfold dr_fam
  refine dr_good_new fun _ wd hh => dr_good_one fun k hk => ?_
  have nk : ∀ m, dr_nok (dr_addF D m) (dr_Nm Nm (12 + D 0 5) (dr_wl B n e)) := fun m => dr_nok_c (by simp [dr_addF, dr_D1]) (by simp [dr_addF, dr_D1]) (dr_nok_more (dr_more_F hd.1 h10) hn wd hh)
  split
  · exact dr_good_r (ok k (by omega)) (nk k)
  · exact dr_good_num fun m1 m2 => dr_good_r (ok _ (by omega)) (nk _)
theorem dr_good_wshL {B : Nat → Nat} {n e : Nat} {Nm : Nat → List Nat} {D : Nat → Nat → Nat} (hd : dr_dok true D) (hn : dr_nok D Nm) (h6 : D 0 6 < 6) : dr_good n e (dr_wsh B n e Nm D) := by
  unfold dr_wsh
  refine dr_good_isl hn fun s1 => dr_good_next (dr_good_isl hn fun s2 => ?_)
  split
  · exact dr_good_l _ _ _
  · rename_i q
    refine dr_good_next (dr_good_r ?_ (dr_nok_c (by simp [dr_addW, dr_D1]) (by simp [dr_addW, dr_D1]) hn))
    generalize dr_slot Nm (dr_wl B n e) = a at *
    generalize dr_slot Nm (dr_wl B n (dr_nx B n e)) = b at *
    have ab : a ≠ b := fun h => q (by rw [decide_eq_true h, Bool.true_or])
    obtain ⟨a', b', c, e', s, f, gg, h, kk⟩ := hd
    have D0 : ∀ j, j ≠ 6 → dr_addW D a b 0 j = D 0 j := by intro j hj; simp [dr_addW, dr_D1, hj]
    have D6 : dr_addW D a b 0 6 = D 0 6 + 1 := by simp [dr_addW, dr_D1]
    have Da : ∀ i, dr_addW D a b 6 i = if i = D 0 6 then a else D 6 i := by intro i; simp [dr_addW, dr_D1]
    have Db : ∀ i, dr_addW D a b 7 i = if i = D 0 6 then b else D 7 i := by intro i; simp [dr_addW, dr_D1]
    have Dr : ∀ w i, w ≠ 0 → w ≠ 6 → w ≠ 7 → dr_addW D a b w i = D w i := by intro w i h0 h5 h7; simp [dr_addW, dr_D1, h0, h5, h7]
    refine ⟨by rw [D0 4 (by decide)]; exact a', by rw [D0 5 (by decide)]; exact b', by rw [D6]; omega, by rw [D0 7 (by decide)]; exact e', fun q => ?_, fun i hi => ?_, fun i hi => ?_, fun i hi => ?_, fun i hi => ?_⟩
    · rw [D0 0 (by decide), D0 1 (by decide), D0 2 (by decide), D0 3 (by decide)]
      exact s q
    · rw [D0 4 (by decide)] at hi
      rw [Dr 1 i (by decide) (by decide) (by decide), Dr 2 i (by decide) (by decide) (by decide), Dr 3 i (by decide) (by decide) (by decide), Dr 4 i (by decide) (by decide) (by decide)]
      exact f i hi
    · rw [D0 5 (by decide)] at hi
      rw [Dr 5 i (by decide) (by decide) (by decide)]
      exact gg i hi
    · rw [D6] at hi
      rw [Da, Db, D0 4 (by decide)]
      by_cases q : i = D 0 6
      · rw [if_pos q, if_pos q]; exact ⟨s1, s2, ab⟩
      · rw [if_neg q, if_neg q]; exact h i (by omega)
    · rw [D0 7 (by decide)] at hi
      rw [Dr 8 i (by decide) (by decide) (by decide), Dr 9 i (by decide) (by decide) (by decide), D0 4 (by decide), D0 0 (by decide), D0 1 (by decide)]
      exact kk i hi
theorem dr_good_shwL {B : Nat → Nat} {n e : Nat} {Nm : Nat → List Nat} {D : Nat → Nat → Nat} (hd : dr_dok true D) (hn : dr_nok D Nm) (h6 : D 0 7 < 6) : dr_good n e (dr_shw B n e Nm D) := by
  unfold dr_shw
  refine dr_good_num fun p1 p2 => dr_good_isl hn fun s2 => dr_good_next (dr_good_r ?_ (dr_nok_c (by simp [dr_addS, dr_D1]) (by simp [dr_addS, dr_D1]) hn))
  generalize dr_wh B n e = a at *
  generalize dr_slot Nm (dr_wl B n (dr_nx B n e)) = b at *
  obtain ⟨a', b', c, e', s, f, gg, h, kk⟩ := hd
  obtain ⟨⟨w2, w4⟩, ⟨g2, g3⟩, _, _⟩ := s rfl
  have hR2 : 2 * 2 ≤ D 0 0 * D 0 1 := Nat.mul_le_mul w2 g2
  have D0 : ∀ j, j ≠ 7 → dr_addS D a b 0 j = D 0 j := by intro j hj; simp [dr_addS, dr_D1, hj]
  have D7 : dr_addS D a b 0 7 = D 0 7 + 1 := by simp [dr_addS, dr_D1]
  have Da : ∀ i, dr_addS D a b 8 i = if i = D 0 7 then a else D 8 i := by intro i; simp [dr_addS, dr_D1]
  have Db : ∀ i, dr_addS D a b 9 i = if i = D 0 7 then b else D 9 i := by intro i; simp [dr_addS, dr_D1]
  have Dr : ∀ w i, w ≠ 0 → w ≠ 8 → w ≠ 9 → dr_addS D a b w i = D w i := by intro w i h0 h5 h7; simp [dr_addS, dr_D1, h0, h5, h7]
  refine ⟨by rw [D0 4 (by decide)]; exact a', by rw [D0 5 (by decide)]; exact b', by rw [D0 6 (by decide)]; exact c, by rw [D7]; omega, fun q => ?_, fun i hi => ?_, fun i hi => ?_, fun i hi => ?_, fun i hi => ?_⟩
  · rw [D0 0 (by decide), D0 1 (by decide), D0 2 (by decide), D0 3 (by decide)]
    exact s q
  · rw [D0 4 (by decide)] at hi
    rw [Dr 1 i (by decide) (by decide) (by decide), Dr 2 i (by decide) (by decide) (by decide), Dr 3 i (by decide) (by decide) (by decide), Dr 4 i (by decide) (by decide) (by decide)]
    exact f i hi
  · rw [D0 5 (by decide)] at hi
    rw [Dr 5 i (by decide) (by decide) (by decide)]
    exact gg i hi
  · rw [D0 6 (by decide)] at hi
    rw [Dr 6 i (by decide) (by decide) (by decide), Dr 7 i (by decide) (by decide) (by decide), D0 4 (by decide)]
    exact h i hi
  · rw [D7] at hi
    rw [Da, Db, D0 4 (by decide), D0 0 (by decide), D0 1 (by decide)]
    by_cases q : i = D 0 7
    · rw [if_pos q, if_pos q]; exact ⟨by omega, s2⟩
    · rw [if_neg q, if_neg q]; exact kk i (by omega)
theorem dr_good_line {B : Nat → Nat} {n e : Nat} {hs : Bool} {Nm : Nat → List Nat} {D : Nat → Nat → Nat} (hd : dr_dok hs D) (hn : dr_nok D Nm) (h0 : hs = false → D 0 7 = 0) : dr_good n e (dr_line hs B n e Nm D) := by
  unfold dr_line
  refine dr_good_one fun k hk => ?_
  have k5 : k < 5 := dr_on_lt hk
  split
  · rename_i c0
    unfold dr_ck at c0
    by_cases q0 : k = 0
    · rw [if_pos q0]
      cases hs
      · exact dr_good_sea hd hn (h0 rfl)
      · rw [if_neg (by simp), if_pos ⟨rfl, q0⟩] at c0
        omega
    · cases hs
      · rw [if_pos ⟨rfl, q0⟩] at c0
        omega
      · rw [if_neg (by simp), if_neg (by simp [q0])] at c0
        have ff : dr_full k D = false := by
          cases qf : dr_full k D
          · rfl
          · rw [qf, if_pos rfl] at c0; omega
        unfold dr_full at ff
        rw [if_neg q0]
        by_cases q1 : k = 1
        · rw [if_pos q1] at ff ⊢
          exact dr_good_islL hd hn (by have : ¬ 12 ≤ D 0 4 := by simpa using ff
                                       omega)
        · rw [if_neg q1] at ff ⊢
          by_cases q2 : k = 2
          · rw [if_pos q2] at ff ⊢
            exact dr_good_famL hd hn (by have : ¬ 10 ≤ D 0 5 := by simpa using ff
                                         omega)
          · rw [if_neg q2] at ff ⊢
            by_cases q3 : k = 3
            · rw [if_pos q3] at ff ⊢
              exact dr_good_wshL hd hn (by have : ¬ 6 ≤ D 0 6 := by simpa using ff
                                           omega)
            · have q4 : k = 4 := by omega
              rw [if_neg q3] at ff ⊢
              rw [if_pos q4] at ff
              exact dr_good_shwL hd hn (by have : ¬ 6 ≤ D 0 7 := by simpa using ff
                                           omega)
  · exact dr_good_l _ _ _
/-! the text -/
def dr_txt (B : Nat → Nat) (n : Nat) : Nat → Bool → Nat → (Nat → List Nat) → (Nat → Nat → Nat) → dr_Rs
  | 0, _, _, _, _ => .inl (1, 0)
  | f + 1, hs, e, Nm, D => match dr_line hs B n e Nm D with
    | .inl q => .inl q
    | .inr s => if dr_kd B n s.1 = 0 then (if s.2.2 0 4 < 2 then .inl (6, dr_at B n s.1) else .inr s) else if dr_kd B n s.1 = 3 then dr_txt B n f true (dr_nx B n s.1) s.2.1 s.2.2 else .inl (1, dr_at B n s.1)
theorem s_goesOn (d t : Nat) (z0 z : ds_St) (B : Nat → Nat) (n e : Nat) (Nm : Nat → List Nat) (D : Nat → Nat → Nat) (hO : dr_O z B n e) (hS : dr_S z0 t true Nm D D z) (hd : dr_dok true D) : (dr_kd B n e = 0 → ds_call (d + 4) j_Reader_goesOn [.ref 1] z = some (some (.int (nI 0)), z)) ∧ (dr_kd B n e = 3 → ∃ z', ds_call (d + 4) j_Reader_goesOn [.ref 1] z = some (some (.int (nI 1)), z') ∧ dr_O z' B n (dr_nx B n e) ∧ dr_S z0 t true Nm D D z') ∧ (dr_kd B n e ≠ 0 → dr_kd B n e ≠ 3 → ∃ z', ds_call (d + 4) j_Reader_goesOn [.ref 1] z = some (some (.int (nI 0)), z') ∧ dr_X z0 t 1 (dr_at B n e) z') := by
  have h6 := hO.2.2.2.2.1
  have k4 := dr_kd_le B n e
  have hc : D 0 4 + D 0 5 ≤ 22 := by have := hd.1; have := hd.2.1; omega
  refine ⟨fun k => ?_, fun k => ?_, fun k1 k2 => ?_⟩
  · rw [k] at h6
    rw [c_Reader_goesOn, b_Reader_goesOn_0]
    simp (disch := first | assumption | omega) only [ds_cI, ds_cV, ds_cL, ds_cR, ds_nn, ds_isK_t, ds_isA_t, ds_chk_t, ds_chkN, ds_nz_t, ds_nzN, ds_isB_t, ds_isB_bo, ↓dl_m1, ↓dl_m2, dl_0, dl_1, dl_2, dl_3, dl_4, dl_5, dl_6, dl_7, dl_8, dl_9, dl_10, dl_11, dl_12, dl_13, dl_14, dl_15, dl_16, dl_20, dl_24, dl_31, dl_50, dl_57, dl_67, dl_68, dl_74, dl_75, dl_79, dl_80, dl_99, dl_100, dl_200, dl_210, dl_224, dl_255, dl_289, dl_900, dl_1000, dl_1728, dl_65536, dl_65537, nI_add, pk_mul, pk_sub, pk_div, pk_rem, ds_rem2, nI_clamp, nI_leI, nI_ltI, nI_eq, ds_m1_eq, ds_eq_m1, ds_m2_eq, ds_eq_m2, ds_m1_le, ds_le_m1, ds_m1_lt, ds_lt_m1, ds_in_N, ds_bo0, ds_bo1, if_pos, if_neg, Nat.not_le, Nat.not_lt, not_true_eq_false, not_false_eq_true, if_true, if_false, ne_eq, Option.some.injEq, Prod.mk.injEq, Value.int.injEq, true_and, and_true, and_self, ite_self, Bool.not_eq_true, Bool.not_eq_false, Bool.true_eq_false, Bool.false_eq_true, reduceCtorEq, Nat.zero_add, Nat.reduceAdd, Nat.reduceMul, Nat.reduceSub, ds_setI_row, ds_setL_row, ds_rowI_self, ds_rowI_ne, ds_rowI_2, ds_rowI_rowI, ds_setS_1, ds_setS_21, ds_setS_self, ds_setS_ne, pk_us, pk_un, h6]
  · rw [k] at h6
    obtain ⟨z1, w1, O1, f1⟩ := s_next d z B n e hO
    refine ⟨z1, ?_, O1, dr_S_f1 hS f1⟩
    have h9 := O1.1.1
    rw [c_Reader_goesOn, b_Reader_goesOn_0]
    simp (disch := first | assumption | omega) only [ds_cI, ds_cV, ds_cL, ds_cR, ds_nn, ds_isK_t, ds_isA_t, ds_chk_t, ds_chkN, ds_nz_t, ds_nzN, ds_isB_t, ds_isB_bo, ↓dl_m1, ↓dl_m2, dl_0, dl_1, dl_2, dl_3, dl_4, dl_5, dl_6, dl_7, dl_8, dl_9, dl_10, dl_11, dl_12, dl_13, dl_14, dl_15, dl_16, dl_20, dl_24, dl_31, dl_50, dl_57, dl_67, dl_68, dl_74, dl_75, dl_79, dl_80, dl_99, dl_100, dl_200, dl_210, dl_224, dl_255, dl_289, dl_900, dl_1000, dl_1728, dl_65536, dl_65537, nI_add, pk_mul, pk_sub, pk_div, pk_rem, ds_rem2, nI_clamp, nI_leI, nI_ltI, nI_eq, ds_m1_eq, ds_eq_m1, ds_m2_eq, ds_eq_m2, ds_m1_le, ds_le_m1, ds_m1_lt, ds_lt_m1, ds_in_N, ds_bo0, ds_bo1, if_pos, if_neg, Nat.not_le, Nat.not_lt, not_true_eq_false, not_false_eq_true, if_true, if_false, ne_eq, Option.some.injEq, Prod.mk.injEq, Value.int.injEq, true_and, and_true, and_self, ite_self, Bool.not_eq_true, Bool.not_eq_false, Bool.true_eq_false, Bool.false_eq_true, reduceCtorEq, Nat.zero_add, Nat.reduceAdd, Nat.reduceMul, Nat.reduceSub, ds_setI_row, ds_setL_row, ds_rowI_self, ds_rowI_ne, ds_rowI_2, ds_rowI_rowI, ds_setS_1, ds_setS_21, ds_setS_self, ds_setS_ne, pk_us, pk_un, h6, b_Reader_goesOn_22, w1, h9]
  · have bl := s_blame (d + 2) 1 z hO.1.1
    have X := dr_X_zb (v := 1) hO hS hc hd.2.2.1 (by decide) (by decide)
    have ax := s_adv_x (d + 2) 1 (dr_zb z 1) X.1 (by decide) (by decide)
    refine ⟨dr_zb z 1, ?_, X⟩
    have h9 := X.1
    generalize dr_kd B n e = kk at *
    generalize dr_zb z 1 = y at *
    rw [c_Reader_goesOn, b_Reader_goesOn_0]
    simp (disch := first | assumption | omega) only [ds_cI, ds_cV, ds_cL, ds_cR, ds_nn, ds_isK_t, ds_isA_t, ds_chk_t, ds_chkN, ds_nz_t, ds_nzN, ds_isB_t, ds_isB_bo, ↓dl_m1, ↓dl_m2, dl_0, dl_1, dl_2, dl_3, dl_4, dl_5, dl_6, dl_7, dl_8, dl_9, dl_10, dl_11, dl_12, dl_13, dl_14, dl_15, dl_16, dl_20, dl_24, dl_31, dl_50, dl_57, dl_67, dl_68, dl_74, dl_75, dl_79, dl_80, dl_99, dl_100, dl_200, dl_210, dl_224, dl_255, dl_289, dl_900, dl_1000, dl_1728, dl_65536, dl_65537, nI_add, pk_mul, pk_sub, pk_div, pk_rem, ds_rem2, nI_clamp, nI_leI, nI_ltI, nI_eq, ds_m1_eq, ds_eq_m1, ds_m2_eq, ds_eq_m2, ds_m1_le, ds_le_m1, ds_m1_lt, ds_lt_m1, ds_in_N, ds_bo0, ds_bo1, if_pos, if_neg, Nat.not_le, Nat.not_lt, not_true_eq_false, not_false_eq_true, if_true, if_false, ne_eq, Option.some.injEq, Prod.mk.injEq, Value.int.injEq, true_and, and_true, and_self, ite_self, Bool.not_eq_true, Bool.not_eq_false, Bool.true_eq_false, Bool.false_eq_true, reduceCtorEq, Nat.zero_add, Nat.reduceAdd, Nat.reduceMul, Nat.reduceSub, ds_setI_row, ds_setL_row, ds_rowI_self, ds_rowI_ne, ds_rowI_2, ds_rowI_rowI, ds_setS_1, ds_setS_21, ds_setS_self, ds_setS_ne, pk_us, pk_un, h6, k1, k2, bl, b_Reader_goesOn_22, ax, h9]
/-- the loop over the lines -/
theorem s_lines (d t : Nat) (z0 : ds_St) (B : Nat → Nat) (n : Nat) (n9 : n ≤ 900) : ∀ f k hs e Nm D z, k ≤ e → n < e + f → dr_O z B n e → dr_S z0 t hs Nm D D z → dr_nok D Nm → dr_dok hs D → (hs = false → D 0 7 = 0) → (hs = false ↔ k = 0) → ∃ z', ds_Rw ds_c_Reader_readText ds_u_Reader_readText (ds_call (d + 7)) 47 [some (.ref 1), none, some (.int (nI 1)), some (.int (nI k))] [] z = ds_Rw ds_c_Reader_readText ds_u_Reader_readText (ds_call (d + 7)) 121 [some (.ref 1), none, none, none] [] z' ∧ dr_postC z0 t B n (dr_txt B n f hs e Nm D) z' := by
  have x97 : ∀ (y : ds_St) (v a : Nat), dr_X z0 t v a y → ds_Rw ds_c_Reader_readText ds_u_Reader_readText (ds_call (d + 7)) 97 [some (.ref 1), none, none, none] [] y = ds_Rw ds_c_Reader_readText ds_u_Reader_readText (ds_call (d + 7)) 121 [some (.ref 1), none, none, none] [] y := by
    intro y v a X
    have ne := dr_ne0 X.1 X.2.1.1 X.2.1.2
    rw [b_Reader_readText_97, dl_0, if_pos ne]
  have m0 : ∀ (y : ds_St) (k : Nat), k ≤ 901 → ds_Rw ds_c_Reader_readText ds_u_Reader_readText (ds_call (d + 7)) 47 [some (.ref 1), none, some (.int (nI 0)), some (.int (nI k))] [] y = ds_Rw ds_c_Reader_readText ds_u_Reader_readText (ds_call (d + 7)) 97 [some (.ref 1), none, none, none] [] y := by
    intro y k hk
    rw [b_Reader_readText_47]
    by_cases q : 900 < k
    · simp (disch := first | assumption | omega) only [ds_cI, ds_cV, ds_cL, ds_cR, ds_nn, ds_isK_t, ds_isA_t, ds_chk_t, ds_chkN, ds_nz_t, ds_nzN, ds_isB_t, ds_isB_bo, ↓dl_m1, ↓dl_m2, dl_0, dl_1, dl_2, dl_3, dl_4, dl_5, dl_6, dl_7, dl_8, dl_9, dl_10, dl_11, dl_12, dl_13, dl_14, dl_15, dl_16, dl_20, dl_24, dl_31, dl_50, dl_57, dl_67, dl_68, dl_74, dl_75, dl_79, dl_80, dl_99, dl_100, dl_200, dl_210, dl_224, dl_255, dl_289, dl_900, dl_1000, dl_1728, dl_65536, dl_65537, nI_add, pk_mul, pk_sub, pk_div, pk_rem, ds_rem2, nI_clamp, nI_leI, nI_ltI, nI_eq, ds_m1_eq, ds_eq_m1, ds_m2_eq, ds_eq_m2, ds_m1_le, ds_le_m1, ds_m1_lt, ds_lt_m1, ds_in_N, ds_bo0, ds_bo1, if_pos, if_neg, Nat.not_le, Nat.not_lt, not_true_eq_false, not_false_eq_true, if_true, if_false, ne_eq, Option.some.injEq, Prod.mk.injEq, Value.int.injEq, true_and, and_true, and_self, ite_self, Bool.not_eq_true, Bool.not_eq_false, Bool.true_eq_false, Bool.false_eq_true, reduceCtorEq, Nat.zero_add, Nat.reduceAdd, Nat.reduceMul, Nat.reduceSub, ds_setI_row, ds_setL_row, ds_rowI_self, ds_rowI_ne, ds_rowI_2, ds_rowI_rowI, ds_setS_1, ds_setS_21, ds_setS_self, ds_setS_ne, pk_us, pk_un, q]
    · simp (disch := first | assumption | omega) only [ds_cI, ds_cV, ds_cL, ds_cR, ds_nn, ds_isK_t, ds_isA_t, ds_chk_t, ds_chkN, ds_nz_t, ds_nzN, ds_isB_t, ds_isB_bo, ↓dl_m1, ↓dl_m2, dl_0, dl_1, dl_2, dl_3, dl_4, dl_5, dl_6, dl_7, dl_8, dl_9, dl_10, dl_11, dl_12, dl_13, dl_14, dl_15, dl_16, dl_20, dl_24, dl_31, dl_50, dl_57, dl_67, dl_68, dl_74, dl_75, dl_79, dl_80, dl_99, dl_100, dl_200, dl_210, dl_224, dl_255, dl_289, dl_900, dl_1000, dl_1728, dl_65536, dl_65537, nI_add, pk_mul, pk_sub, pk_div, pk_rem, ds_rem2, nI_clamp, nI_leI, nI_ltI, nI_eq, ds_m1_eq, ds_eq_m1, ds_m2_eq, ds_eq_m2, ds_m1_le, ds_le_m1, ds_m1_lt, ds_lt_m1, ds_in_N, ds_bo0, ds_bo1, if_pos, if_neg, Nat.not_le, Nat.not_lt, not_true_eq_false, not_false_eq_true, if_true, if_false, ne_eq, Option.some.injEq, Prod.mk.injEq, Value.int.injEq, true_and, and_true, and_self, ite_self, Bool.not_eq_true, Bool.not_eq_false, Bool.true_eq_false, Bool.false_eq_true, reduceCtorEq, Nat.zero_add, Nat.reduceAdd, Nat.reduceMul, Nat.reduceSub, ds_setI_row, ds_setL_row, ds_rowI_self, ds_rowI_ne, ds_rowI_2, ds_rowI_rowI, ds_setS_1, ds_setS_21, ds_setS_self, ds_setS_ne, pk_us, pk_un, q]
  intro f
  induction f with
  | zero =>
    intro k hs e Nm D z hk hf hO hS _ _ _ _
    have := hO.2.1
    omega
  | succ f ih =>
    intro k hs e Nm D z hk hf hO hS hn hd h0 hk0
    have en := hO.2.1
    obtain ⟨z1, w1, w2⟩ := s_readLine (d + 1) t z0 z hs B n e Nm D hO hS hn hd
    have gl := dr_good_line (B := B) (n := n) (e := e) hd hn h0 en
    have i1 : ds_K 1 = 4 := rfl
    have head : ds_Rw ds_c_Reader_readText ds_u_Reader_readText (ds_call (d + 7)) 47 [some (.ref 1), none, some (.int (nI 1)), some (.int (nI k))] [] z = ds_Rw ds_c_Reader_readText ds_u_Reader_readText (ds_call (d + 7)) 68 [some (.ref 1), none, none, some (.int (nI k))] [.int (ds_bo (!hs)), .ref 1] z := by
      rw [b_Reader_readText_47]
      cases hs
      · have : k = 0 := hk0.mp rfl
        subst this
        simp (disch := first | assumption | omega) only [ds_cI, ds_cV, ds_cL, ds_cR, ds_nn, ds_isK_t, ds_isA_t, ds_chk_t, ds_chkN, ds_nz_t, ds_nzN, ds_isB_t, ds_isB_bo, ↓dl_m1, ↓dl_m2, dl_0, dl_1, dl_2, dl_3, dl_4, dl_5, dl_6, dl_7, dl_8, dl_9, dl_10, dl_11, dl_12, dl_13, dl_14, dl_15, dl_16, dl_20, dl_24, dl_31, dl_50, dl_57, dl_67, dl_68, dl_74, dl_75, dl_79, dl_80, dl_99, dl_100, dl_200, dl_210, dl_224, dl_255, dl_289, dl_900, dl_1000, dl_1728, dl_65536, dl_65537, nI_add, pk_mul, pk_sub, pk_div, pk_rem, ds_rem2, nI_clamp, nI_leI, nI_ltI, nI_eq, ds_m1_eq, ds_eq_m1, ds_m2_eq, ds_eq_m2, ds_m1_le, ds_le_m1, ds_m1_lt, ds_lt_m1, ds_in_N, ds_bo0, ds_bo1, if_pos, if_neg, Nat.not_le, Nat.not_lt, not_true_eq_false, not_false_eq_true, if_true, if_false, ne_eq, Option.some.injEq, Prod.mk.injEq, Value.int.injEq, true_and, and_true, and_self, ite_self, Bool.not_eq_true, Bool.not_eq_false, Bool.true_eq_false, Bool.false_eq_true, reduceCtorEq, Nat.zero_add, Nat.reduceAdd, Nat.reduceMul, Nat.reduceSub, ds_setI_row, ds_setL_row, ds_rowI_self, ds_rowI_ne, ds_rowI_2, ds_rowI_rowI, ds_setS_1, ds_setS_21, ds_setS_self, ds_setS_ne, pk_us, pk_un, Bool.not_false]
        rfl
      · have : ¬ k = 0 := fun q => absurd (hk0.mpr q) (by decide)
        simp (disch := first | assumption | omega) only [ds_cI, ds_cV, ds_cL, ds_cR, ds_nn, ds_isK_t, ds_isA_t, ds_chk_t, ds_chkN, ds_nz_t, ds_nzN, ds_isB_t, ds_isB_bo, ↓dl_m1, ↓dl_m2, dl_0, dl_1, dl_2, dl_3, dl_4, dl_5, dl_6, dl_7, dl_8, dl_9, dl_10, dl_11, dl_12, dl_13, dl_14, dl_15, dl_16, dl_20, dl_24, dl_31, dl_50, dl_57, dl_67, dl_68, dl_74, dl_75, dl_79, dl_80, dl_99, dl_100, dl_200, dl_210, dl_224, dl_255, dl_289, dl_900, dl_1000, dl_1728, dl_65536, dl_65537, nI_add, pk_mul, pk_sub, pk_div, pk_rem, ds_rem2, nI_clamp, nI_leI, nI_ltI, nI_eq, ds_m1_eq, ds_eq_m1, ds_m2_eq, ds_eq_m2, ds_m1_le, ds_le_m1, ds_m1_lt, ds_lt_m1, ds_in_N, ds_bo0, ds_bo1, if_pos, if_neg, Nat.not_le, Nat.not_lt, not_true_eq_false, not_false_eq_true, if_true, if_false, ne_eq, Option.some.injEq, Prod.mk.injEq, Value.int.injEq, true_and, and_true, and_self, ite_self, Bool.not_eq_true, Bool.not_eq_false, Bool.true_eq_false, Bool.false_eq_true, reduceCtorEq, Nat.zero_add, Nat.reduceAdd, Nat.reduceMul, Nat.reduceSub, ds_setI_row, ds_setL_row, ds_rowI_self, ds_rowI_ne, ds_rowI_2, ds_rowI_rowI, ds_setS_1, ds_setS_21, ds_setS_self, ds_setS_ne, pk_us, pk_un, Bool.not_true, this]
        rfl
    rw [head, b_Reader_readText_68, ds_isK_t i1, ds_cV_t w1]
    simp only [dr_txt]
    cases hl : dr_line hs B n e Nm D with
    | inl q =>
      rw [hl] at w2
      have X : dr_X z0 t q.1 q.2 z1 := w2
      have ne := dr_ne0 X.1 X.2.1.1 X.2.1.2
      refine ⟨z1, ?_, w2⟩
      rw [dl_0, if_pos ne, dl_1, nI_add, m0 z1 (k + 1) (by omega)]
      exact x97 z1 _ _ X
    | inr s =>
      rw [hl] at w2 gl
      obtain ⟨O1, S1⟩ : dr_O z1 B n s.1 ∧ dr_S z0 t true s.2.1 s.2.2 s.2.2 z1 := w2
      obtain ⟨g1, g2, g3, g4⟩ := gl s rfl
      obtain ⟨a1, a2, a3⟩ := s_goesOn (d + 3) t z0 z1 B n s.1 s.2.1 s.2.2 O1 S1 g3
      have h9 := O1.1.1
      rw [dl_0, if_neg (fun q => q h9)]
      have t4 := S1.2.1.2.1.1
      have hKt := ds_Kt S1.1.2
      have r1 := S1.1.1
      have d4 := g3.1
      by_cases q0 : dr_kd B n s.1 = 0
      · dsimp only
        rw [if_pos q0, ds_cI_t (a1 q0), if_pos rfl, dl_1, nI_add, m0 z1 (k + 1) (by omega), b_Reader_readText_97, dl_0, if_neg (fun q => q h9), r1, ds_isK_t hKt, t4]
        by_cases q2 : s.2.2 0 4 < 2
        · rw [if_pos q2]
          have bl := s_blame (d + 6) 6 z1 h9
          have X := dr_X_zb (v := 6) O1 S1 (by have := g3.2.1; omega) g3.2.2.1 (by decide) (by decide)
          refine ⟨dr_zb z1 6, ?_, X⟩
          rw [if_neg (by show ¬ nI 2 ≤ _; rw [nI_leI (by decide) (by omega)]; omega)]
          exact ds_cV_t bl
        · rw [if_neg q2]
          refine ⟨z1, ?_, O1, S1⟩
          rw [if_pos (by show nI 2 ≤ _; rw [nI_leI (by decide) (by omega)]; omega)]
      · by_cases q3 : dr_kd B n s.1 = 3
        · obtain ⟨z2, u1, O2, S2⟩ := a2 q3
          have lt := dr_kd_3 g2 q3
          obtain ⟨z', v1, v2⟩ := ih (k + 1) true (dr_nx B n s.1) s.2.1 s.2.2 z2 (by omega) (by omega) O2 S2 g4 g3 (fun h => absurd h (by decide)) ⟨fun h => absurd h (by decide), fun h => by omega⟩
          dsimp only
          rw [if_neg q0, if_pos q3]
          refine ⟨z', ?_, v2⟩
          rw [ds_cI_t u1, if_neg (by decide), dl_1, nI_add]
          exact v1
        · obtain ⟨z2, u1, X⟩ := a3 q0 q3
          dsimp only
          rw [if_neg q0, if_neg q3]
          refine ⟨z2, ?_, X⟩
          rw [ds_cI_t u1, if_pos rfl, dl_1, nI_add, m0 z2 (k + 1) (by omega)]
          exact x97 z2 _ _ X
