/-! the class reads a text -/
def dr_rdC (z : ds_St) (t : Nat) (r : dr_Rs) (v : Option Value) (z' : ds_St) : Prop := ((∀ p, p ≠ 1 → p ≠ 4 → p < t ∨ t + 10 < p → z'.1 p = z.1 p) ∧ z'.1 1 1 = nI 0 ∧ z'.2.2 = z.2.2) ∧ match r with
  | .inl q => v = some (.int (nI q.1)) ∧ 1 ≤ q.1 ∧ q.1 ≤ 6 ∧ z'.1 1 4 = nI q.2
  | .inr s => v = some (.int (nI 0)) ∧ dk_tC z' t s.2.2
theorem s_forget (d t : Nat) (z : ds_St) (ht : t = 10 ∨ t = 30) : ds_call (d + 1) j_Told_forget [.ref t] z = some (none, ds_rowI z t (upd (upd (upd (upd (z.1 t) 4 (nI 0)) 9 (nI 0)) 11 (nI 0)) 14 (nI 0))) := by
  rw [c_Told_forget, b_Told_forget_0 t ht]
  simp only [ds_setI_row, ds_rowI_rowI, ds_rowI_self, dl_0]
  rfl
theorem s_readText (d n f t : Nat) (z : ds_St) (B : Nat → Nat) (ht : t = 10 ∨ t = 30) (hr : z.2.2 1 = t) (h1 : z.1 1 1 = nI f) (f9 : f ≤ 900) (nf : n ≤ f) (hB : ∀ k, k < f → z.1 2 k = dr_sb (B k)) (hB2 : ∀ k, k < f → B k < 256) : dr_w (ds_call (d + 8) j_Reader_readText [.ref 1, .int (nI n)] z) (dr_rdC z t (dr_all B n)) := by
  apply dr_wn (c_Reader_readText _ _ _ _)
  rw [b_Reader_readText_0, h1]
  have mn := s_min (d + 6) n f z (by omega) (by omega)
  rw [Nat.min_eq_left nf] at mn
  refine dr_wI mn ?_
  rw [hr]
  refine dr_wK (ds_Kt ht) ?_
  refine dr_wV (s_forget (d + 6) t _ ht) ?_
  have Y : ∃ y, y = ds_rowI (ds_setI (ds_setI (ds_setI (ds_setI (ds_setI z 1 3 (nI n)) 1 1 0) 1 5 0) 1 9 0) 1 10 0) t (upd (upd (upd (upd ((ds_setI (ds_setI (ds_setI (ds_setI (ds_setI z 1 3 (nI n)) 1 1 0) 1 5 0) 1 9 0) 1 10 0).1 t) 4 (nI 0)) 9 (nI 0)) 11 (nI 0)) 14 (nI 0)) := ⟨_, rfl⟩
  obtain ⟨y, hy⟩ := Y
  rw [← hy]
  have ft : y.1 t = upd (upd (upd (upd ((ds_setI (ds_setI (ds_setI (ds_setI (ds_setI z 1 3 (nI n)) 1 1 0) 1 5 0) 1 9 0) 1 10 0).1 t) 4 (nI 0)) 9 (nI 0)) 11 (nI 0)) 14 (nI 0) := by rw [hy, ds_rowI_self]
  have f1 : y.1 1 = upd (upd (upd (upd (upd (z.1 1) 3 (nI n)) 1 (nI 0)) 5 (nI 0)) 9 (nI 0)) 10 (nI 0) := by
    rw [hy, ds_rowI_ne _ _ (by omega)]
    simp only [ds_setI_row, ds_rowI_rowI, ds_rowI_self, dl_0]
  have fp : ∀ p, p ≠ 1 → p ≠ t → y.1 p = z.1 p := by
    intro p a b
    rw [hy, ds_rowI_ne _ _ b]
    simp only [ds_setI_row, ds_rowI_rowI, dl_0]
    rw [ds_rowI_ne _ _ a]
  have fr : y.2 = z.2 := by rw [hy]; rfl
  clear hy
  have k3 : y.1 1 3 = nI n := by rw [f1, pk_un (by decide), pk_un (by decide), pk_un (by decide), pk_un (by decide), pk_us]
  have k1 : y.1 1 1 = nI 0 := by rw [f1, pk_un (by decide), pk_un (by decide), pk_un (by decide), pk_us]
  have k5 : y.1 1 5 = nI 0 := by rw [f1, pk_un (by decide), pk_un (by decide), pk_us]
  have k9 : y.1 1 9 = nI 0 := by rw [f1, pk_un (by decide), pk_us]
  have k10 : y.1 1 10 = nI 0 := by rw [f1, pk_us]
  have t4 : y.1 t 4 = nI 0 := by rw [ft, pk_un (by decide), pk_un (by decide), pk_un (by decide), pk_us]
  have t9 : y.1 t 9 = nI 0 := by rw [ft, pk_un (by decide), pk_un (by decide), pk_us]
  have t11 : y.1 t 11 = nI 0 := by rw [ft, pk_un (by decide), pk_us]
  have t14 : y.1 t 14 = nI 0 := by rw [ft, pk_us]
  clear ft f1
  have bC : dr_bC y B n := ⟨k9, k3, by omega, fun k hk => by rw [fp 2 (by decide) (by omega)]; exact hB k (by omega), fun k hk => hB2 k (by omega)⟩
  obtain ⟨z3, w3, t3, g3⟩ := s_adv (d + 4) y B n 0 (Nat.zero_le _) bC k5
  refine dr_wV w3 ?_
  have u0 : ∀ s, dr_used (fun _ _ => 0) s = false := fun s => by
    unfold dr_used
    simp
  have S0 : dr_S y t false (fun _ => []) (fun _ _ => 0) (fun _ _ => 0) y := ⟨⟨by rw [fr]; exact hr, ht⟩, ⟨fun h => absurd h (by decide), ⟨t4, t9, t11, t14⟩, fun i hi => absurd hi (Nat.not_lt_zero _), fun i hi => absurd hi (Nat.not_lt_zero _), fun i hi => absurd hi (Nat.not_lt_zero _), fun i hi => absurd hi (Nat.not_lt_zero _)⟩, ⟨fun _ => 0, k10, fun i hi => absurd hi (Nat.not_lt_zero _), fun s hs => by rw [u0] at hs; exact absurd hs (by decide)⟩, dr_fC_refl _ _⟩
  obtain ⟨z4, w4, p4⟩ := s_lines d t y B n (by omega) (n + 1) 0 false 0 _ _ z3 (Nat.zero_le _) (by omega) ⟨dr_bC_f1 bC g3, Nat.zero_le _, t3⟩ (dr_S_f1 S0 g3) dr_nok0 dr_dok0 (fun _ => rfl) ⟨fun _ => rfl, fun _ => rfl⟩
  rw [dl_0, dl_1]
  rw [w4]
  have p5 : dr_postC y t B n (dr_all B n) z4 := p4
  clear p4
  cases hq : dr_all B n with
  | inl q =>
    rw [hq] at p5
    have X : dr_X y t q.1 q.2 z4 := p5
    obtain ⟨x9, ⟨v1, v6⟩, x4, _, _, _, gp, g1, gr⟩ := X
    rw [b_Reader_readText_121, x9]
    refine dr_wT (dr_ne0 rfl v1 v6) ?_
    refine dr_wR ⟨⟨_, rfl⟩, ⟨fun p a b c => ?_, by rw [g1, k1], by rw [gr, fr]⟩, rfl, v1, v6, x4⟩
    rw [gp p a b c, fp p a (by omega)]
  | inr s =>
    obtain ⟨e', Nm', D⟩ := s
    obtain ⟨hd, h2s⟩ : dr_dok true D ∧ 2 ≤ D 0 4 := dr_all_ok hq
    rw [hq] at p5
    obtain ⟨O, ⟨r1, _⟩, ⟨c0, ⟨c4, c5, c6, c7⟩, ci, cm, cw, cs⟩, _, gp, g1, gr⟩ : dr_O z4 B n e' ∧ dr_S y t true Nm' D D z4 := p5
    obtain ⟨x0, x1, x2, x3⟩ := c0 rfl
    obtain ⟨⟨a1, a2⟩, ⟨a3, a4⟩, a5, a6⟩ := hd.2.2.2.2.1 rfl
    have o9 := O.1.1
    rw [b_Reader_readText_121]
    refine dr_wF (fun q => q o9) ?_
    rw [r1]
    refine dr_wK (ds_Kt ht) ?_
    obtain ⟨z5, s1, s2, s3, s4⟩ := s_settle (d + 3) t (D 0 0) (D 0 1) (D 0 3) z4 ht x0 x1 x3 a1 a2 a3 a4 a6
    refine dr_wV s1 ?_
    rw [s3 1 (by omega), o9]
    refine dr_wR ⟨⟨_, rfl⟩, ⟨fun p a b c => ?_, by rw [s3 1 (by omega), g1, k1], by rw [s4, gr, fr]⟩, rfl, ht, ?_, fun i hi => ?_, fun i hi => ?_, fun i hi => ?_, fun i hi => ?_, s2⟩
    · rw [s3 p (by omega), gp p a b c, fp p a (by omega)]
    · rw [s3 t (by omega)]
      exact ⟨x0, x1, x2, x3, c4, c5, c6, c7⟩
    · rw [s3 (t + 1) (by omega), s3 (t + 2) (by omega), s3 (t + 3) (by omega), s3 (t + 4) (by omega)]
      exact ci i hi
    · rw [s3 (t + 5) (by omega)]
      exact cm i hi
    · rw [s3 (t + 6) (by omega), s3 (t + 7) (by omega)]
      exact cw i hi
    · rw [s3 (t + 8) (by omega), s3 (t + 9) (by omega)]
      exact cs i hi
