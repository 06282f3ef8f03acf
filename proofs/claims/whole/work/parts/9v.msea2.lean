/-! the model's sea -/
theorem dr_wn {d j : Nat} {as : List Value} {z : ds_St} {a : Option ds_Out} {Q : Option Value → ds_St → Prop} (h : ds_call d j as z = ds_nn a) (g : dr_w a (fun v z' => (∃ i, v = some (.int i)) ∧ Q v z')) : dr_w (ds_call d j as z) Q := by
  obtain ⟨v, z', e, ⟨i, hv⟩, q⟩ := g
  subst hv
  exact ⟨_, z', by rw [h, e]; rfl, q⟩
def dr_K0 (n p : Nat) : Nat := if p < 12 then p else if p = 12 then n else 0
def dr_seaM (z : ds_St) (r : dr_Rs) (v : Option Value) (z' : ds_St) : Prop := ((∀ p, p < 90 ∨ p = 91 ∨ p = 96 ∨ p = 97 → z'.1 p = z.1 p) ∧ z'.2 = z.2 ∧ z'.1 90 2 = nI 0) ∧ match r with
  | .inl q => v = some (.int ds_m1) ∧ z'.1 90 9 = nI q.1 ∧ z'.1 90 10 = nI q.2 ∧ z'.1 90 11 = nI 4 ∧ (∀ k, k = 14 ∨ k = 20 ∨ k = 21 → z'.1 90 k = z.1 90 k) ∧ z'.1 93 = z.1 93 ∧ z'.1 95 = z.1 95
  | .inr s => v = some (.int (nI (s.2.2 0 4))) ∧ z'.1 90 9 = nI 0 ∧ z'.1 90 10 = z.1 90 10 ∧ z'.1 90 11 = nI 0 ∧ (z'.1 90 14 = nI 1 ∧ z'.1 90 20 = nI 0 ∧ z'.1 90 21 = nI 0) ∧ dk_tM z' s.2.2 ∧ dk_rwM (z'.1 95) 0 (dr_K0 (s.2.2 0 4))
theorem s_msea (d n f : Nat) (z : ds_St) (B : Nat → Nat) (h2 : z.1 90 2 = nI f) (f9 : f ≤ 900) (nf : n ≤ f) (hB : ∀ k, k < f → z.1 91 k = nI (B k)) (hB2 : ∀ k, k < f → B k < 256) : dr_w (ds_call (d + 8) j_Mod_sea [.ref 90, .int (nI n)] z) (dr_seaM z (dr_all B n)) := by
  apply dr_wn (c_Mod_sea _ _ _ _)
  rw [b_Mod_sea_0]
  simp only [dl_0, dl_2]
  refine dr_wV (s_good (d + 6) z) ?_
  have h2' : (dk_zg z).1 90 2 = nI f := (dk_zg_k z (by decide) (by decide)).trans h2
  rw [h2']
  have i := s_inN (d + 6) n 0 f (dk_zg z) (by omega) (by decide) (by omega)
  rw [show (decide (0 ≤ n) && decide (n ≤ f)) = true by simp [nf]] at i
  refine dr_wI i ?_
  refine dr_wT (by decide) ?_
  rw [s_fill94, b_Mod_sea_39]
  refine dr_wT (by decide) ?_
  have Y : ∃ y, y = ds_setI (ds_setI (ds_rowI (ds_setI (ds_setI (ds_setI (dk_zg z) 90 2 (nI 0)) 90 9 (nI 0)) 90 13 (nI 0)) 94 (fun j => if j < 289 then nI 0 else (ds_setI (ds_setI (ds_setI (dk_zg z) 90 2 (nI 0)) 90 9 (nI 0)) 90 13 (nI 0)).1 94 j)) 90 3 (nI n)) 90 5 (nI 0) := ⟨_, rfl⟩
  obtain ⟨y, hy⟩ := Y
  have f94 : ∀ j, j < 289 → y.1 94 j = nI 0 := by
    intro j hj
    simp only [hy, ds_setI_row, dk_zg]
    rw [ds_rowI_ne _ _ (by decide), ds_rowI_ne _ _ (by decide), ds_rowI_self, if_pos hj]
  have fp : ∀ p, p ≠ 90 → p ≠ 94 → y.1 p = z.1 p := by
    intro p a b
    simp only [hy, ds_setI_row, dk_zg]
    rw [ds_rowI_ne _ _ a, ds_rowI_ne _ _ a, ds_rowI_ne _ _ b, ds_rowI_ne _ _ a, ds_rowI_ne _ _ a, ds_rowI_ne _ _ a, ds_rowI_ne _ _ a]
  have f90 : y.1 90 = upd (upd (upd (upd (upd (upd (upd (z.1 90) 0 (nI 0)) 11 (nI 0)) 2 (nI 0)) 9 (nI 0)) 13 (nI 0)) 3 (nI n)) 5 (nI 0) := by
    simp only [hy, ds_setI_row, dk_zg, ds_rowI_self]
    rw [ds_rowI_ne _ _ (by decide), ds_rowI_self]
  have fr : y.2 = z.2 := by rw [hy]; rfl
  have k5 : y.1 90 5 = nI 0 := by rw [f90, pk_us]
  have k3 : y.1 90 3 = nI n := by rw [f90, pk_un (by decide), pk_us]
  have k13 : y.1 90 13 = nI 0 := by rw [f90, pk_un (by decide), pk_un (by decide), pk_us]
  have k9 : y.1 90 9 = nI 0 := by rw [f90, pk_un (by decide), pk_un (by decide), pk_un (by decide), pk_us]
  have k2 : y.1 90 2 = nI 0 := by rw [f90, pk_un (by decide), pk_un (by decide), pk_un (by decide), pk_un (by decide), pk_us]
  have k11 : y.1 90 11 = nI 0 := by rw [f90, pk_un (by decide), pk_un (by decide), pk_un (by decide), pk_un (by decide), pk_un (by decide), pk_us]
  have kk : ∀ k, k = 10 ∨ k = 14 ∨ k = 20 ∨ k = 21 → y.1 90 k = z.1 90 k := fun k h => by rw [f90, pk_un (by omega), pk_un (by omega), pk_un (by omega), pk_un (by omega), pk_un (by omega), pk_un (by omega), pk_un (by omega)]
  rw [dl_0, ← hy]
  clear hy f90
  have bM : dr_bM y B n := ⟨k13, k3, by omega, fun k hk => by rw [fp 91 (by decide) (by decide)]; exact hB k (by omega), fun k hk => hB2 k (by omega)⟩
  obtain ⟨z3, w3, t3, g3⟩ := s_mnext (d + 5) y B n 0 (Nat.zero_le _) bM k5
  refine dr_wV w3 ?_
  have SM0 : dr_SM y false (fun _ => []) (fun _ _ => 0) y := ⟨⟨f94 8 (by decide), fun h => absurd h (by decide), ⟨f94 4 (by decide), f94 5 (by decide), f94 6 (by decide), f94 7 (by decide)⟩, fun i hi => absurd hi (Nat.not_lt_zero _), fun i hi => absurd hi (Nat.not_lt_zero _), fun i hi => absurd hi (Nat.not_lt_zero _), fun i hi => absurd hi (Nat.not_lt_zero _)⟩, fun s hs => ⟨f94 (91 + s) (by omega), fun k hk => absurd hk (Nat.not_lt_zero _)⟩, dr_gM_refl _, rfl, rfl⟩
  obtain ⟨z4, w4, p4⟩ := s_mtxt d y B n (n + 1) false 0 _ _ z3 (by omega) ⟨dr_bM_g1 bM g3, Nat.zero_le _, t3⟩ (dr_SM_g1 SM0 g3) dr_nok0 dr_dok0 (fun _ => ⟨rfl, rfl, rfl, rfl⟩)
  rw [w4]
  have p5 : dr_postM y B n (dr_all B n) z4 := p4
  clear p4
  cases hr : dr_all B n with
  | inl q =>
    rw [hr] at p5
    have X : dr_XM y q.1 q.2 z4 := p5
    obtain ⟨x13, x9, x10, _, gp, gk, gr⟩ := X
    rw [b_Mod_sea_164]
    refine dr_wF (by rw [x13]; decide) ?_
    refine dr_wI (s_no (d + 6) (nI 4) z4) ?_
    refine dr_wR ⟨⟨_, rfl⟩, ⟨fun p hp => ?_, gr.trans fr, ?_⟩, rfl, ?_, ?_, ?_, fun k hk => ?_, ?_, ?_⟩
    · rw [ds_rowI_ne _ _ (by omega), gp p (by omega) (by omega) (by omega) (by omega), fp p (by omega) (by omega)]
    · rw [ds_rowI_self, pk_un (by decide), gk 2 (by decide), k2]
    · rw [ds_rowI_self, pk_un (by decide), x9]
    · rw [ds_rowI_self, pk_un (by decide), x10]
    · rw [ds_rowI_self, pk_us]
    · rw [ds_rowI_self, pk_un (by omega), gk k (by omega), kk k (by omega)]
    · rw [ds_rowI_ne _ _ (by decide), gp 93 (by decide) (by decide) (by decide) (by decide), fp 93 (by decide) (by decide)]
    · rw [ds_rowI_ne _ _ (by decide), gp 95 (by decide) (by decide) (by decide) (by decide), fp 95 (by decide) (by decide)]
  | inr s =>
    obtain ⟨e', Nm', D⟩ := s
    obtain ⟨hd, h2s⟩ : dr_dok true D ∧ 2 ≤ D 0 4 := dr_all_ok hr
    have n12 := hd.1
    rw [hr] at p5
    obtain ⟨O, ⟨c8, c0, ⟨c4, c5, c6, c7⟩, ci, cm, cw, cs⟩, _, ⟨gp, gk, gr⟩, x9, x10⟩ : dr_OM z4 B n e' ∧ dr_SM y true Nm' D z4 := p5
    rw [b_Mod_sea_164]
    simp only [dl_0, dl_1, dl_289]
    refine dr_wT O.1.1 ?_
    refine dr_wV (s_copy (d + 6) 94 93 0 0 289 z4 rfl rfl (by decide) (by decide) (by decide) ⟨by decide, by decide⟩) ?_
    have e93 : ∀ k v, k < 289 → z4.1 94 k = v → (ds_rowI z4 93 (ds_cpF (z4.1 94) (z4.1 93) 0 0 0 289)).1 93 k = v := by
      intro k v hk hv
      rw [ds_rowI_self, ds_cpF_at, if_pos (by omega)]
      simpa using hv
    have ep : ∀ p, p ≠ 93 → (ds_rowI z4 93 (ds_cpF (z4.1 94) (z4.1 93) 0 0 0 289)).1 p = z4.1 p := fun p hp => ds_rowI_ne _ _ hp
    have e2 : (ds_rowI z4 93 (ds_cpF (z4.1 94) (z4.1 93) 0 0 0 289)).2 = z4.2 := rfl
    generalize ds_rowI z4 93 (ds_cpF (z4.1 94) (z4.1 93) 0 0 0 289) = z5 at *
    refine dr_wV (s_layDeck (d + 6) (D 0 4) 95 z5 rfl rfl (by decide) n12 (e93 4 _ (by decide) c4)) ?_
    have q5 : ∀ p, p ≠ 95 → (ds_rowI z5 95 (upd (upd (fun j => if j < 14 then (if j < D 0 4 then nI j else 0) else z5.1 95 j) 12 (nI (D 0 4))) 13 0)).1 p = z5.1 p := fun p hp => ds_rowI_ne _ _ hp
    have q95 : dk_rwM ((ds_rowI z5 95 (upd (upd (fun j => if j < 14 then (if j < D 0 4 then nI j else 0) else z5.1 95 j) 12 (nI (D 0 4))) 13 0)).1 95) 0 (dr_K0 (D 0 4)) := by
      rw [ds_rowI_self]
      refine ⟨fun p hp => ?_, ?_, ?_⟩
      · have hp' : p < D 0 4 := hp
        rw [Nat.zero_add, pk_un (by omega), pk_un (by omega), if_pos (by omega), if_pos hp']
        unfold dr_K0
        rw [if_pos (by omega)]
      · rw [Nat.zero_add, pk_un (by decide), pk_us]
        rfl
      · rw [Nat.zero_add, pk_us]
        rfl
    have q2 : (ds_rowI z5 95 (upd (upd (fun j => if j < 14 then (if j < D 0 4 then nI j else 0) else z5.1 95 j) 12 (nI (D 0 4))) 13 0)).2 = z5.2 := rfl
    generalize ds_rowI z5 95 (upd (upd (fun j => if j < 14 then (if j < D 0 4 then nI j else 0) else z5.1 95 j) 12 (nI (D 0 4))) 13 0) = z6 at *
    have a93 : z6.1 93 4 = nI (D 0 4) := by rw [q5 93 (by decide)]; exact e93 4 _ (by decide) c4
    rw [a93, ds_setI_row, ds_setI_row, ds_setI_row]
    have T : dk_tM z6 D := by
      unfold dk_tM
      rw [q5 93 (by decide)]
      obtain ⟨x0, x1, x2, x3⟩ := c0 rfl
      refine ⟨⟨e93 _ _ (by decide) x0, e93 _ _ (by decide) x1, e93 _ _ (by decide) x2, e93 _ _ (by decide) x3, e93 _ _ (by decide) c4, e93 _ _ (by decide) c5, e93 _ _ (by decide) c6, e93 _ _ (by decide) c7⟩, fun i hi => ?_, fun i hi => ?_, fun i hi => ?_, fun i hi => ?_⟩
      · obtain ⟨y0, y1, y2, y3⟩ := ci i hi
        exact ⟨e93 _ _ (by omega) y0, e93 _ _ (by omega) y1, e93 _ _ (by omega) y2, e93 _ _ (by omega) y3⟩
      · exact e93 _ _ (by have := hd.2.1; omega) (cm i hi)
      · obtain ⟨y0, y1⟩ := cw i hi
        have := hd.2.2.1
        exact ⟨e93 _ _ (by omega) y0, e93 _ _ (by omega) y1⟩
      · obtain ⟨y0, y1⟩ := cs i hi
        have := hd.2.2.2.1
        exact ⟨e93 _ _ (by omega) y0, e93 _ _ (by omega) y1⟩
    have z90 : ∀ k, k = 2 ∨ k = 9 ∨ k = 10 ∨ k = 11 → z6.1 90 k = y.1 90 k := fun k hk => by
      rw [q5 90 (by decide), ep 90 (by decide)]
      by_cases a : k = 2 ∨ k = 11
      · exact gk k (by omega)
      · by_cases b : k = 9
        · rw [b]; exact x9
        · have : k = 10 := by omega
          rw [this]; exact x10
    refine dr_wR ⟨⟨_, rfl⟩, ⟨fun p hp => ?_, ?_, ?_⟩, rfl, ?_, ?_, ?_, ⟨?_, ?_, ?_⟩, ?_, ?_⟩
    · rw [ds_rowI_ne _ _ (by omega), ds_rowI_ne _ _ (by omega), ds_rowI_ne _ _ (by omega), q5 p (by omega), ep p (by omega), gp p (by omega) (by omega) (by omega) (by omega), fp p (by omega) (by omega)]
    · show z6.2 = z.2
      rw [q2, e2, gr, fr]
    · rw [ds_rowI_self, pk_un (by decide), ds_rowI_self, pk_un (by decide), ds_rowI_self, pk_un (by decide), z90 2 (by decide), k2]
    · rw [ds_rowI_self, pk_un (by decide), ds_rowI_self, pk_un (by decide), ds_rowI_self, pk_un (by decide), z90 9 (by decide), k9]
    · rw [ds_rowI_self, pk_un (by decide), ds_rowI_self, pk_un (by decide), ds_rowI_self, pk_un (by decide), z90 10 (by decide), kk 10 (by decide)]
    · rw [ds_rowI_self, pk_un (by decide), ds_rowI_self, pk_un (by decide), ds_rowI_self, pk_un (by decide), z90 11 (by decide), k11]
    · rw [ds_rowI_self, pk_un (by decide), ds_rowI_self, pk_un (by decide), ds_rowI_self, pk_us]
    · rw [ds_rowI_self, pk_un (by decide), ds_rowI_self, pk_us]
    · rw [ds_rowI_self, pk_us]
    · exact dk_tM_eq T (by rw [ds_rowI_ne _ _ (by decide), ds_rowI_ne _ _ (by decide), ds_rowI_ne _ _ (by decide)])
    · rw [ds_rowI_ne _ _ (by decide), ds_rowI_ne _ _ (by decide), ds_rowI_ne _ _ (by decide)]
      exact q95
