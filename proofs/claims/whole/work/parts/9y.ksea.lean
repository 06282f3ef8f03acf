/-! sea -/
theorem dr_wRf {cl : Nat → List Value → ds_St → Option ds_Out} {j : Nat} {as : List Value} {z z1 : ds_St} {f : Nat → ds_St → Option ds_Out} {r : Nat} {Q : Option Value → ds_St → Prop} (h : cl j as z = some (some (.ref r), z1)) (g : dr_w (f r z1) Q) : dr_w (ds_cR cl j as z f) Q := by
  rw [ds_cR_t h]
  exact g
theorem dr_tC_row {t : Nat} {z z' : ds_St} {D : Nat → Nat → Nat} (h : dk_tC z t D) (hf : ∀ p, t ≤ p → p ≤ t + 10 → z'.1 p = z.1 p) : dk_tC z' t D := by
  obtain ⟨ht, h0, h1, h2, h3, h4, h5⟩ := h
  unfold dk_tC
  rw [hf t (by omega) (by omega), hf (t + 1) (by omega) (by omega), hf (t + 2) (by omega) (by omega), hf (t + 3) (by omega) (by omega), hf (t + 4) (by omega) (by omega), hf (t + 5) (by omega) (by omega), hf (t + 6) (by omega) (by omega), hf (t + 7) (by omega) (by omega), hf (t + 8) (by omega) (by omega), hf (t + 9) (by omega) (by omega), hf (t + 10) (by omega) (by omega)]
  exact ⟨ht, h0, h1, h2, h3, h4, h5⟩
theorem s_empty80 (d : Nat) (z : ds_St) : ds_call (d + 1) j_Shelf_empty [.ref 80] z = some (none, ds_rowI z 80 (upd (upd (z.1 80) 2 (nI 0)) 3 (nI 0))) := by
  rw [c_Shelf_empty, b_Shelf_empty_0_80]
  simp only [ds_setI_row, ds_rowI_rowI, ds_rowI_self, dl_0]
  rfl
theorem s_empty82 (d : Nat) (z : ds_St) : ds_call (d + 1) j_Shelf_empty [.ref 82] z = some (none, ds_rowI z 82 (upd (upd (z.1 82) 2 (nI 0)) 3 (nI 0))) := by
  rw [c_Shelf_empty, b_Shelf_empty_0_82]
  simp only [ds_setI_row, ds_rowI_rowI, ds_rowI_self, dl_0]
  rfl
/-- what the class's sea leaves -/
def dr_seaC (z : ds_St) (t t' : Nat) (r : dr_Rs) (v : Option Value) (z' : ds_St) : Prop := ((∀ p, p ≠ 0 → p ≠ 1 → p ≠ 4 → p ≠ 61 → p ≠ 62 → p ≠ 80 → p ≠ 82 → p < t' ∨ t' + 10 < p → z'.1 p = z.1 p) ∧ z'.1 1 1 = nI 0) ∧ match r with
  | .inl q => v = some (.int ds_m1) ∧ (∀ p, p = 61 ∨ p = 62 ∨ p = 80 ∨ p = 82 → z'.1 p = z.1 p) ∧ z'.2.2 = z.2.2 ∧ z'.1 0 10 = nI 4 ∧ z'.1 0 11 = nI q.1 ∧ z'.1 0 12 = nI q.2
  | .inr s => v = some (.int (nI (s.2.2 0 4))) ∧ dk_tC z' t' s.2.2 ∧ (z'.2.2 0 = t' ∧ z'.2.2 1 = t) ∧ (z'.1 0 10 = nI 0 ∧ z'.1 0 11 = nI 0 ∧ z'.1 0 12 = z.1 0 12) ∧ (z'.1 61 2 = nI (s.2.2 0 4) ∧ (∀ p, p < 12 → z'.1 62 p = nI p) ∧ z'.1 61 3 = ds_m1) ∧ (z'.1 80 0 = z.1 80 0 ∧ z'.1 80 2 = nI 0 ∧ z'.1 80 3 = nI 0) ∧ (z'.1 82 0 = z.1 82 0 ∧ z'.1 82 2 = nI 0 ∧ z'.1 82 3 = nI 0)
theorem s_csea (d n f t t' : Nat) (z : ds_St) (B : Nat → Nat) (htt : (t = 10 ∧ t' = 30) ∨ (t = 30 ∧ t' = 10)) (h0 : z.2.2 0 = t) (hr : z.2.2 1 = t') (h1 : z.1 1 1 = nI f) (f9 : f ≤ 900) (nf : n ≤ f) (hB : ∀ k, k < f → z.1 2 k = dr_sb (B k)) (hB2 : ∀ k, k < f → B k < 256) : dr_w (ds_call (d + 9) j_Sea_sea [.ref 0, .int (nI n)] z) (dr_seaC z t t' (dr_all B n)) := by
  have ht : t = 10 ∨ t = 30 := by omega
  have ht' : t' = 10 ∨ t' = 30 := by omega
  apply dr_wn (c_Sea_sea _ _ _ _)
  rw [b_Sea_sea_0]
  simp only [dl_0, dl_2, dl_4]
  refine dr_wF (by rw [nI_ltI (by omega) (by decide)]; omega) ?_
  refine dr_wT (by rw [h1, nI_leI (by omega) (by omega)]; exact nf) ?_
  obtain ⟨v, z2, w, ⟨gp, g1, gr⟩, post⟩ := s_readText d n f t' z B ht' hr h1 f9 nf hB hB2
  cases hq : dr_all B n with
  | inl q =>
    rw [hq] at post
    obtain ⟨hv, v1, v6, x4⟩ := post
    subst hv
    refine dr_wI w ?_
    refine dr_wF (dr_ne0 rfl v1 v6) ?_
    have pl : ds_call (d + 8) j_Reader_place [.ref 1] (ds_setI z2 0 11 (nI q.1)) = some (some (.int (nI q.2)), ds_setI z2 0 11 (nI q.1)) := by
      rw [c_Reader_place, b_Reader_place_0, ds_setI_row, ds_rowI_ne _ _ (by decide), x4]
      rfl
    refine dr_wI pl ?_
    refine dr_wI (s_refuse (d + 7) (nI 4) _) ?_
    have z0 : z2.1 0 = z.1 0 := gp 0 (by decide) (by decide) (by omega)
    rw [ds_setI_row, ds_setI_row, ds_rowI_rowI, ds_rowI_rowI, ds_rowI_self, ds_rowI_self]
    refine dr_wR ⟨⟨_, rfl⟩, ⟨fun p a b c e e2 e3 e4 e5 => ?_, ?_⟩, rfl, fun p hp => ?_, gr, ?_, ?_, ?_⟩
    · rw [ds_rowI_ne _ _ a, gp p b c e5]
    · rw [ds_rowI_ne _ _ (by decide), g1]
    · rw [ds_rowI_ne _ _ (by omega), gp p (by omega) (by omega) (by omega)]
    · rw [ds_rowI_self, pk_us]
    · rw [ds_rowI_self, pk_un (by decide), pk_un (by decide), pk_us]
    · rw [ds_rowI_self, pk_un (by decide), pk_us]
  | inr s =>
    obtain ⟨e', Nm', D⟩ := s
    rw [hq] at post
    obtain ⟨hv, hT⟩ : v = some (.int (nI 0)) ∧ dk_tC z2 t' D := post
    subst hv
    have r0 : z2.2.2 0 = t := by rw [gr]; exact h0
    have r1 : z2.2.2 1 = t' := by rw [gr]; exact hr
    refine dr_wI w ?_
    refine dr_wT rfl ?_
    rw [r0]
    have ho : ds_call (d + 8) j_Reader_handOver [.ref 1, .ref t] (ds_setI z2 0 11 (nI 0)) = some (some (.ref t'), ds_setS (ds_setI z2 0 11 (nI 0)) 1 t) := by
      rw [c_Reader_handOver, b_Reader_handOver_0, ds_isK_t (ds_Kt ht)]
      show ds_nn (some (some (.ref (z2.2.2 1)), _)) = _
      rw [r1]
      rfl
    refine dr_wRf ho ?_
    refine dr_wK (ds_Kt ht') ?_
    refine dr_wK (ds_Kt ht') ?_
    have c4 : (ds_setS (ds_setI z2 0 11 (nI 0)) 1 t).1 t' 4 = nI (D 0 4) := by
      rw [ds_setS_1, ds_setI_row, ds_rowI_ne _ _ (by omega)]
      exact hT.2.1.2.2.2.2.1
    rw [c4]
    refine dr_wV (s_order_61 (d + 7) (nI (D 0 4)) _) ?_
    refine dr_wV (s_empty80 (d + 7) _) ?_
    refine dr_wV (s_empty82 (d + 7) _) ?_
    have Y : ∃ y3, y3 = ds_setS (ds_setS (ds_setI z2 0 11 (nI 0)) 1 t) 0 t' := ⟨_, rfl⟩
    obtain ⟨y3, hy3⟩ := Y
    rw [← hy3]
    have a0 : y3.1 0 = upd (z.1 0) 11 (nI 0) := by
      rw [hy3, ds_setS_1, ds_setS_1, ds_setI_row, ds_rowI_self, gp 0 (by decide) (by decide) (by omega)]
    have ap : ∀ p, p ≠ 0 → y3.1 p = z2.1 p := fun p hp => by rw [hy3, ds_setS_1, ds_setS_1, ds_setI_row, ds_rowI_ne _ _ hp]
    have s0 : y3.2.2 0 = t' := by rw [hy3, ds_setS_self]
    have s1 : y3.2.2 1 = t := by rw [hy3, ds_setS_ne _ _ (by decide), ds_setS_self]
    clear hy3
    have b80 : y3.1 80 0 = z.1 80 0 := by rw [ap 80 (by decide), gp 80 (by decide) (by decide) (by omega)]
    have b82 : y3.1 82 0 = z.1 82 0 := by rw [ap 82 (by decide), gp 82 (by decide) (by decide) (by omega)]
    refine dr_wK (p := y3.2.2 0) (by rw [s0]; exact ds_Kt ht') ?_
    have Y : ∃ y6, y6 = ds_rowI (ds_rowI (ds_rowI (ds_rowI y3 61 (upd (upd (y3.1 61) 2 (nI (D 0 4))) 3 (-1))) 62 (fun j => if j < 12 then nI j else y3.1 62 j)) 80 (upd (upd ((ds_rowI (ds_rowI y3 61 (upd (upd (y3.1 61) 2 (nI (D 0 4))) 3 (-1))) 62 (fun j => if j < 12 then nI j else y3.1 62 j)).1 80) 2 (nI 0)) 3 (nI 0))) 82 (upd (upd ((ds_rowI (ds_rowI (ds_rowI y3 61 (upd (upd (y3.1 61) 2 (nI (D 0 4))) 3 (-1))) 62 (fun j => if j < 12 then nI j else y3.1 62 j)) 80 (upd (upd ((ds_rowI (ds_rowI y3 61 (upd (upd (y3.1 61) 2 (nI (D 0 4))) 3 (-1))) 62 (fun j => if j < 12 then nI j else y3.1 62 j)).1 80) 2 (nI 0)) 3 (nI 0))).1 82) 2 (nI 0)) 3 (nI 0)) := ⟨_, rfl⟩
    obtain ⟨y6, hy6⟩ := Y
    rw [← hy6]
    have q61 : y6.1 61 = upd (upd (y3.1 61) 2 (nI (D 0 4))) 3 (-1) := by
      rw [hy6, ds_rowI_ne _ _ (by decide), ds_rowI_ne _ _ (by decide), ds_rowI_ne _ _ (by decide), ds_rowI_self]
    have q62 : ∀ j, j < 12 → y6.1 62 j = nI j := fun j hj => by
      rw [hy6, ds_rowI_ne _ _ (by decide), ds_rowI_ne _ _ (by decide), ds_rowI_self, if_pos hj]
    have q80 : y6.1 80 = upd (upd (y3.1 80) 2 (nI 0)) 3 (nI 0) := by
      rw [hy6, ds_rowI_ne _ _ (by decide), ds_rowI_self, ds_rowI_ne _ _ (by decide), ds_rowI_ne _ _ (by decide)]
    have q82 : y6.1 82 = upd (upd (y3.1 82) 2 (nI 0)) 3 (nI 0) := by
      rw [hy6, ds_rowI_self, ds_rowI_ne _ _ (by decide), ds_rowI_ne _ _ (by decide), ds_rowI_ne _ _ (by decide)]
    have qp : ∀ p, p ≠ 61 → p ≠ 62 → p ≠ 80 → p ≠ 82 → y6.1 p = y3.1 p := fun p a b c e => by
      rw [hy6, ds_rowI_ne _ _ e, ds_rowI_ne _ _ c, ds_rowI_ne _ _ b, ds_rowI_ne _ _ a]
    have q2 : y6.2 = y3.2 := by rw [hy6]; rfl
    clear hy6
    have v4 : y6.1 (y6.2.2 0) 4 = nI (D 0 4) := by
      rw [q2, s0, qp t' (by omega) (by omega) (by omega) (by omega), ap t' (by omega)]
      exact hT.2.1.2.2.2.2.1
    rw [v4]
    refine dr_wI (s_answer (d + 7) _ y6) ?_
    refine dr_wR ⟨⟨_, rfl⟩, ⟨fun p a b c e e2 e3 e4 e5 => ?_, ?_⟩, rfl, ?_, ⟨?_, ?_⟩, ⟨?_, ?_, ?_⟩, ⟨?_, fun p hp => ?_, ?_⟩, ⟨?_, ?_, ?_⟩, ?_, ?_, ?_⟩
    · rw [ds_rowI_ne _ _ a, qp p e e2 e3 e4, ap p a, gp p b c e5]
    · rw [ds_rowI_ne _ _ (by decide), qp 1 (by decide) (by decide) (by decide) (by decide), ap 1 (by decide), g1]
    · refine dr_tC_row hT fun p h1 h2 => ?_
      rw [ds_rowI_ne _ _ (by omega), qp p (by omega) (by omega) (by omega) (by omega), ap p (by omega)]
    · show y6.2.2 0 = t'
      rw [q2, s0]
    · show y6.2.2 1 = t
      rw [q2, s1]
    · rw [ds_rowI_self, pk_us]
    · rw [ds_rowI_self, pk_un (by decide), qp 0 (by decide) (by decide) (by decide) (by decide), a0, pk_us]
    · rw [ds_rowI_self, pk_un (by decide), qp 0 (by decide) (by decide) (by decide) (by decide), a0, pk_un (by decide)]
    · rw [ds_rowI_ne _ _ (by decide), q61, pk_un (by decide), pk_us]
    · rw [ds_rowI_ne _ _ (by decide)]; exact q62 p hp
    · rw [ds_rowI_ne _ _ (by decide), q61, pk_us]
      rfl
    · rw [ds_rowI_ne _ _ (by decide), q80, pk_un (by decide), pk_un (by decide), b80]
    · rw [ds_rowI_ne _ _ (by decide), q80, pk_un (by decide), pk_us]
    · rw [ds_rowI_ne _ _ (by decide), q80, pk_us]
    · rw [ds_rowI_ne _ _ (by decide), q82, pk_un (by decide), pk_un (by decide), b82]
    · rw [ds_rowI_ne _ _ (by decide), q82, pk_un (by decide), pk_us]
    · rw [ds_rowI_ne _ _ (by decide), q82, pk_us]
theorem k_sea (d : Nat) (x : Int32) (z : ds_St) (h : dk_Inv z) : ∃ v z1 z2, ds_call (d + 20) j_Sea_sea [.ref 0, .int x] z = some (some v, z1) ∧ ds_call (d + 20) j_Mod_sea [.ref 90, .int x] z1 = some (some v, z2) ∧ dk_Inv z2 := by
  have h0 := h
  obtain ⟨t, t', D, K, U, u, M, m, f, B, hc, hm, ho, e1, e2, e3⟩ := h0
  have a3 : z.1 1 1 = nI f := hc.2.2.2.2.2.1
  have b3 : z.1 90 2 = nI f := hm.2.2.2.2.2.1
  have f9 := ho.2.1
  cases hq : dk_rng x (f + 1)
  · have il := s_in_rng' (d + 18) f x (dk_zg (ds_rowI z 0 (upd (z.1 0) 10 (nI 2)))) (by omega)
    rw [hq] at il
    refine ⟨.int ds_m1, ds_rowI z 0 (upd (z.1 0) 10 (nI 2)), ds_rowI (dk_zg (ds_rowI z 0 (upd (z.1 0) 10 (nI 2)))) 90 (upd ((dk_zg (ds_rowI z 0 (upd (z.1 0) 10 (nI 2)))).1 90) 11 (nI 2)), ?_, ?_, dk_Inv_q h (dk_qC_no z (nI 2)) (dk_qM_no _ (nI 2))⟩
    · have rf := s_refuse (d + 18) (nI 2) z
      generalize ds_rowI z 0 (upd (z.1 0) 10 (nI 2)) = y at *
      rw [c_Sea_sea, b_Sea_sea_0]
      rcases dk_rng_le (by omega) hq with q | ⟨q, q2⟩
      · simp (disch := first | assumption | omega) only [ds_cI, ds_cV, ds_cL, ds_cR, ds_nn, ds_isK_t, ds_isA_t, ds_chk_t, ds_chkN, ds_nz_t, ds_nzN, ds_isB_t, ds_isB_bo, ↓dl_m1, ↓dl_m2, dl_0, dl_1, dl_2, dl_3, dl_4, dl_5, dl_6, dl_7, dl_8, dl_9, dl_10, dl_11, dl_12, dl_13, dl_14, dl_15, dl_16, dl_20, dl_24, dl_31, dl_50, dl_57, dl_67, dl_68, dl_74, dl_75, dl_79, dl_80, dl_99, dl_100, dl_200, dl_210, dl_224, dl_255, dl_289, dl_900, dl_1000, dl_1728, dl_65536, dl_65537, nI_add, pk_mul, pk_sub, pk_div, pk_rem, ds_rem2, nI_clamp, nI_leI, nI_ltI, nI_eq, ds_m1_eq, ds_eq_m1, ds_m2_eq, ds_eq_m2, ds_m1_le, ds_le_m1, ds_m1_lt, ds_lt_m1, ds_in_N, ds_bo0, ds_bo1, if_pos, if_neg, Nat.not_le, Nat.not_lt, not_true_eq_false, not_false_eq_true, if_true, if_false, ne_eq, Option.some.injEq, Prod.mk.injEq, Value.int.injEq, true_and, and_true, and_self, ite_self, Bool.not_eq_true, Bool.not_eq_false, Bool.true_eq_false, Bool.false_eq_true, reduceCtorEq, Nat.zero_add, Nat.reduceAdd, Nat.reduceMul, Nat.reduceSub, ds_setI_row, ds_setL_row, ds_rowI_self, ds_rowI_ne, ds_rowI_2, ds_rowI_rowI, ds_setS_1, ds_setS_21, ds_setS_self, ds_setS_ne, pk_us, pk_un, q, rf]
      · simp (disch := first | assumption | omega) only [ds_cI, ds_cV, ds_cL, ds_cR, ds_nn, ds_isK_t, ds_isA_t, ds_chk_t, ds_chkN, ds_nz_t, ds_nzN, ds_isB_t, ds_isB_bo, ↓dl_m1, ↓dl_m2, dl_0, dl_1, dl_2, dl_3, dl_4, dl_5, dl_6, dl_7, dl_8, dl_9, dl_10, dl_11, dl_12, dl_13, dl_14, dl_15, dl_16, dl_20, dl_24, dl_31, dl_50, dl_57, dl_67, dl_68, dl_74, dl_75, dl_79, dl_80, dl_99, dl_100, dl_200, dl_210, dl_224, dl_255, dl_289, dl_900, dl_1000, dl_1728, dl_65536, dl_65537, nI_add, pk_mul, pk_sub, pk_div, pk_rem, ds_rem2, nI_clamp, nI_leI, nI_ltI, nI_eq, ds_m1_eq, ds_eq_m1, ds_m2_eq, ds_eq_m2, ds_m1_le, ds_le_m1, ds_m1_lt, ds_lt_m1, ds_in_N, ds_bo0, ds_bo1, if_pos, if_neg, Nat.not_le, Nat.not_lt, not_true_eq_false, not_false_eq_true, if_true, if_false, ne_eq, Option.some.injEq, Prod.mk.injEq, Value.int.injEq, true_and, and_true, and_self, ite_self, Bool.not_eq_true, Bool.not_eq_false, Bool.true_eq_false, Bool.false_eq_true, reduceCtorEq, Nat.zero_add, Nat.reduceAdd, Nat.reduceMul, Nat.reduceSub, ds_setI_row, ds_setL_row, ds_rowI_self, ds_rowI_ne, ds_rowI_2, ds_rowI_rowI, ds_setS_1, ds_setS_21, ds_setS_self, ds_setS_ne, pk_us, pk_un, q, a3, q2, rf]
    · have g := s_good (d + 18) (ds_rowI z 0 (upd (z.1 0) 10 (nI 2)))
      have no := s_no (d + 18) (nI 2) (dk_zg (ds_rowI z 0 (upd (z.1 0) 10 (nI 2))))
      have g2 : (dk_zg (ds_rowI z 0 (upd (z.1 0) 10 (nI 2)))).1 90 2 = nI f := by rw [dk_zg_k _ (by decide) (by decide), ds_rowI_ne _ _ (by decide)]; exact b3
      generalize ds_rowI (dk_zg (ds_rowI z 0 (upd (z.1 0) 10 (nI 2)))) 90 (upd ((dk_zg (ds_rowI z 0 (upd (z.1 0) 10 (nI 2)))).1 90) 11 (nI 2)) = y2 at *
      generalize dk_zg (ds_rowI z 0 (upd (z.1 0) 10 (nI 2))) = y1 at *
      generalize ds_rowI z 0 (upd (z.1 0) 10 (nI 2)) = y at *
      rw [c_Mod_sea, b_Mod_sea_0]
      simp (disch := first | assumption | omega) only [ds_cI, ds_cV, ds_cL, ds_cR, ds_nn, ds_isK_t, ds_isA_t, ds_chk_t, ds_chkN, ds_nz_t, ds_nzN, ds_isB_t, ds_isB_bo, ↓dl_m1, ↓dl_m2, dl_0, dl_1, dl_2, dl_3, dl_4, dl_5, dl_6, dl_7, dl_8, dl_9, dl_10, dl_11, dl_12, dl_13, dl_14, dl_15, dl_16, dl_20, dl_24, dl_31, dl_50, dl_57, dl_67, dl_68, dl_74, dl_75, dl_79, dl_80, dl_99, dl_100, dl_200, dl_210, dl_224, dl_255, dl_289, dl_900, dl_1000, dl_1728, dl_65536, dl_65537, nI_add, pk_mul, pk_sub, pk_div, pk_rem, ds_rem2, nI_clamp, nI_leI, nI_ltI, nI_eq, ds_m1_eq, ds_eq_m1, ds_m2_eq, ds_eq_m2, ds_m1_le, ds_le_m1, ds_m1_lt, ds_lt_m1, ds_in_N, ds_bo0, ds_bo1, if_pos, if_neg, Nat.not_le, Nat.not_lt, not_true_eq_false, not_false_eq_true, if_true, if_false, ne_eq, Option.some.injEq, Prod.mk.injEq, Value.int.injEq, true_and, and_true, and_self, ite_self, Bool.not_eq_true, Bool.not_eq_false, Bool.true_eq_false, Bool.false_eq_true, reduceCtorEq, Nat.zero_add, Nat.reduceAdd, Nat.reduceMul, Nat.reduceSub, ds_setI_row, ds_setL_row, ds_rowI_self, ds_rowI_ne, ds_rowI_2, ds_rowI_rowI, ds_setS_1, ds_setS_21, ds_setS_self, ds_setS_ne, pk_us, pk_un, g, g2, il, no]
  · obtain ⟨n, hn, hx⟩ := (dk_rng_iff (by omega)).mp hq
    subst hx
    obtain ⟨⟨i1, i2, i3⟩, iT, i61, ⟨aa, i80, j80, k80, l80, m80⟩, ⟨ab, i82, j82, k82, l82, n82, m82⟩, i1f⟩ := hc
    obtain ⟨m93, m14, m95, ⟨m20, m96⟩, ⟨m21, m97⟩, m2, m91⟩ := hm
    obtain ⟨v, z1, w1, ⟨gp, g1⟩, post⟩ := s_csea (d + 11) n f t t' z B i3 i1 i2 a3 f9 (by omega) i1f.2 ho.2.2
    have kp : ∀ p, 90 ≤ p → z1.1 p = z.1 p := fun p hp => gp p (by omega) (by omega) (by omega) (by omega) (by omega) (by omega) (by omega) (by omega)
    obtain ⟨v', z2, w2, ⟨pp, pr, p2⟩, post2⟩ := s_msea (d + 12) n f z1 B (by rw [kp 90 (by decide)]; exact b3) f9 (by omega) (fun k hk => by rw [kp 91 (by decide)]; exact m91 k hk) ho.2.2
    cases hr : dr_all B n with
    | inl q =>
      rw [hr] at post post2
      obtain ⟨hv, c1, c2, c3, c4, c5⟩ := post
      obtain ⟨hv', d1, d2, d3, d4, d5, d6⟩ := post2
      subst hv
      subst hv'
      have rr : z2.2.2 = z.2.2 := by rw [pr, c2]
      have rw_ : ∀ p, p = 61 ∨ p = 62 ∨ p = 80 ∨ p = 81 ∨ p = 82 ∨ p = 83 → z2.1 p = z.1 p := fun p hp => by
        rw [pp p (by omega)]
        by_cases q : p = 81 ∨ p = 83
        · exact gp p (by omega) (by omega) (by omega) (by omega) (by omega) (by omega) (by omega) (by omega)
        · exact c1 p (by omega)
      refine ⟨_, z1, z2, w1, w2, t, t', D, K, U, u, M, m, 0, B, ⟨⟨by rw [rr]; exact i1, by rw [rr]; exact i2, i3⟩, ?_, ?_, ⟨aa, i80, ?_⟩, ⟨ab, i82, ?_⟩, ?_, fun k hk => absurd hk (Nat.not_lt_zero _)⟩, ⟨?_, ?_, ?_, ⟨?_, ?_⟩, ⟨?_, ?_⟩, p2, fun k hk => absurd hk (Nat.not_lt_zero _)⟩, ⟨ho.1, by decide, fun k hk => absurd hk (Nat.not_lt_zero _)⟩, ?_, ?_, ?_⟩
      · refine dr_tC_row iT fun p h1 h2 => ?_
        rw [pp p (by omega), gp p (by omega) (by omega) (by omega) (by omega) (by omega) (by omega) (by omega) (by omega)]
      · rw [rw_ 61 (by decide), rw_ 62 (by decide)]; exact i61
      · rw [rw_ 80 (by decide), rw_ 81 (by decide)]; exact ⟨j80, k80, l80, m80⟩
      · rw [rw_ 82 (by decide), rw_ 83 (by decide)]; exact ⟨j82, k82, l82, n82, m82⟩
      · rw [pp 1 (by decide)]; exact g1
      · exact dk_tM_eq m93 (by rw [d5, kp 93 (by decide)])
      · rw [d4 14 (by decide), kp 90 (by decide)]; exact m14
      · rw [d6, kp 95 (by decide)]; exact m95
      · rw [d4 20 (by decide), kp 90 (by decide)]; exact m20
      · rw [pp 96 (by decide), kp 96 (by decide)]; exact m96
      · rw [d4 21 (by decide), kp 90 (by decide)]; exact m21
      · rw [pp 97 (by decide), kp 97 (by decide)]; exact m97
      · rw [pp 0 (by decide), c3, d3]
      · rw [pp 0 (by decide), c4, d1]
      · rw [pp 0 (by decide), c5, d2]
    | inr s =>
      obtain ⟨e', Nm', D'⟩ := s
      obtain ⟨hd, h2s⟩ : dr_dok true D' ∧ 2 ≤ D' 0 4 := dr_all_ok hr
      rw [hr] at post post2
      obtain ⟨hv, cT, ⟨r0, r1⟩, ⟨c1, c2, c3⟩, ⟨c4, c5, c6⟩, ⟨c7, c8, c9⟩, ⟨c10, c11, c12⟩⟩ : _ := post
      obtain ⟨hv', d1, d2, d3, ⟨d4, d5, d6⟩, dT, dK⟩ := post2
      subst hv
      subst hv'
      dsimp only at *
      have n12 := hd.1
      have kk : ∀ p, p < 12 → dr_K0 (D' 0 4) p = p := fun p hp => by
        unfold dr_K0
        rw [if_pos hp]
      have k12 : dr_K0 (D' 0 4) 12 = D' 0 4 := rfl
      have k13 : dr_K0 (D' 0 4) 13 = 0 := rfl
      refine ⟨_, z1, z2, w1, w2, t', t, D', dr_K0 (D' 0 4), U, 0, M, 0, 0, B, ⟨⟨by rw [pr]; exact r0, by rw [pr]; exact r1, by omega⟩, ?_, ⟨?_, fun p hp => ?_, ?_⟩, ⟨0, by decide, ?_, ?_, ?_, fun k hk => absurd hk (Nat.not_lt_zero _)⟩, ⟨0, by decide, ?_, ?_, ?_, fun h => absurd h (by decide), fun k hk => absurd hk (Nat.not_lt_zero _)⟩, ?_, fun k hk => absurd hk (Nat.not_lt_zero _)⟩, ⟨dT, ?_, dK, ⟨d5, fun k hk => absurd hk (Nat.not_lt_zero _)⟩, ⟨d6, fun k hk => absurd hk (Nat.not_lt_zero _)⟩, p2, fun k hk => absurd hk (Nat.not_lt_zero _)⟩, ⟨.inl ⟨?_, ?_, fun k hk => absurd hk (Nat.not_lt_zero _), fun k hk => absurd hk (Nat.not_lt_zero _), by decide, by decide⟩, by decide, fun k hk => absurd hk (Nat.not_lt_zero _)⟩, ?_, ?_, ?_⟩
      · refine dr_tC_row cT fun p h1 h2 => ?_
        rw [pp p (by omega)]
      · rw [pp 61 (by decide)]; exact c4
      · rw [k12] at hp
        rw [pp 62 (by decide), c5 p (by omega), kk p (by omega)]
      · rw [pp 61 (by decide), c6, k13]
        rfl
      · rw [pp 80 (by decide), c7]; exact j80
      · rw [pp 80 (by decide)]; exact c8
      · rw [pp 80 (by decide)]; exact c9
      · rw [pp 82 (by decide), c10]; exact j82
      · rw [pp 82 (by decide)]; exact c11
      · rw [pp 82 (by decide)]; exact c12
      · rw [pp 1 (by decide)]; exact g1
      · rw [d4, decide_eq_true (show 0 < D' 0 4 by omega)]
        rfl
      · obtain ⟨x1, x2, x3, x4, x5, x6, x7, x8, x9⟩ := hd
        obtain ⟨y1, y2, y3, y4⟩ := x5 rfl
        exact ⟨y1, y2, y3, y4, ⟨h2s, x1⟩, x2, x3, x4, x6, x7, x8, x9⟩
      · refine ⟨by rw [k12]; exact n12, ?_, .inl ⟨k13, k12⟩⟩
        rw [k12]
        refine ⟨fun p hp => by rw [kk p (by omega)]; exact hp, fun p q hp hq e => ?_⟩
        rw [kk p (by omega), kk q (by omega)] at e
        exact e
      · rw [pp 0 (by decide), c1, d3]
      · rw [pp 0 (by decide), c2, d1]
      · rw [pp 0 (by decide), c3, d2, kp 90 (by decide)]
        exact e3
