def dk_acM (z : ds_St) (U : Nat → Nat → Nat) (u : Nat) : Prop := z.1 90 20 = nI u ∧ ∀ q, q < u → dk_rwM (z.1 96) (14 * q) (U q)
def dk_imM (z : ds_St) (M : Nat → Nat → Nat) (m : Nat) : Prop := z.1 90 21 = nI m ∧ ∀ q, q < m → dk_rwM (z.1 97) (14 * q) (M q)
theorem dk_rwM_cp {f g : Nat → Int32} {a b : Nat} {K : Nat → Nat} (hk : K 12 ≤ 12) (h : dk_rwM f a K) : dk_rwM (ds_cpF f g a b 0 14) b K := by
  obtain ⟨h1, h2, h3⟩ := h
  refine ⟨fun p hp => ?_, ?_, ?_⟩
  · rw [ds_cpF_at, if_pos (by omega), Nat.add_sub_cancel_left]; exact h1 p hp
  · rw [ds_cpF_at, if_pos (by omega), Nat.add_sub_cancel_left]; exact h2
  · rw [ds_cpF_at, if_pos (by omega), Nat.add_sub_cancel_left]; exact h3
theorem dk_rwM_old {f g : Nat → Int32} {a k l : Nat} {K : Nat → Nat} (hk : K 12 ≤ 12) (hkl : k ≠ l) (h : dk_rwM g (14 * k) K) : dk_rwM (ds_cpF f g a (14 * l) 0 14) (14 * k) K := by
  obtain ⟨h1, h2, h3⟩ := h
  refine ⟨fun p hp => ?_, ?_, ?_⟩
  · rw [ds_cpF_at, if_neg (by omega)]; exact h1 p hp
  · rw [ds_cpF_at, if_neg (by omega)]; exact h2
  · rw [ds_cpF_at, if_neg (by omega)]; exact h3
theorem s_note49 (d u : Nat) (z : ds_St) (K : Nat → Nat) (U : Nat → Nat → Nat) (hk : K 12 ≤ 12) (hU : ∀ q, q < u → U q 12 ≤ 12) (hd : dk_rwM (z.1 95) 0 K) (ha : dk_acM z U u) (hu : u < 16) : ∃ z', ds_Rw ds_c_Mod_note ds_u_Mod_note (ds_call (d + 1)) 49 [some (.ref 90), none] [] z = some (none, z') ∧ dk_acM z' (fun q => if q = u then K else U q) (u + 1) ∧ (∀ p, p ≠ 90 → p ≠ 96 → z'.1 p = z.1 p) ∧ (∀ k, k ≠ 20 → z'.1 90 k = z.1 90 k) ∧ z'.2 = z.2 := by
  obtain ⟨e1, hr⟩ := ha
  have s1 := s_copy d 95 96 0 (14 * u) 14 z rfl rfl (by decide) (by decide) (show 14 * u + 14 ≤ 224 by omega) (by decide)
  refine ⟨ds_rowI (ds_rowI z 96 (ds_cpF (z.1 95) (z.1 96) 0 (14 * u) 0 14)) 90 (upd (z.1 90) 20 (nI (u + 1))), ?_, ⟨?_, ?_⟩, ?_, ?_, rfl⟩
  · rw [b_Mod_note_49]
    simp (disch := first | assumption | omega | rfl | decide) only [ds_cI, ds_cV, ds_cL, ds_cR, ds_nn, ds_isK_t, ds_isA_t, ds_chk_t, ds_chkN, ds_nz_t, ds_nzN, ds_isB_t, ds_isB_bo, ↓dl_m1, ↓dl_m2, dl_0, dl_1, dl_2, dl_3, dl_4, dl_5, dl_6, dl_7, dl_8, dl_9, dl_10, dl_11, dl_12, dl_13, dl_14, dl_15, dl_16, dl_20, dl_24, dl_31, dl_50, dl_57, dl_67, dl_68, dl_74, dl_75, dl_79, dl_80, dl_99, dl_100, dl_200, dl_210, dl_224, dl_255, dl_289, dl_900, dl_1000, dl_1728, dl_65536, dl_65537, nI_add, pk_mul, pk_sub, pk_div, pk_rem, ds_rem2, nI_clamp, nI_leI, nI_ltI, nI_eq, ds_m1_eq, ds_eq_m1, ds_m2_eq, ds_eq_m2, ds_m1_le, ds_le_m1, ds_m1_lt, ds_lt_m1, ds_in_N, ds_bo0, ds_bo1, if_pos, if_neg, Nat.not_le, Nat.not_lt, not_true_eq_false, not_false_eq_true, if_true, if_false, ne_eq, Option.some.injEq, Prod.mk.injEq, Value.int.injEq, true_and, and_true, and_self, ite_self, Bool.not_eq_true, Bool.not_eq_false, Bool.true_eq_false, Bool.false_eq_true, reduceCtorEq, Nat.zero_add, Nat.reduceAdd, Nat.reduceMul, Nat.reduceSub, ds_setI_row, ds_setL_row, ds_rowI_self, ds_rowI_ne, ds_rowI_2, ds_rowI_rowI, ds_setS_1, ds_setS_21, ds_setS_self, ds_setS_ne, pk_us, pk_un, e1, s1]
  · rw [ds_rowI_self, pk_us]
  · intro q hq
    rw [ds_rowI_ne _ _ (by decide), ds_rowI_self]
    dsimp only
    by_cases h : q = u
    · rw [if_pos h, h]; exact dk_rwM_cp hk hd
    · rw [if_neg h]; exact dk_rwM_old (hU q (by omega)) h (hr q (by omega))
  · intro p h1 h2
    rw [ds_rowI_ne _ _ h1, ds_rowI_ne _ _ h2]
  · intro k hk
    rw [ds_rowI_self, pk_un hk]
theorem s_note (d u : Nat) (z : ds_St) (K : Nat → Nat) (U : Nat → Nat → Nat) (hk : K 12 ≤ 12) (hU : ∀ q, q < u → U q 12 ≤ 12) (hd : dk_rwM (z.1 95) 0 K) (ha : dk_acM z U u) (hu : u ≤ 16) : ∃ z', ds_call (d + 2) j_Mod_note [.ref 90] z = some (none, z') ∧ dk_acM z' (dk_pu U u K) (dk_pn u) ∧ (∀ p, p ≠ 90 → p ≠ 96 → z'.1 p = z.1 p) ∧ (∀ k, k ≠ 20 → z'.1 90 k = z.1 90 k) ∧ z'.2 = z.2 := by
  by_cases hlt : u < 16
  · obtain ⟨z', s1, s2, s3, s4, s5⟩ := s_note49 d u z K U hk hU hd ha hlt
    have e1 := ha.1
    refine ⟨z', ?_, ?_, s3, s4, s5⟩
    · rw [c_Mod_note, b_Mod_note_0]
      simp (disch := first | assumption | omega | rfl | decide) only [ds_cI, ds_cV, ds_cL, ds_cR, ds_nn, ds_isK_t, ds_isA_t, ds_chk_t, ds_chkN, ds_nz_t, ds_nzN, ds_isB_t, ds_isB_bo, ↓dl_m1, ↓dl_m2, dl_0, dl_1, dl_2, dl_3, dl_4, dl_5, dl_6, dl_7, dl_8, dl_9, dl_10, dl_11, dl_12, dl_13, dl_14, dl_15, dl_16, dl_20, dl_24, dl_31, dl_50, dl_57, dl_67, dl_68, dl_74, dl_75, dl_79, dl_80, dl_99, dl_100, dl_200, dl_210, dl_224, dl_255, dl_289, dl_900, dl_1000, dl_1728, dl_65536, dl_65537, nI_add, pk_mul, pk_sub, pk_div, pk_rem, ds_rem2, nI_clamp, nI_leI, nI_ltI, nI_eq, ds_m1_eq, ds_eq_m1, ds_m2_eq, ds_eq_m2, ds_m1_le, ds_le_m1, ds_m1_lt, ds_lt_m1, ds_in_N, ds_bo0, ds_bo1, if_pos, if_neg, Nat.not_le, Nat.not_lt, not_true_eq_false, not_false_eq_true, if_true, if_false, ne_eq, Option.some.injEq, Prod.mk.injEq, Value.int.injEq, true_and, and_true, and_self, ite_self, Bool.not_eq_true, Bool.not_eq_false, Bool.true_eq_false, Bool.false_eq_true, reduceCtorEq, Nat.zero_add, Nat.reduceAdd, Nat.reduceMul, Nat.reduceSub, ds_setI_row, ds_setL_row, ds_rowI_self, ds_rowI_ne, ds_rowI_2, ds_rowI_rowI, ds_setS_1, ds_setS_21, ds_setS_self, ds_setS_ne, pk_us, pk_un, e1, s1]
    · have ep : dk_pu U u K = fun q => if q = u then K else U q := by
        funext q
        unfold dk_pu
        rw [if_pos hlt]
      have en : dk_pn u = u + 1 := by unfold dk_pn; rw [if_pos hlt]
      rw [ep, en]
      exact s2
  · have hu16 : u = 16 := by omega
    subst hu16
    obtain ⟨e1, hr⟩ := ha
    let zk : Nat → ds_St := fun k => ds_rowI z 96 (fun j => if j < k then z.1 96 (j + 14) else z.1 96 j)
    have up := ds_up (F := fun k => ds_Rw ds_c_Mod_note ds_u_Mod_note (ds_call (d + 1)) 11 [some (.ref 90), some (.int (nI k))] [] (zk k)) (n := 210) 0 (by
      intro k _ hk
      rw [b_Mod_note_11]
      have er : ds_rowI (zk k) 96 (upd ((zk k).1 96) k ((zk k).1 96 (k + 14))) = zk (k + 1) := by
        simp only [zk]
        rw [ds_rowI_rowI, ds_rowI_self]
        apply ds_rowI_congr
        intro j
        dsimp only [upd]
        by_cases h : j = k
        · subst h
          rw [if_pos rfl, if_neg (show ¬ j + 14 < j by omega), if_pos (show j < j + 1 by omega)]
        · rw [if_neg h]
          by_cases h2 : j < k
          · rw [if_pos h2, if_pos (by omega)]
          · rw [if_neg h2, if_neg (by omega)]
      simp (disch := first | assumption | omega) only [ds_cI, ds_cV, ds_cL, ds_cR, ds_nn, ds_isK_t, ds_isA_t, ds_chk_t, ds_chkN, ds_nz_t, ds_nzN, ds_isB_t, ds_isB_bo, ↓dl_m1, ↓dl_m2, dl_0, dl_1, dl_2, dl_3, dl_4, dl_5, dl_6, dl_7, dl_8, dl_9, dl_10, dl_11, dl_12, dl_13, dl_14, dl_15, dl_16, dl_20, dl_24, dl_31, dl_50, dl_57, dl_67, dl_68, dl_74, dl_75, dl_79, dl_80, dl_99, dl_100, dl_200, dl_210, dl_224, dl_255, dl_289, dl_900, dl_1000, dl_1728, dl_65536, dl_65537, nI_add, pk_mul, pk_sub, pk_div, pk_rem, ds_rem2, nI_clamp, nI_leI, nI_ltI, nI_eq, ds_m1_eq, ds_eq_m1, ds_m2_eq, ds_eq_m2, ds_m1_le, ds_le_m1, ds_m1_lt, ds_lt_m1, ds_in_N, ds_bo0, ds_bo1, if_pos, if_neg, Nat.not_le, Nat.not_lt, not_true_eq_false, not_false_eq_true, if_true, if_false, ne_eq, Option.some.injEq, Prod.mk.injEq, Value.int.injEq, true_and, and_true, and_self, ite_self, Bool.not_eq_true, Bool.not_eq_false, Bool.true_eq_false, Bool.false_eq_true, reduceCtorEq, Nat.zero_add, Nat.reduceAdd, Nat.reduceMul, Nat.reduceSub, ds_setI_row, ds_setL_row, ds_rowI_self, ds_rowI_ne, ds_rowI_2, ds_rowI_rowI, ds_setS_1, ds_setS_21, ds_setS_self, ds_setS_ne, pk_us, pk_un, er]) (by decide)
    have z0 : zk 0 = z := by
      simp only [zk, Nat.not_lt_zero, if_false]
      exact ds_rowI_id z 96
    let z5 := ds_rowI (zk 210) 90 (upd ((zk 210).1 90) 20 (nI 15))
    have z90 : (zk 210).1 90 = z.1 90 := ds_rowI_ne _ _ (by decide)
    have hd5 : dk_rwM (z5.1 95) 0 K := by
      simp only [z5, zk]
      rw [ds_rowI_ne _ _ (by decide), ds_rowI_ne _ _ (by decide)]
      exact hd
    have ha5 : dk_acM z5 (fun q => U (q + 1)) 15 := by
      refine ⟨?_, fun q hq => ?_⟩
      · simp only [z5]; rw [ds_rowI_self, pk_us]
      · obtain ⟨h1, h2, h3⟩ := hr (q + 1) (by omega)
        have hq12 := hU (q + 1) (by omega)
        have e5 : ∀ p, p < 14 → z5.1 96 (14 * q + p) = z.1 96 (14 * (q + 1) + p) := by
          intro p hp
          simp only [z5, zk]
          rw [ds_rowI_ne _ _ (by decide), ds_rowI_self, if_pos (by omega), show 14 * q + p + 14 = 14 * (q + 1) + p by omega]
        refine ⟨fun p hp => ?_, ?_, ?_⟩
        · have hp' : p < U (q + 1) 12 := hp
          rw [e5 p (by omega)]; exact h1 p hp
        · rw [e5 12 (by decide)]; exact h2
        · rw [e5 13 (by decide)]; exact h3
    obtain ⟨z', s1, s2, s3, s4, s5⟩ := s_note49 d 15 z5 K (fun q => U (q + 1)) hk (fun q hq => hU (q + 1) (by omega)) hd5 ha5 (by decide)
    refine ⟨z', ?_, ?_, ?_, ?_, ?_⟩
    · rw [c_Mod_note, b_Mod_note_0]
      try simp only at up
      rw [z0] at up
      have e6 : (zk 210).1 90 20 = nI 16 := by rw [z90]; exact e1
      have ez : ds_rowI (zk 210) 90 (upd ((zk 210).1 90) 20 (nI 15)) = z5 := rfl
      clear_value z5 zk
      rw [nI_0] at up
      rw [if_neg (fun h => h e1), up, b_Mod_note_11]
      simp (disch := first | assumption | omega) only [ds_cI, ds_cV, ds_cL, ds_cR, ds_nn, ds_isK_t, ds_isA_t, ds_chk_t, ds_chkN, ds_nz_t, ds_nzN, ds_isB_t, ds_isB_bo, ↓dl_m1, ↓dl_m2, dl_0, dl_1, dl_2, dl_3, dl_4, dl_5, dl_6, dl_7, dl_8, dl_9, dl_10, dl_11, dl_12, dl_13, dl_14, dl_15, dl_16, dl_20, dl_24, dl_31, dl_50, dl_57, dl_67, dl_68, dl_74, dl_75, dl_79, dl_80, dl_99, dl_100, dl_200, dl_210, dl_224, dl_255, dl_289, dl_900, dl_1000, dl_1728, dl_65536, dl_65537, nI_add, pk_mul, pk_sub, pk_div, pk_rem, ds_rem2, nI_clamp, nI_leI, nI_ltI, nI_eq, ds_m1_eq, ds_eq_m1, ds_m2_eq, ds_eq_m2, ds_m1_le, ds_le_m1, ds_m1_lt, ds_lt_m1, ds_in_N, ds_bo0, ds_bo1, if_pos, if_neg, Nat.not_le, Nat.not_lt, not_true_eq_false, not_false_eq_true, if_true, if_false, ne_eq, Option.some.injEq, Prod.mk.injEq, Value.int.injEq, true_and, and_true, and_self, ite_self, Bool.not_eq_true, Bool.not_eq_false, Bool.true_eq_false, Bool.false_eq_true, reduceCtorEq, Nat.zero_add, Nat.reduceAdd, Nat.reduceMul, Nat.reduceSub, ds_setI_row, ds_setL_row, ds_rowI_self, ds_rowI_ne, ds_rowI_2, ds_rowI_rowI, ds_setS_1, ds_setS_21, ds_setS_self, ds_setS_ne, pk_us, pk_un, e6, ez, s1]
    · have ep : dk_pu U 16 K = fun q => if q = 15 then K else U (q + 1) := by
        funext q
        unfold dk_pu
        rw [if_neg (by decide)]
      rw [ep]
      exact s2
    · intro p h1 h2
      rw [s3 p h1 h2]
      simp only [z5, zk]
      rw [ds_rowI_ne _ _ h1, ds_rowI_ne _ _ h2]
    · intro k hk
      rw [s4 k hk]
      simp only [z5, zk]
      rw [ds_rowI_self, pk_un hk, ds_rowI_ne _ _ (by decide)]
    · rw [s5]; rfl
def dk_gC (z z1 : ds_St) (w : Int32) : Prop := (∀ p, 84 ≤ p → z1.1 p = z.1 p) ∧ z1.1 0 = upd (z.1 0) 10 w
def dk_gM (z0 z2 : ds_St) (w : Int32) : Prop := (∀ p, p < 90 → z2.1 p = z0.1 p) ∧ z2.1 90 11 = w ∧ z2.1 90 9 = z0.1 90 9 ∧ z2.1 90 10 = z0.1 90 10 ∧ (∀ j, j < 2 → z2.2.2 j = z0.2.2 j)
theorem dk_both2 {z : ds_St} {j1 j2 d : Nat} {a1 a2 : List Value} (h : dk_Inv z) (hq : ∀ t t' D K U u M m f B, dk_IC z t t' D K U u M m f B → dk_OK D K U u M m f B → ∃ v w z1 K' U' u' M' m', ds_call d j1 a1 z = some (some v, z1) ∧ dk_IC z1 t t' D K' U' u' M' m' f B ∧ dk_gC z z1 w ∧ dk_OK D K' U' u' M' m' f B ∧ (∀ z0, dk_IM z0 D K U u M m f B → ∃ z2, ds_call d j2 a2 z0 = some (some v, z2) ∧ dk_IM z2 D K' U' u' M' m' f B ∧ dk_gM z0 z2 w)) : ∃ v z1 z2, ds_call d j1 a1 z = some (some v, z1) ∧ ds_call d j2 a2 z1 = some (some v, z2) ∧ dk_Inv z2 := by
  obtain ⟨t, t', D, K, U, u, M, m, f, B, hc, hm, ho, e1, e2, e3⟩ := h
  obtain ⟨v, w, z1, K', U', u', M', m', g1, g2, g3, g4, g5⟩ := hq t t' D K U u M m f B hc ho
  have hm1 : dk_IM z1 D K U u M m f B := dk_IM_q hm (fun p x y => g3.1 p (by omega)) (fun k _ => by rw [g3.1 90 (by decide)])
  obtain ⟨z2, q1, q2, q3, q4, q5, q6, q7⟩ := g5 z1 hm1
  refine ⟨v, z1, z2, g1, q1, t, t', D, K', U', u', M', m', f, B, ?_, q2, g4, ?_, ?_, ?_⟩
  · exact dk_IC_q (v := w) g2 (fun p x y => q3 p (by omega)) (fun j hj => q7 j hj)
  · rw [q3 0 (by decide), g3.2, q4, pk_us]
  · rw [q3 0 (by decide), g3.2, pk_un (by decide), q5, g3.1 90 (by decide), e2]
  · rw [q3 0 (by decide), g3.2, pk_un (by decide), q6, g3.1 90 (by decide), e3]
theorem dk_IC_no {z : ds_St} {t t' : Nat} {D : Nat → Nat → Nat} {K : Nat → Nat} {U : Nat → Nat → Nat} {u : Nat} {M : Nat → Nat → Nat} {m f : Nat} {B : Nat → Nat} (w : Int32) (h : dk_IC z t t' D K U u M m f B) : dk_IC (ds_rowI z 0 (upd (z.1 0) 10 w)) t t' D K U u M m f B := dk_IC_q (v := w) h (fun p x y => ds_rowI_ne _ _ (by omega)) (fun j hj => rfl)
theorem dk_gC_no (z : ds_St) (w : Int32) : dk_gC z (ds_rowI z 0 (upd (z.1 0) 10 w)) w := ⟨fun p hp => ds_rowI_ne _ _ (by omega), ds_rowI_self _ _ _⟩
theorem dk_IM_no {z : ds_St} {D : Nat → Nat → Nat} {K : Nat → Nat} {U : Nat → Nat → Nat} {u : Nat} {M : Nat → Nat → Nat} {m f : Nat} {B : Nat → Nat} (w : Int32) (h : dk_IM z D K U u M m f B) : dk_IM (ds_rowI (dk_zg z) 90 (upd ((dk_zg z).1 90) 11 w)) D K U u M m f B := dk_IM_q h (fun p x y => by rw [ds_rowI_ne _ _ (by omega), dk_zg_ne z (by omega)]) (fun k hk => by rw [ds_rowI_self, pk_un (by omega), dk_zg_k z (by omega) (by omega)])
theorem dk_gM_no (z : ds_St) (w : Int32) : dk_gM z (ds_rowI (dk_zg z) 90 (upd ((dk_zg z).1 90) 11 w)) w := by
  refine ⟨fun p hp => by rw [ds_rowI_ne _ _ (by omega), dk_zg_ne z (by omega)], by rw [ds_rowI_self, pk_us], by rw [ds_rowI_self, pk_un (by decide), dk_zg_k z (by decide) (by decide)], by rw [ds_rowI_self, pk_un (by decide), dk_zg_k z (by decide) (by decide)], fun j hj => rfl⟩
theorem dk_IM_zg {z : ds_St} {D : Nat → Nat → Nat} {K : Nat → Nat} {U : Nat → Nat → Nat} {u : Nat} {M : Nat → Nat → Nat} {m f : Nat} {B : Nat → Nat} (h : dk_IM z D K U u M m f B) : dk_IM (dk_zg z) D K U u M m f B := dk_IM_q h (fun p x y => dk_zg_ne z (by omega)) (fun k hk => dk_zg_k z (by omega) (by omega))
/-- behind good(): what is left of the model's frame -/
theorem dk_gM_ok {z z2 : ds_St} (h1 : ∀ p, p < 90 → z2.1 p = z.1 p) (h2 : ∀ k, k = 9 ∨ k = 10 ∨ k = 11 → z2.1 90 k = (dk_zg z).1 90 k) (h3 : ∀ j, j < 2 → z2.2.2 j = z.2.2 j) : dk_gM z z2 (nI 0) := by
  refine ⟨h1, ?_, ?_, ?_, h3⟩
  · rw [h2 11 (by decide)]; unfold dk_zg; rw [ds_rowI_self, pk_us]
  · rw [h2 9 (by decide), dk_zg_k z (by decide) (by decide)]
  · rw [h2 10 (by decide), dk_zg_k z (by decide) (by decide)]
theorem s_isNot (d : Nat) (x : Int32) (z : ds_St) : ds_call (d + 1) j_Mod_isNot [.ref 90, .int x] z = some (some (.int (nI 0)), ds_rowI z 90 (upd (z.1 90) 11 x)) := by
  rw [c_Mod_isNot, b_Mod_isNot_0]
  simp (disch := first | assumption | omega | rfl | decide) only [ds_cI, ds_cV, ds_cL, ds_cR, ds_nn, ds_isK_t, ds_isA_t, ds_chk_t, ds_chkN, ds_nz_t, ds_nzN, ds_isB_t, ds_isB_bo, ↓dl_m1, ↓dl_m2, dl_0, dl_1, dl_2, dl_3, dl_4, dl_5, dl_6, dl_7, dl_8, dl_9, dl_10, dl_11, dl_12, dl_13, dl_14, dl_15, dl_16, dl_20, dl_24, dl_31, dl_50, dl_57, dl_67, dl_68, dl_74, dl_75, dl_79, dl_80, dl_99, dl_100, dl_200, dl_210, dl_224, dl_255, dl_289, dl_900, dl_1000, dl_1728, dl_65536, dl_65537, nI_add, pk_mul, pk_sub, pk_div, pk_rem, ds_rem2, nI_clamp, nI_leI, nI_ltI, nI_eq, ds_m1_eq, ds_eq_m1, ds_m2_eq, ds_eq_m2, ds_m1_le, ds_le_m1, ds_m1_lt, ds_lt_m1, ds_in_N, ds_bo0, ds_bo1, if_pos, if_neg, Nat.not_le, Nat.not_lt, not_true_eq_false, not_false_eq_true, if_true, if_false, ne_eq, Option.some.injEq, Prod.mk.injEq, Value.int.injEq, true_and, and_true, and_self, ite_self, Bool.not_eq_true, Bool.not_eq_false, Bool.true_eq_false, Bool.false_eq_true, reduceCtorEq, Nat.zero_add, Nat.reduceAdd, Nat.reduceMul, Nat.reduceSub, ds_setI_row, ds_setL_row, ds_rowI_self, ds_rowI_ne, ds_rowI_2, ds_rowI_rowI, ds_setS_1, ds_setS_21, ds_setS_self, ds_setS_ne, pk_us, pk_un]
theorem ds_isB_0 {a : Option ds_Out} : ds_isB (nI 0) a = a := ds_isB_t (.inl rfl)
/-- the class's parts that change with an act -/
theorem dk_IC_mk {z z1 : ds_St} {t t' : Nat} {D : Nat → Nat → Nat} {K K' : Nat → Nat} {U U' : Nat → Nat → Nat} {u u' : Nat} {M M' : Nat → Nat → Nat} {m m' f : Nat} {B : Nat → Nat} (h : dk_IC z t t' D K U u M m f B) (hf : ∀ p, 0 < p → p < 61 → z1.1 p = z.1 p) (hr : ∀ j, j < 2 → z1.2.2 j = z.2.2 j) (hd : dk_deC z1 K') (ha : dk_acC z1 U' u') (hi : dk_imC z1 M' m') : dk_IC z1 t t' D K' U' u' M' m' f B := by
  obtain ⟨h1, h2, h3, h4, h5, h6⟩ := h
  unfold dk_IC
  rw [hr 0 (by decide), hr 1 (by decide), hf 1 (by decide) (by decide), hf 2 (by decide) (by decide)]
  exact ⟨h1, dk_tC_eq h2 hf, hd, ha, hi, h6⟩
theorem dk_acC_eq {z z1 : ds_St} {U : Nat → Nat → Nat} {u : Nat} (h : dk_acC z U u) (h0 : z1.1 80 = z.1 80) (h1 : z1.1 81 = z.1 81) : dk_acC z1 U u := by unfold dk_acC; rw [h0, h1]; exact h
theorem dk_imC_eq {z z1 : ds_St} {U : Nat → Nat → Nat} {u : Nat} (h : dk_imC z U u) (h0 : z1.1 82 = z.1 82) (h1 : z1.1 83 = z.1 83) : dk_imC z1 U u := by unfold dk_imC; rw [h0, h1]; exact h
theorem dk_deC_eq {z z1 : ds_St} {K : Nat → Nat} (h : dk_deC z K) (h0 : z1.1 61 = z.1 61) (h1 : z1.1 62 = z.1 62) : dk_deC z1 K := by unfold dk_deC; rw [h0, h1]; exact h
theorem dk_IM_mk {z z1 : ds_St} {D : Nat → Nat → Nat} {K K' : Nat → Nat} {U U' : Nat → Nat → Nat} {u u' : Nat} {M M' : Nat → Nat → Nat} {m m' f : Nat} {B : Nat → Nat} (h : dk_IM z D K U u M m f B) (h93 : z1.1 93 = z.1 93) (h91 : z1.1 91 = z.1 91) (q2 : ∀ k, k = 2 ∨ k = 14 → z1.1 90 k = z.1 90 k) (hd : dk_rwM (z1.1 95) 0 K') (ha : dk_acM z1 U' u') (hi : dk_imM z1 M' m') : dk_IM z1 D K' U' u' M' m' f B := by
  obtain ⟨h1, h2, h3, h4, h5, h6⟩ := h
  unfold dk_IM
  rw [q2 14 (by decide), q2 2 (by decide), h91]
  exact ⟨dk_tM_eq h1 h93, h2, hd, ha, hi, h6⟩
theorem dk_acM_eq {z z1 : ds_St} {U : Nat → Nat → Nat} {u : Nat} (h : dk_acM z U u) (h0 : z1.1 90 20 = z.1 90 20) (h1 : z1.1 96 = z.1 96) : dk_acM z1 U u := by unfold dk_acM; rw [h0, h1]; exact h
theorem dk_imM_eq {z z1 : ds_St} {U : Nat → Nat → Nat} {u : Nat} (h : dk_imM z U u) (h0 : z1.1 90 21 = z.1 90 21) (h1 : z1.1 97 = z.1 97) : dk_imM z1 U u := by unfold dk_imM; rw [h0, h1]; exact h
