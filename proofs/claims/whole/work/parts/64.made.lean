/-! moves made, by numbers -/
def dk_inv (a c q : Nat) : Nat := ((List.range c).find? (fun p => ds_mv a p c == q)).getD 0
theorem dk_inv_ok : ∀ a, a < 14 → ∀ c, c < 13 → ∀ q, q < c → dk_inv a c q < c ∧ ds_mv a (dk_inv a c q) c = q ∧ dk_inv a c (ds_mv a q c) = q ∧ ds_mv a q c < c := by decide +kernel
def dk_mk (C : Nat → Nat) (a c q : Nat) : Nat := if q < c then C (dk_inv a c q) else C q
theorem ds_mkF_at {f : Nat → Int32} {a n : Nat} (ha : a < 14) (hn : n < 13) : ∀ (m k : Nat) (g : Nat → Int32) (q : Nat), k + m = n → q < n → ds_mkF f a n g k m q = if k ≤ dk_inv a n q then f (dk_inv a n q) else g q := by
  intro m
  induction m with
  | zero =>
    intro k g q hk hq
    have := (dk_inv_ok a ha n hn q hq).1
    rw [if_neg (by omega)]
    rfl
  | succ m ih =>
    intro k g q hk hq
    simp only [ds_mkF]
    rw [ih (k + 1) _ q (by omega) hq]
    obtain ⟨h1, h2, h3, h4⟩ := dk_inv_ok a ha n hn q hq
    obtain ⟨g1, g2, g3, g4⟩ := dk_inv_ok a ha n hn k (by omega)
    by_cases h : k + 1 ≤ dk_inv a n q
    · rw [if_pos h, if_pos (by omega)]
    · rw [if_neg h]
      by_cases h5 : dk_inv a n q = k
      · rw [if_pos (by omega)]
        have : ds_mv a k n = q := by rw [← h5]; exact h2
        rw [this, h5, pk_us]
      · rw [if_neg (by omega), pk_un]
        intro h6
        rw [h6] at h5
        exact h5 g3
theorem dk_mk_inj {C : Nat → Nat} {a c n : Nat} (ha : a < 14) (hc : c < 13) (h : dk_inj C c n) : dk_inj (dk_mk C a c) c n := by
  refine ⟨fun p hp => ?_, fun p q hp hq e => ?_⟩
  · unfold dk_mk
    rw [if_pos hp]
    exact h.1 _ (dk_inv_ok a ha c hc p hp).1
  · unfold dk_mk at e
    rw [if_pos hp, if_pos hq] at e
    obtain ⟨h1, h2, _⟩ := dk_inv_ok a ha c hc p hp
    obtain ⟨g1, g2, _⟩ := dk_inv_ok a ha c hc q hq
    have := h.2 _ _ h1 g1 e
    rw [← h2, ← g2, this]
theorem dk_dk_congr {z : ds_St} {e c n : Nat} {C C' : Nat → Nat} (h : dk_dk z e C c n) (hC : ∀ p, p < c → C p = C' p) : dk_dk z e C' c n := by
  obtain ⟨h1, h2, h3, h4, h5⟩ := h
  refine ⟨h1, h2, h3, fun p hp => by rw [← hC p hp]; exact h4 p hp, fun p hp => by rw [← hC p hp]; exact h5.1 p hp, fun p q hp hq e => ?_⟩
  rw [← hC p hp, ← hC q hq] at e
  exact h5.2 p q hp hq e
theorem s_mkC (d e a c n : Nat) (z : ds_St) (C : Nat → Nat) (ha : a < 14) (h : dk_dk z e C c n) : ∃ z', ds_call (d + 3) j_Deck_makeMove [.ref e, .int (nI a)] z = some (none, z') ∧ dk_dk z' e (dk_mk C a c) c n ∧ dk_fr (e + 1) (e + 3) z z' ∧ z'.2 = z.2 := by
  obtain ⟨he, h2, h3, h4, h5⟩ := h
  have hx : ∀ q, q < c → ds_mkF (z.1 (e + 1)) a c (z.1 (e + 1)) 0 c q = nI (dk_mk C a c q) := by
    intro q hq
    rw [ds_mkF_at ha (by omega) c 0 _ q (by omega) hq, if_pos (Nat.zero_le _), h4 _ (dk_inv_ok a ha c (by omega) q hq).1]
    unfold dk_mk
    rw [if_pos hq]
  rcases he with rfl | rfl
  · refine ⟨_, s_makeMove_61 d a c z ha (by omega) h2, ⟨.inl rfl, ?_, h3, ?_, dk_mk_inj ha (by omega) h5⟩, dk_fr_row _ (dk_fr_row _ (dk_fr_refl _ _ _) (by decide) (by decide)) (by decide) (by decide), rfl⟩
    · rw [ds_rowI_ne _ _ (by decide), ds_rowI_ne _ _ (by decide)]; exact h2
    · intro p hp
      have := hx p hp
      simp only [Nat.reduceAdd] at this ⊢
      rw [ds_rowI_self]; exact this
  · refine ⟨_, s_makeMove_64 d a c z ha (by omega) h2, ⟨.inr rfl, ?_, h3, ?_, dk_mk_inj ha (by omega) h5⟩, dk_fr_row _ (dk_fr_row _ (dk_fr_refl _ _ _) (by decide) (by decide)) (by decide) (by decide), rfl⟩
    · rw [ds_rowI_ne _ _ (by decide), ds_rowI_ne _ _ (by decide)]; exact h2
    · intro p hp
      have := hx p hp
      simp only [Nat.reduceAdd] at this ⊢
      rw [ds_rowI_self]; exact this
theorem s_mkM (d x a c n : Nat) (z : ds_St) (C : Nat → Nat) (ha : a < 14) (h : dk_dm z x C c n) : ∃ z', ds_call (d + 2) j_Mod_makes [.ref 90, .ref x, .int (nI a)] z = some (none, z') ∧ dk_dm z' x (dk_mk C a c) c n ∧ (∀ p, p ≠ x → p ≠ 98 → z'.1 p = z.1 p) ∧ (∀ k, 12 ≤ k → z'.1 x k = z.1 x k) ∧ z'.2 = z.2 := by
  obtain ⟨hx, h2, h3, h4, h5⟩ := h
  have e1 : ∀ q, q < c → ds_mkF (z.1 x) a c (z.1 x) 0 c q = nI (dk_mk C a c q) := by
    intro q hq
    rw [ds_mkF_at ha (by omega) c 0 _ q (by omega) hq, if_pos (Nat.zero_le _), h4 _ (dk_inv_ok a ha c (by omega) q hq).1]
    unfold dk_mk
    rw [if_pos hq]
  refine ⟨_, s_makes d a c x z (dk_Kx hx) (dk_Nx hx) (by omega) ha (by omega) h2, ⟨hx, ?_, h3, ?_, dk_mk_inj ha (by omega) h5⟩, ?_, ?_, rfl⟩
  · rw [ds_rowI_self, ds_mkF_out ha (by omega) c 0 _ 12 (by omega) (by omega)]; exact h2
  · intro p hp
    rw [ds_rowI_self]; exact e1 p hp
  · intro p h1 h2
    rw [ds_rowI_ne _ _ h1, ds_rowI_ne _ _ h2]
  · intro k hk
    rw [ds_rowI_self, ds_mkF_out ha (by omega) c 0 _ k (by omega) (by omega)]
theorem dk_dk_fr {a b e c n : Nat} {z z' : ds_St} {C : Nat → Nat} (h : dk_dk z e C c n) (hf : dk_fr a b z z') (hb : e + 1 < a ∨ b ≤ e) : dk_dk z' e C c n := by
  obtain ⟨h1, h2, h3, h4, h5⟩ := h
  exact ⟨h1, by rw [hf.1 e (by omega)]; exact h2, h3, by rw [hf.1 (e + 1) (by omega)]; exact h4, h5⟩
theorem dk_HC_fr {z z' : ds_St} {t : Nat} {D : Nat → Nat → Nat} {K : Nat → Nat} (h : dk_HC z t D K) (hf : dk_fr 64 80 z z') : dk_HC z' t D K := by
  obtain ⟨h1, h2, h3, h4, h5⟩ := h
  exact ⟨by rw [hf.2 0 (by decide)]; exact h1, dk_tC_fr h2 hf (by decide), by rw [hf.1 61 (by decide)]; exact h3, by rw [hf.1 62 (by decide)]; exact h4, by rw [hf.1 61 (by decide)]; exact h5⟩
theorem dk_HM_fm {z z' : ds_St} {D : Nat → Nat → Nat} {K : Nat → Nat} (h : dk_HM z D K) (hf : dk_fm z z') : dk_HM z' D K := dk_HM_q h (hf.1 93 (by decide) (by decide)) (hf.1 95 (by decide) (by decide)) (hf.2.1 14 (by decide))
theorem dk_fm_of {z z' : ds_St} {x : Nat} (hx : 98 ≤ x) (h : ∀ p, p ≠ x → p ≠ 98 → z'.1 p = z.1 p) (h2 : z'.2 = z.2) : dk_fm z z' := ⟨fun p a b => h p (by omega) (by omega), fun k a => by rw [h 90 (by omega) (by omega)], fun j a => by rw [h2]⟩
/-- the plan's first k moves, from C on -/
def dk_add (D : Nat → Nat → Nat) (C : Nat → Nat) (c : Nat) : Nat → Nat → Nat
  | 0 => C
  | k + 1 => dk_mk (dk_add D C c k) (D 5 k) c
theorem s_addPlan (d t k : Nat) (z : ds_St) (D : Nat → Nat → Nat) (K C : Nat → Nat) (hC : dk_HC z t D K) (hD : dk_ok D) (h : dk_dk z 64 C (D 0 4) (D 0 4)) (hk : k ≤ D 0 5) : ∃ z', ds_call (d + 4) j_Sea_addPlan [.ref 0, .int (nI k)] z = some (none, z') ∧ dk_dk z' 64 (dk_add D C (D 0 4) k) (D 0 4) (D 0 4) ∧ dk_fr 64 67 z z' := by
  have go : ∀ m j z, j + m = k → dk_HC z t D K → dk_dk z 64 (dk_add D C (D 0 4) j) (D 0 4) (D 0 4) → ∃ z', ds_Rw ds_c_Sea_addPlan ds_u_Sea_addPlan (ds_call (d + 3)) 2 [some (.ref 0), some (.int (nI k)), some (.int (nI j))] [] z = some (none, z') ∧ dk_dk z' 64 (dk_add D C (D 0 4) k) (D 0 4) (D 0 4) ∧ dk_fr 64 67 z z' := by
    intro m
    induction m with
    | zero =>
      intro j z hj hC h
      have : j = k := by omega
      subst this
      refine ⟨z, ?_, h, dk_fr_refl _ _ _⟩
      have := hD.2.2.2.2.2.1
      rw [b_Sea_addPlan_2]
      simp (disch := first | assumption | omega | rfl | decide) only [ds_cI, ds_cV, ds_cL, ds_cR, ds_nn, ds_isK_t, ds_isA_t, ds_chk_t, ds_chkN, ds_nz_t, ds_nzN, ds_isB_t, ds_isB_bo, ↓dl_m1, ↓dl_m2, dl_0, dl_1, dl_2, dl_3, dl_4, dl_5, dl_6, dl_7, dl_8, dl_9, dl_10, dl_11, dl_12, dl_13, dl_14, dl_15, dl_16, dl_20, dl_24, dl_31, dl_50, dl_57, dl_67, dl_68, dl_74, dl_75, dl_79, dl_80, dl_99, dl_100, dl_200, dl_210, dl_224, dl_255, dl_289, dl_900, dl_1000, dl_1728, dl_65536, dl_65537, nI_add, pk_mul, pk_sub, pk_div, pk_rem, ds_rem2, nI_clamp, nI_leI, nI_ltI, nI_eq, ds_m1_eq, ds_eq_m1, ds_m2_eq, ds_eq_m2, ds_m1_le, ds_le_m1, ds_m1_lt, ds_lt_m1, ds_in_N, ds_bo0, ds_bo1, if_pos, if_neg, Nat.not_le, Nat.not_lt, not_true_eq_false, not_false_eq_true, if_true, if_false, ne_eq, Option.some.injEq, Prod.mk.injEq, Value.int.injEq, true_and, and_true, and_self, ite_self, Bool.not_eq_true, Bool.not_eq_false, Bool.true_eq_false, Bool.false_eq_true, reduceCtorEq, Nat.zero_add, Nat.reduceAdd, Nat.reduceMul, Nat.reduceSub, ds_setI_row, ds_setL_row, ds_rowI_self, ds_rowI_ne, ds_rowI_2, ds_rowI_rowI, ds_setS_1, ds_setS_21, ds_setS_self, ds_setS_ne, pk_us, pk_un]
    | succ m ih =>
      intro j z hj hC h
      have ht := hC.2.1.1
      have hKt := ds_Kt ht
      have r0 := hC.1
      have o5 := hD.2.2.2.2.2.1
      have pj := hC.2.1.2.2.2.1 j (by omega)
      have aj := hD.2.2.2.2.2.2.2.2.2.1 j (by omega)
      obtain ⟨z1, s1, s2, s3, s4⟩ := s_mkC d 64 (D 5 j) (D 0 4) (D 0 4) z _ aj h
      obtain ⟨z2, q1, q2, q3⟩ := ih (j + 1) z1 (by omega) (dk_HC_fr hC (dk_fr_mono s3 (by decide) (by decide))) s2
      refine ⟨z2, ?_, q2, dk_fr_trans (dk_fr_mono s3 (by decide) (by decide)) q3⟩
      rw [b_Sea_addPlan_2]
      simp (disch := first | assumption | omega | rfl | decide) only [ds_cI, ds_cV, ds_cL, ds_cR, ds_nn, ds_isK_t, ds_isA_t, ds_chk_t, ds_chkN, ds_nz_t, ds_nzN, ds_isB_t, ds_isB_bo, ↓dl_m1, ↓dl_m2, dl_0, dl_1, dl_2, dl_3, dl_4, dl_5, dl_6, dl_7, dl_8, dl_9, dl_10, dl_11, dl_12, dl_13, dl_14, dl_15, dl_16, dl_20, dl_24, dl_31, dl_50, dl_57, dl_67, dl_68, dl_74, dl_75, dl_79, dl_80, dl_99, dl_100, dl_200, dl_210, dl_224, dl_255, dl_289, dl_900, dl_1000, dl_1728, dl_65536, dl_65537, nI_add, pk_mul, pk_sub, pk_div, pk_rem, ds_rem2, nI_clamp, nI_leI, nI_ltI, nI_eq, ds_m1_eq, ds_eq_m1, ds_m2_eq, ds_eq_m2, ds_m1_le, ds_le_m1, ds_m1_lt, ds_lt_m1, ds_in_N, ds_bo0, ds_bo1, if_pos, if_neg, Nat.not_le, Nat.not_lt, not_true_eq_false, not_false_eq_true, if_true, if_false, ne_eq, Option.some.injEq, Prod.mk.injEq, Value.int.injEq, true_and, and_true, and_self, ite_self, Bool.not_eq_true, Bool.not_eq_false, Bool.true_eq_false, Bool.false_eq_true, reduceCtorEq, Nat.zero_add, Nat.reduceAdd, Nat.reduceMul, Nat.reduceSub, ds_setI_row, ds_setL_row, ds_rowI_self, ds_rowI_ne, ds_rowI_2, ds_rowI_rowI, ds_setS_1, ds_setS_21, ds_setS_self, ds_setS_ne, pk_us, pk_un, r0, ds_Rt10, s_look5, pj, s1, q1]
  obtain ⟨z', q1, q2, q3⟩ := go k 0 z (by omega) hC h
  refine ⟨z', ?_, q2, q3⟩
  rw [c_Sea_addPlan, b_Sea_addPlan_0]
  simp (disch := first | assumption | omega | rfl | decide) only [ds_cI, ds_cV, ds_cL, ds_cR, ds_nn, ds_isK_t, ds_isA_t, ds_chk_t, ds_chkN, ds_nz_t, ds_nzN, ds_isB_t, ds_isB_bo, ↓dl_m1, ↓dl_m2, dl_0, dl_1, dl_2, dl_3, dl_4, dl_5, dl_6, dl_7, dl_8, dl_9, dl_10, dl_11, dl_12, dl_13, dl_14, dl_15, dl_16, dl_20, dl_24, dl_31, dl_50, dl_57, dl_67, dl_68, dl_74, dl_75, dl_79, dl_80, dl_99, dl_100, dl_200, dl_210, dl_224, dl_255, dl_289, dl_900, dl_1000, dl_1728, dl_65536, dl_65537, nI_add, pk_mul, pk_sub, pk_div, pk_rem, ds_rem2, nI_clamp, nI_leI, nI_ltI, nI_eq, ds_m1_eq, ds_eq_m1, ds_m2_eq, ds_eq_m2, ds_m1_le, ds_le_m1, ds_m1_lt, ds_lt_m1, ds_in_N, ds_bo0, ds_bo1, if_pos, if_neg, Nat.not_le, Nat.not_lt, not_true_eq_false, not_false_eq_true, if_true, if_false, ne_eq, Option.some.injEq, Prod.mk.injEq, Value.int.injEq, true_and, and_true, and_self, ite_self, Bool.not_eq_true, Bool.not_eq_false, Bool.true_eq_false, Bool.false_eq_true, reduceCtorEq, Nat.zero_add, Nat.reduceAdd, Nat.reduceMul, Nat.reduceSub, ds_setI_row, ds_setL_row, ds_rowI_self, ds_rowI_ne, ds_rowI_2, ds_rowI_rowI, ds_setS_1, ds_setS_21, ds_setS_self, ds_setS_ne, pk_us, pk_un, q1]
theorem dk_id_inj (n : Nat) : dk_inj (fun p => p) n n := ⟨fun p hp => hp, fun p q _ _ e => e⟩
def dk_pl (D : Nat → Nat → Nat) (k : Nat) : Nat → Nat := dk_add D (fun p => p) (D 0 4) k
theorem s_order (d c n : Nat) (z : ds_St) (hc : c ≤ n) (hn : n ≤ 12) : ∃ z', ds_call (d + 1) j_Deck_order [.ref 64, .int (nI c)] z = some (none, z') ∧ dk_dk z' 64 (fun p => p) c n ∧ dk_fr 64 67 z z' := by
  refine ⟨_, s_order_64 d (nI c) z, ⟨.inr rfl, ?_, by omega, ?_, ⟨fun p hp => Nat.lt_of_lt_of_le hp hc, fun p q _ _ e => e⟩⟩, dk_fr_row _ (dk_fr_row _ (dk_fr_refl _ _ _) (by decide) (by decide)) (by decide) (by decide)⟩
  · rw [ds_rowI_ne _ _ (by decide), ds_rowI_self, pk_un (by decide), pk_us]
  · intro p hp
    simp only [Nat.reduceAdd]
    rw [ds_rowI_self, if_pos (by omega)]
theorem s_makePlan (d t k : Nat) (z : ds_St) (D : Nat → Nat → Nat) (K : Nat → Nat) (hC : dk_HC z t D K) (hD : dk_ok D) (hk : k ≤ D 0 5) : ∃ z', ds_call (d + 5) j_Sea_makePlan [.ref 0, .int (nI k)] z = some (none, z') ∧ dk_dk z' 64 (dk_pl D k) (D 0 4) (D 0 4) ∧ dk_fr 64 67 z z' := by
  have n12 := hD.2.2.2.2.1.2
  obtain ⟨z1, s1, s2, s3⟩ := s_order (d + 3) (D 0 4) (D 0 4) z (Nat.le_refl _) n12
  obtain ⟨z2, q1, q2, q3⟩ := s_addPlan d t k z1 D K _ (dk_HC_fr hC (dk_fr_mono s3 (by decide) (by decide))) hD s2 hk
  have r0 := hC.1
  have hKt := ds_Kt hC.2.1.1
  have t4 := hC.2.1.2.1.2.2.2.2.1
  refine ⟨z2, ?_, q2, dk_fr_trans s3 q3⟩
  rw [c_Sea_makePlan, b_Sea_makePlan_0]
  simp (disch := first | assumption | omega | rfl | decide) only [ds_cI, ds_cV, ds_cL, ds_cR, ds_nn, ds_isK_t, ds_isA_t, ds_chk_t, ds_chkN, ds_nz_t, ds_nzN, ds_isB_t, ds_isB_bo, ↓dl_m1, ↓dl_m2, dl_0, dl_1, dl_2, dl_3, dl_4, dl_5, dl_6, dl_7, dl_8, dl_9, dl_10, dl_11, dl_12, dl_13, dl_14, dl_15, dl_16, dl_20, dl_24, dl_31, dl_50, dl_57, dl_67, dl_68, dl_74, dl_75, dl_79, dl_80, dl_99, dl_100, dl_200, dl_210, dl_224, dl_255, dl_289, dl_900, dl_1000, dl_1728, dl_65536, dl_65537, nI_add, pk_mul, pk_sub, pk_div, pk_rem, ds_rem2, nI_clamp, nI_leI, nI_ltI, nI_eq, ds_m1_eq, ds_eq_m1, ds_m2_eq, ds_eq_m2, ds_m1_le, ds_le_m1, ds_m1_lt, ds_lt_m1, ds_in_N, ds_bo0, ds_bo1, if_pos, if_neg, Nat.not_le, Nat.not_lt, not_true_eq_false, not_false_eq_true, if_true, if_false, ne_eq, Option.some.injEq, Prod.mk.injEq, Value.int.injEq, true_and, and_true, and_self, ite_self, Bool.not_eq_true, Bool.not_eq_false, Bool.true_eq_false, Bool.false_eq_true, reduceCtorEq, Nat.zero_add, Nat.reduceAdd, Nat.reduceMul, Nat.reduceSub, ds_setI_row, ds_setL_row, ds_rowI_self, ds_rowI_ne, ds_rowI_2, ds_rowI_rowI, ds_setS_1, ds_setS_21, ds_setS_self, ds_setS_ne, pk_us, pk_un, r0, t4, s1, q1]
theorem s_layPlan (d k : Nat) (z : ds_St) (D : Nat → Nat → Nat) (K : Nat → Nat) (hM : dk_HM z D K) (hD : dk_ok D) (hk : k ≤ D 0 5) : ∃ z', ds_call (d + 3) j_Mod_layPlan [.ref 90, .int (nI k)] z = some (none, z') ∧ dk_dm z' 100 (dk_pl D k) (D 0 4) (D 0 4) ∧ dk_fm z z' := by
  have n12 := hD.2.2.2.2.1.2
  have m4 := hM.1.1.2.2.2.2.1
  have go : ∀ m j z, j + m = k → dk_HM z D K → dk_dm z 100 (dk_pl D j) (D 0 4) (D 0 4) → ∃ z', ds_Rw ds_c_Mod_layPlan ds_u_Mod_layPlan (ds_call (d + 2)) 10 [some (.ref 90), some (.int (nI k)), some (.int (nI j))] [] z = some (none, z') ∧ dk_dm z' 100 (dk_pl D k) (D 0 4) (D 0 4) ∧ dk_fm z z' := by
    intro m
    induction m with
    | zero =>
      intro j z hj hM h
      have : j = k := by omega
      subst this
      refine ⟨z, ?_, h, dk_fm_refl _⟩
      have := hD.2.2.2.2.2.1
      rw [b_Mod_layPlan_10]
      simp (disch := first | assumption | omega | rfl | decide) only [ds_cI, ds_cV, ds_cL, ds_cR, ds_nn, ds_isK_t, ds_isA_t, ds_chk_t, ds_chkN, ds_nz_t, ds_nzN, ds_isB_t, ds_isB_bo, ↓dl_m1, ↓dl_m2, dl_0, dl_1, dl_2, dl_3, dl_4, dl_5, dl_6, dl_7, dl_8, dl_9, dl_10, dl_11, dl_12, dl_13, dl_14, dl_15, dl_16, dl_20, dl_24, dl_31, dl_50, dl_57, dl_67, dl_68, dl_74, dl_75, dl_79, dl_80, dl_99, dl_100, dl_200, dl_210, dl_224, dl_255, dl_289, dl_900, dl_1000, dl_1728, dl_65536, dl_65537, nI_add, pk_mul, pk_sub, pk_div, pk_rem, ds_rem2, nI_clamp, nI_leI, nI_ltI, nI_eq, ds_m1_eq, ds_eq_m1, ds_m2_eq, ds_eq_m2, ds_m1_le, ds_le_m1, ds_m1_lt, ds_lt_m1, ds_in_N, ds_bo0, ds_bo1, if_pos, if_neg, Nat.not_le, Nat.not_lt, not_true_eq_false, not_false_eq_true, if_true, if_false, ne_eq, Option.some.injEq, Prod.mk.injEq, Value.int.injEq, true_and, and_true, and_self, ite_self, Bool.not_eq_true, Bool.not_eq_false, Bool.true_eq_false, Bool.false_eq_true, reduceCtorEq, Nat.zero_add, Nat.reduceAdd, Nat.reduceMul, Nat.reduceSub, ds_setI_row, ds_setL_row, ds_rowI_self, ds_rowI_ne, ds_rowI_2, ds_rowI_rowI, ds_setS_1, ds_setS_21, ds_setS_self, ds_setS_ne, pk_us, pk_un]
    | succ m ih =>
      intro j z hj hM h
      have o5 := hD.2.2.2.2.2.1
      have pj := hM.1.2.2.1 j (by omega)
      have aj := hD.2.2.2.2.2.2.2.2.2.1 j (by omega)
      obtain ⟨z1, s1, s2, s3, s4, s5⟩ := s_mkM d 100 (D 5 j) (D 0 4) (D 0 4) z _ aj h
      have f1 := dk_fm_of (by decide) s3 s5
      obtain ⟨z2, q1, q2, q3⟩ := ih (j + 1) z1 (by omega) (dk_HM_fm hM f1) s2
      refine ⟨z2, ?_, q2, dk_fm_trans f1 q3⟩
      rw [b_Mod_layPlan_10]
      simp (disch := first | assumption | omega | rfl | decide) only [ds_cI, ds_cV, ds_cL, ds_cR, ds_nn, ds_isK_t, ds_isA_t, ds_chk_t, ds_chkN, ds_nz_t, ds_nzN, ds_isB_t, ds_isB_bo, ↓dl_m1, ↓dl_m2, dl_0, dl_1, dl_2, dl_3, dl_4, dl_5, dl_6, dl_7, dl_8, dl_9, dl_10, dl_11, dl_12, dl_13, dl_14, dl_15, dl_16, dl_20, dl_24, dl_31, dl_50, dl_57, dl_67, dl_68, dl_74, dl_75, dl_79, dl_80, dl_99, dl_100, dl_200, dl_210, dl_224, dl_255, dl_289, dl_900, dl_1000, dl_1728, dl_65536, dl_65537, nI_add, pk_mul, pk_sub, pk_div, pk_rem, ds_rem2, nI_clamp, nI_leI, nI_ltI, nI_eq, ds_m1_eq, ds_eq_m1, ds_m2_eq, ds_eq_m2, ds_m1_le, ds_le_m1, ds_m1_lt, ds_lt_m1, ds_in_N, ds_bo0, ds_bo1, if_pos, if_neg, Nat.not_le, Nat.not_lt, not_true_eq_false, not_false_eq_true, if_true, if_false, ne_eq, Option.some.injEq, Prod.mk.injEq, Value.int.injEq, true_and, and_true, and_self, ite_self, Bool.not_eq_true, Bool.not_eq_false, Bool.true_eq_false, Bool.false_eq_true, reduceCtorEq, Nat.zero_add, Nat.reduceAdd, Nat.reduceMul, Nat.reduceSub, ds_setI_row, ds_setL_row, ds_rowI_self, ds_rowI_ne, ds_rowI_2, ds_rowI_rowI, ds_setS_1, ds_setS_21, ds_setS_self, ds_setS_ne, pk_us, pk_un, pj, s1, q1]
  have s1 := s_layDeck (d + 1) (D 0 4) 100 z rfl rfl (by decide) n12 m4
  have f1 : dk_fm z (ds_rowI z 100 (upd (upd (fun j => if j < 14 then (if j < D 0 4 then nI j else 0) else z.1 100 j) 12 (nI (D 0 4))) 13 0)) := dk_fm_row _ (dk_fm_refl z) (by decide)
  obtain ⟨z', q1, q2, q3⟩ := go k 0 _ (by omega) (dk_HM_fm hM f1) ⟨.inr (.inl rfl), by rw [ds_rowI_self, pk_un (by decide), pk_us], n12, fun p hp => by rw [ds_rowI_self, pk_un (by omega), pk_un (by omega), if_pos (by omega), if_pos hp]; rfl, dk_id_inj _⟩
  refine ⟨z', ?_, q2, dk_fm_trans f1 q3⟩
  rw [c_Mod_layPlan, b_Mod_layPlan_0, ds_cV_t s1]
  exact (congrArg ds_nn q1).trans rfl
