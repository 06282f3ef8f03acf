/-! the model's search from its start; the ways -/
theorem s_mseek (d c st T kd kk : Nat) (V : Nat → Prop) (N : Nat → Nat → Nat) (G : Nat → Bool) (Pm : ds_St → Prop) (hP : ∀ z z', Pm z → dk_m3 z z' → Pm z') (c2 : 2 ≤ c) (c12 : c ≤ 12) (h0 : V st) (hV : ∀ s, V s → s < 1728) (hN : ∀ s m, V s → m < c + 2 → V (N s m)) (hmm : ∀ z, Pm z → ds_call (d + 5) j_Mod_movesOf [.ref 90, .ref 95] z = some (some (.int (nI (c + 2))), z)) (hmv : ∀ z s m, Pm z → V s → m < c + 2 → ds_call (d + 5) j_Mod_moved [.ref 90, .int (nI s), .int (nI m)] z = some (some (.int (nI (N s m))), z)) (hgo : ∀ z s, Pm z → V s → ds_call (d + 5) j_Mod_isGoal [.ref 90, .int (nI s)] z = some (some (.int (ds_bo (G s))), z)) (b : Bool) (hT : dk_pre N (c + 2) st G T ∧ ((b = true ∧ T < (dk_bf N (c + 2) st T).2.2.2 ∧ G ((dk_bf N (c + 2) st T).1 T) = true) ∨ (b = false ∧ (dk_bf N (c + 2) st T).2.2.2 ≤ T))) (z : ds_St) (hz : Pm (ds_rowI z 90 (upd (upd (z.1 90) 36 (nI kd)) 39 (nI kk)))) : ∃ z', ds_call (d + 6) j_Mod_seek [.ref 90, .int (nI st), .int (nI kd), .int (nI kk)] z = some (some (.int (ds_bo b)), z') ∧ dk_m3 (ds_rowI z 90 (upd (upd (z.1 90) 36 (nI kd)) 39 (nI kk))) z' ∧ (b = true → dk_fin V N (c + 2) st T z') := by
  have st17 := hV st h0
  have loop := s_mloop d c st T V N G Pm hP c2 c12 h0 hV hN hmm hmv hgo b hT
  let y0 := ds_rowI z 90 (upd (upd (z.1 90) 36 (nI kd)) 39 (nI kk))
  have y0e : ds_setI (ds_setI z 90 36 (nI kd)) 90 39 (nI kk) = y0 := by
    rw [ds_setI_row, ds_setI_row, ds_rowI_self, ds_rowI_rowI]
  have y0d : ds_rowI z 90 (upd (upd (z.1 90) 36 (nI kd)) 39 (nI kk)) = y0 := rfl
  rw [y0d] at hz ⊢
  clear_value y0
  let zk : Nat → ds_St := fun k => ds_rowI y0 108 (fun j => if j < k then ds_m2 else y0.1 108 j)
  have up := ds_up (F := fun k => ds_Rw ds_c_Mod_seek ds_u_Mod_seek (ds_call (d + 5)) 13 [some (.ref 90), some (.int (nI st)), none, none, some (.int (nI k)), none, none, none] [] (zk k)) (n := 1728) 0 (by
    intro k _ hk
    rw [b_Mod_seek_13]
    have e : ds_rowI (zk k) 108 (upd ((zk k).1 108) k ds_m2) = zk (k + 1) := by
      simp only [zk]
      rw [ds_rowI_rowI, ds_rowI_self]
      apply ds_rowI_congr
      intro j
      dsimp only [upd]
      by_cases h : j = k
      · rw [if_pos h, if_pos (by omega)]
      · rw [if_neg h]
        by_cases h2 : j < k
        · rw [if_pos h2, if_pos (by omega)]
        · rw [if_neg h2, if_neg (by omega)]
    simp (disch := first | assumption | omega) only [ds_cI, ds_cV, ds_cL, ds_cR, ds_nn, ds_isK_t, ds_isA_t, ds_chk_t, ds_chkN, ds_nz_t, ds_nzN, ds_isB_t, ds_isB_bo, ↓dl_m1, ↓dl_m2, dl_0, dl_1, dl_2, dl_3, dl_4, dl_5, dl_6, dl_7, dl_8, dl_9, dl_10, dl_11, dl_12, dl_13, dl_14, dl_15, dl_16, dl_20, dl_24, dl_31, dl_50, dl_57, dl_67, dl_68, dl_74, dl_75, dl_79, dl_80, dl_99, dl_100, dl_200, dl_210, dl_224, dl_255, dl_289, dl_900, dl_1000, dl_1728, dl_65536, dl_65537, nI_add, pk_mul, pk_sub, pk_div, pk_rem, ds_rem2, nI_clamp, nI_leI, nI_ltI, nI_eq, ds_m1_eq, ds_eq_m1, ds_m2_eq, ds_eq_m2, ds_m1_le, ds_le_m1, ds_m1_lt, ds_lt_m1, ds_in_N, ds_bo0, ds_bo1, if_pos, if_neg, Nat.not_le, Nat.not_lt, not_true_eq_false, not_false_eq_true, if_true, if_false, ne_eq, Option.some.injEq, Prod.mk.injEq, Value.int.injEq, true_and, and_true, and_self, ite_self, Bool.not_eq_true, Bool.not_eq_false, Bool.true_eq_false, Bool.false_eq_true, reduceCtorEq, Nat.zero_add, Nat.reduceAdd, Nat.reduceMul, Nat.reduceSub, ds_setI_row, ds_setL_row, ds_rowI_self, ds_rowI_ne, ds_rowI_2, ds_rowI_rowI, ds_setS_1, ds_setS_21, ds_setS_self, ds_setS_ne, pk_us, pk_un, e]) (by decide)
  have z0 : zk 0 = y0 := by
    simp only [zk, Nat.not_lt_zero, if_false]
    exact ds_rowI_id y0 108
  try simp only at up
  rw [z0] at up
  let y1 := zk 1728
  let y2 := ds_rowI (ds_rowI (ds_rowI y1 107 (upd (y1.1 107) 0 (nI st))) 108 (upd ((ds_rowI y1 107 (upd (y1.1 107) 0 (nI st))).1 108) st ds_m1)) 90 (upd ((ds_rowI (ds_rowI y1 107 (upd (y1.1 107) 0 (nI st))) 108 (upd ((ds_rowI y1 107 (upd (y1.1 107) 0 (nI st))).1 108) st ds_m1)).1 90) 38 (nI st))
  have y2e : ds_setI (ds_setI (ds_setI (zk 1728) 107 0 (nI st)) 108 st ds_m1) 90 38 (nI st) = y2 := by
    rw [ds_setI_row, ds_setI_row, ds_setI_row]
  have g107 : y2.1 107 0 = nI st := by
    show (ds_rowI (ds_rowI (ds_rowI y1 107 _) 108 _) 90 _).1 107 0 = _
    rw [ds_rowI_ne _ _ (by decide), ds_rowI_ne _ _ (by decide), ds_rowI_self, pk_us]
  have g108 : ∀ s, s < 1728 → y2.1 108 s = if s = st then ds_m1 else ds_m2 := by
    intro s hs
    show (ds_rowI (ds_rowI (ds_rowI y1 107 _) 108 _) 90 _).1 108 s = _
    rw [ds_rowI_ne _ _ (by decide), ds_rowI_self]
    by_cases e : s = st
    · rw [e, pk_us, if_pos rfl]
    · rw [pk_un e, if_neg e, ds_rowI_ne _ _ (by decide)]
      show (ds_rowI y0 108 _).1 108 s = _
      rw [ds_rowI_self]
      exact if_pos hs
  have g38 : y2.1 90 38 = nI st := by
    show (ds_rowI (ds_rowI (ds_rowI y1 107 _) 108 _) 90 _).1 90 38 = _
    rw [ds_rowI_self, pk_us]
  have f2 : dk_m3 y0 y2 := by
    refine ⟨fun p a b c e => ?_, fun k hk => ?_, rfl⟩
    · show (ds_rowI (ds_rowI (ds_rowI y1 107 _) 108 _) 90 _).1 p = _
      rw [ds_rowI_ne _ _ e, ds_rowI_ne _ _ b, ds_rowI_ne _ _ a]
      show (ds_rowI y0 108 _).1 p = _
      rw [ds_rowI_ne _ _ b]
    · show (ds_rowI (ds_rowI (ds_rowI y1 107 _) 108 _) 90 _).1 90 k = _
      rw [ds_rowI_self, pk_un hk, ds_rowI_ne _ _ (by decide), ds_rowI_ne _ _ (by decide)]
      show (ds_rowI y0 108 _).1 90 k = _
      rw [ds_rowI_ne _ _ (by decide)]
  clear_value y2
  clear_value zk
  have hz2 := hP y0 y2 hz f2
  have ga := hgo y2 st hz2 h0
  have hR : dk_mR y2 (dk_bf N (c + 2) st 0) := by
    refine ⟨fun s hs => ?_, fun s hs h2 => ?_⟩
    · rw [g108 s hs]
      show _ = dk_ef (if s = st then 1 else 0)
      by_cases e : s = st
      · rw [if_pos e, if_pos e]; rfl
      · rw [if_neg e, if_neg e]; rfl
    · exfalso
      have h2' : 2 ≤ (if s = st then 1 else 0) := h2
      split at h2' <;> omega
  have hQ : dk_mQ y2 (dk_bf N (c + 2) st 0) := by
    intro i hi
    have hi' : i < 1 := hi
    have : i = 0 := by omega
    subst this
    exact g107
  cases hg : G st
  · have T0 : 1 ≤ T := by
      rcases Nat.eq_zero_or_pos T with h | h
      · exfalso
        subst h
        rcases hT.2 with ⟨_, _, a3⟩ | ⟨_, a2⟩
        · have a3' : G st = true := a3
          rw [hg] at a3'
          exact absurd a3' (by decide)
        · have a2' : 1 ≤ 0 := a2
          omega
      · exact h
    obtain ⟨z', w1, w2, w3⟩ := loop T 0 y2 (by omega) T0 hz2 hQ hR
    refine ⟨z', ?_, dk_m3_trans f2 w2, w3⟩
    have w1' : ds_Rw ds_c_Mod_seek ds_u_Mod_seek (ds_call (d + 5)) 71 [some (.ref 90), none, none, none, some (.int (nI 1)), some (.int (nI 0)), none, none] [] y2 = some (some (.int (ds_bo b)), z') := w1
    rw [hg] at ga
    rw [c_Mod_seek, b_Mod_seek_0, y0e, dl_0, up, b_Mod_seek_13]
    simp (disch := first | assumption | omega) only [dl_1728, nI_leI, if_pos, ds_chkN, nI_clamp, ↓dl_m1, y2e, ds_cI_t ga, dl_0, dl_1, ds_bo0, w1']
    cases b <;> rfl
  · have T0 : T = 0 := by
      rcases Nat.eq_zero_or_pos T with h | h
      · exact h
      · exfalso
        have := (hT.1 0 h).2
        have a3' : G st = false := this
        rw [hg] at a3'
        exact absurd a3' (by decide)
    subst T0
    have hb : b = true := by
      rcases hT.2 with ⟨a, _, _⟩ | ⟨_, a2⟩
      · exact a
      · have a2' : 1 ≤ 0 := a2
        omega
    refine ⟨y2, ?_, f2, fun _ => ⟨dk_bf N (c + 2) st 0, dk_bf_W h0 hN 0, dk_bf_Y (by omega) 0, dk_E_refl _, ?_, hR, g38⟩⟩
    · rw [hg] at ga
      rw [hb, c_Mod_seek, b_Mod_seek_0, y0e, dl_0, up, b_Mod_seek_13]
      simp (disch := first | assumption | omega) only [dl_1728, nI_leI, if_pos, ds_chkN, nI_clamp, ↓dl_m1, y2e, ds_cI_t ga, dl_0, dl_1, ds_bo0, Bool.true_eq_false, if_false]
      rfl
    · show (if st = st then 1 else 0) ≠ 0
      rw [if_pos rfl]; decide
def dk_Ln (B : dk_BS) (g L : Nat) : Prop := B.2.1 (dk_bk B.2.1 L g) = 1 ∧ (∀ k, k < L → 2 ≤ B.2.1 (dk_bk B.2.1 k g)) ∧ (∀ k, k ≤ L → dk_bk B.2.1 k g < 1728) ∧ L < 1728
theorem dk_Ln_W {V : Nat → Prop} {st i : Nat} {B : dk_BS} (hW : dk_W V st B) (hV : ∀ s, V s → s < 1728) (hi : i < B.2.2.2) : ∃ L, dk_Ln B (B.1 i) L := by
  obtain ⟨L, l1, l2, l3, l4⟩ := dk_way hW i hi
  have tl := dk_W_le hW hV
  refine ⟨L, l2, l3, fun k hk => ?_, by omega⟩
  obtain ⟨j, j1, j2⟩ := l4 k hk
  rw [← j2]
  exact hV _ (hW.2.2.2.1 j j1).1
theorem dk_Ln_one {B : dk_BS} {g L L' : Nat} (h : dk_Ln B g L) (h' : dk_Ln B g L') : L = L' := by
  rcases Nat.lt_trichotomy L L' with a | a | a
  · have := h'.2.1 L a
    rw [h.1] at this
    omega
  · exact a
  · have := h.2.1 L' a
    rw [h'.1] at this
    omega
theorem dk_Ln_E {V : Nat → Prop} {st g L : Nat} {B B' : dk_BS} (hW : dk_W V st B) (hE : dk_E B B') (hg : B.2.1 g ≠ 0) (h : dk_Ln B g L) : dk_Ln B' g L ∧ ∀ k, k < L → B'.2.2.1 (dk_bk B'.2.1 k g) = B.2.2.1 (dk_bk B.2.1 k g) := by
  have e : ∀ k, k ≤ L → dk_bk B'.2.1 k g = dk_bk B.2.1 k g := fun k hk => (dk_bk_E hW hE k (fun l hl => h.2.1 l (by omega)) hg).1
  have f : ∀ k, k ≤ L → B.2.1 (dk_bk B.2.1 k g) ≠ 0 := fun k hk => by
    rcases Nat.lt_or_ge k L with a | a
    · have := h.2.1 k a
      omega
    · have : k = L := by omega
      subst this
      rw [h.1]; decide
  refine ⟨⟨?_, fun k hk => ?_, fun k hk => ?_, h.2.2.2⟩, fun k hk => ?_⟩
  · rw [e L (Nat.le_refl _), (hE.2.2 _ (f L (Nat.le_refl _))).1]
    exact h.1
  · rw [e k (by omega), (hE.2.2 _ (f k (by omega))).1]
    exact h.2.1 k hk
  · rw [e k hk]
    exact h.2.2.1 k hk
  · rw [e k (by omega)]
    exact (hE.2.2 _ (f k (by omega))).2
theorem s_clen (d g L : Nat) (z : ds_St) (B : dk_BS) (hc : dk_cS z B) (hY : dk_Y B) (hL : dk_Ln B g L) (h7 : z.1 70 7 = nI g) : ds_call (d + 2) j_Search_length [.ref 70] z = some (some (.int (nI L)), z) := by
  obtain ⟨l1, l2, l3, l4⟩ := hL
  have g17 : g < 1728 := l3 0 (Nat.zero_le _)
  have up := ds_up (F := fun k => ds_Rw ds_c_Search_length ds_u_Search_length (ds_call (d + 1)) 18 [some (.ref 70), some (.int (nI ((dk_bk B.2.1 k g)))), some (.int (nI k))] [] z) (n := L) 0 (by
    intro k _ hk
    have k17 := l3 k (by omega)
    have f2 := l2 k hk
    have lk := s_lookN d 73 (dk_bk B.2.1 k g) 1728 z rfl rfl (by decide) k17
    rw [hc.2.1 _ k17, dk_eb_2 f2] at lk
    have lk2 := s_lookN d 72 (dk_bk B.2.1 k g) 1728 z rfl rfl (by decide) k17
    rw [hc.2.2 _ k17 f2, ← dk_bk_s] at lk2
    have y := hY (dk_bk B.2.1 k g)
    rw [b_Search_length_18]
    generalize B.2.2.1 (dk_bk B.2.1 k g) = m at *
    generalize dk_bk B.2.1 (k + 1) g = s2 at *
    generalize dk_bk B.2.1 k g = s1 at *
    simp (disch := first | assumption | omega) only [ds_cI, ds_cV, ds_cL, ds_cR, ds_nn, ds_isK_t, ds_isA_t, ds_chk_t, ds_chkN, ds_nz_t, ds_nzN, ds_isB_t, ds_isB_bo, ↓dl_m1, ↓dl_m2, dl_0, dl_1, dl_2, dl_3, dl_4, dl_5, dl_6, dl_7, dl_8, dl_9, dl_10, dl_11, dl_12, dl_13, dl_14, dl_15, dl_16, dl_20, dl_24, dl_31, dl_50, dl_57, dl_67, dl_68, dl_74, dl_75, dl_79, dl_80, dl_99, dl_100, dl_200, dl_210, dl_224, dl_255, dl_289, dl_900, dl_1000, dl_1728, dl_65536, dl_65537, nI_add, pk_mul, pk_sub, pk_div, pk_rem, ds_rem2, nI_clamp, nI_leI, nI_ltI, nI_eq, ds_m1_eq, ds_eq_m1, ds_m2_eq, ds_eq_m2, ds_m1_le, ds_le_m1, ds_m1_lt, ds_lt_m1, ds_in_N, ds_bo0, ds_bo1, if_pos, if_neg, Nat.not_le, Nat.not_lt, not_true_eq_false, not_false_eq_true, if_true, if_false, ne_eq, Option.some.injEq, Prod.mk.injEq, Value.int.injEq, true_and, and_true, and_self, ite_self, Bool.not_eq_true, Bool.not_eq_false, Bool.true_eq_false, Bool.false_eq_true, reduceCtorEq, Nat.zero_add, Nat.reduceAdd, Nat.reduceMul, Nat.reduceSub, ds_setI_row, ds_setL_row, ds_rowI_self, ds_rowI_ne, ds_rowI_2, ds_rowI_rowI, ds_setS_1, ds_setS_21, ds_setS_self, ds_setS_ne, pk_us, pk_un, lk, lk2]) (Nat.zero_le _)
  try simp only at up
  have e0 : dk_bk B.2.1 0 g = g := rfl
  rw [e0] at up
  have k17 := l3 L (Nat.le_refl _)
  have lk := s_lookN d 73 (dk_bk B.2.1 L g) 1728 z rfl rfl (by decide) k17
  rw [hc.2.1 _ k17, l1, dk_eb_1] at lk
  rw [c_Search_length, b_Search_length_0]
  simp (disch := first | assumption | omega) only [ds_cI, ds_cV, ds_cL, ds_cR, ds_nn, ds_isK_t, ds_isA_t, ds_chk_t, ds_chkN, ds_nz_t, ds_nzN, ds_isB_t, ds_isB_bo, ↓dl_m1, ↓dl_m2, dl_0, dl_1, dl_2, dl_3, dl_4, dl_5, dl_6, dl_7, dl_8, dl_9, dl_10, dl_11, dl_12, dl_13, dl_14, dl_15, dl_16, dl_20, dl_24, dl_31, dl_50, dl_57, dl_67, dl_68, dl_74, dl_75, dl_79, dl_80, dl_99, dl_100, dl_200, dl_210, dl_224, dl_255, dl_289, dl_900, dl_1000, dl_1728, dl_65536, dl_65537, nI_add, pk_mul, pk_sub, pk_div, pk_rem, ds_rem2, nI_clamp, nI_leI, nI_ltI, nI_eq, ds_m1_eq, ds_eq_m1, ds_m2_eq, ds_eq_m2, ds_m1_le, ds_le_m1, ds_m1_lt, ds_lt_m1, ds_in_N, ds_bo0, ds_bo1, if_pos, if_neg, Nat.not_le, Nat.not_lt, not_true_eq_false, not_false_eq_true, if_true, if_false, ne_eq, Option.some.injEq, Prod.mk.injEq, Value.int.injEq, true_and, and_true, and_self, ite_self, Bool.not_eq_true, Bool.not_eq_false, Bool.true_eq_false, Bool.false_eq_true, reduceCtorEq, Nat.zero_add, Nat.reduceAdd, Nat.reduceMul, Nat.reduceSub, ds_setI_row, ds_setL_row, ds_rowI_self, ds_rowI_ne, ds_rowI_2, ds_rowI_rowI, ds_setS_1, ds_setS_21, ds_setS_self, ds_setS_ne, pk_us, pk_un, h7]
  rw [up, b_Search_length_18]
  generalize dk_bk B.2.1 L g = s1 at *
  simp (disch := first | assumption | omega) only [ds_cI, ds_cV, ds_cL, ds_cR, ds_nn, ds_isK_t, ds_isA_t, ds_chk_t, ds_chkN, ds_nz_t, ds_nzN, ds_isB_t, ds_isB_bo, ↓dl_m1, ↓dl_m2, dl_0, dl_1, dl_2, dl_3, dl_4, dl_5, dl_6, dl_7, dl_8, dl_9, dl_10, dl_11, dl_12, dl_13, dl_14, dl_15, dl_16, dl_20, dl_24, dl_31, dl_50, dl_57, dl_67, dl_68, dl_74, dl_75, dl_79, dl_80, dl_99, dl_100, dl_200, dl_210, dl_224, dl_255, dl_289, dl_900, dl_1000, dl_1728, dl_65536, dl_65537, nI_add, pk_mul, pk_sub, pk_div, pk_rem, ds_rem2, nI_clamp, nI_leI, nI_ltI, nI_eq, ds_m1_eq, ds_eq_m1, ds_m2_eq, ds_eq_m2, ds_m1_le, ds_le_m1, ds_m1_lt, ds_lt_m1, ds_in_N, ds_bo0, ds_bo1, if_pos, if_neg, Nat.not_le, Nat.not_lt, not_true_eq_false, not_false_eq_true, if_true, if_false, ne_eq, Option.some.injEq, Prod.mk.injEq, Value.int.injEq, true_and, and_true, and_self, ite_self, Bool.not_eq_true, Bool.not_eq_false, Bool.true_eq_false, Bool.false_eq_true, reduceCtorEq, Nat.zero_add, Nat.reduceAdd, Nat.reduceMul, Nat.reduceSub, ds_setI_row, ds_setL_row, ds_rowI_self, ds_rowI_ne, ds_rowI_2, ds_rowI_rowI, ds_setS_1, ds_setS_21, ds_setS_self, ds_setS_ne, pk_us, pk_un, lk, ds_m2_lt]
theorem s_clen0 (d : Nat) (z : ds_St) (h7 : z.1 70 7 = ds_m1) : ds_call (d + 1) j_Search_length [.ref 70] z = some (some (.int ds_m2), z) := by
  rw [c_Search_length, b_Search_length_0]
  simp (disch := first | assumption | omega) only [ds_cI, ds_cV, ds_cL, ds_cR, ds_nn, ds_isK_t, ds_isA_t, ds_chk_t, ds_chkN, ds_nz_t, ds_nzN, ds_isB_t, ds_isB_bo, ↓dl_m1, ↓dl_m2, dl_0, dl_1, dl_2, dl_3, dl_4, dl_5, dl_6, dl_7, dl_8, dl_9, dl_10, dl_11, dl_12, dl_13, dl_14, dl_15, dl_16, dl_20, dl_24, dl_31, dl_50, dl_57, dl_67, dl_68, dl_74, dl_75, dl_79, dl_80, dl_99, dl_100, dl_200, dl_210, dl_224, dl_255, dl_289, dl_900, dl_1000, dl_1728, dl_65536, dl_65537, nI_add, pk_mul, pk_sub, pk_div, pk_rem, ds_rem2, nI_clamp, nI_leI, nI_ltI, nI_eq, ds_m1_eq, ds_eq_m1, ds_m2_eq, ds_eq_m2, ds_m1_le, ds_le_m1, ds_m1_lt, ds_lt_m1, ds_in_N, ds_bo0, ds_bo1, if_pos, if_neg, Nat.not_le, Nat.not_lt, not_true_eq_false, not_false_eq_true, if_true, if_false, ne_eq, Option.some.injEq, Prod.mk.injEq, Value.int.injEq, true_and, and_true, and_self, ite_self, Bool.not_eq_true, Bool.not_eq_false, Bool.true_eq_false, Bool.false_eq_true, reduceCtorEq, Nat.zero_add, Nat.reduceAdd, Nat.reduceMul, Nat.reduceSub, ds_setI_row, ds_setL_row, ds_rowI_self, ds_rowI_ne, ds_rowI_2, ds_rowI_rowI, ds_setS_1, ds_setS_21, ds_setS_self, ds_setS_ne, pk_us, pk_un, h7]
theorem s_cmove (d g L k : Nat) (z : ds_St) (B : dk_BS) (hc : dk_cS z B) (hY : dk_Y B) (hL : dk_Ln B g L) (h7 : z.1 70 7 = nI g) (hk : k < L) : ds_call (d + 3) j_Search_moveOf [.ref 70, .int (nI k)] z = some (some (.int (nI (B.2.2.1 (dk_bk B.2.1 (L - 1 - k) g)))), z) := by
  have len := s_clen d g L z B hc hY hL h7
  obtain ⟨l1, l2, l3, l4⟩ := hL
  have g17 : g < 1728 := l3 0 (Nat.zero_le _)
  have up := ds_up (F := fun j => ds_Rw ds_c_Search_moveOf ds_u_Search_moveOf (ds_call (d + 2)) 12 [some (.ref 70), some (.int (nI k)), some (.int (nI ((dk_bk B.2.1 j g)))), some (.int (nI ((L - 1 - j))))] [] z) (n := L - 1 - k) 0 (by
    intro j _ hj
    have j17 := l3 j (by omega)
    have f2 := l2 j (by omega)
    have lk2 := s_lookN (d + 1) 72 (dk_bk B.2.1 j g) 1728 z rfl rfl (by decide) j17
    rw [hc.2.2 _ j17 f2, ← dk_bk_s] at lk2
    have em := ds_add_m1' (a := L - 1 - j) (by omega)
    rw [show L - 1 - j - 1 = L - 1 - (j + 1) by omega] at em
    rw [b_Search_moveOf_12]
    generalize dk_bk B.2.1 (j + 1) g = s2 at *
    generalize dk_bk B.2.1 j g = s1 at *
    generalize hQ1 : L - 1 - (j + 1) = q1 at *
    generalize hQ2 : L - 1 - j = q2 at *
    simp (disch := first | assumption | omega) only [ds_cI, ds_cV, ds_cL, ds_cR, ds_nn, ds_isK_t, ds_isA_t, ds_chk_t, ds_chkN, ds_nz_t, ds_nzN, ds_isB_t, ds_isB_bo, ↓dl_m1, ↓dl_m2, dl_0, dl_1, dl_2, dl_3, dl_4, dl_5, dl_6, dl_7, dl_8, dl_9, dl_10, dl_11, dl_12, dl_13, dl_14, dl_15, dl_16, dl_20, dl_24, dl_31, dl_50, dl_57, dl_67, dl_68, dl_74, dl_75, dl_79, dl_80, dl_99, dl_100, dl_200, dl_210, dl_224, dl_255, dl_289, dl_900, dl_1000, dl_1728, dl_65536, dl_65537, nI_add, pk_mul, pk_sub, pk_div, pk_rem, ds_rem2, nI_clamp, nI_leI, nI_ltI, nI_eq, ds_m1_eq, ds_eq_m1, ds_m2_eq, ds_eq_m2, ds_m1_le, ds_le_m1, ds_m1_lt, ds_lt_m1, ds_in_N, ds_bo0, ds_bo1, if_pos, if_neg, Nat.not_le, Nat.not_lt, not_true_eq_false, not_false_eq_true, if_true, if_false, ne_eq, Option.some.injEq, Prod.mk.injEq, Value.int.injEq, true_and, and_true, and_self, ite_self, Bool.not_eq_true, Bool.not_eq_false, Bool.true_eq_false, Bool.false_eq_true, reduceCtorEq, Nat.zero_add, Nat.reduceAdd, Nat.reduceMul, Nat.reduceSub, ds_setI_row, ds_setL_row, ds_rowI_self, ds_rowI_ne, ds_rowI_2, ds_rowI_rowI, ds_setS_1, ds_setS_21, ds_setS_self, ds_setS_ne, pk_us, pk_un, lk2, em]) (Nat.zero_le _)
  try simp only at up
  have e0 : dk_bk B.2.1 0 g = g := rfl
  rw [e0, Nat.sub_zero] at up
  have k17 := l3 (L - 1 - k) (by omega)
  have lk := s_lookN (d + 1) 73 (dk_bk B.2.1 (L - 1 - k) g) 1728 z rfl rfl (by decide) k17
  rw [hc.2.1 _ k17, dk_eb_2 (l2 (L - 1 - k) (by omega))] at lk
  rw [show L - 1 - (L - 1 - k) = k by omega] at up
  have e1 : nI L - nI 1 = nI (L - 1) := pk_sub (by omega)
  rw [c_Search_moveOf, b_Search_moveOf_0]
  simp (disch := first | assumption | omega) only [ds_cI, ds_cV, ds_cL, ds_cR, ds_nn, ds_isK_t, ds_isA_t, ds_chk_t, ds_chkN, ds_nz_t, ds_nzN, ds_isB_t, ds_isB_bo, ↓dl_m1, ↓dl_m2, dl_0, dl_1, dl_2, dl_3, dl_4, dl_5, dl_6, dl_7, dl_8, dl_9, dl_10, dl_11, dl_12, dl_13, dl_14, dl_15, dl_16, dl_20, dl_24, dl_31, dl_50, dl_57, dl_67, dl_68, dl_74, dl_75, dl_79, dl_80, dl_99, dl_100, dl_200, dl_210, dl_224, dl_255, dl_289, dl_900, dl_1000, dl_1728, dl_65536, dl_65537, nI_add, pk_mul, pk_sub, pk_div, pk_rem, ds_rem2, nI_clamp, nI_leI, nI_ltI, nI_eq, ds_m1_eq, ds_eq_m1, ds_m2_eq, ds_eq_m2, ds_m1_le, ds_le_m1, ds_m1_lt, ds_lt_m1, ds_in_N, ds_bo0, ds_bo1, if_pos, if_neg, Nat.not_le, Nat.not_lt, not_true_eq_false, not_false_eq_true, if_true, if_false, ne_eq, Option.some.injEq, Prod.mk.injEq, Value.int.injEq, true_and, and_true, and_self, ite_self, Bool.not_eq_true, Bool.not_eq_false, Bool.true_eq_false, Bool.false_eq_true, reduceCtorEq, Nat.zero_add, Nat.reduceAdd, Nat.reduceMul, Nat.reduceSub, ds_setI_row, ds_setL_row, ds_rowI_self, ds_rowI_ne, ds_rowI_2, ds_rowI_rowI, ds_setS_1, ds_setS_21, ds_setS_self, ds_setS_ne, pk_us, pk_un, len, h7]
  rw [up, b_Search_moveOf_12]
  generalize B.2.2.1 (dk_bk B.2.1 (L - 1 - k) g) = m at *
  generalize dk_bk B.2.1 (L - 1 - k) g = s1 at *
  simp (disch := first | assumption | omega) only [ds_cI, ds_cV, ds_cL, ds_cR, ds_nn, ds_isK_t, ds_isA_t, ds_chk_t, ds_chkN, ds_nz_t, ds_nzN, ds_isB_t, ds_isB_bo, ↓dl_m1, ↓dl_m2, dl_0, dl_1, dl_2, dl_3, dl_4, dl_5, dl_6, dl_7, dl_8, dl_9, dl_10, dl_11, dl_12, dl_13, dl_14, dl_15, dl_16, dl_20, dl_24, dl_31, dl_50, dl_57, dl_67, dl_68, dl_74, dl_75, dl_79, dl_80, dl_99, dl_100, dl_200, dl_210, dl_224, dl_255, dl_289, dl_900, dl_1000, dl_1728, dl_65536, dl_65537, nI_add, pk_mul, pk_sub, pk_div, pk_rem, ds_rem2, nI_clamp, nI_leI, nI_ltI, nI_eq, ds_m1_eq, ds_eq_m1, ds_m2_eq, ds_eq_m2, ds_m1_le, ds_le_m1, ds_m1_lt, ds_lt_m1, ds_in_N, ds_bo0, ds_bo1, if_pos, if_neg, Nat.not_le, Nat.not_lt, not_true_eq_false, not_false_eq_true, if_true, if_false, ne_eq, Option.some.injEq, Prod.mk.injEq, Value.int.injEq, true_and, and_true, and_self, ite_self, Bool.not_eq_true, Bool.not_eq_false, Bool.true_eq_false, Bool.false_eq_true, reduceCtorEq, Nat.zero_add, Nat.reduceAdd, Nat.reduceMul, Nat.reduceSub, ds_setI_row, ds_setL_row, ds_rowI_self, ds_rowI_ne, ds_rowI_2, ds_rowI_rowI, ds_setS_1, ds_setS_21, ds_setS_self, ds_setS_ne, pk_us, pk_un, lk]
theorem s_mlen (d g L : Nat) (z : ds_St) (B : dk_BS) (hc : dk_mR z B) (hL : dk_Ln B g L) (h7 : z.1 90 38 = nI g) : ds_call (d + 1) j_Mod_wayLong [.ref 90] z = some (some (.int (nI L)), z) := by
  obtain ⟨l1, l2, l3, l4⟩ := hL
  have g17 : g < 1728 := l3 0 (Nat.zero_le _)
  have up := ds_up (F := fun k => ds_Rw ds_c_Mod_wayLong ds_u_Mod_wayLong (ds_call (d + 0)) 7 [some (.ref 90), some (.int (nI k)), some (.int (nI ((dk_bk B.2.1 k g))))] [] z) (n := L) 0 (by
    intro k _ hk
    have k17 := l3 k (by omega)
    have k18 := l3 (k + 1) (by omega)
    have f2 := l2 k hk
    have lk := hc.1 _ k17
    rw [dk_ef_2 f2, ← dk_bk_s] at lk
    rw [b_Mod_wayLong_7]
    generalize dk_bk B.2.1 (k + 1) g = s2 at *
    generalize dk_bk B.2.1 k g = s1 at *
    simp (disch := first | assumption | omega) only [ds_cI, ds_cV, ds_cL, ds_cR, ds_nn, ds_isK_t, ds_isA_t, ds_chk_t, ds_chkN, ds_nz_t, ds_nzN, ds_isB_t, ds_isB_bo, ↓dl_m1, ↓dl_m2, dl_0, dl_1, dl_2, dl_3, dl_4, dl_5, dl_6, dl_7, dl_8, dl_9, dl_10, dl_11, dl_12, dl_13, dl_14, dl_15, dl_16, dl_20, dl_24, dl_31, dl_50, dl_57, dl_67, dl_68, dl_74, dl_75, dl_79, dl_80, dl_99, dl_100, dl_200, dl_210, dl_224, dl_255, dl_289, dl_900, dl_1000, dl_1728, dl_65536, dl_65537, nI_add, pk_mul, pk_sub, pk_div, pk_rem, ds_rem2, nI_clamp, nI_leI, nI_ltI, nI_eq, ds_m1_eq, ds_eq_m1, ds_m2_eq, ds_eq_m2, ds_m1_le, ds_le_m1, ds_m1_lt, ds_lt_m1, ds_in_N, ds_bo0, ds_bo1, if_pos, if_neg, Nat.not_le, Nat.not_lt, not_true_eq_false, not_false_eq_true, if_true, if_false, ne_eq, Option.some.injEq, Prod.mk.injEq, Value.int.injEq, true_and, and_true, and_self, ite_self, Bool.not_eq_true, Bool.not_eq_false, Bool.true_eq_false, Bool.false_eq_true, reduceCtorEq, Nat.zero_add, Nat.reduceAdd, Nat.reduceMul, Nat.reduceSub, ds_setI_row, ds_setL_row, ds_rowI_self, ds_rowI_ne, ds_rowI_2, ds_rowI_rowI, ds_setS_1, ds_setS_21, ds_setS_self, ds_setS_ne, pk_us, pk_un, lk]) (Nat.zero_le _)
  try simp only at up
  have e0 : dk_bk B.2.1 0 g = g := rfl
  rw [e0] at up
  have k17 := l3 L (Nat.le_refl _)
  have lk := hc.1 _ k17
  rw [l1] at lk
  have lk' : z.1 108 (dk_bk B.2.1 L g) = ds_m1 := lk
  rw [c_Mod_wayLong, b_Mod_wayLong_0]
  simp (disch := first | assumption | omega) only [ds_cI, ds_cV, ds_cL, ds_cR, ds_nn, ds_isK_t, ds_isA_t, ds_chk_t, ds_chkN, ds_nz_t, ds_nzN, ds_isB_t, ds_isB_bo, ↓dl_m1, ↓dl_m2, dl_0, dl_1, dl_2, dl_3, dl_4, dl_5, dl_6, dl_7, dl_8, dl_9, dl_10, dl_11, dl_12, dl_13, dl_14, dl_15, dl_16, dl_20, dl_24, dl_31, dl_50, dl_57, dl_67, dl_68, dl_74, dl_75, dl_79, dl_80, dl_99, dl_100, dl_200, dl_210, dl_224, dl_255, dl_289, dl_900, dl_1000, dl_1728, dl_65536, dl_65537, nI_add, pk_mul, pk_sub, pk_div, pk_rem, ds_rem2, nI_clamp, nI_leI, nI_ltI, nI_eq, ds_m1_eq, ds_eq_m1, ds_m2_eq, ds_eq_m2, ds_m1_le, ds_le_m1, ds_m1_lt, ds_lt_m1, ds_in_N, ds_bo0, ds_bo1, if_pos, if_neg, Nat.not_le, Nat.not_lt, not_true_eq_false, not_false_eq_true, if_true, if_false, ne_eq, Option.some.injEq, Prod.mk.injEq, Value.int.injEq, true_and, and_true, and_self, ite_self, Bool.not_eq_true, Bool.not_eq_false, Bool.true_eq_false, Bool.false_eq_true, reduceCtorEq, Nat.zero_add, Nat.reduceAdd, Nat.reduceMul, Nat.reduceSub, ds_setI_row, ds_setL_row, ds_rowI_self, ds_rowI_ne, ds_rowI_2, ds_rowI_rowI, ds_setS_1, ds_setS_21, ds_setS_self, ds_setS_ne, pk_us, pk_un, h7]
  have up' : ds_Rw ds_c_Mod_wayLong ds_u_Mod_wayLong (ds_call d) 7 [some (.ref 90), some (.int (nI 0)), some (.int (nI g))] [] z = _ := up
  rw [up', b_Mod_wayLong_7]
  generalize dk_bk B.2.1 L g = s1 at *
  simp (disch := first | assumption | omega) only [ds_cI, ds_cV, ds_cL, ds_cR, ds_nn, ds_isK_t, ds_isA_t, ds_chk_t, ds_chkN, ds_nz_t, ds_nzN, ds_isB_t, ds_isB_bo, ↓dl_m1, ↓dl_m2, dl_0, dl_1, dl_2, dl_3, dl_4, dl_5, dl_6, dl_7, dl_8, dl_9, dl_10, dl_11, dl_12, dl_13, dl_14, dl_15, dl_16, dl_20, dl_24, dl_31, dl_50, dl_57, dl_67, dl_68, dl_74, dl_75, dl_79, dl_80, dl_99, dl_100, dl_200, dl_210, dl_224, dl_255, dl_289, dl_900, dl_1000, dl_1728, dl_65536, dl_65537, nI_add, pk_mul, pk_sub, pk_div, pk_rem, ds_rem2, nI_clamp, nI_leI, nI_ltI, nI_eq, ds_m1_eq, ds_eq_m1, ds_m2_eq, ds_eq_m2, ds_m1_le, ds_le_m1, ds_m1_lt, ds_lt_m1, ds_in_N, ds_bo0, ds_bo1, if_pos, if_neg, Nat.not_le, Nat.not_lt, not_true_eq_false, not_false_eq_true, if_true, if_false, ne_eq, Option.some.injEq, Prod.mk.injEq, Value.int.injEq, true_and, and_true, and_self, ite_self, Bool.not_eq_true, Bool.not_eq_false, Bool.true_eq_false, Bool.false_eq_true, reduceCtorEq, Nat.zero_add, Nat.reduceAdd, Nat.reduceMul, Nat.reduceSub, ds_setI_row, ds_setL_row, ds_rowI_self, ds_rowI_ne, ds_rowI_2, ds_rowI_rowI, ds_setS_1, ds_setS_21, ds_setS_self, ds_setS_ne, pk_us, pk_un, lk']
theorem s_mmove (d g L k : Nat) (z : ds_St) (B : dk_BS) (hc : dk_mR z B) (hL : dk_Ln B g L) (h7 : z.1 90 38 = nI g) (hk : k < L) : ds_call (d + 2) j_Mod_moveOfWay [.ref 90, .int (nI k)] z = some (some (.int (nI (B.2.2.1 (dk_bk B.2.1 (L - 1 - k) g)))), z) := by
  have len := s_mlen d g L z B hc hL h7
  obtain ⟨l1, l2, l3, l4⟩ := hL
  have g17 : g < 1728 := l3 0 (Nat.zero_le _)
  have up := ds_up (F := fun j => ds_Rw ds_c_Mod_moveOfWay ds_u_Mod_moveOfWay (ds_call (d + 1)) 15 [some (.ref 90), some (.int (nI k)), none, some (.int (nI ((dk_bk B.2.1 j g)))), some (.int (nI ((L - 1 - j))))] [] z) (n := L - 1 - k) 0 (by
    intro j _ hj
    have j17 := l3 j (by omega)
    have f2 := l2 j (by omega)
    have lk := hc.1 _ j17
    rw [dk_ef_2 f2, ← dk_bk_s] at lk
    have em := ds_add_m1' (a := L - 1 - j) (by omega)
    rw [show L - 1 - j - 1 = L - 1 - (j + 1) by omega] at em
    rw [b_Mod_moveOfWay_15]
    generalize dk_bk B.2.1 (j + 1) g = s2 at *
    generalize dk_bk B.2.1 j g = s1 at *
    generalize hQ1 : L - 1 - (j + 1) = q1 at *
    generalize hQ2 : L - 1 - j = q2 at *
    simp (disch := first | assumption | omega) only [ds_cI, ds_cV, ds_cL, ds_cR, ds_nn, ds_isK_t, ds_isA_t, ds_chk_t, ds_chkN, ds_nz_t, ds_nzN, ds_isB_t, ds_isB_bo, ↓dl_m1, ↓dl_m2, dl_0, dl_1, dl_2, dl_3, dl_4, dl_5, dl_6, dl_7, dl_8, dl_9, dl_10, dl_11, dl_12, dl_13, dl_14, dl_15, dl_16, dl_20, dl_24, dl_31, dl_50, dl_57, dl_67, dl_68, dl_74, dl_75, dl_79, dl_80, dl_99, dl_100, dl_200, dl_210, dl_224, dl_255, dl_289, dl_900, dl_1000, dl_1728, dl_65536, dl_65537, nI_add, pk_mul, pk_sub, pk_div, pk_rem, ds_rem2, nI_clamp, nI_leI, nI_ltI, nI_eq, ds_m1_eq, ds_eq_m1, ds_m2_eq, ds_eq_m2, ds_m1_le, ds_le_m1, ds_m1_lt, ds_lt_m1, ds_in_N, ds_bo0, ds_bo1, if_pos, if_neg, Nat.not_le, Nat.not_lt, not_true_eq_false, not_false_eq_true, if_true, if_false, ne_eq, Option.some.injEq, Prod.mk.injEq, Value.int.injEq, true_and, and_true, and_self, ite_self, Bool.not_eq_true, Bool.not_eq_false, Bool.true_eq_false, Bool.false_eq_true, reduceCtorEq, Nat.zero_add, Nat.reduceAdd, Nat.reduceMul, Nat.reduceSub, ds_setI_row, ds_setL_row, ds_rowI_self, ds_rowI_ne, ds_rowI_2, ds_rowI_rowI, ds_setS_1, ds_setS_21, ds_setS_self, ds_setS_ne, pk_us, pk_un, lk, em]) (Nat.zero_le _)
  try simp only at up
  have e0 : dk_bk B.2.1 0 g = g := rfl
  rw [e0, Nat.sub_zero] at up
  have k17 := l3 (L - 1 - k) (by omega)
  have lk := hc.2 _ k17 (l2 (L - 1 - k) (by omega))
  rw [show L - 1 - (L - 1 - k) = k by omega] at up
  have e1 : nI L - nI 1 = nI (L - 1) := pk_sub (by omega)
  rw [c_Mod_moveOfWay, b_Mod_moveOfWay_0]
  simp (disch := first | assumption | omega) only [ds_cI, ds_cV, ds_cL, ds_cR, ds_nn, ds_isK_t, ds_isA_t, ds_chk_t, ds_chkN, ds_nz_t, ds_nzN, ds_isB_t, ds_isB_bo, ↓dl_m1, ↓dl_m2, dl_0, dl_1, dl_2, dl_3, dl_4, dl_5, dl_6, dl_7, dl_8, dl_9, dl_10, dl_11, dl_12, dl_13, dl_14, dl_15, dl_16, dl_20, dl_24, dl_31, dl_50, dl_57, dl_67, dl_68, dl_74, dl_75, dl_79, dl_80, dl_99, dl_100, dl_200, dl_210, dl_224, dl_255, dl_289, dl_900, dl_1000, dl_1728, dl_65536, dl_65537, nI_add, pk_mul, pk_sub, pk_div, pk_rem, ds_rem2, nI_clamp, nI_leI, nI_ltI, nI_eq, ds_m1_eq, ds_eq_m1, ds_m2_eq, ds_eq_m2, ds_m1_le, ds_le_m1, ds_m1_lt, ds_lt_m1, ds_in_N, ds_bo0, ds_bo1, if_pos, if_neg, Nat.not_le, Nat.not_lt, not_true_eq_false, not_false_eq_true, if_true, if_false, ne_eq, Option.some.injEq, Prod.mk.injEq, Value.int.injEq, true_and, and_true, and_self, ite_self, Bool.not_eq_true, Bool.not_eq_false, Bool.true_eq_false, Bool.false_eq_true, reduceCtorEq, Nat.zero_add, Nat.reduceAdd, Nat.reduceMul, Nat.reduceSub, ds_setI_row, ds_setL_row, ds_rowI_self, ds_rowI_ne, ds_rowI_2, ds_rowI_rowI, ds_setS_1, ds_setS_21, ds_setS_self, ds_setS_ne, pk_us, pk_un, len, h7]
  rw [up, b_Mod_moveOfWay_15]
  generalize B.2.2.1 (dk_bk B.2.1 (L - 1 - k) g) = m at *
  generalize dk_bk B.2.1 (L - 1 - k) g = s1 at *
  simp (disch := first | assumption | omega) only [ds_cI, ds_cV, ds_cL, ds_cR, ds_nn, ds_isK_t, ds_isA_t, ds_chk_t, ds_chkN, ds_nz_t, ds_nzN, ds_isB_t, ds_isB_bo, ↓dl_m1, ↓dl_m2, dl_0, dl_1, dl_2, dl_3, dl_4, dl_5, dl_6, dl_7, dl_8, dl_9, dl_10, dl_11, dl_12, dl_13, dl_14, dl_15, dl_16, dl_20, dl_24, dl_31, dl_50, dl_57, dl_67, dl_68, dl_74, dl_75, dl_79, dl_80, dl_99, dl_100, dl_200, dl_210, dl_224, dl_255, dl_289, dl_900, dl_1000, dl_1728, dl_65536, dl_65537, nI_add, pk_mul, pk_sub, pk_div, pk_rem, ds_rem2, nI_clamp, nI_leI, nI_ltI, nI_eq, ds_m1_eq, ds_eq_m1, ds_m2_eq, ds_eq_m2, ds_m1_le, ds_le_m1, ds_m1_lt, ds_lt_m1, ds_in_N, ds_bo0, ds_bo1, if_pos, if_neg, Nat.not_le, Nat.not_lt, not_true_eq_false, not_false_eq_true, if_true, if_false, ne_eq, Option.some.injEq, Prod.mk.injEq, Value.int.injEq, true_and, and_true, and_self, ite_self, Bool.not_eq_true, Bool.not_eq_false, Bool.true_eq_false, Bool.false_eq_true, reduceCtorEq, Nat.zero_add, Nat.reduceAdd, Nat.reduceMul, Nat.reduceSub, ds_setI_row, ds_setL_row, ds_rowI_self, ds_rowI_ne, ds_rowI_2, ds_rowI_rowI, ds_setS_1, ds_setS_21, ds_setS_self, ds_setS_ne, pk_us, pk_un, lk]
/-- the model's way is the class's -/
theorem s_mway (d st T M L : Nat) (V : Nat → Prop) (N : Nat → Nat → Nat) (z : ds_St) (hV : ∀ s, V s → s < 1728) (h : dk_fin V N M st T z) (hL : dk_Ln (dk_bf N M st T) ((dk_bf N M st T).1 T) L) : ds_call (d + 1) j_Mod_wayLong [.ref 90] z = some (some (.int (nI L)), z) ∧ ∀ k, k < L → ds_call (d + 2) j_Mod_moveOfWay [.ref 90, .int (nI k)] z = some (some (.int (nI ((dk_bf N M st T).2.2.1 (dk_bk (dk_bf N M st T).2.1 (L - 1 - k) ((dk_bf N M st T).1 T))))), z) := by
  obtain ⟨B, hW, hY, hE, hg, hR, h38⟩ := h
  obtain ⟨i, i1, i2⟩ := hW.2.2.2.2.1 _ hg
  obtain ⟨L', hL'⟩ := dk_Ln_W hW hV i1
  rw [i2] at hL'
  obtain ⟨h1, h2⟩ := dk_Ln_E hW hE hg hL'
  have e := dk_Ln_one hL h1
  subst e
  refine ⟨s_mlen d _ L z B hR hL' h38, fun k hk => ?_⟩
  rw [h2 (L - 1 - k) (by omega)]
  exact s_mmove d _ L k z B hR hL' h38 hk
