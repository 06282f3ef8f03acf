/-! the class's search, whatever the goal -/
def ds_m3 : Int32 := -3
theorem dl_m3 : (-3 : Int32) = ds_m3 := rfl
theorem ds_m3_toInt : ds_m3.toInt = -3 := by decide
theorem ds_eq_m3 {a : Nat} (h : a < 2 ^ 31) : (nI a = ds_m3) = False := by
  apply eq_false
  intro q
  have := congrArg Int32.toInt q
  rw [nI_toInt h, ds_m3_toInt] at this
  omega
theorem ds_m2_m3 : (ds_m2 = ds_m3) = False := eq_false (by decide)
def dk_eb (f b : Nat) : Int32 := if f = 0 then ds_m3 else if f = 1 then ds_m2 else nI b
theorem dk_eb_0 (b : Nat) : dk_eb 0 b = ds_m3 := rfl
theorem dk_eb_1 (b : Nat) : dk_eb 1 b = ds_m2 := rfl
theorem dk_eb_2 {f b : Nat} (h : 2 ≤ f) : dk_eb f b = nI b := by
  unfold dk_eb
  rw [if_neg (by omega), if_neg (by omega)]
theorem dk_eb_ne {f b : Nat} (h : f ≠ 0) (hb : b < 2 ^ 31) : ¬ dk_eb f b = ds_m3 := by
  by_cases q : f = 1
  · rw [q, dk_eb_1, ds_m2_m3]; exact id
  · rw [dk_eb_2 (by omega), ds_eq_m3 hb]; exact id
def dk_Y (B : dk_BS) : Prop := ∀ s, B.2.2.1 s < 14
theorem dk_vs_Y {N : Nat → Nat → Nat} {s m : Nat} {B : dk_BS} (h : dk_Y B) (hm : m < 14) : dk_Y (dk_vs N s m B) := by
  unfold dk_vs
  split
  · intro t
    show dk_up B.2.2.1 (N s m) m t < 14
    unfold dk_up
    split
    · exact hm
    · exact h t
  · exact h
theorem dk_vr_Y {N : Nat → Nat → Nat} {s : Nat} {B : dk_BS} (h : dk_Y B) : ∀ m, m ≤ 14 → dk_Y (dk_vr N s m B) := by
  intro m
  induction m with
  | zero => intro _; exact h
  | succ m ih => intro hm; exact dk_vs_Y (ih (by omega)) (by omega)
theorem dk_bf_Y {N : Nat → Nat → Nat} {M st : Nat} (hM : M ≤ 14) : ∀ h, dk_Y (dk_bf N M st h) := by
  intro h
  induction h with
  | zero => intro s; exact (by decide : 0 < 14)
  | succ h ih =>
    simp only [dk_bf]
    split
    · exact dk_vr_Y ih M hM
    · exact ih
def dk_cS (z : ds_St) (B : dk_BS) : Prop := (∀ i, i < B.2.2.2 → z.1 71 i = nI (B.1 i)) ∧ (∀ s, s < 1728 → z.1 73 s = dk_eb (B.2.1 s) (B.2.2.1 s)) ∧ (∀ s, s < 1728 → 2 ≤ B.2.1 s → z.1 72 s = nI (B.2.1 s - 2))
/-- all but the search's three rows is as it was -/
def dk_s3 (z z' : ds_St) : Prop := (∀ p, p ≠ 71 → p ≠ 72 → p ≠ 73 → z'.1 p = z.1 p) ∧ z'.2 = z.2
theorem dk_s3_refl (z : ds_St) : dk_s3 z z := ⟨fun _ _ _ _ => rfl, rfl⟩
theorem dk_s3_trans {z z1 z2 : ds_St} (h : dk_s3 z z1) (h2 : dk_s3 z1 z2) : dk_s3 z z2 := ⟨fun p a b c => (h2.1 p a b c).trans (h.1 p a b c), h2.2.trans h.2⟩
theorem s_qnext (d c h : Nat) (s st : Nat) (V : Nat → Prop) (N : Nat → Nat → Nat) (Pz : ds_St → Prop) (hP : ∀ z z', Pz z → dk_s3 z z' → Pz z') (h5 : ∀ z, Pz z → z.1 70 5 = nI c) (c2 : 2 ≤ c) (c12 : c ≤ 12) (hV : ∀ s, V s → s < 1728) (hN : ∀ s m, V s → m < c + 2 → V (N s m)) (hsb : ∀ z s m, Pz z → V s → m < c + 2 → ds_call (d + 4) j_Search_stateBehind [.ref 70, .int (nI s), .int (nI m)] z = some (some (.int (nI (N s m))), z)) (z : ds_St) (B : dk_BS) (hW : dk_W V st B) (hY : dk_Y B) (hh : h < B.2.2.2) (hs : B.1 h = s) (hz : Pz z) (hc : dk_cS z B) : ∃ z', ds_call (d + 5) j_Search_queueNext [.ref 70, .int (nI s), .int (nI B.2.2.2)] z = some (some (.int (nI (dk_vr N s (c + 2) B).2.2.2)), z') ∧ dk_cS z' (dk_vr N s (c + 2) B) ∧ dk_s3 z z' := by
  have Vs : V s := by rw [← hs]; exact (hW.2.2.2.1 h hh).1
  have s17 := hV s Vs
  have WW := dk_vr_W (M := c + 2) hW hh hs (fun m hm => hN s m Vs hm)
  have go : ∀ k m z, m + k = c + 2 → Pz z → dk_cS z (dk_vr N s m B) → ∃ z', ds_Rw ds_c_Search_queueNext ds_u_Search_queueNext (ds_call (d + 4)) 5 [some (.ref 70), some (.int (nI s)), none, some (.int (nI (((dk_vr N s m B).2.2.2)))), some (.int (nI m)), none] [] z = some (some (.int (nI (dk_vr N s (c + 2) B).2.2.2)), z') ∧ dk_cS z' (dk_vr N s (c + 2) B) ∧ dk_s3 z z' := by
    intro k
    induction k with
    | zero =>
      intro m z hm hz hc
      have : m = c + 2 := by omega
      subst this
      refine ⟨z, ?_, hc, dk_s3_refl z⟩
      have mv := s_movesOf (d + 3) c z (by omega)
      rw [if_neg (by omega)] at mv
      have e5 := h5 z hz
      rw [b_Search_queueNext_5]
      generalize (dk_vr N s (c + 2) B).2.2.2 = A at *
      simp (disch := first | assumption | omega) only [ds_cI, ds_cV, ds_cL, ds_cR, ds_nn, ds_isK_t, ds_isA_t, ds_chk_t, ds_chkN, ds_nz_t, ds_nzN, ds_isB_t, ds_isB_bo, ↓dl_m1, ↓dl_m2, dl_0, dl_1, dl_2, dl_3, dl_4, dl_5, dl_6, dl_7, dl_8, dl_9, dl_10, dl_11, dl_12, dl_13, dl_14, dl_15, dl_16, dl_20, dl_24, dl_31, dl_50, dl_57, dl_67, dl_68, dl_74, dl_75, dl_79, dl_80, dl_99, dl_100, dl_200, dl_210, dl_224, dl_255, dl_289, dl_900, dl_1000, dl_1728, dl_65536, dl_65537, nI_add, pk_mul, pk_sub, pk_div, pk_rem, ds_rem2, nI_clamp, nI_leI, nI_ltI, nI_eq, ds_m1_eq, ds_eq_m1, ds_m2_eq, ds_eq_m2, ds_m1_le, ds_le_m1, ds_m1_lt, ds_lt_m1, ds_in_N, ds_bo0, ds_bo1, if_pos, if_neg, Nat.not_le, Nat.not_lt, not_true_eq_false, not_false_eq_true, if_true, if_false, ne_eq, Option.some.injEq, Prod.mk.injEq, Value.int.injEq, true_and, and_true, and_self, ite_self, Bool.not_eq_true, Bool.not_eq_false, Bool.true_eq_false, Bool.false_eq_true, reduceCtorEq, Nat.zero_add, Nat.reduceAdd, Nat.reduceMul, Nat.reduceSub, ds_setI_row, ds_setL_row, ds_rowI_self, ds_rowI_ne, ds_rowI_2, ds_rowI_rowI, ds_setS_1, ds_setS_21, ds_setS_self, ds_setS_ne, pk_us, pk_un, e5, mv]
    | succ k ih =>
      intro m z hm hz hc
      have mv := s_movesOf (d + 3) c z (by omega)
      rw [if_neg (by omega)] at mv
      have e5 := h5 z hz
      have sb := hsb z s m hz Vs (by omega)
      have Vt := hN s m Vs (show m < c + 2 by omega)
      have t17 := hV _ Vt
      have Wm1 := WW (m + 1) (by omega)
      have tl := dk_W_le Wm1 hV
      have Ym := dk_vr_Y (N := N) (s := s) hY m (by omega)
      have lk := s_lookN (d + 3) 73 (N s m) 1728 z rfl rfl (by decide) t17
      rw [hc.2.1 _ t17] at lk
      have er : dk_vr N s (m + 1) B = dk_vs N s m (dk_vr N s m B) := rfl
      rw [er] at tl Wm1
      have ih' := fun z => ih (m + 1) z (by omega)
      rw [er] at ih'
      generalize dk_vr N s m B = C at *
      generalize dk_vr N s (c + 2) B = R at *
      rw [b_Search_queueNext_5]
      by_cases q : C.2.1 (N s m) = 0
      · have ev : dk_vs N s m C = (dk_up C.1 C.2.2.2 (N s m), dk_up C.2.1 (N s m) (s + 2), dk_up C.2.2.1 (N s m) m, C.2.2.2 + 1) := by
          unfold dk_vs
          rw [if_pos q]
        have tl' : C.2.2.2 + 1 ≤ 1728 := by
          rw [ev] at tl
          exact tl
        let z1 := ds_rowI z 73 (upd (z.1 73) (N s m) (nI m))
        let z2 := ds_rowI z1 72 (upd (z1.1 72) (N s m) (nI s))
        let z3 := ds_rowI z2 71 (upd (z2.1 71) C.2.2.2 (nI (N s m)))
        have p1 := s_putN (d + 3) 73 (N s m) 1728 (nI m) z rfl rfl (by decide) t17
        have p2 := s_putN (d + 3) 72 (N s m) 1728 (nI s) z1 rfl rfl (by decide) t17
        have p3 := s_putN (d + 3) 71 C.2.2.2 1728 (nI (N s m)) z2 rfl rfl (by decide) (by omega)
        have g73 : ∀ j, z3.1 73 j = upd (z.1 73) (N s m) (nI m) j := by
          intro j
          show (ds_rowI (ds_rowI (ds_rowI z 73 _) 72 _) 71 _).1 73 j = _
          rw [ds_rowI_ne _ _ (by decide), ds_rowI_ne _ _ (by decide), ds_rowI_self]
        have g72 : ∀ j, z3.1 72 j = upd (z.1 72) (N s m) (nI s) j := by
          intro j
          show (ds_rowI (ds_rowI (ds_rowI z 73 _) 72 _) 71 _).1 72 j = _
          rw [ds_rowI_ne _ _ (by decide), ds_rowI_self]
          show upd ((ds_rowI z 73 _).1 72) _ _ j = _
          rw [ds_rowI_ne _ _ (by decide)]
        have g71 : ∀ j, z3.1 71 j = upd (z.1 71) C.2.2.2 (nI (N s m)) j := by
          intro j
          show (ds_rowI (ds_rowI (ds_rowI z 73 _) 72 _) 71 _).1 71 j = _
          rw [ds_rowI_self]
          show upd ((ds_rowI (ds_rowI z 73 _) 72 _).1 71) _ _ j = _
          rw [ds_rowI_ne _ _ (by decide), ds_rowI_ne _ _ (by decide)]
        have f3 : dk_s3 z z3 := ⟨fun p a b c => by
          show (ds_rowI (ds_rowI (ds_rowI z 73 _) 72 _) 71 _).1 p = _
          rw [ds_rowI_ne _ _ a, ds_rowI_ne _ _ b, ds_rowI_ne _ _ c], rfl⟩
        have p1' : ds_call (d + 4) j_Sea_put [.ref 73, .int (nI (N s m)), .int (nI m)] z = some (none, z1) := p1
        have p2' : ds_call (d + 4) j_Sea_put [.ref 72, .int (nI (N s m)), .int (nI s)] z1 = some (none, z2) := p2
        have p3' : ds_call (d + 4) j_Sea_put [.ref 71, .int (nI C.2.2.2), .int (nI (N s m))] z2 = some (none, z3) := p3
        clear_value z3
        clear_value z2
        clear_value z1
        have hc3 : dk_cS z3 (dk_vs N s m C) := by
          rw [ev]
          refine ⟨fun i hi => ?_, fun t ht => ?_, fun t ht h2 => ?_⟩
          · have hi' : i < C.2.2.2 + 1 := hi
            show z3.1 71 i = nI (dk_up C.1 C.2.2.2 (N s m) i)
            rw [g71]
            by_cases e : i = C.2.2.2
            · rw [e, pk_us, dk_up_s]
            · rw [pk_un e, dk_up_n e]
              exact hc.1 i (by omega)
          · show z3.1 73 t = dk_eb (dk_up C.2.1 (N s m) (s + 2) t) (dk_up C.2.2.1 (N s m) m t)
            rw [g73]
            by_cases e : t = N s m
            · rw [e, pk_us, dk_up_s, dk_up_s, dk_eb_2 (by omega)]
            · rw [pk_un e, dk_up_n e, dk_up_n e]
              exact hc.2.1 t ht
          · have h2' : 2 ≤ dk_up C.2.1 (N s m) (s + 2) t := h2
            show z3.1 72 t = nI (dk_up C.2.1 (N s m) (s + 2) t - 2)
            rw [g72]
            by_cases e : t = N s m
            · rw [e, pk_us, dk_up_s, Nat.add_sub_cancel]
            · rw [pk_un e, dk_up_n e]
              rw [dk_up_n e] at h2'
              exact hc.2.2 t ht h2'
        obtain ⟨z', w1, w2, w3⟩ := ih' z3 (hP z z3 hz f3) hc3
        refine ⟨z', ?_, w2, dk_s3_trans f3 w3⟩
        have w1' : ds_Rw ds_c_Search_queueNext ds_u_Search_queueNext (ds_call (d + 4)) 5 [some (.ref 70), some (.int (nI s)), none, some (.int (nI ((C.2.2.2 + 1)))), some (.int (nI ((m + 1)))), none] [] z3 = some (some (.int (nI R.2.2.2)), z') := by
          rw [ev] at w1
          exact w1
        rw [q, dk_eb_0] at lk
        generalize C.2.2.2 = A at *
        generalize R.2.2.2 = A2 at *
        generalize N s m = to at *
        simp (disch := first | assumption | omega) only [ds_cI, ds_cV, ds_cL, ds_cR, ds_nn, ds_isK_t, ds_isA_t, ds_chk_t, ds_chkN, ds_nz_t, ds_nzN, ds_isB_t, ds_isB_bo, ↓dl_m1, ↓dl_m2, dl_0, dl_1, dl_2, dl_3, dl_4, dl_5, dl_6, dl_7, dl_8, dl_9, dl_10, dl_11, dl_12, dl_13, dl_14, dl_15, dl_16, dl_20, dl_24, dl_31, dl_50, dl_57, dl_67, dl_68, dl_74, dl_75, dl_79, dl_80, dl_99, dl_100, dl_200, dl_210, dl_224, dl_255, dl_289, dl_900, dl_1000, dl_1728, dl_65536, dl_65537, nI_add, pk_mul, pk_sub, pk_div, pk_rem, ds_rem2, nI_clamp, nI_leI, nI_ltI, nI_eq, ds_m1_eq, ds_eq_m1, ds_m2_eq, ds_eq_m2, ds_m1_le, ds_le_m1, ds_m1_lt, ds_lt_m1, ds_in_N, ds_bo0, ds_bo1, if_pos, if_neg, Nat.not_le, Nat.not_lt, not_true_eq_false, not_false_eq_true, if_true, if_false, ne_eq, Option.some.injEq, Prod.mk.injEq, Value.int.injEq, true_and, and_true, and_self, ite_self, Bool.not_eq_true, Bool.not_eq_false, Bool.true_eq_false, Bool.false_eq_true, reduceCtorEq, Nat.zero_add, Nat.reduceAdd, Nat.reduceMul, Nat.reduceSub, ds_setI_row, ds_setL_row, ds_rowI_self, ds_rowI_ne, ds_rowI_2, ds_rowI_rowI, ds_setS_1, ds_setS_21, ds_setS_self, ds_setS_ne, pk_us, pk_un, e5, mv, sb, lk, ↓dl_m3, p1', p2', p3', w1']
      · have ev : dk_vs N s m C = C := by
          unfold dk_vs
          rw [if_neg q]
        have nb := dk_eb_ne q (show C.2.2.1 (N s m) < 2 ^ 31 by have := Ym (N s m); omega)
        rw [ev] at ih'
        obtain ⟨z', w1, w2, w3⟩ := ih' z hz hc
        refine ⟨z', ?_, w2, w3⟩
        generalize dk_eb (C.2.1 (N s m)) (C.2.2.1 (N s m)) = eb at *
        generalize C.2.2.2 = A at *
        generalize R.2.2.2 = A2 at *
        generalize N s m = to at *
        simp (disch := first | assumption | omega) only [ds_cI, ds_cV, ds_cL, ds_cR, ds_nn, ds_isK_t, ds_isA_t, ds_chk_t, ds_chkN, ds_nz_t, ds_nzN, ds_isB_t, ds_isB_bo, ↓dl_m1, ↓dl_m2, dl_0, dl_1, dl_2, dl_3, dl_4, dl_5, dl_6, dl_7, dl_8, dl_9, dl_10, dl_11, dl_12, dl_13, dl_14, dl_15, dl_16, dl_20, dl_24, dl_31, dl_50, dl_57, dl_67, dl_68, dl_74, dl_75, dl_79, dl_80, dl_99, dl_100, dl_200, dl_210, dl_224, dl_255, dl_289, dl_900, dl_1000, dl_1728, dl_65536, dl_65537, nI_add, pk_mul, pk_sub, pk_div, pk_rem, ds_rem2, nI_clamp, nI_leI, nI_ltI, nI_eq, ds_m1_eq, ds_eq_m1, ds_m2_eq, ds_eq_m2, ds_m1_le, ds_le_m1, ds_m1_lt, ds_lt_m1, ds_in_N, ds_bo0, ds_bo1, if_pos, if_neg, Nat.not_le, Nat.not_lt, not_true_eq_false, not_false_eq_true, if_true, if_false, ne_eq, Option.some.injEq, Prod.mk.injEq, Value.int.injEq, true_and, and_true, and_self, ite_self, Bool.not_eq_true, Bool.not_eq_false, Bool.true_eq_false, Bool.false_eq_true, reduceCtorEq, Nat.zero_add, Nat.reduceAdd, Nat.reduceMul, Nat.reduceSub, ds_setI_row, ds_setL_row, ds_rowI_self, ds_rowI_ne, ds_rowI_2, ds_rowI_rowI, ds_setS_1, ds_setS_21, ds_setS_self, ds_setS_ne, pk_us, pk_un, e5, mv, sb, lk, ↓dl_m3, nb, w1]
  obtain ⟨z', w1, w2, w3⟩ := go (c + 2) 0 z (by omega) hz hc
  refine ⟨z', ?_, w2, w3⟩
  have w1' : ds_Rw ds_c_Search_queueNext ds_u_Search_queueNext (ds_call (d + 4)) 5 [some (.ref 70), some (.int (nI s)), none, some (.int (nI ((B.2.2.2)))), some (.int (nI 0)), none] [] z = some (some (.int (nI (dk_vr N s (c + 2) B).2.2.2)), z') := w1
  rw [c_Search_queueNext, b_Search_queueNext_0]
  generalize (dk_vr N s (c + 2) B).2.2.2 = A2 at *
  generalize B.2.2.2 = A at *
  simp (disch := first | assumption | omega) only [ds_cI, ds_cV, ds_cL, ds_cR, ds_nn, ds_isK_t, ds_isA_t, ds_chk_t, ds_chkN, ds_nz_t, ds_nzN, ds_isB_t, ds_isB_bo, ↓dl_m1, ↓dl_m2, dl_0, dl_1, dl_2, dl_3, dl_4, dl_5, dl_6, dl_7, dl_8, dl_9, dl_10, dl_11, dl_12, dl_13, dl_14, dl_15, dl_16, dl_20, dl_24, dl_31, dl_50, dl_57, dl_67, dl_68, dl_74, dl_75, dl_79, dl_80, dl_99, dl_100, dl_200, dl_210, dl_224, dl_255, dl_289, dl_900, dl_1000, dl_1728, dl_65536, dl_65537, nI_add, pk_mul, pk_sub, pk_div, pk_rem, ds_rem2, nI_clamp, nI_leI, nI_ltI, nI_eq, ds_m1_eq, ds_eq_m1, ds_m2_eq, ds_eq_m2, ds_m1_le, ds_le_m1, ds_m1_lt, ds_lt_m1, ds_in_N, ds_bo0, ds_bo1, if_pos, if_neg, Nat.not_le, Nat.not_lt, not_true_eq_false, not_false_eq_true, if_true, if_false, ne_eq, Option.some.injEq, Prod.mk.injEq, Value.int.injEq, true_and, and_true, and_self, ite_self, Bool.not_eq_true, Bool.not_eq_false, Bool.true_eq_false, Bool.false_eq_true, reduceCtorEq, Nat.zero_add, Nat.reduceAdd, Nat.reduceMul, Nat.reduceSub, ds_setI_row, ds_setL_row, ds_rowI_self, ds_rowI_ne, ds_rowI_2, ds_rowI_rowI, ds_setS_1, ds_setS_21, ds_setS_self, ds_setS_ne, pk_us, pk_un, w1']
/-- the class's loop: up to head T nothing is a goal -/
theorem s_cpre (d c st T : Nat) (V : Nat → Prop) (N : Nat → Nat → Nat) (G : Nat → Bool) (Pz : ds_St → Prop) (hP : ∀ z z', Pz z → dk_s3 z z' → Pz z') (h5 : ∀ z, Pz z → z.1 70 5 = nI c) (c2 : 2 ≤ c) (c12 : c ≤ 12) (h0 : V st) (hV : ∀ s, V s → s < 1728) (hN : ∀ s m, V s → m < c + 2 → V (N s m)) (hsb : ∀ z s m, Pz z → V s → m < c + 2 → ds_call (d + 4) j_Search_stateBehind [.ref 70, .int (nI s), .int (nI m)] z = some (some (.int (nI (N s m))), z)) (hgo : ∀ z s, Pz z → V s → ds_call (d + 5) j_Search_isGoal [.ref 70, .int (nI s)] z = some (some (.int (ds_bo (G s))), z)) (hpre : dk_pre N (c + 2) st G T) : ∀ k h z, h + k = T → Pz z → dk_cS z (dk_bf N (c + 2) st h) → ∃ z', ds_Rw ds_c_Search_seek ds_u_Search_seek (ds_call (d + 5)) 54 [some (.ref 70), none, none, some (.int (nI (((dk_bf N (c + 2) st h).2.2.2)))), some (.int (nI h)), none] [] z = ds_Rw ds_c_Search_seek ds_u_Search_seek (ds_call (d + 5)) 54 [some (.ref 70), none, none, some (.int (nI (((dk_bf N (c + 2) st T).2.2.2)))), some (.int (nI T)), none] [] z' ∧ dk_cS z' (dk_bf N (c + 2) st T) ∧ dk_s3 z z' := by
  intro k
  induction k with
  | zero =>
    intro h z hk hz hc
    have : h = T := by omega
    subst this
    exact ⟨z, rfl, hc, dk_s3_refl z⟩
  | succ k ih =>
    intro h z hk hz hc
    obtain ⟨q1, q2⟩ := hpre h (by omega)
    have W := dk_bf_W (M := c + 2) h0 hN h
    have Y := dk_bf_Y (N := N) (st := st) (show c + 2 ≤ 14 by omega) h
    have Vs := (W.2.2.2.1 h q1).1
    have s17 := hV _ Vs
    have tl := dk_W_le W hV
    obtain ⟨z1, u1, u2, u3⟩ := s_qnext d c h _ st V N Pz hP h5 c2 c12 hV hN hsb z _ W Y q1 rfl hz hc
    have lk := s_lookN (d + 4) 71 h 1728 z rfl rfl (by decide) (by omega)
    rw [hc.1 h q1] at lk
    have ga := hgo z _ hz Vs
    rw [q2] at ga
    have er : dk_bf N (c + 2) st (h + 1) = dk_vr N ((dk_bf N (c + 2) st h).1 h) (c + 2) (dk_bf N (c + 2) st h) := by
      simp only [dk_bf]
      rw [if_pos q1]
    rw [← er] at u1 u2
    obtain ⟨z', w1, w2, w3⟩ := ih (h + 1) z1 (by omega) (hP z z1 hz u3) u2
    refine ⟨z', ?_, w2, dk_s3_trans u3 w3⟩
    rw [← w1, b_Search_seek_54]
    generalize (dk_bf N (c + 2) st (h + 1)).2.2.2 = A2 at *
    generalize (dk_bf N (c + 2) st h).1 h = s at *
    generalize (dk_bf N (c + 2) st h).2.2.2 = A at *
    simp (disch := first | assumption | omega) only [ds_cI, ds_cV, ds_cL, ds_cR, ds_nn, ds_isK_t, ds_isA_t, ds_chk_t, ds_chkN, ds_nz_t, ds_nzN, ds_isB_t, ds_isB_bo, ↓dl_m1, ↓dl_m2, dl_0, dl_1, dl_2, dl_3, dl_4, dl_5, dl_6, dl_7, dl_8, dl_9, dl_10, dl_11, dl_12, dl_13, dl_14, dl_15, dl_16, dl_20, dl_24, dl_31, dl_50, dl_57, dl_67, dl_68, dl_74, dl_75, dl_79, dl_80, dl_99, dl_100, dl_200, dl_210, dl_224, dl_255, dl_289, dl_900, dl_1000, dl_1728, dl_65536, dl_65537, nI_add, pk_mul, pk_sub, pk_div, pk_rem, ds_rem2, nI_clamp, nI_leI, nI_ltI, nI_eq, ds_m1_eq, ds_eq_m1, ds_m2_eq, ds_eq_m2, ds_m1_le, ds_le_m1, ds_m1_lt, ds_lt_m1, ds_in_N, ds_bo0, ds_bo1, if_pos, if_neg, Nat.not_le, Nat.not_lt, not_true_eq_false, not_false_eq_true, if_true, if_false, ne_eq, Option.some.injEq, Prod.mk.injEq, Value.int.injEq, true_and, and_true, and_self, ite_self, Bool.not_eq_true, Bool.not_eq_false, Bool.true_eq_false, Bool.false_eq_true, reduceCtorEq, Nat.zero_add, Nat.reduceAdd, Nat.reduceMul, Nat.reduceSub, ds_setI_row, ds_setL_row, ds_rowI_self, ds_rowI_ne, ds_rowI_2, ds_rowI_rowI, ds_setS_1, ds_setS_21, ds_setS_self, ds_setS_ne, pk_us, pk_un, lk, ga, u1]
/-- the class's search -/
theorem s_cseek (d c st T : Nat) (V : Nat → Prop) (N : Nat → Nat → Nat) (G : Nat → Bool) (Pz : ds_St → Prop) (hP : ∀ z z', Pz z → dk_s3 z z' → Pz z') (h5 : ∀ z, Pz z → z.1 70 5 = nI c) (c2 : 2 ≤ c) (c12 : c ≤ 12) (h0 : V st) (hV : ∀ s, V s → s < 1728) (hN : ∀ s m, V s → m < c + 2 → V (N s m)) (hsb : ∀ z s m, Pz z → V s → m < c + 2 → ds_call (d + 4) j_Search_stateBehind [.ref 70, .int (nI s), .int (nI m)] z = some (some (.int (nI (N s m))), z)) (hgo : ∀ z s, Pz z → V s → ds_call (d + 5) j_Search_isGoal [.ref 70, .int (nI s)] z = some (some (.int (ds_bo (G s))), z)) (cb : Bool) (hcb : ∀ z, Pz z → ds_call (d + 5) j_Search_canBe [.ref 70] z = some (some (.int (ds_bo cb)), z)) (hcf : cb = false → ∀ s, V s → G s = false) (hT : dk_fd N (c + 2) st G T ∨ dk_nf N (c + 2) st G T) (z : ds_St) (hz : Pz (ds_rowI z 70 (upd (upd (z.1 70) 5 (nI c)) 7 ds_m1))) : ∃ z', ds_call (d + 6) j_Search_seek [.ref 70, .int (nI st), .int (nI c)] z = some (none, z') ∧ dk_fr 70 75 z z' ∧ ((dk_fd N (c + 2) st G T ∧ z'.1 70 7 = nI ((dk_bf N (c + 2) st T).1 T) ∧ dk_cS z' (dk_bf N (c + 2) st T)) ∨ (dk_nf N (c + 2) st G T ∧ z'.1 70 7 = ds_m1)) := by
  have st17 := hV st h0
  let y0 := ds_rowI z 70 (upd (upd (z.1 70) 5 (nI c)) 7 ds_m1)
  have y0e : ds_setI (ds_setI z 70 5 (nI c)) 70 7 ds_m1 = y0 := by
    rw [ds_setI_row, ds_setI_row, ds_rowI_self, ds_rowI_rowI]
  have y07 : y0.1 70 7 = ds_m1 := by
    show (ds_rowI z 70 _).1 70 7 = _
    rw [ds_rowI_self, pk_us]
  have fy0 : dk_fr 70 75 z y0 := dk_fr_row _ (dk_fr_refl _ _ _) (by decide) (by decide)
  have hz0 : Pz y0 := hz
  clear_value y0
  have f1 := s_fill (d + 4) 73 1728 ds_m3 y0 rfl rfl (by decide)
  let y1 := ds_rowI y0 73 (fun j => if j < 1728 then ds_m3 else y0.1 73 j)
  have p1 := s_putN (d + 4) 73 st 1728 ds_m2 y1 rfl rfl (by decide) st17
  let y2 := ds_rowI y1 73 (upd (y1.1 73) st ds_m2)
  have p2 := s_putN (d + 4) 71 0 1728 (nI st) y2 rfl rfl (by decide) (by decide)
  let y3 := ds_rowI y2 71 (upd (y2.1 71) 0 (nI st))
  have g73 : ∀ j, j < 1728 → y3.1 73 j = if j = st then ds_m2 else ds_m3 := by
    intro j hj
    show (ds_rowI (ds_rowI (ds_rowI y0 73 _) 73 _) 71 _).1 73 j = _
    rw [ds_rowI_ne _ _ (by decide), ds_rowI_self]
    show upd ((ds_rowI y0 73 _).1 73) st ds_m2 j = _
    rw [ds_rowI_self]
    unfold upd
    by_cases e : j = st
    · rw [if_pos e, if_pos e]
    · rw [if_neg e, if_neg e]
      exact if_pos hj
  have g71 : y3.1 71 0 = nI st := by
    show (ds_rowI (ds_rowI (ds_rowI y0 73 _) 73 _) 71 _).1 71 0 = _
    rw [ds_rowI_self, pk_us]
  have f3 : dk_s3 y0 y3 := ⟨fun p a b c => by
    show (ds_rowI (ds_rowI (ds_rowI y0 73 _) 73 _) 71 _).1 p = _
    rw [ds_rowI_ne _ _ a, ds_rowI_ne _ _ c, ds_rowI_ne _ _ c], rfl⟩
  have f1' : ds_call (d + 5) j_Arrays_fill [.ref 73, .int ds_m3] y0 = some (none, y1) := f1
  have p1' : ds_call (d + 5) j_Sea_put [.ref 73, .int (nI st), .int ds_m2] y1 = some (none, y2) := p1
  have p2' : ds_call (d + 5) j_Sea_put [.ref 71, .int (nI 0), .int (nI st)] y2 = some (none, y3) := p2
  clear_value y3
  clear_value y2
  clear_value y1
  have hz3 := hP y0 y3 hz0 f3
  have cb3 := hcb y3 hz3
  have fy3 : dk_fr 70 75 z y3 := ⟨fun p hp => by rw [f3.1 p (by omega) (by omega) (by omega)]; exact fy0.1 p hp, fun j hj => by rw [f3.2]; exact fy0.2 j hj⟩
  have y37 : y3.1 70 7 = ds_m1 := by rw [f3.1 70 (by decide) (by decide) (by decide)]; exact y07
  have hc0 : dk_cS y3 (dk_bf N (c + 2) st 0) := by
    refine ⟨fun i hi => ?_, fun s hs => ?_, fun s hs h2 => ?_⟩
    · have hi' : i < 1 := hi
      have : i = 0 := by omega
      subst this
      exact g71
    · rw [g73 s hs]
      show _ = dk_eb (if s = st then 1 else 0) 0
      by_cases e : s = st
      · rw [if_pos e, if_pos e]; rfl
      · rw [if_neg e, if_neg e]; rfl
    · exfalso
      have h2' : 2 ≤ (if s = st then 1 else 0) := h2
      split at h2' <;> omega
  cases hcbv : cb
  · have hG := hcf hcbv
    have hnf : dk_nf N (c + 2) st G T := by
      rcases hT with h | h
      · exfalso
        have W := dk_bf_W (M := c + 2) h0 hN T
        have := hG _ (W.2.2.2.1 T h.2.1).1
        rw [h.2.2] at this
        exact absurd this (by decide)
      · exact h
    refine ⟨y3, ?_, fy3, .inr ⟨hnf, y37⟩⟩
    rw [hcbv] at cb3
    rw [c_Search_seek, b_Search_seek_0]
    simp only [↓dl_m1, ↓dl_m2, ↓dl_m3, y0e]
    simp (disch := first | assumption | omega) only [ds_cI, ds_cV, ds_cL, ds_cR, ds_nn, ds_isK_t, ds_isA_t, ds_chk_t, ds_chkN, ds_nz_t, ds_nzN, ds_isB_t, ds_isB_bo, ↓dl_m1, ↓dl_m2, dl_0, dl_1, dl_2, dl_3, dl_4, dl_5, dl_6, dl_7, dl_8, dl_9, dl_10, dl_11, dl_12, dl_13, dl_14, dl_15, dl_16, dl_20, dl_24, dl_31, dl_50, dl_57, dl_67, dl_68, dl_74, dl_75, dl_79, dl_80, dl_99, dl_100, dl_200, dl_210, dl_224, dl_255, dl_289, dl_900, dl_1000, dl_1728, dl_65536, dl_65537, nI_add, pk_mul, pk_sub, pk_div, pk_rem, ds_rem2, nI_clamp, nI_leI, nI_ltI, nI_eq, ds_m1_eq, ds_eq_m1, ds_m2_eq, ds_eq_m2, ds_m1_le, ds_le_m1, ds_m1_lt, ds_lt_m1, ds_in_N, ds_bo0, ds_bo1, if_pos, if_neg, Nat.not_le, Nat.not_lt, not_true_eq_false, not_false_eq_true, if_true, if_false, ne_eq, Option.some.injEq, Prod.mk.injEq, Value.int.injEq, true_and, and_true, and_self, ite_self, Bool.not_eq_true, Bool.not_eq_false, Bool.true_eq_false, Bool.false_eq_true, reduceCtorEq, Nat.zero_add, Nat.reduceAdd, Nat.reduceMul, Nat.reduceSub, ds_setI_row, ds_setL_row, ds_rowI_self, ds_rowI_ne, ds_rowI_2, ds_rowI_rowI, ds_setS_1, ds_setS_21, ds_setS_self, ds_setS_ne, pk_us, pk_un, f1', p1', p2', cb3]
    rw [b_Search_seek_54]
    simp (disch := first | assumption | omega) only [ds_cI, ds_cV, ds_cL, ds_cR, ds_nn, ds_isK_t, ds_isA_t, ds_chk_t, ds_chkN, ds_nz_t, ds_nzN, ds_isB_t, ds_isB_bo, ↓dl_m1, ↓dl_m2, dl_0, dl_1, dl_2, dl_3, dl_4, dl_5, dl_6, dl_7, dl_8, dl_9, dl_10, dl_11, dl_12, dl_13, dl_14, dl_15, dl_16, dl_20, dl_24, dl_31, dl_50, dl_57, dl_67, dl_68, dl_74, dl_75, dl_79, dl_80, dl_99, dl_100, dl_200, dl_210, dl_224, dl_255, dl_289, dl_900, dl_1000, dl_1728, dl_65536, dl_65537, nI_add, pk_mul, pk_sub, pk_div, pk_rem, ds_rem2, nI_clamp, nI_leI, nI_ltI, nI_eq, ds_m1_eq, ds_eq_m1, ds_m2_eq, ds_eq_m2, ds_m1_le, ds_le_m1, ds_m1_lt, ds_lt_m1, ds_in_N, ds_bo0, ds_bo1, if_pos, if_neg, Nat.not_le, Nat.not_lt, not_true_eq_false, not_false_eq_true, if_true, if_false, ne_eq, Option.some.injEq, Prod.mk.injEq, Value.int.injEq, true_and, and_true, and_self, ite_self, Bool.not_eq_true, Bool.not_eq_false, Bool.true_eq_false, Bool.false_eq_true, reduceCtorEq, Nat.zero_add, Nat.reduceAdd, Nat.reduceMul, Nat.reduceSub, ds_setI_row, ds_setL_row, ds_rowI_self, ds_rowI_ne, ds_rowI_2, ds_rowI_rowI, ds_setS_1, ds_setS_21, ds_setS_self, ds_setS_ne, pk_us, pk_un]
  · rw [hcbv] at cb3
    have pre := s_cpre d c st T V N G Pz hP h5 c2 c12 h0 hV hN hsb hgo
    have W := dk_bf_W (M := c + 2) h0 hN T
    have tl := dk_W_le W hV
    rcases hT with h | h
    · obtain ⟨z', w1, w2, w3⟩ := pre h.1 T 0 y3 (by omega) hz3 hc0
      have hz' := hP y3 z' hz3 w3
      have Vs := (W.2.2.2.1 T h.2.1).1
      have ga := hgo z' _ hz' Vs
      rw [h.2.2] at ga
      have lk := s_lookN (d + 4) 71 T 1728 z' rfl rfl (by decide) (by have := h.2.1; omega)
      rw [w2.1 T h.2.1] at lk
      have fz' : dk_fr 70 75 z z' := ⟨fun p hp => by rw [w3.1 p (by omega) (by omega) (by omega)]; exact fy3.1 p hp, fun j hj => by rw [w3.2]; exact fy3.2 j hj⟩
      have htl := h.2.1
      refine ⟨ds_rowI z' 70 (upd (z'.1 70) 7 (nI ((dk_bf N (c + 2) st T).1 T))), ?_, dk_fr_row _ fz' (by decide) (by decide), .inl ⟨h, by rw [ds_rowI_self, pk_us], ?_⟩⟩
      · have w1' : ds_Rw ds_c_Search_seek ds_u_Search_seek (ds_call (d + 5)) 54 [some (.ref 70), none, none, some (.int (nI 1)), some (.int (nI 0)), none] [] y3 = _ := w1
        rw [c_Search_seek, b_Search_seek_0]
        simp only [↓dl_m1, ↓dl_m2, ↓dl_m3, y0e]
        simp (disch := first | assumption | omega) only [ds_cI, ds_cV, ds_cL, ds_cR, ds_nn, ds_isK_t, ds_isA_t, ds_chk_t, ds_chkN, ds_nz_t, ds_nzN, ds_isB_t, ds_isB_bo, ↓dl_m1, ↓dl_m2, dl_0, dl_1, dl_2, dl_3, dl_4, dl_5, dl_6, dl_7, dl_8, dl_9, dl_10, dl_11, dl_12, dl_13, dl_14, dl_15, dl_16, dl_20, dl_24, dl_31, dl_50, dl_57, dl_67, dl_68, dl_74, dl_75, dl_79, dl_80, dl_99, dl_100, dl_200, dl_210, dl_224, dl_255, dl_289, dl_900, dl_1000, dl_1728, dl_65536, dl_65537, nI_add, pk_mul, pk_sub, pk_div, pk_rem, ds_rem2, nI_clamp, nI_leI, nI_ltI, nI_eq, ds_m1_eq, ds_eq_m1, ds_m2_eq, ds_eq_m2, ds_m1_le, ds_le_m1, ds_m1_lt, ds_lt_m1, ds_in_N, ds_bo0, ds_bo1, if_pos, if_neg, Nat.not_le, Nat.not_lt, not_true_eq_false, not_false_eq_true, if_true, if_false, ne_eq, Option.some.injEq, Prod.mk.injEq, Value.int.injEq, true_and, and_true, and_self, ite_self, Bool.not_eq_true, Bool.not_eq_false, Bool.true_eq_false, Bool.false_eq_true, reduceCtorEq, Nat.zero_add, Nat.reduceAdd, Nat.reduceMul, Nat.reduceSub, ds_setI_row, ds_setL_row, ds_rowI_self, ds_rowI_ne, ds_rowI_2, ds_rowI_rowI, ds_setS_1, ds_setS_21, ds_setS_self, ds_setS_ne, pk_us, pk_un, f1', p1', p2', cb3]
        rw [w1', b_Search_seek_54]
        generalize (dk_bf N (c + 2) st T).1 T = g at *
        generalize (dk_bf N (c + 2) st T).2.2.2 = A at *
        simp (disch := first | assumption | omega) only [ds_cI, ds_cV, ds_cL, ds_cR, ds_nn, ds_isK_t, ds_isA_t, ds_chk_t, ds_chkN, ds_nz_t, ds_nzN, ds_isB_t, ds_isB_bo, ↓dl_m1, ↓dl_m2, dl_0, dl_1, dl_2, dl_3, dl_4, dl_5, dl_6, dl_7, dl_8, dl_9, dl_10, dl_11, dl_12, dl_13, dl_14, dl_15, dl_16, dl_20, dl_24, dl_31, dl_50, dl_57, dl_67, dl_68, dl_74, dl_75, dl_79, dl_80, dl_99, dl_100, dl_200, dl_210, dl_224, dl_255, dl_289, dl_900, dl_1000, dl_1728, dl_65536, dl_65537, nI_add, pk_mul, pk_sub, pk_div, pk_rem, ds_rem2, nI_clamp, nI_leI, nI_ltI, nI_eq, ds_m1_eq, ds_eq_m1, ds_m2_eq, ds_eq_m2, ds_m1_le, ds_le_m1, ds_m1_lt, ds_lt_m1, ds_in_N, ds_bo0, ds_bo1, if_pos, if_neg, Nat.not_le, Nat.not_lt, not_true_eq_false, not_false_eq_true, if_true, if_false, ne_eq, Option.some.injEq, Prod.mk.injEq, Value.int.injEq, true_and, and_true, and_self, ite_self, Bool.not_eq_true, Bool.not_eq_false, Bool.true_eq_false, Bool.false_eq_true, reduceCtorEq, Nat.zero_add, Nat.reduceAdd, Nat.reduceMul, Nat.reduceSub, ds_setI_row, ds_setL_row, ds_rowI_self, ds_rowI_ne, ds_rowI_2, ds_rowI_rowI, ds_setS_1, ds_setS_21, ds_setS_self, ds_setS_ne, pk_us, pk_un, lk, ga]
      · refine ⟨fun i hi => ?_, fun s hs => ?_, fun s hs h2 => ?_⟩
        · rw [ds_rowI_ne _ _ (by decide)]; exact w2.1 i hi
        · rw [ds_rowI_ne _ _ (by decide)]; exact w2.2.1 s hs
        · rw [ds_rowI_ne _ _ (by decide)]; exact w2.2.2 s hs h2
    · obtain ⟨z', w1, w2, w3⟩ := pre h.1 T 0 y3 (by omega) hz3 hc0
      have fz' : dk_fr 70 75 z z' := ⟨fun p hp => by rw [w3.1 p (by omega) (by omega) (by omega)]; exact fy3.1 p hp, fun j hj => by rw [w3.2]; exact fy3.2 j hj⟩
      have htl := h.2
      refine ⟨z', ?_, fz', .inr ⟨h, by rw [w3.1 70 (by decide) (by decide) (by decide)]; exact y37⟩⟩
      have w1' : ds_Rw ds_c_Search_seek ds_u_Search_seek (ds_call (d + 5)) 54 [some (.ref 70), none, none, some (.int (nI 1)), some (.int (nI 0)), none] [] y3 = _ := w1
      rw [c_Search_seek, b_Search_seek_0]
      simp only [↓dl_m1, ↓dl_m2, ↓dl_m3, y0e]
      simp (disch := first | assumption | omega) only [ds_cI, ds_cV, ds_cL, ds_cR, ds_nn, ds_isK_t, ds_isA_t, ds_chk_t, ds_chkN, ds_nz_t, ds_nzN, ds_isB_t, ds_isB_bo, ↓dl_m1, ↓dl_m2, dl_0, dl_1, dl_2, dl_3, dl_4, dl_5, dl_6, dl_7, dl_8, dl_9, dl_10, dl_11, dl_12, dl_13, dl_14, dl_15, dl_16, dl_20, dl_24, dl_31, dl_50, dl_57, dl_67, dl_68, dl_74, dl_75, dl_79, dl_80, dl_99, dl_100, dl_200, dl_210, dl_224, dl_255, dl_289, dl_900, dl_1000, dl_1728, dl_65536, dl_65537, nI_add, pk_mul, pk_sub, pk_div, pk_rem, ds_rem2, nI_clamp, nI_leI, nI_ltI, nI_eq, ds_m1_eq, ds_eq_m1, ds_m2_eq, ds_eq_m2, ds_m1_le, ds_le_m1, ds_m1_lt, ds_lt_m1, ds_in_N, ds_bo0, ds_bo1, if_pos, if_neg, Nat.not_le, Nat.not_lt, not_true_eq_false, not_false_eq_true, if_true, if_false, ne_eq, Option.some.injEq, Prod.mk.injEq, Value.int.injEq, true_and, and_true, and_self, ite_self, Bool.not_eq_true, Bool.not_eq_false, Bool.true_eq_false, Bool.false_eq_true, reduceCtorEq, Nat.zero_add, Nat.reduceAdd, Nat.reduceMul, Nat.reduceSub, ds_setI_row, ds_setL_row, ds_rowI_self, ds_rowI_ne, ds_rowI_2, ds_rowI_rowI, ds_setS_1, ds_setS_21, ds_setS_self, ds_setS_ne, pk_us, pk_un, f1', p1', p2', cb3]
      have T17 : T < 2 ^ 31 := by
        rcases Nat.lt_or_ge T 1729 with a | a
        · omega
        · exfalso
          have b := (h.1 1728 (by omega)).1
          have e := dk_W_le (dk_bf_W (M := c + 2) h0 hN 1728) hV
          omega
      rw [w1', b_Search_seek_54]
      generalize (dk_bf N (c + 2) st T).2.2.2 = A at *
      simp (disch := first | assumption | omega) only [ds_cI, ds_cV, ds_cL, ds_cR, ds_nn, ds_isK_t, ds_isA_t, ds_chk_t, ds_chkN, ds_nz_t, ds_nzN, ds_isB_t, ds_isB_bo, ↓dl_m1, ↓dl_m2, dl_0, dl_1, dl_2, dl_3, dl_4, dl_5, dl_6, dl_7, dl_8, dl_9, dl_10, dl_11, dl_12, dl_13, dl_14, dl_15, dl_16, dl_20, dl_24, dl_31, dl_50, dl_57, dl_67, dl_68, dl_74, dl_75, dl_79, dl_80, dl_99, dl_100, dl_200, dl_210, dl_224, dl_255, dl_289, dl_900, dl_1000, dl_1728, dl_65536, dl_65537, nI_add, pk_mul, pk_sub, pk_div, pk_rem, ds_rem2, nI_clamp, nI_leI, nI_ltI, nI_eq, ds_m1_eq, ds_eq_m1, ds_m2_eq, ds_eq_m2, ds_m1_le, ds_le_m1, ds_m1_lt, ds_lt_m1, ds_in_N, ds_bo0, ds_bo1, if_pos, if_neg, Nat.not_le, Nat.not_lt, not_true_eq_false, not_false_eq_true, if_true, if_false, ne_eq, Option.some.injEq, Prod.mk.injEq, Value.int.injEq, true_and, and_true, and_self, ite_self, Bool.not_eq_true, Bool.not_eq_false, Bool.true_eq_false, Bool.false_eq_true, reduceCtorEq, Nat.zero_add, Nat.reduceAdd, Nat.reduceMul, Nat.reduceSub, ds_setI_row, ds_setL_row, ds_rowI_self, ds_rowI_ne, ds_rowI_2, ds_rowI_rowI, ds_setS_1, ds_setS_21, ds_setS_self, ds_setS_ne, pk_us, pk_un]
