/-! the model's search, whatever the goal -/
def dk_ef (x : Nat) : Int32 := if x = 0 then ds_m2 else if x = 1 then ds_m1 else nI (x - 2)
theorem dk_ef_2 {f : Nat} (h : 2 ≤ f) : dk_ef f = nI (f - 2) := by
  unfold dk_ef
  rw [if_neg (by omega), if_neg (by omega)]
theorem ds_m1_m2 : (ds_m1 = ds_m2) = False := eq_false (by decide)
theorem dk_ef_ne {f : Nat} (h : f ≠ 0) (hb : f < 2 ^ 31) : ¬ dk_ef f = ds_m2 := by
  by_cases q : f = 1
  · rw [q]
    show ¬ ds_m1 = ds_m2
    rw [ds_m1_m2]; exact id
  · rw [dk_ef_2 (by omega), ds_eq_m2 (by omega)]; exact id
def dk_mR (z : ds_St) (B : dk_BS) : Prop := (∀ s, s < 1728 → z.1 108 s = dk_ef (B.2.1 s)) ∧ (∀ s, s < 1728 → 2 ≤ B.2.1 s → z.1 109 s = nI (B.2.2.1 s))
def dk_mQ (z : ds_St) (B : dk_BS) : Prop := ∀ i, i < B.2.2.2 → z.1 107 i = nI (B.1 i)
/-- all but the model's three rows and its last state is as it was -/
def dk_m3 (z z' : ds_St) : Prop := (∀ p, p ≠ 107 → p ≠ 108 → p ≠ 109 → p ≠ 90 → z'.1 p = z.1 p) ∧ (∀ k, k ≠ 38 → z'.1 90 k = z.1 90 k) ∧ z'.2 = z.2
theorem dk_m3_refl (z : ds_St) : dk_m3 z z := ⟨fun _ _ _ _ _ => rfl, fun _ _ => rfl, rfl⟩
theorem dk_m3_trans {z z1 z2 : ds_St} (h : dk_m3 z z1) (h2 : dk_m3 z1 z2) : dk_m3 z z2 := ⟨fun p a b c e => (h2.1 p a b c e).trans (h.1 p a b c e), fun k a => (h2.2.1 k a).trans (h.2.1 k a), h2.2.2.trans h.2.2⟩
theorem dk_fr_lt {V : Nat → Prop} {st s : Nat} {B : dk_BS} (hW : dk_W V st B) (hV : ∀ s, V s → s < 1728) : B.2.1 s < 2000 := by
  by_cases q : B.2.1 s = 0
  · omega
  · obtain ⟨i, i1, i2⟩ := hW.2.2.2.2.1 s q
    rcases Nat.eq_zero_or_pos i with h | h
    · subst h
      rw [hW.2.1] at i2
      rw [← i2, hW.2.2.1]
      decide
    · obtain ⟨j, j1, j2⟩ := hW.2.2.2.2.2.2 i h i1
      have := hV _ (hW.2.2.2.1 j (by omega)).1
      rw [← i2, j2]
      omega
/-- what the model knows when it has found the goal -/
def dk_fin (V : Nat → Prop) (N : Nat → Nat → Nat) (M st T : Nat) (z : ds_St) : Prop := ∃ B, dk_W V st B ∧ dk_Y B ∧ dk_E B (dk_bf N M st T) ∧ B.2.1 ((dk_bf N M st T).1 T) ≠ 0 ∧ dk_mR z B ∧ z.1 90 38 = nI ((dk_bf N M st T).1 T)
theorem s_mloop (d c st T : Nat) (V : Nat → Prop) (N : Nat → Nat → Nat) (G : Nat → Bool) (Pm : ds_St → Prop) (hP : ∀ z z', Pm z → dk_m3 z z' → Pm z') (c2 : 2 ≤ c) (c12 : c ≤ 12) (h0 : V st) (hV : ∀ s, V s → s < 1728) (hN : ∀ s m, V s → m < c + 2 → V (N s m)) (hmm : ∀ z, Pm z → ds_call (d + 5) j_Mod_movesOf [.ref 90, .ref 95] z = some (some (.int (nI (c + 2))), z)) (hmv : ∀ z s m, Pm z → V s → m < c + 2 → ds_call (d + 5) j_Mod_moved [.ref 90, .int (nI s), .int (nI m)] z = some (some (.int (nI (N s m))), z)) (hgo : ∀ z s, Pm z → V s → ds_call (d + 5) j_Mod_isGoal [.ref 90, .int (nI s)] z = some (some (.int (ds_bo (G s))), z)) (b : Bool) (hT : dk_pre N (c + 2) st G T ∧ ((b = true ∧ T < (dk_bf N (c + 2) st T).2.2.2 ∧ G ((dk_bf N (c + 2) st T).1 T) = true) ∨ (b = false ∧ (dk_bf N (c + 2) st T).2.2.2 ≤ T))) : ∀ k h z, h + k = T → (dk_bf N (c + 2) st h).2.2.2 ≤ T → Pm z → dk_mQ z (dk_bf N (c + 2) st h) → dk_mR z (dk_bf N (c + 2) st h) → ∃ z', ds_Rw ds_c_Mod_seek ds_u_Mod_seek (ds_call (d + 5)) 71 [some (.ref 90), none, none, none, some (.int (nI (((dk_bf N (c + 2) st h).2.2.2)))), some (.int (nI h)), none, none] [] z = some (some (.int (ds_bo b)), z') ∧ dk_m3 z z' ∧ (b = true → dk_fin V N (c + 2) st T z') := by
  have hq := dk_pre_q (V := V) hT.1
  have T17 : T ≤ 1728 := by
    rcases Nat.lt_or_ge T 1729 with a | a
    · omega
    · exfalso
      have b := (hT.1 1728 (by omega)).1
      have e := dk_W_le (dk_bf_W (M := c + 2) h0 hN 1728) hV
      omega
  intro k
  induction k with
  | zero =>
    intro h z hk htl hz hQ hR
    have : h = T := by omega
    subst this
    rcases hT.2 with ⟨_, a, _⟩ | ⟨hb, a⟩
    · omega
    · refine ⟨z, ?_, dk_m3_refl z, fun e => by rw [hb] at e; exact absurd e (by decide)⟩
      rw [hb, b_Mod_seek_71]
      generalize (dk_bf N (c + 2) st h).2.2.2 = A at *
      simp (disch := first | assumption | omega) only [ds_cI, ds_cV, ds_cL, ds_cR, ds_nn, ds_isK_t, ds_isA_t, ds_chk_t, ds_chkN, ds_nz_t, ds_nzN, ds_isB_t, ds_isB_bo, ↓dl_m1, ↓dl_m2, dl_0, dl_1, dl_2, dl_3, dl_4, dl_5, dl_6, dl_7, dl_8, dl_9, dl_10, dl_11, dl_12, dl_13, dl_14, dl_15, dl_16, dl_20, dl_24, dl_31, dl_50, dl_57, dl_67, dl_68, dl_74, dl_75, dl_79, dl_80, dl_99, dl_100, dl_200, dl_210, dl_224, dl_255, dl_289, dl_900, dl_1000, dl_1728, dl_65536, dl_65537, nI_add, pk_mul, pk_sub, pk_div, pk_rem, ds_rem2, nI_clamp, nI_leI, nI_ltI, nI_eq, ds_m1_eq, ds_eq_m1, ds_m2_eq, ds_eq_m2, ds_m1_le, ds_le_m1, ds_m1_lt, ds_lt_m1, ds_in_N, ds_bo0, ds_bo1, if_pos, if_neg, Nat.not_le, Nat.not_lt, not_true_eq_false, not_false_eq_true, if_true, if_false, ne_eq, Option.some.injEq, Prod.mk.injEq, Value.int.injEq, true_and, and_true, and_self, ite_self, Bool.not_eq_true, Bool.not_eq_false, Bool.true_eq_false, Bool.false_eq_true, reduceCtorEq, Nat.zero_add, Nat.reduceAdd, Nat.reduceMul, Nat.reduceSub, ds_setI_row, ds_setL_row, ds_rowI_self, ds_rowI_ne, ds_rowI_2, ds_rowI_rowI, ds_setS_1, ds_setS_21, ds_setS_self, ds_setS_ne, pk_us, pk_un, ds_bo_f]
  | succ k ih =>
    intro h z hk htl hz hQ hR
    obtain ⟨q1, q2⟩ := hT.1 h (by omega)
    have W := dk_bf_W (M := c + 2) h0 hN h
    have Y := dk_bf_Y (N := N) (st := st) (show c + 2 ≤ 14 by omega) h
    have Vs := (W.2.2.2.1 h q1).1
    have s17 := hV _ Vs
    have er : dk_bf N (c + 2) st (h + 1) = dk_vr N ((dk_bf N (c + 2) st h).1 h) (c + 2) (dk_bf N (c + 2) st h) := by
      simp only [dk_bf]
      rw [if_pos q1]
    have eT := dk_bf_E (V := V) N (c + 2) st (h + 1) (T - (h + 1))
    rw [show h + 1 + (T - (h + 1)) = T by omega] at eT
    have ih' := ih (h + 1)
    rw [er] at eT ih'
    have in0 : ∀ j m y, m + j = c + 2 → (dk_vr N ((dk_bf N (c + 2) st h).1 h) m (dk_bf N (c + 2) st h)).2.2.2 ≤ T → Pm y → dk_mQ y (dk_vr N ((dk_bf N (c + 2) st h).1 h) m (dk_bf N (c + 2) st h)) → dk_mR y (dk_vr N ((dk_bf N (c + 2) st h).1 h) m (dk_bf N (c + 2) st h)) → ∃ z', ds_Rw ds_c_Mod_seek ds_u_Mod_seek (ds_call (d + 5)) 81 [some (.ref 90), none, none, none, some (.int (nI (((dk_vr N ((dk_bf N (c + 2) st h).1 h) m (dk_bf N (c + 2) st h)).2.2.2)))), some (.int (nI h)), some (.int (nI m)), none] [] y = some (some (.int (ds_bo b)), z') ∧ dk_m3 y z' ∧ (b = true → dk_fin V N (c + 2) st T z') := by
      have WW := dk_vr_W (M := c + 2) W q1 rfl (fun m hm => hN _ m Vs hm)
      have EE := dk_vr_E (V := V) (st := st) N ((dk_bf N (c + 2) st h).1 h) (dk_bf N (c + 2) st h)
      have E2 := fun m => dk_vr_E2 (V := V) (st := st) N ((dk_bf N (c + 2) st h).1 h) (dk_bf N (c + 2) st h) m
      intro j
      induction j with
      | zero =>
        intro m y hm htl hy hQ hR
        have : m = c + 2 := by omega
        subst this
        obtain ⟨z', w1, w2, w3⟩ := ih' y (by omega) htl hy hQ hR
        refine ⟨z', ?_, w2, w3⟩
        have mm := hmm y hy
        rw [b_Mod_seek_81]
        generalize (dk_vr N ((dk_bf N (c + 2) st h).1 h) (c + 2) (dk_bf N (c + 2) st h)).2.2.2 = A at *
        simp (disch := first | assumption | omega) only [ds_cI, ds_cV, ds_cL, ds_cR, ds_nn, ds_isK_t, ds_isA_t, ds_chk_t, ds_chkN, ds_nz_t, ds_nzN, ds_isB_t, ds_isB_bo, ↓dl_m1, ↓dl_m2, dl_0, dl_1, dl_2, dl_3, dl_4, dl_5, dl_6, dl_7, dl_8, dl_9, dl_10, dl_11, dl_12, dl_13, dl_14, dl_15, dl_16, dl_20, dl_24, dl_31, dl_50, dl_57, dl_67, dl_68, dl_74, dl_75, dl_79, dl_80, dl_99, dl_100, dl_200, dl_210, dl_224, dl_255, dl_289, dl_900, dl_1000, dl_1728, dl_65536, dl_65537, nI_add, pk_mul, pk_sub, pk_div, pk_rem, ds_rem2, nI_clamp, nI_leI, nI_ltI, nI_eq, ds_m1_eq, ds_eq_m1, ds_m2_eq, ds_eq_m2, ds_m1_le, ds_le_m1, ds_m1_lt, ds_lt_m1, ds_in_N, ds_bo0, ds_bo1, if_pos, if_neg, Nat.not_le, Nat.not_lt, not_true_eq_false, not_false_eq_true, if_true, if_false, ne_eq, Option.some.injEq, Prod.mk.injEq, Value.int.injEq, true_and, and_true, and_self, ite_self, Bool.not_eq_true, Bool.not_eq_false, Bool.true_eq_false, Bool.false_eq_true, reduceCtorEq, Nat.zero_add, Nat.reduceAdd, Nat.reduceMul, Nat.reduceSub, ds_setI_row, ds_setL_row, ds_rowI_self, ds_rowI_ne, ds_rowI_2, ds_rowI_rowI, ds_setS_1, ds_setS_21, ds_setS_self, ds_setS_ne, pk_us, pk_un, mm, w1]
      | succ j ihj =>
        intro m y hm htl hy hQ hR
        have Wm := WW m (by omega)
        have Wm1 := WW (m + 1) (by omega)
        have tlm := dk_W_le Wm1 hV
        have Em1 := E2 (m + 1) (c + 2 - (m + 1))
        rw [show m + 1 + (c + 2 - (m + 1)) = c + 2 by omega] at Em1
        have EmT := dk_E_trans Em1 eT
        have Ym1 := dk_vr_Y (N := N) (s := (dk_bf N (c + 2) st h).1 h) Y (m + 1) (by omega)
        have Vt := hN _ m Vs (show m < c + 2 by omega)
        have t17 := hV _ Vt
        have mm := hmm y hy
        have mv := hmv y _ m hy Vs (by omega)
        have qh : y.1 107 h = nI ((dk_bf N (c + 2) st h).1 h) := by
          rw [hQ h (Nat.lt_of_lt_of_le q1 (EE m).1), (EE m).2.1 h q1]
        have hR1 := hR.1 _ t17
        have ihj' := fun y => ihj (m + 1) y (by omega)
        have er2 : dk_vr N ((dk_bf N (c + 2) st h).1 h) (m + 1) (dk_bf N (c + 2) st h) = dk_vs N ((dk_bf N (c + 2) st h).1 h) m (dk_vr N ((dk_bf N (c + 2) st h).1 h) m (dk_bf N (c + 2) st h)) := rfl
        rw [er2] at Wm1 tlm EmT Ym1 ihj'
        have hlt : h < 1728 := by omega
        generalize dk_vr N ((dk_bf N (c + 2) st h).1 h) m (dk_bf N (c + 2) st h) = C at *
        generalize (dk_bf N (c + 2) st h).1 h = s at *
        rw [b_Mod_seek_81]
        by_cases q : C.2.1 (N s m) = 0
        · have ev : dk_vs N s m C = (dk_up C.1 C.2.2.2 (N s m), dk_up C.2.1 (N s m) (s + 2), dk_up C.2.2.1 (N s m) m, C.2.2.2 + 1) := by
            unfold dk_vs
            rw [if_pos q]
          have tl' : C.2.2.2 + 1 ≤ 1728 := by
            rw [ev] at tlm
            exact tlm
          let y1 := ds_rowI y 108 (upd (y.1 108) (N s m) (nI s))
          let y2 := ds_rowI y1 109 (upd (y1.1 109) (N s m) (nI m))
          let y3 := ds_rowI y2 90 (upd (y2.1 90) 38 (nI (N s m)))
          have y3e : ds_setI (ds_setI (ds_setI y 108 (N s m) (nI s)) 109 (N s m) (nI m)) 90 38 (nI (N s m)) = y3 := by
            rw [ds_setI_row, ds_setI_row, ds_setI_row]
          have g108 : ∀ t, y3.1 108 t = upd (y.1 108) (N s m) (nI s) t := by
            intro t
            show (ds_rowI (ds_rowI (ds_rowI y 108 _) 109 _) 90 _).1 108 t = _
            rw [ds_rowI_ne _ _ (by decide), ds_rowI_ne _ _ (by decide), ds_rowI_self]
          have g109 : ∀ t, y3.1 109 t = upd (y.1 109) (N s m) (nI m) t := by
            intro t
            show (ds_rowI (ds_rowI (ds_rowI y 108 _) 109 _) 90 _).1 109 t = _
            rw [ds_rowI_ne _ _ (by decide), ds_rowI_self]
            show upd ((ds_rowI y 108 _).1 109) _ _ t = _
            rw [ds_rowI_ne _ _ (by decide)]
          have g38 : y3.1 90 38 = nI (N s m) := by
            show (ds_rowI (ds_rowI (ds_rowI y 108 _) 109 _) 90 _).1 90 38 = _
            rw [ds_rowI_self, pk_us]
          have f3 : dk_m3 y y3 := by
            refine ⟨fun p a b c e => ?_, fun k hk => ?_, rfl⟩
            · show (ds_rowI (ds_rowI (ds_rowI y 108 _) 109 _) 90 _).1 p = _
              rw [ds_rowI_ne _ _ e, ds_rowI_ne _ _ c, ds_rowI_ne _ _ b]
            · show (ds_rowI (ds_rowI (ds_rowI y 108 _) 109 _) 90 _).1 90 k = _
              rw [ds_rowI_self, pk_un hk]
              show (ds_rowI (ds_rowI y 108 _) 109 _).1 90 k = _
              rw [ds_rowI_ne _ _ (by decide), ds_rowI_ne _ _ (by decide)]
          have g107 : y3.1 107 = y.1 107 := by
            show (ds_rowI (ds_rowI (ds_rowI y 108 _) 109 _) 90 _).1 107 = _
            rw [ds_rowI_ne _ _ (by decide), ds_rowI_ne _ _ (by decide), ds_rowI_ne _ _ (by decide)]
          clear_value y3
          have hz3 := hP y y3 hy f3
          have ga := hgo y3 _ hz3 Vt
          have hR3 : dk_mR y3 (dk_vs N s m C) := by
            rw [ev]
            refine ⟨fun t ht => ?_, fun t ht h2 => ?_⟩
            · show y3.1 108 t = dk_ef (dk_up C.2.1 (N s m) (s + 2) t)
              rw [g108]
              by_cases e : t = N s m
              · rw [e, pk_us, dk_up_s, dk_ef_2 (by omega), Nat.add_sub_cancel]
              · rw [pk_un e, dk_up_n e]
                exact hR.1 t ht
            · have h2' : 2 ≤ dk_up C.2.1 (N s m) (s + 2) t := h2
              show y3.1 109 t = nI (dk_up C.2.2.1 (N s m) m t)
              rw [g109]
              by_cases e : t = N s m
              · rw [e, pk_us, dk_up_s]
              · rw [pk_un e, dk_up_n e]
                rw [dk_up_n e] at h2'
                exact hR.2 t ht h2'
          have eQ : (dk_bf N (c + 2) st T).1 C.2.2.2 = N s m := by
            rw [EmT.2.1 C.2.2.2 (by rw [ev]; exact Nat.lt_succ_self _), ev]
            exact dk_up_s _ _ _
          have hR1' : y.1 108 (N s m) = ds_m2 := by
            rw [hR1, q]
            rfl
          cases hg : G (N s m)
          · have ltT : C.2.2.2 + 1 ≤ T := by
              rcases Nat.lt_or_ge C.2.2.2 T with a | a
              · exact a
              · exfalso
                have e : C.2.2.2 = T := by omega
                rw [e] at eQ
                rcases hT.2 with ⟨_, _, a3⟩ | ⟨_, a2⟩
                · rw [eQ, hg] at a3
                  exact absurd a3 (by decide)
                · have := EmT.1
                  rw [ev] at this
                  have t2 : C.2.2.2 + 1 ≤ (dk_bf N (c + 2) st T).2.2.2 := this
                  omega
            let y4 := ds_rowI y3 107 (upd (y3.1 107) C.2.2.2 (nI (N s m)))
            have f4 : dk_m3 y3 y4 := ⟨fun p a b c e => ds_rowI_ne _ _ a, fun k hk => by
              show (ds_rowI y3 107 _).1 90 k = _
              rw [ds_rowI_ne _ _ (by decide)], rfl⟩
            have g4 : ∀ i, y4.1 107 i = upd (y3.1 107) C.2.2.2 (nI (N s m)) i := fun i => by
              show (ds_rowI y3 107 _).1 107 i = _
              rw [ds_rowI_self]
            have g48 : ∀ p, p ≠ 107 → y4.1 p = y3.1 p := fun p hp => ds_rowI_ne _ _ hp
            have y4e : ds_setI y3 107 C.2.2.2 (nI (N s m)) = y4 := ds_setI_row _ _ _ _
            clear_value y4
            have hQ4 : dk_mQ y4 (dk_vs N s m C) := by
              rw [ev]
              intro i hi
              have hi' : i < C.2.2.2 + 1 := hi
              show y4.1 107 i = nI (dk_up C.1 C.2.2.2 (N s m) i)
              rw [g4]
              by_cases e : i = C.2.2.2
              · rw [e, pk_us, dk_up_s]
              · rw [pk_un e, dk_up_n e, g107]
                exact hQ i (by omega)
            have hR4 : dk_mR y4 (dk_vs N s m C) := ⟨fun t ht => by rw [g48 108 (by decide)]; exact hR3.1 t ht, fun t ht h2 => by rw [g48 109 (by decide)]; exact hR3.2 t ht h2⟩
            obtain ⟨z', w1, w2, w3⟩ := ihj' y4 (by rw [ev]; exact ltT) (hP y3 y4 hz3 f4) hQ4 hR4
            refine ⟨z', ?_, dk_m3_trans (dk_m3_trans f3 f4) w2, w3⟩
            rw [ev] at w1
            have w1' : ds_Rw ds_c_Mod_seek ds_u_Mod_seek (ds_call (d + 5)) 81 [some (.ref 90), none, none, none, some (.int (nI ((C.2.2.2 + 1)))), some (.int (nI h)), some (.int (nI ((m + 1)))), none] [] y4 = some (some (.int (ds_bo b)), z') := w1
            rw [hg] at ga
            generalize C.2.2.2 = A at *
            generalize N s m = to at *
            simp (disch := first | assumption | omega) only [ds_cI_t mm, nI_leI, if_neg, Nat.not_le, ds_chkN, nI_clamp, qh, ds_cI_t mv, hR1', ↓dl_m2, dl_0, dl_1, if_pos, y3e, ds_cI_t ga, ds_bo0, y4e, nI_add, w1', if_true]
          · have eT' : C.2.2.2 = T := by
              rcases Nat.lt_or_ge C.2.2.2 T with a | a
              · exfalso
                have := hq C.2.2.2 a
                rw [eQ, hg] at this
                exact absurd this (by decide)
              · omega
            have hb : b = true := by
              rcases hT.2 with ⟨a, _, _⟩ | ⟨_, a2⟩
              · exact a
              · exfalso
                have := EmT.1
                rw [ev] at this
                have t2 : C.2.2.2 + 1 ≤ (dk_bf N (c + 2) st T).2.2.2 := this
                omega
            refine ⟨y3, ?_, f3, fun _ => ⟨dk_vs N s m C, Wm1, Ym1, EmT, ?_, hR3, ?_⟩⟩
            · rw [hg] at ga
              rw [hb]
              generalize C.2.2.2 = A at *
              generalize N s m = to at *
              simp (disch := first | assumption | omega) only [ds_cI_t mm, nI_leI, if_neg, Nat.not_le, ds_chkN, nI_clamp, qh, ds_cI_t mv, hR1', ↓dl_m2, dl_0, dl_1, if_pos, y3e, ds_cI_t ga, ds_bo0, Bool.true_eq_false, if_false, if_true]
              rfl
            · have eQ2 := eQ
              rw [eT'] at eQ2
              rw [eQ2, ev]
              show dk_up C.2.1 (N s m) (s + 2) (N s m) ≠ 0
              rw [dk_up_s]
              omega
            · have eQ2 := eQ
              rw [eT'] at eQ2
              rw [eQ2]
              exact g38
        · have ev : dk_vs N s m C = C := by
            unfold dk_vs
            rw [if_neg q]
          have nb := dk_ef_ne q (by have := dk_fr_lt (s := N s m) Wm hV; omega)
          rw [ev] at ihj'
          obtain ⟨z', w1, w2, w3⟩ := ihj' y htl hy hQ hR
          refine ⟨z', ?_, w2, w3⟩
          rw [← hR1] at nb
          generalize C.2.2.2 = A at *
          generalize N s m = to at *
          simp (disch := first | assumption | omega) only [ds_cI_t mm, nI_leI, if_neg, Nat.not_le, ds_chkN, nI_clamp, qh, ds_cI_t mv, nb, ↓dl_m2, dl_1, nI_add, w1, if_false]
    obtain ⟨z', w1, w2, w3⟩ := in0 (c + 2) 0 z (by omega) htl hz hQ hR
    refine ⟨z', ?_, w2, w3⟩
    have w1' : ds_Rw ds_c_Mod_seek ds_u_Mod_seek (ds_call (d + 5)) 81 [some (.ref 90), none, none, none, some (.int (nI (((dk_bf N (c + 2) st h).2.2.2)))), some (.int (nI h)), some (.int (nI 0)), none] [] z = some (some (.int (ds_bo b)), z') := w1
    rw [b_Mod_seek_71]
    have tl := dk_W_le W hV
    generalize (dk_bf N (c + 2) st h).2.2.2 = A at *
    simp (disch := first | assumption | omega) only [ds_cI, ds_cV, ds_cL, ds_cR, ds_nn, ds_isK_t, ds_isA_t, ds_chk_t, ds_chkN, ds_nz_t, ds_nzN, ds_isB_t, ds_isB_bo, ↓dl_m1, ↓dl_m2, dl_0, dl_1, dl_2, dl_3, dl_4, dl_5, dl_6, dl_7, dl_8, dl_9, dl_10, dl_11, dl_12, dl_13, dl_14, dl_15, dl_16, dl_20, dl_24, dl_31, dl_50, dl_57, dl_67, dl_68, dl_74, dl_75, dl_79, dl_80, dl_99, dl_100, dl_200, dl_210, dl_224, dl_255, dl_289, dl_900, dl_1000, dl_1728, dl_65536, dl_65537, nI_add, pk_mul, pk_sub, pk_div, pk_rem, ds_rem2, nI_clamp, nI_leI, nI_ltI, nI_eq, ds_m1_eq, ds_eq_m1, ds_m2_eq, ds_eq_m2, ds_m1_le, ds_le_m1, ds_m1_lt, ds_lt_m1, ds_in_N, ds_bo0, ds_bo1, if_pos, if_neg, Nat.not_le, Nat.not_lt, not_true_eq_false, not_false_eq_true, if_true, if_false, ne_eq, Option.some.injEq, Prod.mk.injEq, Value.int.injEq, true_and, and_true, and_self, ite_self, Bool.not_eq_true, Bool.not_eq_false, Bool.true_eq_false, Bool.false_eq_true, reduceCtorEq, Nat.zero_add, Nat.reduceAdd, Nat.reduceMul, Nat.reduceSub, ds_setI_row, ds_setL_row, ds_rowI_self, ds_rowI_ne, ds_rowI_2, ds_rowI_rowI, ds_setS_1, ds_setS_21, ds_setS_self, ds_setS_ne, pk_us, pk_un, w1']
