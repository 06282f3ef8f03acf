/-! what the model's reader is made of -/
def dr_OM (z : ds_St) (B : Nat → Nat) (n e : Nat) : Prop := dr_bM z B n ∧ e ≤ n ∧ dr_tM z B n e
def dr_zw (z : ds_St) (v a : Nat) : ds_St := ds_rowI z 90 (upd (upd (upd (z.1 90) 13 (nI 1)) 9 (nI v)) 10 (nI a))
theorem dr_zw_13 (z : ds_St) (v a : Nat) : (dr_zw z v a).1 90 13 = nI 1 := by
  unfold dr_zw
  rw [ds_rowI_self, pk_un (by decide), pk_un (by decide), pk_us]
theorem dr_zw_9 (z : ds_St) (v a : Nat) : (dr_zw z v a).1 90 9 = nI v := by
  unfold dr_zw
  rw [ds_rowI_self, pk_un (by decide), pk_us]
theorem dr_zw_10 (z : ds_St) (v a : Nat) : (dr_zw z v a).1 90 10 = nI a := by
  unfold dr_zw
  rw [ds_rowI_self, pk_us]
theorem dr_zw_k (z : ds_St) (v a : Nat) {k : Nat} (h1 : k ≠ 13) (h2 : k ≠ 9) (h3 : k ≠ 10) : (dr_zw z v a).1 90 k = z.1 90 k := by
  unfold dr_zw
  rw [ds_rowI_self, pk_un h3, pk_un h2, pk_un h1]
theorem dr_zw_p (z : ds_St) (v a : Nat) {p : Nat} (h : p ≠ 90) : (dr_zw z v a).1 p = z.1 p := ds_rowI_ne _ _ h
theorem s_wrong (d v a : Nat) (z : ds_St) (h : z.1 90 13 = nI 0) : ds_call (d + 1) j_Mod_wrong [.ref 90, .int (nI v), .int (nI a)] z = some (none, dr_zw z v a) := by
  rw [c_Mod_wrong, b_Mod_wrong_0]
  simp (disch := first | assumption | omega) only [ds_cI, ds_cV, ds_cL, ds_cR, ds_nn, ds_isK_t, ds_isA_t, ds_chk_t, ds_chkN, ds_nz_t, ds_nzN, ds_isB_t, ds_isB_bo, ↓dl_m1, ↓dl_m2, dl_0, dl_1, dl_2, dl_3, dl_4, dl_5, dl_6, dl_7, dl_8, dl_9, dl_10, dl_11, dl_12, dl_13, dl_14, dl_15, dl_16, dl_20, dl_24, dl_31, dl_50, dl_57, dl_67, dl_68, dl_74, dl_75, dl_79, dl_80, dl_99, dl_100, dl_200, dl_210, dl_224, dl_255, dl_289, dl_900, dl_1000, dl_1728, dl_65536, dl_65537, nI_add, pk_mul, pk_sub, pk_div, pk_rem, ds_rem2, nI_clamp, nI_leI, nI_ltI, nI_eq, ds_m1_eq, ds_eq_m1, ds_m2_eq, ds_eq_m2, ds_m1_le, ds_le_m1, ds_m1_lt, ds_lt_m1, ds_in_N, ds_bo0, ds_bo1, if_pos, if_neg, Nat.not_le, Nat.not_lt, not_true_eq_false, not_false_eq_true, if_true, if_false, ne_eq, Option.some.injEq, Prod.mk.injEq, Value.int.injEq, true_and, and_true, and_self, ite_self, Bool.not_eq_true, Bool.not_eq_false, Bool.true_eq_false, Bool.false_eq_true, reduceCtorEq, Nat.zero_add, Nat.reduceAdd, Nat.reduceMul, Nat.reduceSub, ds_setI_row, ds_setL_row, ds_rowI_self, ds_rowI_ne, ds_rowI_2, ds_rowI_rowI, ds_setS_1, ds_setS_21, ds_setS_self, ds_setS_ne, pk_us, pk_un, h]
  rfl
theorem s_wrong_x (d : Nat) (x y : Int32) (z : ds_St) (h : z.1 90 13 = nI 1) : ds_call (d + 1) j_Mod_wrong [.ref 90, .int x, .int y] z = some (none, z) := by
  rw [c_Mod_wrong, b_Mod_wrong_0]
  simp (disch := first | assumption | omega) only [ds_cI, ds_cV, ds_cL, ds_cR, ds_nn, ds_isK_t, ds_isA_t, ds_chk_t, ds_chkN, ds_nz_t, ds_nzN, ds_isB_t, ds_isB_bo, ↓dl_m1, ↓dl_m2, dl_0, dl_1, dl_2, dl_3, dl_4, dl_5, dl_6, dl_7, dl_8, dl_9, dl_10, dl_11, dl_12, dl_13, dl_14, dl_15, dl_16, dl_20, dl_24, dl_31, dl_50, dl_57, dl_67, dl_68, dl_74, dl_75, dl_79, dl_80, dl_99, dl_100, dl_200, dl_210, dl_224, dl_255, dl_289, dl_900, dl_1000, dl_1728, dl_65536, dl_65537, nI_add, pk_mul, pk_sub, pk_div, pk_rem, ds_rem2, nI_clamp, nI_leI, nI_ltI, nI_eq, ds_m1_eq, ds_eq_m1, ds_m2_eq, ds_eq_m2, ds_m1_le, ds_le_m1, ds_m1_lt, ds_lt_m1, ds_in_N, ds_bo0, ds_bo1, if_pos, if_neg, Nat.not_le, Nat.not_lt, not_true_eq_false, not_false_eq_true, if_true, if_false, ne_eq, Option.some.injEq, Prod.mk.injEq, Value.int.injEq, true_and, and_true, and_self, ite_self, Bool.not_eq_true, Bool.not_eq_false, Bool.true_eq_false, Bool.false_eq_true, reduceCtorEq, Nat.zero_add, Nat.reduceAdd, Nat.reduceMul, Nat.reduceSub, ds_setI_row, ds_setL_row, ds_rowI_self, ds_rowI_ne, ds_rowI_2, ds_rowI_rowI, ds_setS_1, ds_setS_21, ds_setS_self, ds_setS_ne, pk_us, pk_un, h]
theorem s_mgo (d : Nat) (z : ds_St) (B : Nat → Nat) (n e : Nat) (h : dr_OM z B n e) : ∃ z', ds_call (d + 2) j_Mod_next [.ref 90] z = some (none, z') ∧ dr_OM z' B n (dr_nx B n e) ∧ dr_g1 z z' := by
  obtain ⟨hb, he, ht⟩ := h
  obtain ⟨z', w1, w2, w3⟩ := s_mnext d z B n (dr_nx B n e) (dr_nx_ok B he).2 hb ht.2.1
  exact ⟨z', w1, ⟨dr_bM_g1 hb w3, (dr_nx_ok B he).2, w2⟩, w3⟩
theorem dr_mk_2 {k : Nat} : dr_mk k = 2 ↔ k = 1 := by
  unfold dr_mk
  constructor
  · intro h
    by_cases a : k = 0
    · rw [if_pos a] at h; omega
    · rw [if_neg a] at h
      by_cases b : k = 1
      · exact b
      · rw [if_neg b] at h
        split at h
        · omega
        · split at h <;> omega
  · intro h
    rw [h]
    rfl
theorem dr_mk_3 {k : Nat} : dr_mk k = 3 ↔ k = 2 := by
  unfold dr_mk
  constructor
  · intro h
    by_cases a : k = 0
    · rw [if_pos a] at h; omega
    · rw [if_neg a] at h
      by_cases b : k = 1
      · rw [if_pos b] at h; omega
      · rw [if_neg b] at h
        by_cases c : k = 2
        · exact c
        · rw [if_neg c] at h
          split at h <;> omega
  · intro h
    rw [h]
    rfl
theorem dr_mk_59 {k : Nat} : dr_mk k = 59 ↔ k = 3 := by
  unfold dr_mk
  constructor
  · intro h
    by_cases a : k = 0
    · rw [if_pos a] at h; omega
    · rw [if_neg a] at h
      by_cases b : k = 1
      · rw [if_pos b] at h; omega
      · rw [if_neg b] at h
        by_cases c : k = 2
        · rw [if_pos c] at h; omega
        · rw [if_neg c] at h
          by_cases d : k = 3
          · exact d
          · rw [if_neg d] at h; omega
  · intro h
    rw [h]
    rfl
theorem dr_mk_0 {k : Nat} : dr_mk k = 0 ↔ k = 0 := by
  unfold dr_mk
  constructor
  · intro h
    by_cases a : k = 0
    · exact a
    · rw [if_neg a] at h
      split at h
      · omega
      · split at h
        · omega
        · split at h <;> omega
  · intro h
    rw [h]
    rfl
theorem dr_mk_lt (k : Nat) : dr_mk k < 60 := by
  unfold dr_mk
  split
  · omega
  · split
    · omega
    · split
      · omega
      · split <;> omega
theorem dr_getD_eq {l l' : List Nat} (h : l.length = l'.length) : (∀ k, k < l.length → l.getD k 0 = l'.getD k 0) ↔ l = l' := by
  constructor
  · intro hk
    apply List.ext_getElem h
    intro i h1 h2
    have := hk i h1
    rw [List.getD_eq_getElem?_getD, List.getD_eq_getElem?_getD, List.getElem?_eq_getElem h1, List.getElem?_eq_getElem h2] at this
    exact this
  · intro e k _
    rw [e]
theorem dr_sl_ok : ∀ k, k < 24 → decide ((ds_sl (310 + k)).length ≤ 8) = true ∧ (ds_sl (310 + k)).all (fun c => decide (c < 256)) = true := by decide +kernel
def dr_is (B : Nat → Nat) (n e x : Nat) : Bool := decide (dr_kd B n e = 1) && decide (dr_wl B n e = ds_sl x)
theorem dr_getD_lt {l : List Nat} {b : Nat} (h : ∀ x, x ∈ l → x < b) (hb : 0 < b) (k : Nat) : l.getD k 0 < b := by
  rw [List.getD_eq_getElem?_getD]
  cases q : l[k]? with
  | none => exact hb
  | some x => exact h x (List.mem_of_getElem? q)
theorem s_isWord (d x : Nat) (z : ds_St) (B : Nat → Nat) (n e : Nat) (h : dr_OM z B n e) (h1 : 310 ≤ x) (h2 : x < 334) : ds_call (d + 1) j_Mod_isWord [.ref 90, .ref x] z = some (some (.int (ds_bo (dr_is B n e x))), z) := by
  obtain ⟨hb, he, ht⟩ := h
  have h13 := hb.1
  have h6 := ht.2.2.1
  have ml := dr_mk_lt (dr_kd B n e)
  have sl := dr_sl_ok (x - 310) (by omega)
  rw [show 310 + (x - 310) = x by omega] at sl
  have s8 : (ds_sl x).length ≤ 8 := by simpa using sl.1
  have sc : ∀ c, c ∈ ds_sl x → c < 256 := fun c hc => by
    have := List.all_eq_true.mp sl.2 c hc
    simpa using this
  have eL : Int32.ofNat (ds_sl x).length = nI (ds_sl x).length := rfl
  rw [c_Mod_isWord, b_Mod_isWord_0, dl_0, if_neg (fun q => q h13), h6]
  unfold dr_is
  by_cases k1 : dr_kd B n e = 1
  · obtain ⟨t8, tl⟩ := ht.2.2.2.1 k1
    have wd := dr_wl_ok he k1
    have wl8 := wd.2.1
    have wc : ∀ c, c ∈ dr_wl B n e → c < 256 := fun c hc => by have := wd.2.2 c hc; omega
    rw [decide_eq_true k1, Bool.true_and, if_neg (fun q => q (by rw [dr_mk_2.mpr k1]; rfl)), ds_isT_t (by omega) h2, eL, t8]
    generalize dr_wl B n e = l at *
    by_cases ll : l.length = (ds_sl x).length
    · rw [if_pos (by rw [ll])]
      have go : ∀ m k, k + m = l.length → ∀ b, (b = true ↔ ∀ j, j < k → l.getD j 0 = (ds_sl x).getD j 0) → ds_Rw ds_c_Mod_isWord ds_u_Mod_isWord (ds_call d) 32 [some (.ref 90), some (.ref x), some (.int (ds_bo b)), some (.int (nI k))] [] z = some (some (.int (ds_bo (decide (l = ds_sl x)))), z) := by
        intro m
        induction m with
        | zero =>
          intro k hk b hbb
          have : b = decide (l = ds_sl x) := by
            apply dk_boolext
            rw [hbb, decide_eq_true_eq, ← dr_getD_eq ll, show k = l.length by omega]
          rw [← this, b_Mod_isWord_32, t8, if_pos (by rw [nI_leI (by omega) (by omega)]; omega), ds_isB_bo]
        | succ m ih =>
          intro k hk b hbb
          rw [b_Mod_isWord_32, t8, if_neg (by rw [nI_leI (by omega) (by omega)]; omega), dl_0, dl_1, nI_add]
          cases b
          · rw [if_pos (show ds_bo false = nI 0 from rfl)]
            refine ih (k + 1) (by omega) false ⟨fun q => absurd q (by decide), fun q => ?_⟩
            exact hbb.mpr (fun j hj => q j (by omega))
          · have tk := tl k (by omega)
            have g1 := dr_getD_lt wc (by decide) k
            have g2 := dr_getD_lt sc (by decide) k
            rw [if_neg (by decide), ds_chkN (by omega) (by decide), ds_isT_t (by omega) h2, ds_chkN (by omega) (by omega), nI_clamp (by omega), tk]
            have ec : Int32.ofNat ((ds_sl x).getD k 0) = nI ((ds_sl x).getD k 0) := rfl
            rw [ec]
            by_cases q : l.getD k 0 = (ds_sl x).getD k 0
            · rw [if_neg (fun h => h (by rw [q]))]
              refine ih (k + 1) (by omega) true ⟨fun _ j hj => ?_, fun _ => rfl⟩
              rcases Nat.lt_or_ge j k with a | a
              · exact hbb.mp rfl j a
              · have : j = k := by omega
                rw [this]; exact q
            · rw [if_pos (by rw [nI_eq (by omega) (by omega)]; exact q)]
              refine ih (k + 1) (by omega) false ⟨fun w => absurd w (by decide), fun w => absurd (w k (by omega)) q⟩
      have g := go l.length 0 (by omega) true ⟨fun _ j hj => by omega, fun _ => rfl⟩
      have g' : ds_Rw ds_c_Mod_isWord ds_u_Mod_isWord (ds_call d) 32 [some (.ref 90), some (.ref x), some (.int 1), some (.int (nI 0))] [] z = _ := g
      rw [g']
      cases decide (l = ds_sl x) <;> rfl
    · rw [if_neg (by rw [nI_eq (by omega) (by omega)]; exact ll), decide_eq_false (fun h => ll (by rw [h]))]
      rfl
  · rw [decide_eq_false k1, Bool.false_and, if_pos (by
      show ¬ nI _ = nI 2
      rw [nI_eq (by omega) (by decide), dr_mk_2]
      exact k1)]
    rfl
theorem s_isWord_x (d x : Nat) (z : ds_St) (h : z.1 90 13 = nI 1) : ds_call (d + 1) j_Mod_isWord [.ref 90, .ref x] z = some (some (.int (nI 0)), z) := by
  rw [c_Mod_isWord, b_Mod_isWord_0]
  simp (disch := first | assumption | omega) only [ds_cI, ds_cV, ds_cL, ds_cR, ds_nn, ds_isK_t, ds_isA_t, ds_chk_t, ds_chkN, ds_nz_t, ds_nzN, ds_isB_t, ds_isB_bo, ↓dl_m1, ↓dl_m2, dl_0, dl_1, dl_2, dl_3, dl_4, dl_5, dl_6, dl_7, dl_8, dl_9, dl_10, dl_11, dl_12, dl_13, dl_14, dl_15, dl_16, dl_20, dl_24, dl_31, dl_50, dl_57, dl_67, dl_68, dl_74, dl_75, dl_79, dl_80, dl_99, dl_100, dl_200, dl_210, dl_224, dl_255, dl_289, dl_900, dl_1000, dl_1728, dl_65536, dl_65537, nI_add, pk_mul, pk_sub, pk_div, pk_rem, ds_rem2, nI_clamp, nI_leI, nI_ltI, nI_eq, ds_m1_eq, ds_eq_m1, ds_m2_eq, ds_eq_m2, ds_m1_le, ds_le_m1, ds_m1_lt, ds_lt_m1, ds_in_N, ds_bo0, ds_bo1, if_pos, if_neg, Nat.not_le, Nat.not_lt, not_true_eq_false, not_false_eq_true, if_true, if_false, ne_eq, Option.some.injEq, Prod.mk.injEq, Value.int.injEq, true_and, and_true, and_self, ite_self, Bool.not_eq_true, Bool.not_eq_false, Bool.true_eq_false, Bool.false_eq_true, reduceCtorEq, Nat.zero_add, Nat.reduceAdd, Nat.reduceMul, Nat.reduceSub, ds_setI_row, ds_setL_row, ds_rowI_self, ds_rowI_ne, ds_rowI_2, ds_rowI_rowI, ds_setS_1, ds_setS_21, ds_setS_self, ds_setS_ne, pk_us, pk_un, h]
theorem s_must (d x : Nat) (z : ds_St) (B : Nat → Nat) (n e : Nat) (h : dr_OM z B n e) (h1 : 310 ≤ x) (h2 : x < 334) : (dr_is B n e x = true → ∃ z', ds_call (d + 4) j_Mod_must [.ref 90, .ref x] z = some (none, z') ∧ dr_OM z' B n (dr_nx B n e) ∧ dr_g1 z z') ∧ (dr_is B n e x = false → ds_call (d + 4) j_Mod_must [.ref 90, .ref x] z = some (none, dr_zw z 1 (dr_at B n e))) := by
  have iw := s_isWord (d + 1) x z B n e h h1 h2
  have h13 := h.1.1
  have h4 := h.2.2.1
  obtain ⟨z', w1, w2, w3⟩ := s_mgo d z B n e h
  have wr := s_wrong (d + 2) 1 (dr_at B n e) z h13
  refine ⟨fun q => ⟨z', ?_, w2, w3⟩, fun q => ?_⟩
  · rw [q] at iw
    have tw : ds_call (d + 3) j_Mod_takesWord [.ref 90, .ref x] z = some (some (.int (nI 1)), z') := by
      rw [c_Mod_takesWord, b_Mod_takesWord_0]
      simp (disch := first | assumption | omega) only [ds_cI, ds_cV, ds_cL, ds_cR, ds_nn, ds_isK_t, ds_isA_t, ds_chk_t, ds_chkN, ds_nz_t, ds_nzN, ds_isB_t, ds_isB_bo, ↓dl_m1, ↓dl_m2, dl_0, dl_1, dl_2, dl_3, dl_4, dl_5, dl_6, dl_7, dl_8, dl_9, dl_10, dl_11, dl_12, dl_13, dl_14, dl_15, dl_16, dl_20, dl_24, dl_31, dl_50, dl_57, dl_67, dl_68, dl_74, dl_75, dl_79, dl_80, dl_99, dl_100, dl_200, dl_210, dl_224, dl_255, dl_289, dl_900, dl_1000, dl_1728, dl_65536, dl_65537, nI_add, pk_mul, pk_sub, pk_div, pk_rem, ds_rem2, nI_clamp, nI_leI, nI_ltI, nI_eq, ds_m1_eq, ds_eq_m1, ds_m2_eq, ds_eq_m2, ds_m1_le, ds_le_m1, ds_m1_lt, ds_lt_m1, ds_in_N, ds_bo0, ds_bo1, if_pos, if_neg, Nat.not_le, Nat.not_lt, not_true_eq_false, not_false_eq_true, if_true, if_false, ne_eq, Option.some.injEq, Prod.mk.injEq, Value.int.injEq, true_and, and_true, and_self, ite_self, Bool.not_eq_true, Bool.not_eq_false, Bool.true_eq_false, Bool.false_eq_true, reduceCtorEq, Nat.zero_add, Nat.reduceAdd, Nat.reduceMul, Nat.reduceSub, ds_setI_row, ds_setL_row, ds_rowI_self, ds_rowI_ne, ds_rowI_2, ds_rowI_rowI, ds_setS_1, ds_setS_21, ds_setS_self, ds_setS_ne, pk_us, pk_un, iw, w1]
    rw [c_Mod_must, b_Mod_must_0]
    simp (disch := first | assumption | omega) only [ds_cI, ds_cV, ds_cL, ds_cR, ds_nn, ds_isK_t, ds_isA_t, ds_chk_t, ds_chkN, ds_nz_t, ds_nzN, ds_isB_t, ds_isB_bo, ↓dl_m1, ↓dl_m2, dl_0, dl_1, dl_2, dl_3, dl_4, dl_5, dl_6, dl_7, dl_8, dl_9, dl_10, dl_11, dl_12, dl_13, dl_14, dl_15, dl_16, dl_20, dl_24, dl_31, dl_50, dl_57, dl_67, dl_68, dl_74, dl_75, dl_79, dl_80, dl_99, dl_100, dl_200, dl_210, dl_224, dl_255, dl_289, dl_900, dl_1000, dl_1728, dl_65536, dl_65537, nI_add, pk_mul, pk_sub, pk_div, pk_rem, ds_rem2, nI_clamp, nI_leI, nI_ltI, nI_eq, ds_m1_eq, ds_eq_m1, ds_m2_eq, ds_eq_m2, ds_m1_le, ds_le_m1, ds_m1_lt, ds_lt_m1, ds_in_N, ds_bo0, ds_bo1, if_pos, if_neg, Nat.not_le, Nat.not_lt, not_true_eq_false, not_false_eq_true, if_true, if_false, ne_eq, Option.some.injEq, Prod.mk.injEq, Value.int.injEq, true_and, and_true, and_self, ite_self, Bool.not_eq_true, Bool.not_eq_false, Bool.true_eq_false, Bool.false_eq_true, reduceCtorEq, Nat.zero_add, Nat.reduceAdd, Nat.reduceMul, Nat.reduceSub, ds_setI_row, ds_setL_row, ds_rowI_self, ds_rowI_ne, ds_rowI_2, ds_rowI_rowI, ds_setS_1, ds_setS_21, ds_setS_self, ds_setS_ne, pk_us, pk_un, h13, tw]
  · rw [q] at iw
    have tw : ds_call (d + 3) j_Mod_takesWord [.ref 90, .ref x] z = some (some (.int (nI 0)), z) := by
      rw [c_Mod_takesWord, b_Mod_takesWord_0]
      simp (disch := first | assumption | omega) only [ds_cI, ds_cV, ds_cL, ds_cR, ds_nn, ds_isK_t, ds_isA_t, ds_chk_t, ds_chkN, ds_nz_t, ds_nzN, ds_isB_t, ds_isB_bo, ↓dl_m1, ↓dl_m2, dl_0, dl_1, dl_2, dl_3, dl_4, dl_5, dl_6, dl_7, dl_8, dl_9, dl_10, dl_11, dl_12, dl_13, dl_14, dl_15, dl_16, dl_20, dl_24, dl_31, dl_50, dl_57, dl_67, dl_68, dl_74, dl_75, dl_79, dl_80, dl_99, dl_100, dl_200, dl_210, dl_224, dl_255, dl_289, dl_900, dl_1000, dl_1728, dl_65536, dl_65537, nI_add, pk_mul, pk_sub, pk_div, pk_rem, ds_rem2, nI_clamp, nI_leI, nI_ltI, nI_eq, ds_m1_eq, ds_eq_m1, ds_m2_eq, ds_eq_m2, ds_m1_le, ds_le_m1, ds_m1_lt, ds_lt_m1, ds_in_N, ds_bo0, ds_bo1, if_pos, if_neg, Nat.not_le, Nat.not_lt, not_true_eq_false, not_false_eq_true, if_true, if_false, ne_eq, Option.some.injEq, Prod.mk.injEq, Value.int.injEq, true_and, and_true, and_self, ite_self, Bool.not_eq_true, Bool.not_eq_false, Bool.true_eq_false, Bool.false_eq_true, reduceCtorEq, Nat.zero_add, Nat.reduceAdd, Nat.reduceMul, Nat.reduceSub, ds_setI_row, ds_setL_row, ds_rowI_self, ds_rowI_ne, ds_rowI_2, ds_rowI_rowI, ds_setS_1, ds_setS_21, ds_setS_self, ds_setS_ne, pk_us, pk_un, iw]
    generalize dr_at B n e = a at *
    rw [c_Mod_must, b_Mod_must_0]
    simp (disch := first | assumption | omega) only [ds_cI, ds_cV, ds_cL, ds_cR, ds_nn, ds_isK_t, ds_isA_t, ds_chk_t, ds_chkN, ds_nz_t, ds_nzN, ds_isB_t, ds_isB_bo, ↓dl_m1, ↓dl_m2, dl_0, dl_1, dl_2, dl_3, dl_4, dl_5, dl_6, dl_7, dl_8, dl_9, dl_10, dl_11, dl_12, dl_13, dl_14, dl_15, dl_16, dl_20, dl_24, dl_31, dl_50, dl_57, dl_67, dl_68, dl_74, dl_75, dl_79, dl_80, dl_99, dl_100, dl_200, dl_210, dl_224, dl_255, dl_289, dl_900, dl_1000, dl_1728, dl_65536, dl_65537, nI_add, pk_mul, pk_sub, pk_div, pk_rem, ds_rem2, nI_clamp, nI_leI, nI_ltI, nI_eq, ds_m1_eq, ds_eq_m1, ds_m2_eq, ds_eq_m2, ds_m1_le, ds_le_m1, ds_m1_lt, ds_lt_m1, ds_in_N, ds_bo0, ds_bo1, if_pos, if_neg, Nat.not_le, Nat.not_lt, not_true_eq_false, not_false_eq_true, if_true, if_false, ne_eq, Option.some.injEq, Prod.mk.injEq, Value.int.injEq, true_and, and_true, and_self, ite_self, Bool.not_eq_true, Bool.not_eq_false, Bool.true_eq_false, Bool.false_eq_true, reduceCtorEq, Nat.zero_add, Nat.reduceAdd, Nat.reduceMul, Nat.reduceSub, ds_setI_row, ds_setL_row, ds_rowI_self, ds_rowI_ne, ds_rowI_2, ds_rowI_rowI, ds_setS_1, ds_setS_21, ds_setS_self, ds_setS_ne, pk_us, pk_un, h13, tw, h4, wr]
theorem s_must_x (d x : Nat) (z : ds_St) (h : z.1 90 13 = nI 1) : ds_call (d + 1) j_Mod_must [.ref 90, .ref x] z = some (none, z) := by
  rw [c_Mod_must, b_Mod_must_0]
  simp (disch := first | assumption | omega) only [ds_cI, ds_cV, ds_cL, ds_cR, ds_nn, ds_isK_t, ds_isA_t, ds_chk_t, ds_chkN, ds_nz_t, ds_nzN, ds_isB_t, ds_isB_bo, ↓dl_m1, ↓dl_m2, dl_0, dl_1, dl_2, dl_3, dl_4, dl_5, dl_6, dl_7, dl_8, dl_9, dl_10, dl_11, dl_12, dl_13, dl_14, dl_15, dl_16, dl_20, dl_24, dl_31, dl_50, dl_57, dl_67, dl_68, dl_74, dl_75, dl_79, dl_80, dl_99, dl_100, dl_200, dl_210, dl_224, dl_255, dl_289, dl_900, dl_1000, dl_1728, dl_65536, dl_65537, nI_add, pk_mul, pk_sub, pk_div, pk_rem, ds_rem2, nI_clamp, nI_leI, nI_ltI, nI_eq, ds_m1_eq, ds_eq_m1, ds_m2_eq, ds_eq_m2, ds_m1_le, ds_le_m1, ds_m1_lt, ds_lt_m1, ds_in_N, ds_bo0, ds_bo1, if_pos, if_neg, Nat.not_le, Nat.not_lt, not_true_eq_false, not_false_eq_true, if_true, if_false, ne_eq, Option.some.injEq, Prod.mk.injEq, Value.int.injEq, true_and, and_true, and_self, ite_self, Bool.not_eq_true, Bool.not_eq_false, Bool.true_eq_false, Bool.false_eq_true, reduceCtorEq, Nat.zero_add, Nat.reduceAdd, Nat.reduceMul, Nat.reduceSub, ds_setI_row, ds_setL_row, ds_rowI_self, ds_rowI_ne, ds_rowI_2, ds_rowI_rowI, ds_setS_1, ds_setS_21, ds_setS_self, ds_setS_ne, pk_us, pk_un, h]
theorem s_number (d lo hi : Nat) (z : ds_St) (B : Nat → Nat) (n e : Nat) (h : dr_OM z B n e) (hlo : lo < 1000) (hhi : hi < 1000) : (dr_nu B n e lo hi = 0 → ∃ z', ds_call (d + 3) j_Mod_number [.ref 90, .int (nI lo), .int (nI hi)] z = some (some (.int (nI (dr_wh B n e))), z') ∧ dr_OM z' B n (dr_nx B n e) ∧ dr_g1 z z') ∧ (¬ dr_nu B n e lo hi = 0 → ds_call (d + 3) j_Mod_number [.ref 90, .int (nI lo), .int (nI hi)] z = some (some (.int (nI lo)), dr_zw z (dr_nu B n e lo hi) (dr_at B n e))) := by
  have h0 := h
  obtain ⟨hb, he, ht⟩ := h
  have h13 := hb.1
  have h4 := ht.1
  have h6 := ht.2.2.1
  have ml := dr_mk_lt (dr_kd B n e)
  obtain ⟨z', w1, w2, w3⟩ := s_mgo d z B n e h0
  have wr := fun v => s_wrong (d + 1) v (dr_at B n e) z h13
  have x13 := fun v => dr_zw_13 z v (dr_at B n e)
  unfold dr_nu
  by_cases k2 : dr_kd B n e = 2
  · have wl := dr_wh_lt he k2
    have h7 := ht.2.2.2.2 k2
    have hin := s_inN (d + 1) (dr_wh B n e) lo hi z (by omega) (by omega) (by omega)
    rw [dr_mk_3.mpr k2] at h6
    simp only [if_pos k2]
    by_cases q : dr_wh B n e < lo ∨ hi < dr_wh B n e
    · simp only [if_pos q]
      refine ⟨fun c => absurd c (by decide), fun _ => ?_⟩
      have ef : (decide (lo ≤ dr_wh B n e) && decide (dr_wh B n e ≤ hi)) = false := by
        cases qq : (decide (lo ≤ dr_wh B n e) && decide (dr_wh B n e ≤ hi))
        · rfl
        · simp at qq
          omega
      rw [ef] at hin
      have x4 := x13 4
      generalize dr_wh B n e = w at *
      generalize dr_at B n e = a at *
      generalize hy : dr_zw z 4 a = y at *
      rw [c_Mod_number, b_Mod_number_0]
      simp (disch := first | assumption | omega) only [ds_cI, ds_cV, ds_cL, ds_cR, ds_nn, ds_isK_t, ds_isA_t, ds_chk_t, ds_chkN, ds_nz_t, ds_nzN, ds_isB_t, ds_isB_bo, ↓dl_m1, ↓dl_m2, dl_0, dl_1, dl_2, dl_3, dl_4, dl_5, dl_6, dl_7, dl_8, dl_9, dl_10, dl_11, dl_12, dl_13, dl_14, dl_15, dl_16, dl_20, dl_24, dl_31, dl_50, dl_57, dl_67, dl_68, dl_74, dl_75, dl_79, dl_80, dl_99, dl_100, dl_200, dl_210, dl_224, dl_255, dl_289, dl_900, dl_1000, dl_1728, dl_65536, dl_65537, nI_add, pk_mul, pk_sub, pk_div, pk_rem, ds_rem2, nI_clamp, nI_leI, nI_ltI, nI_eq, ds_m1_eq, ds_eq_m1, ds_m2_eq, ds_eq_m2, ds_m1_le, ds_le_m1, ds_m1_lt, ds_lt_m1, ds_in_N, ds_bo0, ds_bo1, if_pos, if_neg, Nat.not_le, Nat.not_lt, not_true_eq_false, not_false_eq_true, if_true, if_false, ne_eq, Option.some.injEq, Prod.mk.injEq, Value.int.injEq, true_and, and_true, and_self, ite_self, Bool.not_eq_true, Bool.not_eq_false, Bool.true_eq_false, Bool.false_eq_true, reduceCtorEq, Nat.zero_add, Nat.reduceAdd, Nat.reduceMul, Nat.reduceSub, ds_setI_row, ds_setL_row, ds_rowI_self, ds_rowI_ne, ds_rowI_2, ds_rowI_rowI, ds_setS_1, ds_setS_21, ds_setS_self, ds_setS_ne, pk_us, pk_un, h13, h6, h7, hin, h4, wr, hy, b_Mod_number_50, x4]
    · simp only [if_neg q]
      refine ⟨fun _ => ⟨z', ?_, w2, w3⟩, fun c => absurd trivial c⟩
      have ef : (decide (lo ≤ dr_wh B n e) && decide (dr_wh B n e ≤ hi)) = true := by
        simp
        omega
      rw [ef] at hin
      generalize dr_wh B n e = w at *
      rw [c_Mod_number, b_Mod_number_0]
      simp (disch := first | assumption | omega) only [ds_cI, ds_cV, ds_cL, ds_cR, ds_nn, ds_isK_t, ds_isA_t, ds_chk_t, ds_chkN, ds_nz_t, ds_nzN, ds_isB_t, ds_isB_bo, ↓dl_m1, ↓dl_m2, dl_0, dl_1, dl_2, dl_3, dl_4, dl_5, dl_6, dl_7, dl_8, dl_9, dl_10, dl_11, dl_12, dl_13, dl_14, dl_15, dl_16, dl_20, dl_24, dl_31, dl_50, dl_57, dl_67, dl_68, dl_74, dl_75, dl_79, dl_80, dl_99, dl_100, dl_200, dl_210, dl_224, dl_255, dl_289, dl_900, dl_1000, dl_1728, dl_65536, dl_65537, nI_add, pk_mul, pk_sub, pk_div, pk_rem, ds_rem2, nI_clamp, nI_leI, nI_ltI, nI_eq, ds_m1_eq, ds_eq_m1, ds_m2_eq, ds_eq_m2, ds_m1_le, ds_le_m1, ds_m1_lt, ds_lt_m1, ds_in_N, ds_bo0, ds_bo1, if_pos, if_neg, Nat.not_le, Nat.not_lt, not_true_eq_false, not_false_eq_true, if_true, if_false, ne_eq, Option.some.injEq, Prod.mk.injEq, Value.int.injEq, true_and, and_true, and_self, ite_self, Bool.not_eq_true, Bool.not_eq_false, Bool.true_eq_false, Bool.false_eq_true, reduceCtorEq, Nat.zero_add, Nat.reduceAdd, Nat.reduceMul, Nat.reduceSub, ds_setI_row, ds_setL_row, ds_rowI_self, ds_rowI_ne, ds_rowI_2, ds_rowI_rowI, ds_setS_1, ds_setS_21, ds_setS_self, ds_setS_ne, pk_us, pk_un, h13, h6, h7, hin, b_Mod_number_50, w1]
  · simp only [if_neg k2]
    refine ⟨fun c => absurd c (by decide), fun _ => ?_⟩
    have nk : ¬ dr_mk (dr_kd B n e) = 3 := fun h => k2 (dr_mk_3.mp h)
    have x1 := x13 1
    generalize dr_mk (dr_kd B n e) = kk at *
    generalize dr_at B n e = a at *
    generalize hy : dr_zw z 1 a = y at *
    rw [c_Mod_number, b_Mod_number_0]
    simp (disch := first | assumption | omega) only [ds_cI, ds_cV, ds_cL, ds_cR, ds_nn, ds_isK_t, ds_isA_t, ds_chk_t, ds_chkN, ds_nz_t, ds_nzN, ds_isB_t, ds_isB_bo, ↓dl_m1, ↓dl_m2, dl_0, dl_1, dl_2, dl_3, dl_4, dl_5, dl_6, dl_7, dl_8, dl_9, dl_10, dl_11, dl_12, dl_13, dl_14, dl_15, dl_16, dl_20, dl_24, dl_31, dl_50, dl_57, dl_67, dl_68, dl_74, dl_75, dl_79, dl_80, dl_99, dl_100, dl_200, dl_210, dl_224, dl_255, dl_289, dl_900, dl_1000, dl_1728, dl_65536, dl_65537, nI_add, pk_mul, pk_sub, pk_div, pk_rem, ds_rem2, nI_clamp, nI_leI, nI_ltI, nI_eq, ds_m1_eq, ds_eq_m1, ds_m2_eq, ds_eq_m2, ds_m1_le, ds_le_m1, ds_m1_lt, ds_lt_m1, ds_in_N, ds_bo0, ds_bo1, if_pos, if_neg, Nat.not_le, Nat.not_lt, not_true_eq_false, not_false_eq_true, if_true, if_false, ne_eq, Option.some.injEq, Prod.mk.injEq, Value.int.injEq, true_and, and_true, and_self, ite_self, Bool.not_eq_true, Bool.not_eq_false, Bool.true_eq_false, Bool.false_eq_true, reduceCtorEq, Nat.zero_add, Nat.reduceAdd, Nat.reduceMul, Nat.reduceSub, ds_setI_row, ds_setL_row, ds_rowI_self, ds_rowI_ne, ds_rowI_2, ds_rowI_rowI, ds_setS_1, ds_setS_21, ds_setS_self, ds_setS_ne, pk_us, pk_un, h13, h6, nk, h4, wr, hy, b_Mod_number_50, x1]
theorem s_number_x (d : Nat) (lo hi : Int32) (z : ds_St) (h : z.1 90 13 = nI 1) : ds_call (d + 1) j_Mod_number [.ref 90, .int lo, .int hi] z = some (some (.int lo), z) := by
  rw [c_Mod_number, b_Mod_number_0]
  simp (disch := first | assumption | omega) only [ds_cI, ds_cV, ds_cL, ds_cR, ds_nn, ds_isK_t, ds_isA_t, ds_chk_t, ds_chkN, ds_nz_t, ds_nzN, ds_isB_t, ds_isB_bo, ↓dl_m1, ↓dl_m2, dl_0, dl_1, dl_2, dl_3, dl_4, dl_5, dl_6, dl_7, dl_8, dl_9, dl_10, dl_11, dl_12, dl_13, dl_14, dl_15, dl_16, dl_20, dl_24, dl_31, dl_50, dl_57, dl_67, dl_68, dl_74, dl_75, dl_79, dl_80, dl_99, dl_100, dl_200, dl_210, dl_224, dl_255, dl_289, dl_900, dl_1000, dl_1728, dl_65536, dl_65537, nI_add, pk_mul, pk_sub, pk_div, pk_rem, ds_rem2, nI_clamp, nI_leI, nI_ltI, nI_eq, ds_m1_eq, ds_eq_m1, ds_m2_eq, ds_eq_m2, ds_m1_le, ds_le_m1, ds_m1_lt, ds_lt_m1, ds_in_N, ds_bo0, ds_bo1, if_pos, if_neg, Nat.not_le, Nat.not_lt, not_true_eq_false, not_false_eq_true, if_true, if_false, ne_eq, Option.some.injEq, Prod.mk.injEq, Value.int.injEq, true_and, and_true, and_self, ite_self, Bool.not_eq_true, Bool.not_eq_false, Bool.true_eq_false, Bool.false_eq_true, reduceCtorEq, Nat.zero_add, Nat.reduceAdd, Nat.reduceMul, Nat.reduceSub, ds_setI_row, ds_setL_row, ds_rowI_self, ds_rowI_ne, ds_rowI_2, ds_rowI_rowI, ds_setS_1, ds_setS_21, ds_setS_self, ds_setS_ne, pk_us, pk_un, h]
/-- four words and their place -/
def dr_on4 (B : Nat → Nat) (n e a b c f : Nat) : Option Nat := if dr_is B n e a = true then some 0 else if dr_is B n e b = true then some 1 else if dr_is B n e c = true then some 2 else if dr_is B n e f = true then some 3 else none
theorem s_oneOf (d a b c f : Nat) (z : ds_St) (B : Nat → Nat) (n e : Nat) (h : dr_OM z B n e) (ha : 310 ≤ a ∧ a < 334) (hb : 310 ≤ b ∧ b < 334) (hc : 310 ≤ c ∧ c < 334) (hf : 310 ≤ f ∧ f < 334) : (∀ i, dr_on4 B n e a b c f = some i → ∃ z', ds_call (d + 3) j_Mod_oneOf [.ref 90, .ref a, .ref b, .ref c, .ref f] z = some (some (.int (nI i)), z') ∧ dr_OM z' B n (dr_nx B n e) ∧ dr_g1 z z') ∧ (dr_on4 B n e a b c f = none → ds_call (d + 3) j_Mod_oneOf [.ref 90, .ref a, .ref b, .ref c, .ref f] z = some (some (.int ds_m1), dr_zw z 1 (dr_at B n e))) := by
  have ia := s_isWord (d + 1) a z B n e h ha.1 ha.2
  have ib := s_isWord (d + 1) b z B n e h hb.1 hb.2
  have ic := s_isWord (d + 1) c z B n e h hc.1 hc.2
  have i_f := s_isWord (d + 1) f z B n e h hf.1 hf.2
  have h13 := h.1.1
  have h4 := h.2.2.1
  obtain ⟨z', w1, w2, w3⟩ := s_mgo d z B n e h
  have wr := s_wrong (d + 1) 1 (dr_at B n e) z h13
  have x13 := dr_zw_13 z 1 (dr_at B n e)
  have fin : ∀ k, k < 4 → ds_Rw ds_c_Mod_oneOf ds_u_Mod_oneOf (ds_call (d + 2)) 50 [some (.ref 90), none, none, none, none, none] [.int (nI k)] z = some (some (.int (nI k)), z') := by
    intro k hk
    rw [b_Mod_oneOf_50]
    simp (disch := first | assumption | omega) only [ds_cI, ds_cV, ds_cL, ds_cR, ds_nn, ds_isK_t, ds_isA_t, ds_chk_t, ds_chkN, ds_nz_t, ds_nzN, ds_isB_t, ds_isB_bo, ↓dl_m1, ↓dl_m2, dl_0, dl_1, dl_2, dl_3, dl_4, dl_5, dl_6, dl_7, dl_8, dl_9, dl_10, dl_11, dl_12, dl_13, dl_14, dl_15, dl_16, dl_20, dl_24, dl_31, dl_50, dl_57, dl_67, dl_68, dl_74, dl_75, dl_79, dl_80, dl_99, dl_100, dl_200, dl_210, dl_224, dl_255, dl_289, dl_900, dl_1000, dl_1728, dl_65536, dl_65537, nI_add, pk_mul, pk_sub, pk_div, pk_rem, ds_rem2, nI_clamp, nI_leI, nI_ltI, nI_eq, ds_m1_eq, ds_eq_m1, ds_m2_eq, ds_eq_m2, ds_m1_le, ds_le_m1, ds_m1_lt, ds_lt_m1, ds_in_N, ds_bo0, ds_bo1, if_pos, if_neg, Nat.not_le, Nat.not_lt, not_true_eq_false, not_false_eq_true, if_true, if_false, ne_eq, Option.some.injEq, Prod.mk.injEq, Value.int.injEq, true_and, and_true, and_self, ite_self, Bool.not_eq_true, Bool.not_eq_false, Bool.true_eq_false, Bool.false_eq_true, reduceCtorEq, Nat.zero_add, Nat.reduceAdd, Nat.reduceMul, Nat.reduceSub, ds_setI_row, ds_setL_row, ds_rowI_self, ds_rowI_ne, ds_rowI_2, ds_rowI_rowI, ds_setS_1, ds_setS_21, ds_setS_self, ds_setS_ne, pk_us, pk_un, b_Mod_oneOf_66, h13, w1]
  unfold dr_on4
  cases qa : dr_is B n e a
  · rw [qa] at ia
    cases qb : dr_is B n e b
    · rw [qb] at ib
      cases qc : dr_is B n e c
      · rw [qc] at ic
        cases qf : dr_is B n e f
        · rw [qf] at i_f
          refine ⟨fun i hi => absurd hi (by simp), fun _ => ?_⟩
          generalize dr_at B n e = at_ at *
          generalize hy : dr_zw z 1 at_ = y at *
          have nn : ¬ nI 0 ≤ ds_m1 := by decide
          rw [c_Mod_oneOf, b_Mod_oneOf_0]
          simp (disch := first | assumption | omega) only [ds_cI, ds_cV, ds_cL, ds_cR, ds_nn, ds_isK_t, ds_isA_t, ds_chk_t, ds_chkN, ds_nz_t, ds_nzN, ds_isB_t, ds_isB_bo, ↓dl_m1, ↓dl_m2, dl_0, dl_1, dl_2, dl_3, dl_4, dl_5, dl_6, dl_7, dl_8, dl_9, dl_10, dl_11, dl_12, dl_13, dl_14, dl_15, dl_16, dl_20, dl_24, dl_31, dl_50, dl_57, dl_67, dl_68, dl_74, dl_75, dl_79, dl_80, dl_99, dl_100, dl_200, dl_210, dl_224, dl_255, dl_289, dl_900, dl_1000, dl_1728, dl_65536, dl_65537, nI_add, pk_mul, pk_sub, pk_div, pk_rem, ds_rem2, nI_clamp, nI_leI, nI_ltI, nI_eq, ds_m1_eq, ds_eq_m1, ds_m2_eq, ds_eq_m2, ds_m1_le, ds_le_m1, ds_m1_lt, ds_lt_m1, ds_in_N, ds_bo0, ds_bo1, if_pos, if_neg, Nat.not_le, Nat.not_lt, not_true_eq_false, not_false_eq_true, if_true, if_false, ne_eq, Option.some.injEq, Prod.mk.injEq, Value.int.injEq, true_and, and_true, and_self, ite_self, Bool.not_eq_true, Bool.not_eq_false, Bool.true_eq_false, Bool.false_eq_true, reduceCtorEq, Nat.zero_add, Nat.reduceAdd, Nat.reduceMul, Nat.reduceSub, ds_setI_row, ds_setL_row, ds_rowI_self, ds_rowI_ne, ds_rowI_2, ds_rowI_rowI, ds_setS_1, ds_setS_21, ds_setS_self, ds_setS_ne, pk_us, pk_un, ia, ib, ic, i_f]
          rw [b_Mod_oneOf_50]
          simp (disch := first | assumption | omega) only [ds_cI, ds_cV, ds_cL, ds_cR, ds_nn, ds_isK_t, ds_isA_t, ds_chk_t, ds_chkN, ds_nz_t, ds_nzN, ds_isB_t, ds_isB_bo, ↓dl_m1, ↓dl_m2, dl_0, dl_1, dl_2, dl_3, dl_4, dl_5, dl_6, dl_7, dl_8, dl_9, dl_10, dl_11, dl_12, dl_13, dl_14, dl_15, dl_16, dl_20, dl_24, dl_31, dl_50, dl_57, dl_67, dl_68, dl_74, dl_75, dl_79, dl_80, dl_99, dl_100, dl_200, dl_210, dl_224, dl_255, dl_289, dl_900, dl_1000, dl_1728, dl_65536, dl_65537, nI_add, pk_mul, pk_sub, pk_div, pk_rem, ds_rem2, nI_clamp, nI_leI, nI_ltI, nI_eq, ds_m1_eq, ds_eq_m1, ds_m2_eq, ds_eq_m2, ds_m1_le, ds_le_m1, ds_m1_lt, ds_lt_m1, ds_in_N, ds_bo0, ds_bo1, if_pos, if_neg, Nat.not_le, Nat.not_lt, not_true_eq_false, not_false_eq_true, if_true, if_false, ne_eq, Option.some.injEq, Prod.mk.injEq, Value.int.injEq, true_and, and_true, and_self, ite_self, Bool.not_eq_true, Bool.not_eq_false, Bool.true_eq_false, Bool.false_eq_true, reduceCtorEq, Nat.zero_add, Nat.reduceAdd, Nat.reduceMul, Nat.reduceSub, ds_setI_row, ds_setL_row, ds_rowI_self, ds_rowI_ne, ds_rowI_2, ds_rowI_rowI, ds_setS_1, ds_setS_21, ds_setS_self, ds_setS_ne, pk_us, pk_un, nn, h4, wr, b_Mod_oneOf_66, x13]
        · rw [qf] at i_f
          refine ⟨fun i hi => ⟨z', ?_, w2, w3⟩, fun hi => absurd hi (by simp)⟩
          have e : i = 3 := by simpa using hi.symm
          subst e
          have g := fin 3 (by decide)
          rw [c_Mod_oneOf, b_Mod_oneOf_0]
          simp (disch := first | assumption | omega) only [ds_cI, ds_cV, ds_cL, ds_cR, ds_nn, ds_isK_t, ds_isA_t, ds_chk_t, ds_chkN, ds_nz_t, ds_nzN, ds_isB_t, ds_isB_bo, ↓dl_m1, ↓dl_m2, dl_0, dl_1, dl_2, dl_3, dl_4, dl_5, dl_6, dl_7, dl_8, dl_9, dl_10, dl_11, dl_12, dl_13, dl_14, dl_15, dl_16, dl_20, dl_24, dl_31, dl_50, dl_57, dl_67, dl_68, dl_74, dl_75, dl_79, dl_80, dl_99, dl_100, dl_200, dl_210, dl_224, dl_255, dl_289, dl_900, dl_1000, dl_1728, dl_65536, dl_65537, nI_add, pk_mul, pk_sub, pk_div, pk_rem, ds_rem2, nI_clamp, nI_leI, nI_ltI, nI_eq, ds_m1_eq, ds_eq_m1, ds_m2_eq, ds_eq_m2, ds_m1_le, ds_le_m1, ds_m1_lt, ds_lt_m1, ds_in_N, ds_bo0, ds_bo1, if_pos, if_neg, Nat.not_le, Nat.not_lt, not_true_eq_false, not_false_eq_true, if_true, if_false, ne_eq, Option.some.injEq, Prod.mk.injEq, Value.int.injEq, true_and, and_true, and_self, ite_self, Bool.not_eq_true, Bool.not_eq_false, Bool.true_eq_false, Bool.false_eq_true, reduceCtorEq, Nat.zero_add, Nat.reduceAdd, Nat.reduceMul, Nat.reduceSub, ds_setI_row, ds_setL_row, ds_rowI_self, ds_rowI_ne, ds_rowI_2, ds_rowI_rowI, ds_setS_1, ds_setS_21, ds_setS_self, ds_setS_ne, pk_us, pk_un, ia, ib, ic, i_f, g]
      · rw [qc] at ic
        refine ⟨fun i hi => ⟨z', ?_, w2, w3⟩, fun hi => absurd hi (by simp)⟩
        have e : i = 2 := by simpa using hi.symm
        subst e
        have g := fin 2 (by decide)
        rw [c_Mod_oneOf, b_Mod_oneOf_0]
        simp (disch := first | assumption | omega) only [ds_cI, ds_cV, ds_cL, ds_cR, ds_nn, ds_isK_t, ds_isA_t, ds_chk_t, ds_chkN, ds_nz_t, ds_nzN, ds_isB_t, ds_isB_bo, ↓dl_m1, ↓dl_m2, dl_0, dl_1, dl_2, dl_3, dl_4, dl_5, dl_6, dl_7, dl_8, dl_9, dl_10, dl_11, dl_12, dl_13, dl_14, dl_15, dl_16, dl_20, dl_24, dl_31, dl_50, dl_57, dl_67, dl_68, dl_74, dl_75, dl_79, dl_80, dl_99, dl_100, dl_200, dl_210, dl_224, dl_255, dl_289, dl_900, dl_1000, dl_1728, dl_65536, dl_65537, nI_add, pk_mul, pk_sub, pk_div, pk_rem, ds_rem2, nI_clamp, nI_leI, nI_ltI, nI_eq, ds_m1_eq, ds_eq_m1, ds_m2_eq, ds_eq_m2, ds_m1_le, ds_le_m1, ds_m1_lt, ds_lt_m1, ds_in_N, ds_bo0, ds_bo1, if_pos, if_neg, Nat.not_le, Nat.not_lt, not_true_eq_false, not_false_eq_true, if_true, if_false, ne_eq, Option.some.injEq, Prod.mk.injEq, Value.int.injEq, true_and, and_true, and_self, ite_self, Bool.not_eq_true, Bool.not_eq_false, Bool.true_eq_false, Bool.false_eq_true, reduceCtorEq, Nat.zero_add, Nat.reduceAdd, Nat.reduceMul, Nat.reduceSub, ds_setI_row, ds_setL_row, ds_rowI_self, ds_rowI_ne, ds_rowI_2, ds_rowI_rowI, ds_setS_1, ds_setS_21, ds_setS_self, ds_setS_ne, pk_us, pk_un, ia, ib, ic, g]
    · rw [qb] at ib
      refine ⟨fun i hi => ⟨z', ?_, w2, w3⟩, fun hi => absurd hi (by simp)⟩
      have e : i = 1 := by simpa using hi.symm
      subst e
      have g := fin 1 (by decide)
      rw [c_Mod_oneOf, b_Mod_oneOf_0]
      simp (disch := first | assumption | omega) only [ds_cI, ds_cV, ds_cL, ds_cR, ds_nn, ds_isK_t, ds_isA_t, ds_chk_t, ds_chkN, ds_nz_t, ds_nzN, ds_isB_t, ds_isB_bo, ↓dl_m1, ↓dl_m2, dl_0, dl_1, dl_2, dl_3, dl_4, dl_5, dl_6, dl_7, dl_8, dl_9, dl_10, dl_11, dl_12, dl_13, dl_14, dl_15, dl_16, dl_20, dl_24, dl_31, dl_50, dl_57, dl_67, dl_68, dl_74, dl_75, dl_79, dl_80, dl_99, dl_100, dl_200, dl_210, dl_224, dl_255, dl_289, dl_900, dl_1000, dl_1728, dl_65536, dl_65537, nI_add, pk_mul, pk_sub, pk_div, pk_rem, ds_rem2, nI_clamp, nI_leI, nI_ltI, nI_eq, ds_m1_eq, ds_eq_m1, ds_m2_eq, ds_eq_m2, ds_m1_le, ds_le_m1, ds_m1_lt, ds_lt_m1, ds_in_N, ds_bo0, ds_bo1, if_pos, if_neg, Nat.not_le, Nat.not_lt, not_true_eq_false, not_false_eq_true, if_true, if_false, ne_eq, Option.some.injEq, Prod.mk.injEq, Value.int.injEq, true_and, and_true, and_self, ite_self, Bool.not_eq_true, Bool.not_eq_false, Bool.true_eq_false, Bool.false_eq_true, reduceCtorEq, Nat.zero_add, Nat.reduceAdd, Nat.reduceMul, Nat.reduceSub, ds_setI_row, ds_setL_row, ds_rowI_self, ds_rowI_ne, ds_rowI_2, ds_rowI_rowI, ds_setS_1, ds_setS_21, ds_setS_self, ds_setS_ne, pk_us, pk_un, ia, ib, g]
  · rw [qa] at ia
    refine ⟨fun i hi => ⟨z', ?_, w2, w3⟩, fun hi => absurd hi (by simp)⟩
    have e : i = 0 := by simpa using hi.symm
    subst e
    have g := fin 0 (by decide)
    rw [c_Mod_oneOf, b_Mod_oneOf_0]
    simp (disch := first | assumption | omega) only [ds_cI, ds_cV, ds_cL, ds_cR, ds_nn, ds_isK_t, ds_isA_t, ds_chk_t, ds_chkN, ds_nz_t, ds_nzN, ds_isB_t, ds_isB_bo, ↓dl_m1, ↓dl_m2, dl_0, dl_1, dl_2, dl_3, dl_4, dl_5, dl_6, dl_7, dl_8, dl_9, dl_10, dl_11, dl_12, dl_13, dl_14, dl_15, dl_16, dl_20, dl_24, dl_31, dl_50, dl_57, dl_67, dl_68, dl_74, dl_75, dl_79, dl_80, dl_99, dl_100, dl_200, dl_210, dl_224, dl_255, dl_289, dl_900, dl_1000, dl_1728, dl_65536, dl_65537, nI_add, pk_mul, pk_sub, pk_div, pk_rem, ds_rem2, nI_clamp, nI_leI, nI_ltI, nI_eq, ds_m1_eq, ds_eq_m1, ds_m2_eq, ds_eq_m2, ds_m1_le, ds_le_m1, ds_m1_lt, ds_lt_m1, ds_in_N, ds_bo0, ds_bo1, if_pos, if_neg, Nat.not_le, Nat.not_lt, not_true_eq_false, not_false_eq_true, if_true, if_false, ne_eq, Option.some.injEq, Prod.mk.injEq, Value.int.injEq, true_and, and_true, and_self, ite_self, Bool.not_eq_true, Bool.not_eq_false, Bool.true_eq_false, Bool.false_eq_true, reduceCtorEq, Nat.zero_add, Nat.reduceAdd, Nat.reduceMul, Nat.reduceSub, ds_setI_row, ds_setL_row, ds_rowI_self, ds_rowI_ne, ds_rowI_2, ds_rowI_rowI, ds_setS_1, ds_setS_21, ds_setS_self, ds_setS_ne, pk_us, pk_un, ia, g]
/-! words of the class's texts are the model's -/
theorem dr_is_w {B : Nat → Nat} {n e x : Nat} (k1 : dr_kd B n e = 1) : (dr_is B n e x = true) = (ds_sl x = dr_wl B n e) := by
  unfold dr_is
  rw [decide_eq_true k1, Bool.true_and]
  apply propext
  rw [decide_eq_true_eq]
  exact ⟨fun h => h.symm, fun h => h.symm⟩
theorem dr_is_n {B : Nat → Nat} {n e x : Nat} (k1 : ¬ dr_kd B n e = 1) : dr_is B n e x = false := by
  unfold dr_is
  rw [decide_eq_false k1, Bool.false_and]
theorem dr_is_e {B : Nat → Nat} {n e : Nat} (he : e ≤ n) : dr_is B n e 320 = false := by
  by_cases k1 : dr_kd B n e = 1
  · have wd := dr_wl_ok he k1
    unfold dr_is
    rw [decide_eq_false (show ¬ dr_wl B n e = ds_sl 320 from fun h => wd.1 h), Bool.and_false]
  · exact dr_is_n k1
theorem dr_on4_304 (B : Nat → Nat) (n e : Nat) : dr_on4 B n e 314 315 316 317 = dr_on B n e 304 := by
  unfold dr_on4 dr_on
  by_cases k1 : dr_kd B n e = 1
  · rw [if_pos k1]
    simp only [dr_is_w k1]
    show _ = dr_id [ds_sl 314, ds_sl 315, ds_sl 316, ds_sl 317] _
    simp only [dr_id]
    split
    · rfl
    · split
      · rfl
      · split
        · rfl
        · split <;> rfl
  · simp [if_neg k1, dr_is_n k1]
theorem dr_on4_309 (B : Nat → Nat) (n e : Nat) : dr_on4 B n e 330 331 332 333 = dr_on B n e 309 := by
  unfold dr_on4 dr_on
  by_cases k1 : dr_kd B n e = 1
  · rw [if_pos k1]
    simp only [dr_is_w k1]
    show _ = dr_id [ds_sl 330, ds_sl 331, ds_sl 332, ds_sl 333] _
    simp only [dr_id]
    split
    · rfl
    · split
      · rfl
      · split
        · rfl
        · split <;> rfl
  · simp [if_neg k1, dr_is_n k1]
theorem dr_on4_306 {B : Nat → Nat} {n e : Nat} (he : e ≤ n) : dr_on4 B n e 325 326 327 320 = dr_on B n e 306 := by
  unfold dr_on4 dr_on
  rw [dr_is_e he]
  by_cases k1 : dr_kd B n e = 1
  · rw [if_pos k1]
    simp only [dr_is_w k1]
    show _ = dr_id [ds_sl 325, ds_sl 326, ds_sl 327] _
    simp only [dr_id]
    split
    · rfl
    · split
      · rfl
      · split <;> rfl
  · simp [if_neg k1, dr_is_n k1]
theorem dr_on4_305 {B : Nat → Nat} {n e : Nat} (he : e ≤ n) : dr_on4 B n e 318 319 320 320 = dr_on B n e 305 := by
  unfold dr_on4 dr_on
  rw [dr_is_e he]
  by_cases k1 : dr_kd B n e = 1
  · rw [if_pos k1]
    simp only [dr_is_w k1]
    show _ = dr_id [ds_sl 318, ds_sl 319] _
    simp only [dr_id]
    split
    · rfl
    · split <;> rfl
  · simp [if_neg k1, dr_is_n k1]
/-- one word alone -/
theorem dr_on_1 {B : Nat → Nat} {n e x y : Nat} (hx : dr_ws x = [ds_sl y]) : dr_on B n e x = if dr_is B n e y = true then some 0 else none := by
  unfold dr_on
  by_cases k1 : dr_kd B n e = 1
  · rw [if_pos k1, hx]
    simp only [dr_is_w k1, dr_id]
    split <;> rfl
  · simp [if_neg k1, dr_is_n k1]
