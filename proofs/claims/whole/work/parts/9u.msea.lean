/-! the model reads a text -/
theorem s_mtxt (d : Nat) (z0 : ds_St) (B : Nat → Nat) (n : Nat) : ∀ f hs e Nm D z, n < e + f → dr_OM z B n e → dr_SM z0 hs Nm D z → dr_nok D Nm → dr_dok hs D → (hs = false → D 0 4 = 0 ∧ D 0 5 = 0 ∧ D 0 6 = 0 ∧ D 0 7 = 0) → ∃ z', ds_cV (ds_call (d + 7)) j_Mod_readLine [.ref 90] z (fun z2 => ds_Rw ds_c_Mod_sea ds_u_Mod_sea (ds_call (d + 7)) 77 [some (.ref 90), none, none] [] z2) = ds_Rw ds_c_Mod_sea ds_u_Mod_sea (ds_call (d + 7)) 164 [some (.ref 90), none, none] [] z' ∧ dr_postM z0 B n (dr_txt B n f hs e Nm D) z' := by
  have x77 : ∀ (y : ds_St) (v a : Nat), dr_XM z0 v a y → ds_Rw ds_c_Mod_sea ds_u_Mod_sea (ds_call (d + 7)) 77 [some (.ref 90), none, none] [] y = ds_Rw ds_c_Mod_sea ds_u_Mod_sea (ds_call (d + 7)) 164 [some (.ref 90), none, none] [] y := by
    intro y v a X
    have ne1 := X.1
    rw [b_Mod_sea_77]
    simp (disch := first | assumption | omega) only [ds_cI, ds_cV, ds_cL, ds_cR, ds_nn, ds_isK_t, ds_isA_t, ds_chk_t, ds_chkN, ds_nz_t, ds_nzN, ds_isB_t, ds_isB_bo, ↓dl_m1, ↓dl_m2, dl_0, dl_1, dl_2, dl_3, dl_4, dl_5, dl_6, dl_7, dl_8, dl_9, dl_10, dl_11, dl_12, dl_13, dl_14, dl_15, dl_16, dl_20, dl_24, dl_31, dl_50, dl_57, dl_67, dl_68, dl_74, dl_75, dl_79, dl_80, dl_99, dl_100, dl_200, dl_210, dl_224, dl_255, dl_289, dl_900, dl_1000, dl_1728, dl_65536, dl_65537, nI_add, pk_mul, pk_sub, pk_div, pk_rem, ds_rem2, nI_clamp, nI_leI, nI_ltI, nI_eq, ds_m1_eq, ds_eq_m1, ds_m2_eq, ds_eq_m2, ds_m1_le, ds_le_m1, ds_m1_lt, ds_lt_m1, ds_in_N, ds_bo0, ds_bo1, if_pos, if_neg, Nat.not_le, Nat.not_lt, not_true_eq_false, not_false_eq_true, if_true, if_false, ne_eq, Option.some.injEq, Prod.mk.injEq, Value.int.injEq, true_and, and_true, and_self, ite_self, Bool.not_eq_true, Bool.not_eq_false, Bool.true_eq_false, Bool.false_eq_true, reduceCtorEq, Nat.zero_add, Nat.reduceAdd, Nat.reduceMul, Nat.reduceSub, ds_setI_row, ds_setL_row, ds_rowI_self, ds_rowI_ne, ds_rowI_2, ds_rowI_rowI, ds_setS_1, ds_setS_21, ds_setS_self, ds_setS_ne, pk_us, pk_un, ne1, b_Mod_sea_104, b_Mod_sea_127]
  have x127 : ∀ (y : ds_St) (v a : Nat), dr_XM z0 v a y → ds_Rw ds_c_Mod_sea ds_u_Mod_sea (ds_call (d + 7)) 127 [some (.ref 90), none, none] [] y = ds_Rw ds_c_Mod_sea ds_u_Mod_sea (ds_call (d + 7)) 164 [some (.ref 90), none, none] [] y := by
    intro y v a X
    have ne1 := X.1
    rw [b_Mod_sea_127]
    simp (disch := first | assumption | omega) only [ds_cI, ds_cV, ds_cL, ds_cR, ds_nn, ds_isK_t, ds_isA_t, ds_chk_t, ds_chkN, ds_nz_t, ds_nzN, ds_isB_t, ds_isB_bo, ↓dl_m1, ↓dl_m2, dl_0, dl_1, dl_2, dl_3, dl_4, dl_5, dl_6, dl_7, dl_8, dl_9, dl_10, dl_11, dl_12, dl_13, dl_14, dl_15, dl_16, dl_20, dl_24, dl_31, dl_50, dl_57, dl_67, dl_68, dl_74, dl_75, dl_79, dl_80, dl_99, dl_100, dl_200, dl_210, dl_224, dl_255, dl_289, dl_900, dl_1000, dl_1728, dl_65536, dl_65537, nI_add, pk_mul, pk_sub, pk_div, pk_rem, ds_rem2, nI_clamp, nI_leI, nI_ltI, nI_eq, ds_m1_eq, ds_eq_m1, ds_m2_eq, ds_eq_m2, ds_m1_le, ds_le_m1, ds_m1_lt, ds_lt_m1, ds_in_N, ds_bo0, ds_bo1, if_pos, if_neg, Nat.not_le, Nat.not_lt, not_true_eq_false, not_false_eq_true, if_true, if_false, ne_eq, Option.some.injEq, Prod.mk.injEq, Value.int.injEq, true_and, and_true, and_self, ite_self, Bool.not_eq_true, Bool.not_eq_false, Bool.true_eq_false, Bool.false_eq_true, reduceCtorEq, Nat.zero_add, Nat.reduceAdd, Nat.reduceMul, Nat.reduceSub, ds_setI_row, ds_setL_row, ds_rowI_self, ds_rowI_ne, ds_rowI_2, ds_rowI_rowI, ds_setS_1, ds_setS_21, ds_setS_self, ds_setS_ne, pk_us, pk_un, ne1]
  have e59 : (59 : Int32) = nI 59 := rfl
  intro f
  induction f with
  | zero =>
    intro hs e Nm D z hf hO hS _ _ _
    have := hO.2.1
    omega
  | succ f ih =>
    intro hs e Nm D z hf hO hS hn hd h0
    have en := hO.2.1
    obtain ⟨z1, w1, w2⟩ := s_mreadLine d z0 z hs B n e Nm D hO hS hn hd h0
    have gl := dr_good_line (B := B) (n := n) (e := e) hd hn (fun q => (h0 q).2.2.2) en
    rw [ds_cV_t w1]
    simp only [dr_txt]
    cases hl : dr_line hs B n e Nm D with
    | inl q =>
      rw [hl] at w2
      exact ⟨z1, x77 z1 _ _ w2, w2⟩
    | inr s =>
      rw [hl] at w2 gl
      obtain ⟨O1, S1⟩ : dr_OM z1 B n s.1 ∧ dr_SM z0 true s.2.1 s.2.2 z1 := w2
      obtain ⟨g1, g2, g3, g4⟩ := gl s rfl
      have h13 := O1.1.1
      have h6 := O1.2.2.2.2.1
      have hat := O1.2.2.1
      have h8 : z1.1 94 8 = nI 1 := S1.1.1
      have c4 := S1.1.2.2.1.1
      have d4 := g3.1
      by_cases q0 : dr_kd B n s.1 = 0
      · rw [q0] at h6
        have h6' : z1.1 90 6 = nI 0 := h6
        dsimp only
        rw [if_pos q0]
        by_cases q2 : s.2.2 0 4 < 2
        · rw [if_pos q2]
          have wr := s_wrong (d + 6) 6 (dr_at B n s.1) z1 h13
          have X := dr_XM_zw (v := 6) (a := dr_at B n s.1) S1 g3.2.2.1
          refine ⟨dr_zw z1 6 (dr_at B n s.1), ?_, X⟩
          generalize dr_zw z1 6 (dr_at B n s.1) = y at *
          generalize dr_at B n s.1 = at_ at *
          have n2 : ¬ 2 ≤ s.2.2 0 4 := by omega
          generalize s.2.2 0 4 = c at *
          rw [b_Mod_sea_77]
          simp (disch := first | assumption | omega) only [ds_cI, ds_cV, ds_cL, ds_cR, ds_nn, ds_isK_t, ds_isA_t, ds_chk_t, ds_chkN, ds_nz_t, ds_nzN, ds_isB_t, ds_isB_bo, ↓dl_m1, ↓dl_m2, dl_0, dl_1, dl_2, dl_3, dl_4, dl_5, dl_6, dl_7, dl_8, dl_9, dl_10, dl_11, dl_12, dl_13, dl_14, dl_15, dl_16, dl_20, dl_24, dl_31, dl_50, dl_57, dl_67, dl_68, dl_74, dl_75, dl_79, dl_80, dl_99, dl_100, dl_200, dl_210, dl_224, dl_255, dl_289, dl_900, dl_1000, dl_1728, dl_65536, dl_65537, nI_add, pk_mul, pk_sub, pk_div, pk_rem, ds_rem2, nI_clamp, nI_leI, nI_ltI, nI_eq, ds_m1_eq, ds_eq_m1, ds_m2_eq, ds_eq_m2, ds_m1_le, ds_le_m1, ds_m1_lt, ds_lt_m1, ds_in_N, ds_bo0, ds_bo1, if_pos, if_neg, Nat.not_le, Nat.not_lt, not_true_eq_false, not_false_eq_true, if_true, if_false, ne_eq, Option.some.injEq, Prod.mk.injEq, Value.int.injEq, true_and, and_true, and_self, ite_self, Bool.not_eq_true, Bool.not_eq_false, Bool.true_eq_false, Bool.false_eq_true, reduceCtorEq, Nat.zero_add, Nat.reduceAdd, Nat.reduceMul, Nat.reduceSub, ds_setI_row, ds_setL_row, ds_rowI_self, ds_rowI_ne, ds_rowI_2, ds_rowI_rowI, ds_setS_1, ds_setS_21, ds_setS_self, ds_setS_ne, pk_us, pk_un, h13, h6', e59, b_Mod_sea_104, b_Mod_sea_127, h8, c4, n2, b_Mod_sea_154, hat, wr]
        · rw [if_neg q2]
          refine ⟨z1, ?_, O1, S1⟩
          have n2 : 2 ≤ s.2.2 0 4 := by omega
          generalize s.2.2 0 4 = c at *
          rw [b_Mod_sea_77]
          simp (disch := first | assumption | omega) only [ds_cI, ds_cV, ds_cL, ds_cR, ds_nn, ds_isK_t, ds_isA_t, ds_chk_t, ds_chkN, ds_nz_t, ds_nzN, ds_isB_t, ds_isB_bo, ↓dl_m1, ↓dl_m2, dl_0, dl_1, dl_2, dl_3, dl_4, dl_5, dl_6, dl_7, dl_8, dl_9, dl_10, dl_11, dl_12, dl_13, dl_14, dl_15, dl_16, dl_20, dl_24, dl_31, dl_50, dl_57, dl_67, dl_68, dl_74, dl_75, dl_79, dl_80, dl_99, dl_100, dl_200, dl_210, dl_224, dl_255, dl_289, dl_900, dl_1000, dl_1728, dl_65536, dl_65537, nI_add, pk_mul, pk_sub, pk_div, pk_rem, ds_rem2, nI_clamp, nI_leI, nI_ltI, nI_eq, ds_m1_eq, ds_eq_m1, ds_m2_eq, ds_eq_m2, ds_m1_le, ds_le_m1, ds_m1_lt, ds_lt_m1, ds_in_N, ds_bo0, ds_bo1, if_pos, if_neg, Nat.not_le, Nat.not_lt, not_true_eq_false, not_false_eq_true, if_true, if_false, ne_eq, Option.some.injEq, Prod.mk.injEq, Value.int.injEq, true_and, and_true, and_self, ite_self, Bool.not_eq_true, Bool.not_eq_false, Bool.true_eq_false, Bool.false_eq_true, reduceCtorEq, Nat.zero_add, Nat.reduceAdd, Nat.reduceMul, Nat.reduceSub, ds_setI_row, ds_setL_row, ds_rowI_self, ds_rowI_ne, ds_rowI_2, ds_rowI_rowI, ds_setS_1, ds_setS_21, ds_setS_self, ds_setS_ne, pk_us, pk_un, h13, h6', e59, b_Mod_sea_104, b_Mod_sea_127, h8, c4, n2]
      · by_cases q3 : dr_kd B n s.1 = 3
        · rw [q3] at h6
          have h6' : z1.1 90 6 = nI 59 := h6
          obtain ⟨z2, u1, O2, f2⟩ := s_mgo (d + 5) z1 B n s.1 O1
          have lt := dr_kd_3 g2 q3
          obtain ⟨z', v1, v2⟩ := ih true (dr_nx B n s.1) s.2.1 s.2.2 z2 (by omega) O2 (dr_SM_g1 S1 f2) g4 g3 (fun h => absurd h (by decide))
          dsimp only
          rw [if_neg q0, if_pos q3]
          refine ⟨z', ?_, v2⟩
          rw [← v1, b_Mod_sea_77]
          simp (disch := first | assumption | omega) only [ds_cI, ds_cV, ds_cL, ds_cR, ds_nn, ds_isK_t, ds_isA_t, ds_chk_t, ds_chkN, ds_nz_t, ds_nzN, ds_isB_t, ds_isB_bo, ↓dl_m1, ↓dl_m2, dl_0, dl_1, dl_2, dl_3, dl_4, dl_5, dl_6, dl_7, dl_8, dl_9, dl_10, dl_11, dl_12, dl_13, dl_14, dl_15, dl_16, dl_20, dl_24, dl_31, dl_50, dl_57, dl_67, dl_68, dl_74, dl_75, dl_79, dl_80, dl_99, dl_100, dl_200, dl_210, dl_224, dl_255, dl_289, dl_900, dl_1000, dl_1728, dl_65536, dl_65537, nI_add, pk_mul, pk_sub, pk_div, pk_rem, ds_rem2, nI_clamp, nI_leI, nI_ltI, nI_eq, ds_m1_eq, ds_eq_m1, ds_m2_eq, ds_eq_m2, ds_m1_le, ds_le_m1, ds_m1_lt, ds_lt_m1, ds_in_N, ds_bo0, ds_bo1, if_pos, if_neg, Nat.not_le, Nat.not_lt, not_true_eq_false, not_false_eq_true, if_true, if_false, ne_eq, Option.some.injEq, Prod.mk.injEq, Value.int.injEq, true_and, and_true, and_self, ite_self, Bool.not_eq_true, Bool.not_eq_false, Bool.true_eq_false, Bool.false_eq_true, reduceCtorEq, Nat.zero_add, Nat.reduceAdd, Nat.reduceMul, Nat.reduceSub, ds_setI_row, ds_setL_row, ds_rowI_self, ds_rowI_ne, ds_rowI_2, ds_rowI_rowI, ds_setS_1, ds_setS_21, ds_setS_self, ds_setS_ne, pk_us, pk_un, h13, h6', u1, e59]
        · have k4 := dr_kd_le B n s.1
          have mk : dr_mk (dr_kd B n s.1) ≠ 0 ∧ dr_mk (dr_kd B n s.1) ≠ 59 ∧ dr_mk (dr_kd B n s.1) < 60 := by
            unfold dr_mk
            rw [if_neg q0, if_neg q3]
            split
            · decide
            · split <;> decide
          obtain ⟨m1, m2, m3⟩ := mk
          dsimp only
          rw [if_neg q0, if_neg q3]
          have wr := s_wrong (d + 6) 1 (dr_at B n s.1) z1 h13
          have X := dr_XM_zw (v := 1) (a := dr_at B n s.1) S1 g3.2.2.1
          refine ⟨dr_zw z1 1 (dr_at B n s.1), ?_, X⟩
          have x := x127 _ _ _ X
          generalize dr_zw z1 1 (dr_at B n s.1) = y at *
          generalize dr_at B n s.1 = at_ at *
          generalize dr_mk (dr_kd B n s.1) = mk at *
          rw [b_Mod_sea_77]
          simp (disch := first | assumption | omega) only [ds_cI, ds_cV, ds_cL, ds_cR, ds_nn, ds_isK_t, ds_isA_t, ds_chk_t, ds_chkN, ds_nz_t, ds_nzN, ds_isB_t, ds_isB_bo, ↓dl_m1, ↓dl_m2, dl_0, dl_1, dl_2, dl_3, dl_4, dl_5, dl_6, dl_7, dl_8, dl_9, dl_10, dl_11, dl_12, dl_13, dl_14, dl_15, dl_16, dl_20, dl_24, dl_31, dl_50, dl_57, dl_67, dl_68, dl_74, dl_75, dl_79, dl_80, dl_99, dl_100, dl_200, dl_210, dl_224, dl_255, dl_289, dl_900, dl_1000, dl_1728, dl_65536, dl_65537, nI_add, pk_mul, pk_sub, pk_div, pk_rem, ds_rem2, nI_clamp, nI_leI, nI_ltI, nI_eq, ds_m1_eq, ds_eq_m1, ds_m2_eq, ds_eq_m2, ds_m1_le, ds_le_m1, ds_m1_lt, ds_lt_m1, ds_in_N, ds_bo0, ds_bo1, if_pos, if_neg, Nat.not_le, Nat.not_lt, not_true_eq_false, not_false_eq_true, if_true, if_false, ne_eq, Option.some.injEq, Prod.mk.injEq, Value.int.injEq, true_and, and_true, and_self, ite_self, Bool.not_eq_true, Bool.not_eq_false, Bool.true_eq_false, Bool.false_eq_true, reduceCtorEq, Nat.zero_add, Nat.reduceAdd, Nat.reduceMul, Nat.reduceSub, ds_setI_row, ds_setL_row, ds_rowI_self, ds_rowI_ne, ds_rowI_2, ds_rowI_rowI, ds_setS_1, ds_setS_21, ds_setS_self, ds_setS_ne, pk_us, pk_un, h13, h6, m1, m2, e59, b_Mod_sea_104, hat, wr, x]
/-- what a read text is -/
theorem dr_txt_ok (B : Nat → Nat) (n : Nat) : ∀ f hs e Nm D, e ≤ n → dr_nok D Nm → dr_dok hs D → (hs = false → D 0 7 = 0) → ∀ s, dr_txt B n f hs e Nm D = .inr s → dr_dok true s.2.2 ∧ 2 ≤ s.2.2 0 4 := by
  intro f
  induction f with
  | zero =>
    intro hs e Nm D _ _ _ _ s h
    cases h
  | succ f ih =>
    intro hs e Nm D en hn hd h0 s h
    have gl := dr_good_line (B := B) (n := n) (e := e) hd hn h0 en
    simp only [dr_txt] at h
    cases hl : dr_line hs B n e Nm D with
    | inl q => rw [hl] at h; cases h
    | inr r =>
      rw [hl] at h gl
      obtain ⟨g1, g2, g3, g4⟩ := gl r rfl
      dsimp only at h
      by_cases q0 : dr_kd B n r.1 = 0
      · rw [if_pos q0] at h
        by_cases q2 : r.2.2 0 4 < 2
        · rw [if_pos q2] at h; cases h
        · rw [if_neg q2] at h
          cases h
          exact ⟨g3, by omega⟩
      · rw [if_neg q0] at h
        by_cases q3 : dr_kd B n r.1 = 3
        · rw [if_pos q3] at h
          exact ih true _ _ _ (dr_nx_ok B g2).2 g4 g3 (fun h => absurd h (by decide)) s h
        · rw [if_neg q3] at h; cases h
/-- the text as it is -/
def dr_all (B : Nat → Nat) (n : Nat) : dr_Rs := dr_txt B n (n + 1) false 0 (fun _ => []) (fun _ _ => 0)
theorem dr_dok0 : dr_dok false (fun _ _ => 0) := ⟨by decide, by decide, by decide, by decide, fun h => absurd h (by decide), fun i hi => absurd hi (Nat.not_lt_zero _), fun i hi => absurd hi (Nat.not_lt_zero _), fun i hi => absurd hi (Nat.not_lt_zero _), fun i hi => absurd hi (Nat.not_lt_zero _)⟩
theorem dr_nok0 : dr_nok (fun _ _ => 0) (fun _ => []) := by
  have u : ∀ s, dr_used (fun _ _ => 0) s = false := fun s => by
    unfold dr_used
    simp
  refine ⟨by decide, by decide, fun s hs => ?_, fun s hs => ?_, fun s s' hs hs' q => ?_⟩
  · rw [u] at hs; exact absurd hs (by decide)
  · rfl
  · rw [u] at hs; exact absurd hs (by decide)
theorem dr_all_ok {B : Nat → Nat} {n : Nat} {s : Nat × (Nat → List Nat) × (Nat → Nat → Nat)} (h : dr_all B n = .inr s) : dr_dok true s.2.2 ∧ 2 ≤ s.2.2 0 4 := dr_txt_ok B n (n + 1) false 0 _ _ (Nat.zero_le _) dr_nok0 dr_dok0 (fun _ => rfl) s h
theorem s_fill94 (d : Nat) (x : Int32) (z : ds_St) : ds_Rw ds_c_Mod_sea ds_u_Mod_sea (ds_call (d + 7)) 39 [some (.ref 90), some (.int x), some (.int (nI 0))] [] z = ds_Rw ds_c_Mod_sea ds_u_Mod_sea (ds_call (d + 7)) 39 [some (.ref 90), some (.int x), some (.int (nI 289))] [] (ds_rowI z 94 (fun j => if j < 289 then nI 0 else z.1 94 j)) := by
  have e289 : (289 : Int32) = nI 289 := rfl
  let zk : Nat → ds_St := fun k => ds_rowI z 94 (fun j => if j < k then nI 0 else z.1 94 j)
  have up := ds_up (F := fun k => ds_Rw ds_c_Mod_sea ds_u_Mod_sea (ds_call (d + 7)) 39 [some (.ref 90), some (.int x), some (.int (nI k))] [] (zk k)) (n := 289) 0 (by
    intro k _ hk
    rw [b_Mod_sea_39]
    have er : ds_rowI (zk k) 94 (upd ((zk k).1 94) k (nI 0)) = zk (k + 1) := by
      simp only [zk]
      rw [ds_rowI_rowI, ds_rowI_self]
      apply ds_rowI_congr
      intro j
      dsimp only [upd]
      by_cases h : j = k
      · rw [if_pos h, if_pos (by omega)]
      · rw [if_neg h]
        by_cases h2 : j < k
        · rw [if_pos h2, if_pos (by omega)]
        · rw [if_neg h2, if_neg (by omega)]
    simp (disch := first | assumption | omega) only [ds_cI, ds_cV, ds_cL, ds_cR, ds_nn, ds_isK_t, ds_isA_t, ds_chk_t, ds_chkN, ds_nz_t, ds_nzN, ds_isB_t, ds_isB_bo, ↓dl_m1, ↓dl_m2, dl_0, dl_1, dl_2, dl_3, dl_4, dl_5, dl_6, dl_7, dl_8, dl_9, dl_10, dl_11, dl_12, dl_13, dl_14, dl_15, dl_16, dl_20, dl_24, dl_31, dl_50, dl_57, dl_67, dl_68, dl_74, dl_75, dl_79, dl_80, dl_99, dl_100, dl_200, dl_210, dl_224, dl_255, dl_289, dl_900, dl_1000, dl_1728, dl_65536, dl_65537, nI_add, pk_mul, pk_sub, pk_div, pk_rem, ds_rem2, nI_clamp, nI_leI, nI_ltI, nI_eq, ds_m1_eq, ds_eq_m1, ds_m2_eq, ds_eq_m2, ds_m1_le, ds_le_m1, ds_m1_lt, ds_lt_m1, ds_in_N, ds_bo0, ds_bo1, if_pos, if_neg, Nat.not_le, Nat.not_lt, not_true_eq_false, not_false_eq_true, if_true, if_false, ne_eq, Option.some.injEq, Prod.mk.injEq, Value.int.injEq, true_and, and_true, and_self, ite_self, Bool.not_eq_true, Bool.not_eq_false, Bool.true_eq_false, Bool.false_eq_true, reduceCtorEq, Nat.zero_add, Nat.reduceAdd, Nat.reduceMul, Nat.reduceSub, ds_setI_row, ds_setL_row, ds_rowI_self, ds_rowI_ne, ds_rowI_2, ds_rowI_rowI, ds_setS_1, ds_setS_21, ds_setS_self, ds_setS_ne, pk_us, pk_un, er, e289]) (Nat.zero_le _)
  have z0 : zk 0 = z := by
    simp only [zk, Nat.not_lt_zero, if_false]
    exact ds_rowI_id z 94
  try simp only at up
  rw [z0] at up
  exact up
