/-! calls: acts -/
theorem dk_mk_12 {K : Nat → Nat} {a c k : Nat} (hc : c ≤ 12) (hk : 12 ≤ k) : dk_mk K a c k = K k := by
  unfold dk_mk
  rw [if_neg (by omega)]
theorem dk_mk_okK {D : Nat → Nat → Nat} {K : Nat → Nat} {a : Nat} (ha : a < 14) (hK : dk_okK D K) : dk_okK D (dk_mk K a (K 12)) := by
  obtain ⟨h1, h2, h3⟩ := hK
  have e12 : dk_mk K a (K 12) 12 = K 12 := dk_mk_12 h1 (by decide)
  have e13 : dk_mk K a (K 12) 13 = K 13 := dk_mk_12 h1 (by decide)
  unfold dk_okK
  rw [e12, e13]
  refine ⟨h1, dk_mk_inj ha (by omega) h2, ?_⟩
  rcases h3 with h | ⟨g1, g2, g3, g4, g5⟩
  · exact .inl h
  · refine .inr ⟨g1, g2, g3, g4, fun p hp => ?_⟩
    unfold dk_mk
    rw [if_pos hp]
    exact g5 _ (dk_inv_ok a ha (K 12) (by omega) p hp).1
theorem dk_pu_ok {D : Nat → Nat → Nat} {K : Nat → Nat} {U : Nat → Nat → Nat} {u : Nat} (hU : ∀ q, q < u → dk_okK D (U q)) (hK : dk_okK D K) (hu : u ≤ 16) : (∀ q, q < dk_pn u → dk_okK D (dk_pu U u K q)) ∧ dk_pn u ≤ 16 := by
  unfold dk_pn dk_pu
  by_cases h : u < 16
  · rw [if_pos h]
    refine ⟨fun q hq => ?_, by omega⟩
    rw [if_pos h]
    by_cases h2 : q = u
    · rw [if_pos h2]; exact hK
    · rw [if_neg h2]; exact hU q (by omega)
  · rw [if_neg h]
    refine ⟨fun q hq => ?_, by omega⟩
    rw [if_neg h]
    by_cases h2 : q = 15
    · rw [if_pos h2]; exact hK
    · rw [if_neg h2]; exact hU (q + 1) (by omega)
theorem dk_IC_de {z : ds_St} {t t' : Nat} {D : Nat → Nat → Nat} {K : Nat → Nat} {U : Nat → Nat → Nat} {u : Nat} {M : Nat → Nat → Nat} {m f : Nat} {B : Nat → Nat} (h : dk_IC z t t' D K U u M m f B) : dk_deC z K ∧ dk_acC z U u ∧ dk_imC z M m := ⟨h.2.2.1, h.2.2.2.1, h.2.2.2.2.1⟩
theorem dk_IM_de {z : ds_St} {D : Nat → Nat → Nat} {K : Nat → Nat} {U : Nat → Nat → Nat} {u : Nat} {M : Nat → Nat → Nat} {m f : Nat} {B : Nat → Nat} (h : dk_IM z D K U u M m f B) : dk_rwM (z.1 95) 0 K ∧ dk_acM z U u ∧ dk_imM z M m := ⟨h.2.2.1, h.2.2.2.1, h.2.2.2.2.1⟩
theorem k_deal (d : Nat) (x : Int32) (z : ds_St) (h : dk_Inv z) : ∃ v z1 z2, ds_call (d + 20) j_Sea_deal [.ref 0, .int x] z = some (some v, z1) ∧ ds_call (d + 20) j_Mod_deal [.ref 90, .int x] z1 = some (some v, z2) ∧ dk_Inv z2 := by
  apply dk_both2 h
  intro t t' D K U u M m f B hc ho
  have hC := dk_IC_HC hc
  have hz := dk_OK_Hz ho
  have g2 := s_isMove (d + 17) t x z D K hC hz
  have m2 := fun z hM => s_misMove (d + 17) x z D K hM hz
  have k12 := (dk_n12 hz).2
  rcases Bool.eq_false_or_eq_true (dk_rng x (dk_mo (K 12))) with hr | hr
  · have mo14 : dk_mo (K 12) ≤ 14 := by unfold dk_mo; split <;> omega
    obtain ⟨a, ha, rfl⟩ := (dk_rng_iff (by omega)).mp hr
    rcases ho.1 with ⟨hD, hK, hU, hM', hu, hm3⟩ | ⟨h0, hc0, _⟩
    · obtain ⟨dc, ac, ic⟩ := dk_IC_de hc
      have hU12 : ∀ q, q < u → U q 12 ≤ 12 := fun q hq => (hU q hq).1
      have e12 : dk_mk K a (K 12) 12 = K 12 := dk_mk_12 k12 (by decide)
      have e13 : dk_mk K a (K 12) 13 = K 13 := dk_mk_12 k12 (by decide)
      have hK' := dk_mk_okK (a := a) (by omega) hK
      obtain ⟨z1, s1, s2, s3, s4⟩ := s_pushA (d + 16) u z K U k12 hU12 dc ac hu
      have dk1 : dk_dk z1 61 K (K 12) (D 0 4) := ⟨.inl rfl, by rw [s3 61 (by decide) (by decide)]; exact dc.1, k12, by rw [s3 (61 + 1) (by decide) (by decide)]; exact dc.2.1, hK.2.1⟩
      obtain ⟨z2, p1, p2, p3, p4⟩ := s_mkC (d + 16) 61 a (K 12) (D 0 4) z1 K (by omega) dk1
      have hT2 : dk_tC z2 t D := dk_tC_eq hC.2.1 (fun p x y => by rw [p3.1 p (by omega), s3 p (by omega) (by omega)])
      have r2 : z2.2.2 0 = t := by rw [p4, s4]; exact hC.1
      obtain ⟨z3, q1, q2, q3, q4⟩ := s_chartOf (d + 15) t 61 (K 12) z2 D _ r2 hT2 hD p2
      have q5 := s_allTrades (d + 14) t _ z3 D _ q4 hD q2
      have q6 := dk_tr_same (x := ds_m1) (G := fun _ => true) hD k12 p2.2.2.2.2 (.inl ⟨rfl, fun _ => rfl⟩)
      rw [q6] at q5
      have f3 : ∀ p, p ≠ 0 → p < 61 ∨ 84 ≤ p → z3.1 p = z.1 p := fun p h0 hp => by rw [q3.1 p (by omega), p3.1 p (by omega), s3 p (by omega) (by omega)]
      refine ⟨.int (nI (dk_trm D (dk_mk K a (K 12)) (K 12) (fun _ => true))), nI 0, ds_rowI z3 0 (upd (z3.1 0) 10 (nI 0)), dk_mk K a (K 12), dk_pu U u K, dk_pn u, M, m, ?_, ?_, ?_, ?_, ?_⟩
      · have i67 : ds_K 67 = 1 := rfl
        generalize dk_trm D (dk_mk K a (K 12)) (K 12) (fun _ => true) = v at *
        rw [c_Sea_deal, b_Sea_deal_0]
        simp (disch := first | assumption | omega) only [ds_cI, ds_cV, ds_cL, ds_cR, ds_nn, ds_isK_t, ds_isA_t, ds_chk_t, ds_chkN, ds_nz_t, ds_nzN, ds_isB_t, ds_isB_bo, ↓dl_m1, ↓dl_m2, dl_0, dl_1, dl_2, dl_3, dl_4, dl_5, dl_6, dl_7, dl_8, dl_9, dl_10, dl_11, dl_12, dl_13, dl_14, dl_15, dl_16, dl_20, dl_24, dl_31, dl_50, dl_57, dl_67, dl_68, dl_74, dl_75, dl_79, dl_80, dl_99, dl_100, dl_200, dl_210, dl_224, dl_255, dl_289, dl_900, dl_1000, dl_1728, dl_65536, dl_65537, nI_add, pk_mul, pk_sub, pk_div, pk_rem, ds_rem2, nI_clamp, nI_leI, nI_ltI, nI_eq, ds_m1_eq, ds_eq_m1, ds_m2_eq, ds_eq_m2, ds_m1_le, ds_le_m1, ds_m1_lt, ds_lt_m1, ds_in_N, ds_bo0, ds_bo1, if_pos, if_neg, Nat.not_le, Nat.not_lt, not_true_eq_false, not_false_eq_true, if_true, if_false, ne_eq, Option.some.injEq, Prod.mk.injEq, Value.int.injEq, true_and, and_true, and_self, ite_self, Bool.not_eq_true, Bool.not_eq_false, Bool.true_eq_false, Bool.false_eq_true, reduceCtorEq, Nat.zero_add, Nat.reduceAdd, Nat.reduceMul, Nat.reduceSub, ds_setI_row, ds_setL_row, ds_rowI_self, ds_rowI_ne, ds_rowI_2, ds_rowI_rowI, ds_setS_1, ds_setS_21, ds_setS_self, ds_setS_ne, pk_us, pk_un, g2, hr, s1, p1, q1, q5, s_answer]
      · refine dk_IC_mk hc (fun p x y => by rw [ds_rowI_ne _ _ (by omega)]; exact f3 p (by omega) (by omega)) (fun j hj => ?_) ⟨?_, ?_, ?_⟩ (dk_acC_eq s2 ?_ ?_) (dk_imC_eq ic ?_ ?_)
        · show z3.2.2 j = z.2.2 j
          rw [q3.2 j hj, p4, s4]
        · rw [ds_rowI_ne _ _ (by decide), q3.1 61 (by decide), e12]; exact p2.2.1
        · rw [e12, ds_rowI_ne _ _ (by decide), q3.1 62 (by decide)]; exact p2.2.2.2.1
        · rw [ds_rowI_ne _ _ (by decide), q3.1 61 (by decide), p3.1 61 (by decide), s3 61 (by decide) (by decide), e13]; exact dc.2.2
        · rw [ds_rowI_ne _ _ (by decide), q3.1 80 (by decide), p3.1 80 (by decide)]
        · rw [ds_rowI_ne _ _ (by decide), q3.1 81 (by decide), p3.1 81 (by decide)]
        · rw [ds_rowI_ne _ _ (by decide), q3.1 82 (by decide), p3.1 82 (by decide), s3 82 (by decide) (by decide)]
        · rw [ds_rowI_ne _ _ (by decide), q3.1 83 (by decide), p3.1 83 (by decide), s3 83 (by decide) (by decide)]
      · refine ⟨fun p hp => by rw [ds_rowI_ne _ _ (by omega)]; exact f3 p (by omega) (by omega), ?_⟩
        rw [ds_rowI_self, q3.1 0 (by decide), p3.1 0 (by decide), s3 0 (by decide) (by decide)]
      · obtain ⟨o1, o2⟩ := dk_pu_ok hU hK hu
        exact ⟨.inl ⟨hD, hK', o1, hM', o2, hm3⟩, ho.2⟩
      · intro z0 hm0
        have hmg := dk_IM_zg hm0
        have hMg := dk_IM_HM hmg
        have a2 := m2 _ hMg
        obtain ⟨rd, ra, ri⟩ := dk_IM_de hmg
        obtain ⟨y1, n1, n2, n3, n4, n5⟩ := s_note (d + 17) u (dk_zg z0) K U k12 hU12 rd ra hu
        have hM1 : dk_HM y1 D K := dk_HM_q hMg (n3 93 (by decide) (by decide)) (n3 95 (by decide) (by decide)) (n4 14 (by decide))
        obtain ⟨y2, w1, w2, w3, w4, w5⟩ := s_mkM (d + 17) 95 a (K 12) (D 0 4) y1 K (by omega) (dk_HM_dm hM1 hK)
        have hT : dk_tM y2 D := dk_tM_eq hM1.1 (w3 93 (by decide) (by decide))
        have w9 := s_tradesIn (d + 14) 95 (K 12) ds_m1 (fun _ => true) y2 D _ hT hD w2 (.inl ⟨rfl, fun _ => rfl⟩)
        refine ⟨y2, ?_, ?_, ?_⟩
        · generalize dk_trm D (dk_mk K a (K 12)) (K 12) (fun _ => true) = v at *
          rw [c_Mod_deal, b_Mod_deal_0]
          simp (disch := first | assumption | omega) only [ds_cI, ds_cV, ds_cL, ds_cR, ds_nn, ds_isK_t, ds_isA_t, ds_chk_t, ds_chkN, ds_nz_t, ds_nzN, ds_isB_t, ds_isB_bo, ↓dl_m1, ↓dl_m2, dl_0, dl_1, dl_2, dl_3, dl_4, dl_5, dl_6, dl_7, dl_8, dl_9, dl_10, dl_11, dl_12, dl_13, dl_14, dl_15, dl_16, dl_20, dl_24, dl_31, dl_50, dl_57, dl_67, dl_68, dl_74, dl_75, dl_79, dl_80, dl_99, dl_100, dl_200, dl_210, dl_224, dl_255, dl_289, dl_900, dl_1000, dl_1728, dl_65536, dl_65537, nI_add, pk_mul, pk_sub, pk_div, pk_rem, ds_rem2, nI_clamp, nI_leI, nI_ltI, nI_eq, ds_m1_eq, ds_eq_m1, ds_m2_eq, ds_eq_m2, ds_m1_le, ds_le_m1, ds_m1_lt, ds_lt_m1, ds_in_N, ds_bo0, ds_bo1, if_pos, if_neg, Nat.not_le, Nat.not_lt, not_true_eq_false, not_false_eq_true, if_true, if_false, ne_eq, Option.some.injEq, Prod.mk.injEq, Value.int.injEq, true_and, and_true, and_self, ite_self, Bool.not_eq_true, Bool.not_eq_false, Bool.true_eq_false, Bool.false_eq_true, reduceCtorEq, Nat.zero_add, Nat.reduceAdd, Nat.reduceMul, Nat.reduceSub, ds_setI_row, ds_setL_row, ds_rowI_self, ds_rowI_ne, ds_rowI_2, ds_rowI_rowI, ds_setS_1, ds_setS_21, ds_setS_self, ds_setS_ne, pk_us, pk_un, s_good, a2, hr, n1, w1, w9]
        · refine dk_IM_mk hm0 (by rw [w3 93 (by decide) (by decide), n3 93 (by decide) (by decide), dk_zg_ne z0 (by decide)]) (by rw [w3 91 (by decide) (by decide), n3 91 (by decide) (by decide), dk_zg_ne z0 (by decide)]) (fun k hk => by rw [w3 90 (by decide) (by decide), n4 k (by omega), dk_zg_k z0 (by omega) (by omega)]) ⟨?_, ?_, ?_⟩ (dk_acM_eq n2 (by rw [w3 90 (by decide) (by decide)]) (w3 96 (by decide) (by decide))) (dk_imM_eq ri (by rw [w3 90 (by decide) (by decide), n4 21 (by decide)]) (by rw [w3 97 (by decide) (by decide), n3 97 (by decide) (by decide)]))
          · rw [e12]; intro p hp; rw [Nat.zero_add]; exact w2.2.2.2.1 p hp
          · rw [Nat.zero_add, e12]; exact w2.2.1
          · rw [Nat.zero_add, w4 13 (by decide), n3 95 (by decide) (by decide), e13]; have := rd.2.2; rw [Nat.zero_add] at this; exact this
        · refine dk_gM_ok (fun p hp => by rw [w3 p (by omega) (by omega), n3 p (by omega) (by omega), dk_zg_ne z0 (by omega)]) (fun k hk => by rw [w3 90 (by decide) (by decide), n4 k (by omega)]) (fun j hj => by rw [w5, n5]; rfl)
    · rw [hc0] at ha
      exact absurd ha (by unfold dk_mo; simp)
  · refine ⟨.int ds_m1, nI 1, ds_rowI z 0 (upd (z.1 0) 10 (nI 1)), K, U, u, M, m, ?_, dk_IC_no _ hc, dk_gC_no z _, ho, fun z0 hm0 => ⟨ds_rowI (dk_zg z0) 90 (upd ((dk_zg z0).1 90) 11 (nI 1)), ?_, dk_IM_no _ hm0, dk_gM_no z0 _⟩⟩
    · rw [c_Sea_deal, b_Sea_deal_0]
      simp (disch := first | assumption | omega | rfl | decide) only [ds_cI, ds_cV, ds_cL, ds_cR, ds_nn, ds_isK_t, ds_isA_t, ds_chk_t, ds_chkN, ds_nz_t, ds_nzN, ds_isB_t, ds_isB_bo, ↓dl_m1, ↓dl_m2, dl_0, dl_1, dl_2, dl_3, dl_4, dl_5, dl_6, dl_7, dl_8, dl_9, dl_10, dl_11, dl_12, dl_13, dl_14, dl_15, dl_16, dl_20, dl_24, dl_31, dl_50, dl_57, dl_67, dl_68, dl_74, dl_75, dl_79, dl_80, dl_99, dl_100, dl_200, dl_210, dl_224, dl_255, dl_289, dl_900, dl_1000, dl_1728, dl_65536, dl_65537, nI_add, pk_mul, pk_sub, pk_div, pk_rem, ds_rem2, nI_clamp, nI_leI, nI_ltI, nI_eq, ds_m1_eq, ds_eq_m1, ds_m2_eq, ds_eq_m2, ds_m1_le, ds_le_m1, ds_m1_lt, ds_lt_m1, ds_in_N, ds_bo0, ds_bo1, if_pos, if_neg, Nat.not_le, Nat.not_lt, not_true_eq_false, not_false_eq_true, if_true, if_false, ne_eq, Option.some.injEq, Prod.mk.injEq, Value.int.injEq, true_and, and_true, and_self, ite_self, Bool.not_eq_true, Bool.not_eq_false, Bool.true_eq_false, Bool.false_eq_true, reduceCtorEq, Nat.zero_add, Nat.reduceAdd, Nat.reduceMul, Nat.reduceSub, ds_setI_row, ds_setL_row, ds_rowI_self, ds_rowI_ne, ds_rowI_2, ds_rowI_rowI, ds_setS_1, ds_setS_21, ds_setS_self, ds_setS_ne, pk_us, pk_un, g2, hr, s_refuse]
    · have hMg := dk_IM_HM (dk_IM_zg hm0)
      have a2 := m2 _ hMg
      rw [c_Mod_deal, b_Mod_deal_0]
      simp (disch := first | assumption | omega | rfl | decide) only [ds_cI, ds_cV, ds_cL, ds_cR, ds_nn, ds_isK_t, ds_isA_t, ds_chk_t, ds_chkN, ds_nz_t, ds_nzN, ds_isB_t, ds_isB_bo, ↓dl_m1, ↓dl_m2, dl_0, dl_1, dl_2, dl_3, dl_4, dl_5, dl_6, dl_7, dl_8, dl_9, dl_10, dl_11, dl_12, dl_13, dl_14, dl_15, dl_16, dl_20, dl_24, dl_31, dl_50, dl_57, dl_67, dl_68, dl_74, dl_75, dl_79, dl_80, dl_99, dl_100, dl_200, dl_210, dl_224, dl_255, dl_289, dl_900, dl_1000, dl_1728, dl_65536, dl_65537, nI_add, pk_mul, pk_sub, pk_div, pk_rem, ds_rem2, nI_clamp, nI_leI, nI_ltI, nI_eq, ds_m1_eq, ds_eq_m1, ds_m2_eq, ds_eq_m2, ds_m1_le, ds_le_m1, ds_m1_lt, ds_lt_m1, ds_in_N, ds_bo0, ds_bo1, if_pos, if_neg, Nat.not_le, Nat.not_lt, not_true_eq_false, not_false_eq_true, if_true, if_false, ne_eq, Option.some.injEq, Prod.mk.injEq, Value.int.injEq, true_and, and_true, and_self, ite_self, Bool.not_eq_true, Bool.not_eq_false, Bool.true_eq_false, Bool.false_eq_true, reduceCtorEq, Nat.zero_add, Nat.reduceAdd, Nat.reduceMul, Nat.reduceSub, ds_setI_row, ds_setL_row, ds_rowI_self, ds_rowI_ne, ds_rowI_2, ds_rowI_rowI, ds_setS_1, ds_setS_21, ds_setS_self, ds_setS_ne, pk_us, pk_un, s_good, a2, hr, s_no]
theorem k_undo (d : Nat) (z : ds_St) (h : dk_Inv z) : ∃ v z1 z2, ds_call (d + 20) j_Sea_undo [.ref 0] z = some (some v, z1) ∧ ds_call (d + 20) j_Mod_undo [.ref 90] z1 = some (some v, z2) ∧ dk_Inv z2 := by
  apply dk_both2 h
  intro t t' D K U u M m f B hc ho
  obtain ⟨dc, ac, ic⟩ := dk_IC_de hc
  have e3 : z.1 80 3 = nI u := by obtain ⟨_, _, _, _, q, _⟩ := ac; exact q
  rcases ho.1 with ⟨hD, hK, hU, hM', hu, hm3⟩ | ⟨h0, hc0, hp0, hu0, hm0⟩
  · rcases Nat.eq_zero_or_pos u with hu0 | hu0
    · subst hu0
      refine ⟨.int (nI 0), nI 6, ds_rowI z 0 (upd (z.1 0) 10 (nI 6)), K, U, 0, M, m, ?_, dk_IC_no _ hc, dk_gC_no z _, ho, fun z0 hm0 => ⟨ds_rowI (dk_zg z0) 90 (upd ((dk_zg z0).1 90) 11 (nI 6)), ?_, dk_IM_no _ hm0, dk_gM_no z0 _⟩⟩
      · rw [c_Sea_undo, b_Sea_undo_0]
        simp (disch := first | assumption | omega | rfl | decide) only [ds_cI, ds_cV, ds_cL, ds_cR, ds_nn, ds_isK_t, ds_isA_t, ds_chk_t, ds_chkN, ds_nz_t, ds_nzN, ds_isB_t, ds_isB_bo, ↓dl_m1, ↓dl_m2, dl_0, dl_1, dl_2, dl_3, dl_4, dl_5, dl_6, dl_7, dl_8, dl_9, dl_10, dl_11, dl_12, dl_13, dl_14, dl_15, dl_16, dl_20, dl_24, dl_31, dl_50, dl_57, dl_67, dl_68, dl_74, dl_75, dl_79, dl_80, dl_99, dl_100, dl_200, dl_210, dl_224, dl_255, dl_289, dl_900, dl_1000, dl_1728, dl_65536, dl_65537, nI_add, pk_mul, pk_sub, pk_div, pk_rem, ds_rem2, nI_clamp, nI_leI, nI_ltI, nI_eq, ds_m1_eq, ds_eq_m1, ds_m2_eq, ds_eq_m2, ds_m1_le, ds_le_m1, ds_m1_lt, ds_lt_m1, ds_in_N, ds_bo0, ds_bo1, if_pos, if_neg, Nat.not_le, Nat.not_lt, not_true_eq_false, not_false_eq_true, if_true, if_false, ne_eq, Option.some.injEq, Prod.mk.injEq, Value.int.injEq, true_and, and_true, and_self, ite_self, Bool.not_eq_true, Bool.not_eq_false, Bool.true_eq_false, Bool.false_eq_true, reduceCtorEq, Nat.zero_add, Nat.reduceAdd, Nat.reduceMul, Nat.reduceSub, ds_setI_row, ds_setL_row, ds_rowI_self, ds_rowI_ne, ds_rowI_2, ds_rowI_rowI, ds_setS_1, ds_setS_21, ds_setS_self, ds_setS_ne, pk_us, pk_un, e3]
      · have ra := (dk_IM_de (dk_IM_zg hm0)).2.1.1
        rw [c_Mod_undo, b_Mod_undo_0]
        simp (disch := first | assumption | omega | rfl | decide) only [ds_cI, ds_cV, ds_cL, ds_cR, ds_nn, ds_isK_t, ds_isA_t, ds_chk_t, ds_chkN, ds_nz_t, ds_nzN, ds_isB_t, ds_isB_bo, ↓dl_m1, ↓dl_m2, dl_0, dl_1, dl_2, dl_3, dl_4, dl_5, dl_6, dl_7, dl_8, dl_9, dl_10, dl_11, dl_12, dl_13, dl_14, dl_15, dl_16, dl_20, dl_24, dl_31, dl_50, dl_57, dl_67, dl_68, dl_74, dl_75, dl_79, dl_80, dl_99, dl_100, dl_200, dl_210, dl_224, dl_255, dl_289, dl_900, dl_1000, dl_1728, dl_65536, dl_65537, nI_add, pk_mul, pk_sub, pk_div, pk_rem, ds_rem2, nI_clamp, nI_leI, nI_ltI, nI_eq, ds_m1_eq, ds_eq_m1, ds_m2_eq, ds_eq_m2, ds_m1_le, ds_le_m1, ds_m1_lt, ds_lt_m1, ds_in_N, ds_bo0, ds_bo1, if_pos, if_neg, Nat.not_le, Nat.not_lt, not_true_eq_false, not_false_eq_true, if_true, if_false, ne_eq, Option.some.injEq, Prod.mk.injEq, Value.int.injEq, true_and, and_true, and_self, ite_self, Bool.not_eq_true, Bool.not_eq_false, Bool.true_eq_false, Bool.false_eq_true, reduceCtorEq, Nat.zero_add, Nat.reduceAdd, Nat.reduceMul, Nat.reduceSub, ds_setI_row, ds_setL_row, ds_rowI_self, ds_rowI_ne, ds_rowI_2, ds_rowI_rowI, ds_setS_1, ds_setS_21, ds_setS_self, ds_setS_ne, pk_us, pk_un, s_good, ra, s_isNot, ds_isB_0]
    · have hU12 : ∀ q, q < u → U q 12 ≤ 12 := fun q hq => (hU q hq).1
      obtain ⟨z1, s1, s2, s3, s4, s5⟩ := s_popA (d + 15) u z U hU12 ac hu hu0
      refine ⟨.int (nI 1), nI 0, ds_rowI z1 0 (upd (z1.1 0) 10 (nI 0)), U (u - 1), U, u - 1, M, m, ?_, ?_, ?_, ⟨.inl ⟨hD, hU _ (by omega), fun q hq => hU q (by omega), hM', by omega, hm3⟩, ho.2⟩, ?_⟩
      · rw [c_Sea_undo, b_Sea_undo_0]
        simp (disch := first | assumption | omega | rfl | decide) only [ds_cI, ds_cV, ds_cL, ds_cR, ds_nn, ds_isK_t, ds_isA_t, ds_chk_t, ds_chkN, ds_nz_t, ds_nzN, ds_isB_t, ds_isB_bo, ↓dl_m1, ↓dl_m2, dl_0, dl_1, dl_2, dl_3, dl_4, dl_5, dl_6, dl_7, dl_8, dl_9, dl_10, dl_11, dl_12, dl_13, dl_14, dl_15, dl_16, dl_20, dl_24, dl_31, dl_50, dl_57, dl_67, dl_68, dl_74, dl_75, dl_79, dl_80, dl_99, dl_100, dl_200, dl_210, dl_224, dl_255, dl_289, dl_900, dl_1000, dl_1728, dl_65536, dl_65537, nI_add, pk_mul, pk_sub, pk_div, pk_rem, ds_rem2, nI_clamp, nI_leI, nI_ltI, nI_eq, ds_m1_eq, ds_eq_m1, ds_m2_eq, ds_eq_m2, ds_m1_le, ds_le_m1, ds_m1_lt, ds_lt_m1, ds_in_N, ds_bo0, ds_bo1, if_pos, if_neg, Nat.not_le, Nat.not_lt, not_true_eq_false, not_false_eq_true, if_true, if_false, ne_eq, Option.some.injEq, Prod.mk.injEq, Value.int.injEq, true_and, and_true, and_self, ite_self, Bool.not_eq_true, Bool.not_eq_false, Bool.true_eq_false, Bool.false_eq_true, reduceCtorEq, Nat.zero_add, Nat.reduceAdd, Nat.reduceMul, Nat.reduceSub, ds_setI_row, ds_setL_row, ds_rowI_self, ds_rowI_ne, ds_rowI_2, ds_rowI_rowI, ds_setS_1, ds_setS_21, ds_setS_self, ds_setS_ne, pk_us, pk_un, e3, s1]
      · refine dk_IC_mk hc (fun p x y => by rw [ds_rowI_ne _ _ (by omega)]; exact s4 p (by omega) (by omega) (by omega)) (fun j hj => by show z1.2.2 j = _; rw [s5]) (dk_deC_eq s3 (ds_rowI_ne _ _ (by decide)) (ds_rowI_ne _ _ (by decide))) (dk_acC_eq s2 (ds_rowI_ne _ _ (by decide)) (ds_rowI_ne _ _ (by decide))) (dk_imC_eq ic ?_ ?_)
        · rw [ds_rowI_ne _ _ (by decide), s4 82 (by decide) (by decide) (by decide)]
        · rw [ds_rowI_ne _ _ (by decide), s4 83 (by decide) (by decide) (by decide)]
      · refine ⟨fun p hp => by rw [ds_rowI_ne _ _ (by omega)]; exact s4 p (by omega) (by omega) (by omega), ?_⟩
        rw [ds_rowI_self, s4 0 (by decide) (by decide) (by decide)]
      · intro z0 hm0
        have hmg := dk_IM_zg hm0
        obtain ⟨rd, ra, ri⟩ := dk_IM_de hmg
        have ra1 := ra.1
        let y0 := ds_rowI (dk_zg z0) 90 (upd ((dk_zg z0).1 90) 20 (nI (u - 1)))
        have y0n : ∀ p, p ≠ 90 → y0.1 p = z0.1 p := fun p hp => by simp only [y0]; rw [ds_rowI_ne _ _ hp, dk_zg_ne z0 hp]
        have s6 := s_copy (d + 18) 96 95 (14 * (u - 1)) 0 14 y0 rfl rfl (by decide) (show 14 * (u - 1) + 14 ≤ 224 by omega) (by decide) (by decide)
        have hrow := (dk_IM_de hm0).2.1.2 (u - 1) (by omega)
        refine ⟨ds_rowI y0 95 (ds_cpF (y0.1 96) (y0.1 95) (14 * (u - 1)) 0 0 14), ?_, ?_, ?_⟩
        · have ey : ds_rowI (dk_zg z0) 90 (upd ((dk_zg z0).1 90) 20 (nI (u - 1))) = y0 := rfl
          clear_value y0
          rw [c_Mod_undo, b_Mod_undo_0]
          simp (disch := first | assumption | omega | rfl | decide) only [ds_cI, ds_cV, ds_cL, ds_cR, ds_nn, ds_isK_t, ds_isA_t, ds_chk_t, ds_chkN, ds_nz_t, ds_nzN, ds_isB_t, ds_isB_bo, ↓dl_m1, ↓dl_m2, dl_0, dl_1, dl_2, dl_3, dl_4, dl_5, dl_6, dl_7, dl_8, dl_9, dl_10, dl_11, dl_12, dl_13, dl_14, dl_15, dl_16, dl_20, dl_24, dl_31, dl_50, dl_57, dl_67, dl_68, dl_74, dl_75, dl_79, dl_80, dl_99, dl_100, dl_200, dl_210, dl_224, dl_255, dl_289, dl_900, dl_1000, dl_1728, dl_65536, dl_65537, nI_add, pk_mul, pk_sub, pk_div, pk_rem, ds_rem2, nI_clamp, nI_leI, nI_ltI, nI_eq, ds_m1_eq, ds_eq_m1, ds_m2_eq, ds_eq_m2, ds_m1_le, ds_le_m1, ds_m1_lt, ds_lt_m1, ds_in_N, ds_bo0, ds_bo1, if_pos, if_neg, Nat.not_le, Nat.not_lt, not_true_eq_false, not_false_eq_true, if_true, if_false, ne_eq, Option.some.injEq, Prod.mk.injEq, Value.int.injEq, true_and, and_true, and_self, ite_self, Bool.not_eq_true, Bool.not_eq_false, Bool.true_eq_false, Bool.false_eq_true, reduceCtorEq, Nat.zero_add, Nat.reduceAdd, Nat.reduceMul, Nat.reduceSub, ds_setI_row, ds_setL_row, ds_rowI_self, ds_rowI_ne, ds_rowI_2, ds_rowI_rowI, ds_setS_1, ds_setS_21, ds_setS_self, ds_setS_ne, pk_us, pk_un, s_good, ra1, ey, s6]
        · refine dk_IM_mk hm0 (by rw [ds_rowI_ne _ _ (by decide), y0n 93 (by decide)]) (by rw [ds_rowI_ne _ _ (by decide), y0n 91 (by decide)]) (fun k hk => ?_) ?_ ⟨?_, ?_⟩ (dk_imM_eq ri ?_ ?_)
          · rw [ds_rowI_ne _ _ (by decide)]; simp only [y0]; rw [ds_rowI_self, pk_un (by omega), dk_zg_k z0 (by omega) (by omega)]
          · rw [ds_rowI_self]
            exact dk_rwM_cp (hU12 _ (by omega)) (by rw [y0n 96 (by decide)]; exact hrow)
          · rw [ds_rowI_ne _ _ (by decide)]; simp only [y0]; rw [ds_rowI_self, pk_us]
          · intro q hq
            rw [ds_rowI_ne _ _ (by decide), y0n 96 (by decide)]
            exact (dk_IM_de hm0).2.1.2 q (by omega)
          · rw [ds_rowI_ne _ _ (by decide)]; simp only [y0]; rw [ds_rowI_self, pk_un (by decide)]
          · rw [ds_rowI_ne _ _ (by decide), y0n 97 (by decide), dk_zg_ne z0 (by decide)]
        · refine dk_gM_ok (fun p hp => by rw [ds_rowI_ne _ _ (by omega), y0n p (by omega)]) (fun k hk => by rw [ds_rowI_ne _ _ (by decide)]; simp only [y0]; rw [ds_rowI_self, pk_un (by omega)]) (fun j hj => rfl)
  · subst hu0
    refine ⟨.int (nI 0), nI 6, ds_rowI z 0 (upd (z.1 0) 10 (nI 6)), K, U, 0, M, m, ?_, dk_IC_no _ hc, dk_gC_no z _, ho, fun z0 hm0 => ⟨ds_rowI (dk_zg z0) 90 (upd ((dk_zg z0).1 90) 11 (nI 6)), ?_, dk_IM_no _ hm0, dk_gM_no z0 _⟩⟩
    · rw [c_Sea_undo, b_Sea_undo_0]
      simp (disch := first | assumption | omega | rfl | decide) only [ds_cI, ds_cV, ds_cL, ds_cR, ds_nn, ds_isK_t, ds_isA_t, ds_chk_t, ds_chkN, ds_nz_t, ds_nzN, ds_isB_t, ds_isB_bo, ↓dl_m1, ↓dl_m2, dl_0, dl_1, dl_2, dl_3, dl_4, dl_5, dl_6, dl_7, dl_8, dl_9, dl_10, dl_11, dl_12, dl_13, dl_14, dl_15, dl_16, dl_20, dl_24, dl_31, dl_50, dl_57, dl_67, dl_68, dl_74, dl_75, dl_79, dl_80, dl_99, dl_100, dl_200, dl_210, dl_224, dl_255, dl_289, dl_900, dl_1000, dl_1728, dl_65536, dl_65537, nI_add, pk_mul, pk_sub, pk_div, pk_rem, ds_rem2, nI_clamp, nI_leI, nI_ltI, nI_eq, ds_m1_eq, ds_eq_m1, ds_m2_eq, ds_eq_m2, ds_m1_le, ds_le_m1, ds_m1_lt, ds_lt_m1, ds_in_N, ds_bo0, ds_bo1, if_pos, if_neg, Nat.not_le, Nat.not_lt, not_true_eq_false, not_false_eq_true, if_true, if_false, ne_eq, Option.some.injEq, Prod.mk.injEq, Value.int.injEq, true_and, and_true, and_self, ite_self, Bool.not_eq_true, Bool.not_eq_false, Bool.true_eq_false, Bool.false_eq_true, reduceCtorEq, Nat.zero_add, Nat.reduceAdd, Nat.reduceMul, Nat.reduceSub, ds_setI_row, ds_setL_row, ds_rowI_self, ds_rowI_ne, ds_rowI_2, ds_rowI_rowI, ds_setS_1, ds_setS_21, ds_setS_self, ds_setS_ne, pk_us, pk_un, e3]
    · have ra := (dk_IM_de (dk_IM_zg hm0)).2.1.1
      rw [c_Mod_undo, b_Mod_undo_0]
      simp (disch := first | assumption | omega | rfl | decide) only [ds_cI, ds_cV, ds_cL, ds_cR, ds_nn, ds_isK_t, ds_isA_t, ds_chk_t, ds_chkN, ds_nz_t, ds_nzN, ds_isB_t, ds_isB_bo, ↓dl_m1, ↓dl_m2, dl_0, dl_1, dl_2, dl_3, dl_4, dl_5, dl_6, dl_7, dl_8, dl_9, dl_10, dl_11, dl_12, dl_13, dl_14, dl_15, dl_16, dl_20, dl_24, dl_31, dl_50, dl_57, dl_67, dl_68, dl_74, dl_75, dl_79, dl_80, dl_99, dl_100, dl_200, dl_210, dl_224, dl_255, dl_289, dl_900, dl_1000, dl_1728, dl_65536, dl_65537, nI_add, pk_mul, pk_sub, pk_div, pk_rem, ds_rem2, nI_clamp, nI_leI, nI_ltI, nI_eq, ds_m1_eq, ds_eq_m1, ds_m2_eq, ds_eq_m2, ds_m1_le, ds_le_m1, ds_m1_lt, ds_lt_m1, ds_in_N, ds_bo0, ds_bo1, if_pos, if_neg, Nat.not_le, Nat.not_lt, not_true_eq_false, not_false_eq_true, if_true, if_false, ne_eq, Option.some.injEq, Prod.mk.injEq, Value.int.injEq, true_and, and_true, and_self, ite_self, Bool.not_eq_true, Bool.not_eq_false, Bool.true_eq_false, Bool.false_eq_true, reduceCtorEq, Nat.zero_add, Nat.reduceAdd, Nat.reduceMul, Nat.reduceSub, ds_setI_row, ds_setL_row, ds_rowI_self, ds_rowI_ne, ds_rowI_2, ds_rowI_rowI, ds_setS_1, ds_setS_21, ds_setS_self, ds_setS_ne, pk_us, pk_un, s_good, ra, s_isNot, ds_isB_0]
