def dk_out (K : Nat → Nat) (p q : Nat) : Nat := if q = 12 then K 12 - 1 else if q = 13 then K p + 1 else if q < p then K q else K (q + 1)
theorem dk_out_12 (K : Nat → Nat) (p : Nat) : dk_out K p 12 = K 12 - 1 := rfl
theorem dk_out_13 (K : Nat → Nat) (p : Nat) : dk_out K p 13 = K p + 1 := rfl
theorem dk_out_q {K : Nat → Nat} {p q : Nat} (h : q < 12) : dk_out K p q = if q < p then K q else K (q + 1) := by
  unfold dk_out
  rw [if_neg (by omega), if_neg (by omega)]
theorem dk_out_okK {D : Nat → Nat → Nat} {K : Nat → Nat} {p : Nat} (hn : D 0 4 ≤ 12) (hK : dk_okK D K) (h13 : K 13 = 0) (h2 : 2 < K 12) (hp : p < K 12) : dk_okK D (dk_out K p) := by
  obtain ⟨h1, hi, h3⟩ := hK
  have hcn : K 12 = D 0 4 := by rcases h3 with h | h <;> omega
  unfold dk_okK
  rw [dk_out_12, dk_out_13]
  have hpn := hi.1 p hp
  refine ⟨by omega, ⟨fun q hq => ?_, fun q r hq hr e => ?_⟩, .inr ⟨by omega, by omega, by omega, by omega, fun q hq => ?_⟩⟩
  · rw [dk_out_q (by omega)]
    split
    · exact hi.1 q (by omega)
    · exact hi.1 (q + 1) (by omega)
  · rw [dk_out_q (by omega), dk_out_q (by omega)] at e
    by_cases a : q < p <;> by_cases b : r < p
    · rw [if_pos a, if_pos b] at e
      exact hi.2 q r (by omega) (by omega) e
    · rw [if_pos a, if_neg b] at e
      have := hi.2 q (r + 1) (by omega) (by omega) e
      omega
    · rw [if_neg a, if_pos b] at e
      have := hi.2 (q + 1) r (by omega) (by omega) e
      omega
    · rw [if_neg a, if_neg b] at e
      have := hi.2 (q + 1) (r + 1) (by omega) (by omega) e
      omega
  · rw [dk_out_q (by omega)]
    intro e
    split at e
    · have := hi.2 q p (by omega) hp (by omega)
      omega
    · have := hi.2 (q + 1) p (by omega) hp (by omega)
      omega
theorem s_takeOut (d p : Nat) (z : ds_St) (K : Nat → Nat) (hk : K 12 ≤ 12) (hd : dk_deC z K) (hp : p < K 12) : ∃ z', ds_call (d + 3) j_Deck_takeOut [.ref 61, .int (nI p)] z = some (none, z') ∧ dk_deC z' (dk_out K p) ∧ (∀ q, q ≠ 61 → q ≠ 62 → z'.1 q = z.1 q) ∧ z'.2 = z.2 := by
  obtain ⟨d1, d2, d3⟩ := hd
  have s1 := s_cardAt_61 (d) (K 12) p z d1 hk (by omega)
  rw [if_pos hp, d2 p hp] at s1
  let zk : Nat → ds_St := fun k => ds_rowI (ds_rowI z 61 (upd (z.1 61) 3 (nI (K p)))) 62 (fun j => if p ≤ j ∧ j + 1 < k then z.1 62 (j + 1) else z.1 62 j)
  have zc : ∀ k, (zk k).1 61 2 = nI (K 12) := by
    intro k
    simp only [zk]
    rw [ds_rowI_ne _ _ (by decide), ds_rowI_self, pk_un (by decide)]
    exact d1
  have up := ds_up (F := fun k => ds_Rw ds_c_Deck_takeOut ds_u_Deck_takeOut (ds_call (d + 2)) 13 [some (.ref 61), none, some (.int (nI k))] [] (zk k)) (n := K 12) (p + 1) (by
    intro k h1 h2
    rw [b_Deck_takeOut_13_61]
    have c1 := zc k
    have l1 : (zk k).1 62 k = z.1 62 k := by
      simp only [zk]
      rw [ds_rowI_self, if_neg (by omega)]
    have er : ds_rowI (zk k) 62 (upd ((zk k).1 62) (k - 1) (z.1 62 k)) = zk (k + 1) := by
      simp only [zk]
      rw [ds_rowI_rowI, ds_rowI_self]
      apply ds_rowI_congr
      intro j
      dsimp only [upd]
      by_cases h : j = k - 1
      · rw [if_pos h, if_pos (by omega), h, Nat.sub_add_cancel (by omega)]
      · rw [if_neg h]
        by_cases h2 : p ≤ j ∧ j + 1 < k
        · rw [if_pos h2, if_pos (by omega)]
        · rw [if_neg h2, if_neg (by omega)]
    clear_value zk
    simp (disch := first | assumption | omega | rfl | decide) only [ds_cI, ds_cV, ds_cL, ds_cR, ds_nn, ds_isK_t, ds_isA_t, ds_chk_t, ds_chkN, ds_nz_t, ds_nzN, ds_isB_t, ds_isB_bo, ↓dl_m1, ↓dl_m2, dl_0, dl_1, dl_2, dl_3, dl_4, dl_5, dl_6, dl_7, dl_8, dl_9, dl_10, dl_11, dl_12, dl_13, dl_14, dl_15, dl_16, dl_20, dl_24, dl_31, dl_50, dl_57, dl_67, dl_68, dl_74, dl_75, dl_79, dl_80, dl_99, dl_100, dl_200, dl_210, dl_224, dl_255, dl_289, dl_900, dl_1000, dl_1728, dl_65536, dl_65537, nI_add, pk_mul, pk_sub, pk_div, pk_rem, ds_rem2, nI_clamp, nI_leI, nI_ltI, nI_eq, ds_m1_eq, ds_eq_m1, ds_m2_eq, ds_eq_m2, ds_m1_le, ds_le_m1, ds_m1_lt, ds_lt_m1, ds_in_N, ds_bo0, ds_bo1, if_pos, if_neg, Nat.not_le, Nat.not_lt, not_true_eq_false, not_false_eq_true, if_true, if_false, ne_eq, Option.some.injEq, Prod.mk.injEq, Value.int.injEq, true_and, and_true, and_self, ite_self, Bool.not_eq_true, Bool.not_eq_false, Bool.true_eq_false, Bool.false_eq_true, reduceCtorEq, Nat.zero_add, Nat.reduceAdd, Nat.reduceMul, Nat.reduceSub, ds_setI_row, ds_setL_row, ds_rowI_self, ds_rowI_ne, ds_rowI_2, ds_rowI_rowI, ds_setS_1, ds_setS_21, ds_setS_self, ds_setS_ne, pk_us, pk_un, c1, s_lookN (n := 12), l1, s_putN (n := 12), er]) (by omega)
  have z0 : zk (p + 1) = ds_rowI z 61 (upd (z.1 61) 3 (nI (K p))) := by
    simp only [zk]
    have : (fun j => if p ≤ j ∧ j + 1 < p + 1 then z.1 62 (j + 1) else z.1 62 j) = (ds_rowI z 61 (upd (z.1 61) 3 (nI (K p)))).1 62 := by
      rw [ds_rowI_ne _ _ (by decide)]
      funext j
      rw [if_neg (by omega)]
    rw [this, ds_rowI_id]
  refine ⟨ds_rowI (zk (K 12)) 61 (upd ((zk (K 12)).1 61) 2 (nI (K 12 - 1))), ?_, ⟨?_, ?_, ?_⟩, ?_, rfl⟩
  · try simp only at up
    rw [z0] at up
    have c1 := zc (K 12)
    rw [c_Deck_takeOut, b_Deck_takeOut_0_61, ds_cI_t s1, ds_setI_row, nI_1, up, b_Deck_takeOut_13_61]
    clear_value zk
    simp (disch := first | assumption | omega) only [ds_cI, ds_cV, ds_cL, ds_cR, ds_nn, ds_isK_t, ds_isA_t, ds_chk_t, ds_chkN, ds_nz_t, ds_nzN, ds_isB_t, ds_isB_bo, ↓dl_m1, ↓dl_m2, dl_0, dl_1, dl_2, dl_3, dl_4, dl_5, dl_6, dl_7, dl_8, dl_9, dl_10, dl_11, dl_12, dl_13, dl_14, dl_15, dl_16, dl_20, dl_24, dl_31, dl_50, dl_57, dl_67, dl_68, dl_74, dl_75, dl_79, dl_80, dl_99, dl_100, dl_200, dl_210, dl_224, dl_255, dl_289, dl_900, dl_1000, dl_1728, dl_65536, dl_65537, nI_add, pk_mul, pk_sub, pk_div, pk_rem, ds_rem2, nI_clamp, nI_leI, nI_ltI, nI_eq, ds_m1_eq, ds_eq_m1, ds_m2_eq, ds_eq_m2, ds_m1_le, ds_le_m1, ds_m1_lt, ds_lt_m1, ds_in_N, ds_bo0, ds_bo1, if_pos, if_neg, Nat.not_le, Nat.not_lt, not_true_eq_false, not_false_eq_true, if_true, if_false, ne_eq, Option.some.injEq, Prod.mk.injEq, Value.int.injEq, true_and, and_true, and_self, ite_self, Bool.not_eq_true, Bool.not_eq_false, Bool.true_eq_false, Bool.false_eq_true, reduceCtorEq, Nat.zero_add, Nat.reduceAdd, Nat.reduceMul, Nat.reduceSub, ds_setI_row, ds_setL_row, ds_rowI_self, ds_rowI_ne, ds_rowI_2, ds_rowI_rowI, ds_setS_1, ds_setS_21, ds_setS_self, ds_setS_ne, pk_us, pk_un, c1]
  · rw [ds_rowI_self, pk_us]; rfl
  · rw [dk_out_12]
    intro q hq
    rw [ds_rowI_ne _ _ (by decide)]
    simp only [zk]
    rw [ds_rowI_self, dk_out_q (by omega)]
    by_cases h : q < p
    · rw [if_neg (by omega), if_pos h]; exact d2 q (by omega)
    · rw [if_pos (by omega), if_neg h]; exact d2 (q + 1) (by omega)
  · rw [ds_rowI_self, pk_un (by decide)]
    simp only [zk]
    rw [ds_rowI_ne _ _ (by decide), ds_rowI_self, pk_us, dk_out_13]
    unfold dk_pm
    rw [if_neg (by omega), Nat.add_sub_cancel]
  · intro q h1 h2
    rw [ds_rowI_ne _ _ h1]
    simp only [zk]
    rw [ds_rowI_ne _ _ h2, ds_rowI_ne _ _ h1]
theorem s_mpalm (d p : Nat) (z : ds_St) (K : Nat → Nat) (hk : K 12 ≤ 12) (hd : dk_rwM (z.1 95) 0 K) (hp : p < K 12) : ∃ z', ds_Rw ds_c_Mod_palm ds_u_Mod_palm (ds_call (d + 19)) 76 [some (.ref 90), none, some (.int (nI ((K p)))), some (.int (nI ((p + 1))))] [] z = some (some (.int (nI (K p))), z') ∧ dk_rwM (z'.1 95) 0 (dk_out K p) ∧ (∀ q, q ≠ 95 → z'.1 q = z.1 q) ∧ z'.2 = z.2 := by
  obtain ⟨d1, d2, d3⟩ := hd
  simp only [Nat.zero_add] at d1 d2 d3
  let zk : Nat → ds_St := fun k => ds_rowI z 95 (fun j => if p ≤ j ∧ j + 1 < k then z.1 95 (j + 1) else z.1 95 j)
  have zc : ∀ k, k ≤ 12 → (zk k).1 95 12 = nI (K 12) := by
    intro k hk
    simp only [zk]
    rw [ds_rowI_self, if_neg (by omega)]
    exact d2
  have up := ds_up (F := fun k => ds_Rw ds_c_Mod_palm ds_u_Mod_palm (ds_call (d + 19)) 76 [some (.ref 90), none, some (.int (nI ((K p)))), some (.int (nI k))] [] (zk k)) (n := K 12) (p + 1) (by
    intro k h1 h2
    rw [b_Mod_palm_76]
    have c1 := zc k (by omega)
    have l1 : (zk k).1 95 k = z.1 95 k := by
      simp only [zk]
      rw [ds_rowI_self, if_neg (by omega)]
    have er : ds_rowI (zk k) 95 (upd ((zk k).1 95) (k - 1) (z.1 95 k)) = zk (k + 1) := by
      simp only [zk]
      rw [ds_rowI_rowI, ds_rowI_self]
      apply ds_rowI_congr
      intro j
      dsimp only [upd]
      by_cases h : j = k - 1
      · rw [if_pos h, if_pos (by omega), h, Nat.sub_add_cancel (by omega)]
      · rw [if_neg h]
        by_cases h2 : p ≤ j ∧ j + 1 < k
        · rw [if_pos h2, if_pos (by omega)]
        · rw [if_neg h2, if_neg (by omega)]
    clear_value zk
    simp (disch := first | assumption | omega) only [ds_cI, ds_cV, ds_cL, ds_cR, ds_nn, ds_isK_t, ds_isA_t, ds_chk_t, ds_chkN, ds_nz_t, ds_nzN, ds_isB_t, ds_isB_bo, ↓dl_m1, ↓dl_m2, dl_0, dl_1, dl_2, dl_3, dl_4, dl_5, dl_6, dl_7, dl_8, dl_9, dl_10, dl_11, dl_12, dl_13, dl_14, dl_15, dl_16, dl_20, dl_24, dl_31, dl_50, dl_57, dl_67, dl_68, dl_74, dl_75, dl_79, dl_80, dl_99, dl_100, dl_200, dl_210, dl_224, dl_255, dl_289, dl_900, dl_1000, dl_1728, dl_65536, dl_65537, nI_add, pk_mul, pk_sub, pk_div, pk_rem, ds_rem2, nI_clamp, nI_leI, nI_ltI, nI_eq, ds_m1_eq, ds_eq_m1, ds_m2_eq, ds_eq_m2, ds_m1_le, ds_le_m1, ds_m1_lt, ds_lt_m1, ds_in_N, ds_bo0, ds_bo1, if_pos, if_neg, Nat.not_le, Nat.not_lt, not_true_eq_false, not_false_eq_true, if_true, if_false, ne_eq, Option.some.injEq, Prod.mk.injEq, Value.int.injEq, true_and, and_true, and_self, ite_self, Bool.not_eq_true, Bool.not_eq_false, Bool.true_eq_false, Bool.false_eq_true, reduceCtorEq, Nat.zero_add, Nat.reduceAdd, Nat.reduceMul, Nat.reduceSub, ds_setI_row, ds_setL_row, ds_rowI_self, ds_rowI_ne, ds_rowI_2, ds_rowI_rowI, ds_setS_1, ds_setS_21, ds_setS_self, ds_setS_ne, pk_us, pk_un, c1, l1, er]) (by omega)
  have z0 : zk (p + 1) = z := by
    simp only [zk]
    have : (fun j => if p ≤ j ∧ j + 1 < p + 1 then z.1 95 (j + 1) else z.1 95 j) = z.1 95 := by
      funext j
      rw [if_neg (by omega)]
    rw [this, ds_rowI_id]
  refine ⟨ds_rowI (zk (K 12)) 95 (upd (upd ((zk (K 12)).1 95) 12 (nI (K 12 - 1))) 13 (nI (K p + 1))), ?_, ⟨?_, ?_, ?_⟩, ?_, rfl⟩
  · try simp only at up
    rw [z0] at up
    have c1 := zc (K 12) hk
    rw [up, b_Mod_palm_76]
    clear_value zk
    simp (disch := first | assumption | omega) only [ds_cI, ds_cV, ds_cL, ds_cR, ds_nn, ds_isK_t, ds_isA_t, ds_chk_t, ds_chkN, ds_nz_t, ds_nzN, ds_isB_t, ds_isB_bo, ↓dl_m1, ↓dl_m2, dl_0, dl_1, dl_2, dl_3, dl_4, dl_5, dl_6, dl_7, dl_8, dl_9, dl_10, dl_11, dl_12, dl_13, dl_14, dl_15, dl_16, dl_20, dl_24, dl_31, dl_50, dl_57, dl_67, dl_68, dl_74, dl_75, dl_79, dl_80, dl_99, dl_100, dl_200, dl_210, dl_224, dl_255, dl_289, dl_900, dl_1000, dl_1728, dl_65536, dl_65537, nI_add, pk_mul, pk_sub, pk_div, pk_rem, ds_rem2, nI_clamp, nI_leI, nI_ltI, nI_eq, ds_m1_eq, ds_eq_m1, ds_m2_eq, ds_eq_m2, ds_m1_le, ds_le_m1, ds_m1_lt, ds_lt_m1, ds_in_N, ds_bo0, ds_bo1, if_pos, if_neg, Nat.not_le, Nat.not_lt, not_true_eq_false, not_false_eq_true, if_true, if_false, ne_eq, Option.some.injEq, Prod.mk.injEq, Value.int.injEq, true_and, and_true, and_self, ite_self, Bool.not_eq_true, Bool.not_eq_false, Bool.true_eq_false, Bool.false_eq_true, reduceCtorEq, Nat.zero_add, Nat.reduceAdd, Nat.reduceMul, Nat.reduceSub, ds_setI_row, ds_setL_row, ds_rowI_self, ds_rowI_ne, ds_rowI_2, ds_rowI_rowI, ds_setS_1, ds_setS_21, ds_setS_self, ds_setS_ne, pk_us, pk_un, c1]
  · rw [dk_out_12]
    intro q hq
    rw [ds_rowI_self, pk_un (by omega), pk_un (by omega)]
    simp only [zk, Nat.zero_add]
    rw [ds_rowI_self, dk_out_q (by omega)]
    by_cases h : q < p
    · rw [if_neg (by omega), if_pos h]; exact d1 q (by omega)
    · rw [if_pos (by omega), if_neg h]; exact d1 (q + 1) (by omega)
  · rw [Nat.zero_add, ds_rowI_self, pk_un (by decide), pk_us]; rfl
  · rw [Nat.zero_add, ds_rowI_self, pk_us]; rfl
  · intro q h1
    rw [ds_rowI_ne _ _ h1]
    simp only [zk]
    rw [ds_rowI_ne _ _ h1]
def dk_lay (K : Nat → Nat) (q : Nat) : Nat := if q = 12 then K 12 + 1 else if q = 13 then 0 else if q = K 12 then K 13 - 1 else K q
theorem dk_lay_q {K : Nat → Nat} {q : Nat} (h : q < 12) : dk_lay K q = if q = K 12 then K 13 - 1 else K q := by
  unfold dk_lay
  rw [if_neg (by omega), if_neg (by omega)]
theorem dk_lay_okK {D : Nat → Nat → Nat} {K : Nat → Nat} (hn : D 0 4 ≤ 12) (hK : dk_okK D K) (h13 : 0 < K 13) : dk_okK D (dk_lay K) ∧ K 12 < 12 := by
  obtain ⟨h1, hi, h3⟩ := hK
  rcases h3 with h | ⟨g1, g2, g3, g4, g5⟩
  · omega
  · have e12 : dk_lay K 12 = K 12 + 1 := rfl
    have e13 : dk_lay K 13 = 0 := rfl
    refine ⟨?_, by omega⟩
    unfold dk_okK
    rw [e12, e13]
    refine ⟨by omega, ⟨fun q hq => ?_, fun q r hq hr e => ?_⟩, .inl ⟨rfl, g3⟩⟩
    · rw [dk_lay_q (by omega)]
      split
      · omega
      · exact hi.1 q (by omega)
    · rw [dk_lay_q (by omega), dk_lay_q (by omega)] at e
      by_cases a : q = K 12 <;> by_cases b : r = K 12
      · omega
      · rw [if_pos a, if_neg b] at e
        have := g5 r (by omega)
        omega
      · rw [if_neg a, if_pos b] at e
        have := g5 q (by omega)
        omega
      · rw [if_neg a, if_neg b] at e
        exact hi.2 q r (by omega) (by omega) e
theorem dk_pm_m1 {x : Nat} (hx : x < 2 ^ 30) : (dk_pm x = ds_m1) = (x = 0) := by
  unfold dk_pm
  apply propext
  by_cases h : x = 0
  · simp [h]
  · rw [if_neg h, ds_eq_m1 (by omega)]
    simp [h]
theorem k_palm (d : Nat) (x : Int32) (z : ds_St) (h : dk_Inv z) : ∃ v z1 z2, ds_call (d + 20) j_Sea_palm [.ref 0, .int x] z = some (some v, z1) ∧ ds_call (d + 20) j_Mod_palm [.ref 90, .int x] z1 = some (some v, z2) ∧ dk_Inv z2 := by
  apply dk_both2 h
  intro t t' D K U u M m f B hc ho
  have hC := dk_IC_HC hc
  have hz := dk_OK_Hz ho
  have g2 := s_isPlace (d + 18) t x z D K hC
  have k12 := (dk_n12 hz).2
  have n12 := (dk_n12 hz).1
  have k13 := dk_K13 hz
  obtain ⟨dc, ac, ic⟩ := dk_IC_de hc
  have c1 := dc.1
  have c3 := dc.2.2
  have pe := dk_pm_m1 (x := K 13) (by omega)
  rcases ho.1 with ⟨hD, hK, hU, hM', hu, hm3⟩ | ⟨h0, hc0, hp0, hu0, hm0⟩
  · have hn : 0 < D 0 4 := by have := hD.2.2.2.2.1.1; omega
    have hk2 := (dk_mo_K hD hK).1
    have gin := fun z => s_in_rng (d + 18) (K 12) x z (by omega) (by omega)
    rcases Bool.eq_false_or_eq_true (dk_rng x (K 12)) with hr | hr
    · obtain ⟨p, hp, rfl⟩ := (dk_rng_iff (by omega)).mp hr
      by_cases hb : K 13 = 0 ∧ 2 < K 12
      · obtain ⟨hb1, hb2⟩ := hb
        have hU12 : ∀ q, q < u → U q 12 ≤ 12 := fun q hq => (hU q hq).1
        have c3' : z.1 61 3 = ds_m1 := by rw [c3]; exact pe.mpr hb1
        obtain ⟨z1, s1, s2, s3, s4⟩ := s_pushA (d + 16) u z K U k12 hU12 dc ac hu
        obtain ⟨z2, p1, p2, p3, p4⟩ := s_takeOut (d + 16) p z1 K k12 (dk_deC_eq dc (s3 61 (by decide) (by decide)) (s3 62 (by decide) (by decide))) hp
        have c9 : z2.1 61 3 = nI (K p) := by rw [p2.2.2, dk_out_13]; unfold dk_pm; rw [if_neg (by omega), Nat.add_sub_cancel]
        have f3 : ∀ q, q ≠ 61 → q ≠ 62 → q ≠ 80 → q ≠ 81 → z2.1 q = z.1 q := fun q a b c e => by rw [p3 q a b, s3 q c e]
        obtain ⟨o1, o2⟩ := dk_pu_ok hU hK hu
        refine ⟨.int (nI (K p)), nI 0, ds_rowI z2 0 (upd (z2.1 0) 10 (nI 0)), dk_out K p, dk_pu U u K, dk_pn u, M, m, ?_, ?_, ?_, ⟨.inl ⟨hD, dk_out_okK n12 hK hb1 hb2 hp, o1, hM', o2, hm3⟩, ho.2⟩, ?_⟩
        · rw [c_Sea_palm, b_Sea_palm_0]
          simp (disch := first | assumption | omega) only [ds_cI, ds_cV, ds_cL, ds_cR, ds_nn, ds_isK_t, ds_isA_t, ds_chk_t, ds_chkN, ds_nz_t, ds_nzN, ds_isB_t, ds_isB_bo, ↓dl_m1, ↓dl_m2, dl_0, dl_1, dl_2, dl_3, dl_4, dl_5, dl_6, dl_7, dl_8, dl_9, dl_10, dl_11, dl_12, dl_13, dl_14, dl_15, dl_16, dl_20, dl_24, dl_31, dl_50, dl_57, dl_67, dl_68, dl_74, dl_75, dl_79, dl_80, dl_99, dl_100, dl_200, dl_210, dl_224, dl_255, dl_289, dl_900, dl_1000, dl_1728, dl_65536, dl_65537, nI_add, pk_mul, pk_sub, pk_div, pk_rem, ds_rem2, nI_clamp, nI_leI, nI_ltI, nI_eq, ds_m1_eq, ds_eq_m1, ds_m2_eq, ds_eq_m2, ds_m1_le, ds_le_m1, ds_m1_lt, ds_lt_m1, ds_in_N, ds_bo0, ds_bo1, if_pos, if_neg, Nat.not_le, Nat.not_lt, not_true_eq_false, not_false_eq_true, if_true, if_false, ne_eq, Option.some.injEq, Prod.mk.injEq, Value.int.injEq, true_and, and_true, and_self, ite_self, Bool.not_eq_true, Bool.not_eq_false, Bool.true_eq_false, Bool.false_eq_true, reduceCtorEq, Nat.zero_add, Nat.reduceAdd, Nat.reduceMul, Nat.reduceSub, ds_setI_row, ds_setL_row, ds_rowI_self, ds_rowI_ne, ds_rowI_2, ds_rowI_rowI, ds_setS_1, ds_setS_21, ds_setS_self, ds_setS_ne, pk_us, pk_un, g2, hr, c3', c1, s1, p1, c9, s_answer]
        · refine dk_IC_mk hc (fun q x y => by rw [ds_rowI_ne _ _ (by omega)]; exact f3 q (by omega) (by omega) (by omega) (by omega)) (fun j hj => by show z2.2.2 j = _; rw [p4, s4]) (dk_deC_eq p2 (ds_rowI_ne _ _ (by decide)) (ds_rowI_ne _ _ (by decide))) (dk_acC_eq s2 ?_ ?_) (dk_imC_eq ic ?_ ?_)
          · rw [ds_rowI_ne _ _ (by decide), p3 80 (by decide) (by decide)]
          · rw [ds_rowI_ne _ _ (by decide), p3 81 (by decide) (by decide)]
          · rw [ds_rowI_ne _ _ (by decide), f3 82 (by decide) (by decide) (by decide) (by decide)]
          · rw [ds_rowI_ne _ _ (by decide), f3 83 (by decide) (by decide) (by decide) (by decide)]
        · refine ⟨fun q hq => by rw [ds_rowI_ne _ _ (by omega)]; exact f3 q (by omega) (by omega) (by omega) (by omega), ?_⟩
          rw [ds_rowI_self, f3 0 (by decide) (by decide) (by decide) (by decide)]
        · intro z0 hm0
          have hmg := dk_IM_zg hm0
          have hsg := hmg.2.1
          obtain ⟨rd, ra, ri⟩ := dk_IM_de hmg
          obtain ⟨r1, r2, r3⟩ := rd
          obtain ⟨y1, n1, n2, n3, n4, n5⟩ := s_note (d + 17) u (dk_zg z0) K U k12 hU12 ⟨r1, r2, r3⟩ ra hu
          obtain ⟨y2, w1, w2, w3, w4⟩ := s_mpalm d p y1 K k12 (by rw [n3 95 (by decide) (by decide)]; exact ⟨r1, r2, r3⟩) hp
          simp only [Nat.zero_add] at r1 r2 r3
          have r1' : y1.1 95 p = nI (K p) := by rw [n3 95 (by decide) (by decide)]; exact r1 p hp
          rw [hb1] at r3
          refine ⟨y2, ?_, ?_, ?_⟩
          · rw [c_Mod_palm, b_Mod_palm_0]
            simp (disch := first | assumption | omega) only [ds_cI, ds_cV, ds_cL, ds_cR, ds_nn, ds_isK_t, ds_isA_t, ds_chk_t, ds_chkN, ds_nz_t, ds_nzN, ds_isB_t, ds_isB_bo, ↓dl_m1, ↓dl_m2, dl_0, dl_1, dl_2, dl_3, dl_4, dl_5, dl_6, dl_7, dl_8, dl_9, dl_10, dl_11, dl_12, dl_13, dl_14, dl_15, dl_16, dl_20, dl_24, dl_31, dl_50, dl_57, dl_67, dl_68, dl_74, dl_75, dl_79, dl_80, dl_99, dl_100, dl_200, dl_210, dl_224, dl_255, dl_289, dl_900, dl_1000, dl_1728, dl_65536, dl_65537, nI_add, pk_mul, pk_sub, pk_div, pk_rem, ds_rem2, nI_clamp, nI_leI, nI_ltI, nI_eq, ds_m1_eq, ds_eq_m1, ds_m2_eq, ds_eq_m2, ds_m1_le, ds_le_m1, ds_m1_lt, ds_lt_m1, ds_in_N, ds_bo0, ds_bo1, if_pos, if_neg, Nat.not_le, Nat.not_lt, not_true_eq_false, not_false_eq_true, if_true, if_false, ne_eq, Option.some.injEq, Prod.mk.injEq, Value.int.injEq, true_and, and_true, and_self, ite_self, Bool.not_eq_true, Bool.not_eq_false, Bool.true_eq_false, Bool.false_eq_true, reduceCtorEq, Nat.zero_add, Nat.reduceAdd, Nat.reduceMul, Nat.reduceSub, ds_setI_row, ds_setL_row, ds_rowI_self, ds_rowI_ne, ds_rowI_2, ds_rowI_rowI, ds_setS_1, ds_setS_21, ds_setS_self, ds_setS_ne, pk_us, pk_un, s_good, hsg, hn, decide_true, r2, r3, gin, hr, n1, r1', w1]
          · refine dk_IM_mk hm0 (by rw [w3 93 (by decide), n3 93 (by decide) (by decide), dk_zg_ne z0 (by decide)]) (by rw [w3 91 (by decide), n3 91 (by decide) (by decide), dk_zg_ne z0 (by decide)]) (fun k hk => by rw [w3 90 (by decide), n4 k (by omega), dk_zg_k z0 (by omega) (by omega)]) w2 (dk_acM_eq n2 (by rw [w3 90 (by decide)]) (w3 96 (by decide))) (dk_imM_eq ri (by rw [w3 90 (by decide), n4 21 (by decide)]) (by rw [w3 97 (by decide), n3 97 (by decide) (by decide)]))
          · refine dk_gM_ok (fun p hp => by rw [w3 p (by omega), n3 p (by omega) (by omega), dk_zg_ne z0 (by omega)]) (fun k hk => by rw [w3 90 (by decide), n4 k (by omega)]) (fun j hj => by rw [w4, n5]; rfl)
      · refine ⟨.int ds_m1, nI 5, ds_rowI z 0 (upd (z.1 0) 10 (nI 5)), K, U, u, M, m, ?_, dk_IC_no _ hc, dk_gC_no z _, ho, fun z0 hm0 => ⟨ds_rowI (dk_zg z0) 90 (upd ((dk_zg z0).1 90) 11 (nI 5)), ?_, dk_IM_no _ hm0, dk_gM_no z0 _⟩⟩
        · rw [c_Sea_palm, b_Sea_palm_0]
          by_cases hb1 : K 13 = 0
          · have hb2 : ¬ 2 < K 12 := fun q => hb ⟨hb1, q⟩
            have c3' : z.1 61 3 = ds_m1 := by rw [c3]; exact pe.mpr hb1
            simp (disch := first | assumption | omega) only [ds_cI, ds_cV, ds_cL, ds_cR, ds_nn, ds_isK_t, ds_isA_t, ds_chk_t, ds_chkN, ds_nz_t, ds_nzN, ds_isB_t, ds_isB_bo, ↓dl_m1, ↓dl_m2, dl_0, dl_1, dl_2, dl_3, dl_4, dl_5, dl_6, dl_7, dl_8, dl_9, dl_10, dl_11, dl_12, dl_13, dl_14, dl_15, dl_16, dl_20, dl_24, dl_31, dl_50, dl_57, dl_67, dl_68, dl_74, dl_75, dl_79, dl_80, dl_99, dl_100, dl_200, dl_210, dl_224, dl_255, dl_289, dl_900, dl_1000, dl_1728, dl_65536, dl_65537, nI_add, pk_mul, pk_sub, pk_div, pk_rem, ds_rem2, nI_clamp, nI_leI, nI_ltI, nI_eq, ds_m1_eq, ds_eq_m1, ds_m2_eq, ds_eq_m2, ds_m1_le, ds_le_m1, ds_m1_lt, ds_lt_m1, ds_in_N, ds_bo0, ds_bo1, if_pos, if_neg, Nat.not_le, Nat.not_lt, not_true_eq_false, not_false_eq_true, if_true, if_false, ne_eq, Option.some.injEq, Prod.mk.injEq, Value.int.injEq, true_and, and_true, and_self, ite_self, Bool.not_eq_true, Bool.not_eq_false, Bool.true_eq_false, Bool.false_eq_true, reduceCtorEq, Nat.zero_add, Nat.reduceAdd, Nat.reduceMul, Nat.reduceSub, ds_setI_row, ds_setL_row, ds_rowI_self, ds_rowI_ne, ds_rowI_2, ds_rowI_rowI, ds_setS_1, ds_setS_21, ds_setS_self, ds_setS_ne, pk_us, pk_un, g2, hr, c3', c1, s_refuse]
          · have c3' : ¬ z.1 61 3 = ds_m1 := by rw [c3, pe]; exact hb1
            simp (disch := first | assumption | omega) only [ds_cI, ds_cV, ds_cL, ds_cR, ds_nn, ds_isK_t, ds_isA_t, ds_chk_t, ds_chkN, ds_nz_t, ds_nzN, ds_isB_t, ds_isB_bo, ↓dl_m1, ↓dl_m2, dl_0, dl_1, dl_2, dl_3, dl_4, dl_5, dl_6, dl_7, dl_8, dl_9, dl_10, dl_11, dl_12, dl_13, dl_14, dl_15, dl_16, dl_20, dl_24, dl_31, dl_50, dl_57, dl_67, dl_68, dl_74, dl_75, dl_79, dl_80, dl_99, dl_100, dl_200, dl_210, dl_224, dl_255, dl_289, dl_900, dl_1000, dl_1728, dl_65536, dl_65537, nI_add, pk_mul, pk_sub, pk_div, pk_rem, ds_rem2, nI_clamp, nI_leI, nI_ltI, nI_eq, ds_m1_eq, ds_eq_m1, ds_m2_eq, ds_eq_m2, ds_m1_le, ds_le_m1, ds_m1_lt, ds_lt_m1, ds_in_N, ds_bo0, ds_bo1, if_pos, if_neg, Nat.not_le, Nat.not_lt, not_true_eq_false, not_false_eq_true, if_true, if_false, ne_eq, Option.some.injEq, Prod.mk.injEq, Value.int.injEq, true_and, and_true, and_self, ite_self, Bool.not_eq_true, Bool.not_eq_false, Bool.true_eq_false, Bool.false_eq_true, reduceCtorEq, Nat.zero_add, Nat.reduceAdd, Nat.reduceMul, Nat.reduceSub, ds_setI_row, ds_setL_row, ds_rowI_self, ds_rowI_ne, ds_rowI_2, ds_rowI_rowI, ds_setS_1, ds_setS_21, ds_setS_self, ds_setS_ne, pk_us, pk_un, g2, hr, c3', c1, s_refuse]
        · have hmg := dk_IM_zg hm0
          have hsg := hmg.2.1
          obtain ⟨⟨r1, r2, r3⟩, ra, ri⟩ := dk_IM_de hmg
          simp only [Nat.zero_add] at r1 r2 r3
          rw [c_Mod_palm, b_Mod_palm_0]
          by_cases hb1 : K 13 = 0
          · have hb2 : K 12 = 2 := by
              rcases Nat.lt_or_ge 2 (K 12) with q | q
              · exact absurd ⟨hb1, q⟩ hb
              · omega
            simp (disch := first | assumption | omega) only [ds_cI, ds_cV, ds_cL, ds_cR, ds_nn, ds_isK_t, ds_isA_t, ds_chk_t, ds_chkN, ds_nz_t, ds_nzN, ds_isB_t, ds_isB_bo, ↓dl_m1, ↓dl_m2, dl_0, dl_1, dl_2, dl_3, dl_4, dl_5, dl_6, dl_7, dl_8, dl_9, dl_10, dl_11, dl_12, dl_13, dl_14, dl_15, dl_16, dl_20, dl_24, dl_31, dl_50, dl_57, dl_67, dl_68, dl_74, dl_75, dl_79, dl_80, dl_99, dl_100, dl_200, dl_210, dl_224, dl_255, dl_289, dl_900, dl_1000, dl_1728, dl_65536, dl_65537, nI_add, pk_mul, pk_sub, pk_div, pk_rem, ds_rem2, nI_clamp, nI_leI, nI_ltI, nI_eq, ds_m1_eq, ds_eq_m1, ds_m2_eq, ds_eq_m2, ds_m1_le, ds_le_m1, ds_m1_lt, ds_lt_m1, ds_in_N, ds_bo0, ds_bo1, if_pos, if_neg, Nat.not_le, Nat.not_lt, not_true_eq_false, not_false_eq_true, if_true, if_false, ne_eq, Option.some.injEq, Prod.mk.injEq, Value.int.injEq, true_and, and_true, and_self, ite_self, Bool.not_eq_true, Bool.not_eq_false, Bool.true_eq_false, Bool.false_eq_true, reduceCtorEq, Nat.zero_add, Nat.reduceAdd, Nat.reduceMul, Nat.reduceSub, ds_setI_row, ds_setL_row, ds_rowI_self, ds_rowI_ne, ds_rowI_2, ds_rowI_rowI, ds_setS_1, ds_setS_21, ds_setS_self, ds_setS_ne, pk_us, pk_un, s_good, hsg, hn, decide_true, r2, r3, gin, hr, s_no]
          · simp (disch := first | assumption | omega) only [ds_cI, ds_cV, ds_cL, ds_cR, ds_nn, ds_isK_t, ds_isA_t, ds_chk_t, ds_chkN, ds_nz_t, ds_nzN, ds_isB_t, ds_isB_bo, ↓dl_m1, ↓dl_m2, dl_0, dl_1, dl_2, dl_3, dl_4, dl_5, dl_6, dl_7, dl_8, dl_9, dl_10, dl_11, dl_12, dl_13, dl_14, dl_15, dl_16, dl_20, dl_24, dl_31, dl_50, dl_57, dl_67, dl_68, dl_74, dl_75, dl_79, dl_80, dl_99, dl_100, dl_200, dl_210, dl_224, dl_255, dl_289, dl_900, dl_1000, dl_1728, dl_65536, dl_65537, nI_add, pk_mul, pk_sub, pk_div, pk_rem, ds_rem2, nI_clamp, nI_leI, nI_ltI, nI_eq, ds_m1_eq, ds_eq_m1, ds_m2_eq, ds_eq_m2, ds_m1_le, ds_le_m1, ds_m1_lt, ds_lt_m1, ds_in_N, ds_bo0, ds_bo1, if_pos, if_neg, Nat.not_le, Nat.not_lt, not_true_eq_false, not_false_eq_true, if_true, if_false, ne_eq, Option.some.injEq, Prod.mk.injEq, Value.int.injEq, true_and, and_true, and_self, ite_self, Bool.not_eq_true, Bool.not_eq_false, Bool.true_eq_false, Bool.false_eq_true, reduceCtorEq, Nat.zero_add, Nat.reduceAdd, Nat.reduceMul, Nat.reduceSub, ds_setI_row, ds_setL_row, ds_rowI_self, ds_rowI_ne, ds_rowI_2, ds_rowI_rowI, ds_setS_1, ds_setS_21, ds_setS_self, ds_setS_ne, pk_us, pk_un, s_good, hsg, hn, decide_true, r2, r3, gin, hr, s_no]
    · refine ⟨.int ds_m1, nI 1, ds_rowI z 0 (upd (z.1 0) 10 (nI 1)), K, U, u, M, m, ?_, dk_IC_no _ hc, dk_gC_no z _, ho, fun z0 hm0 => ⟨ds_rowI (dk_zg z0) 90 (upd ((dk_zg z0).1 90) 11 (nI 1)), ?_, dk_IM_no _ hm0, dk_gM_no z0 _⟩⟩
      · rw [c_Sea_palm, b_Sea_palm_0]
        simp (disch := first | assumption | omega) only [ds_cI, ds_cV, ds_cL, ds_cR, ds_nn, ds_isK_t, ds_isA_t, ds_chk_t, ds_chkN, ds_nz_t, ds_nzN, ds_isB_t, ds_isB_bo, ↓dl_m1, ↓dl_m2, dl_0, dl_1, dl_2, dl_3, dl_4, dl_5, dl_6, dl_7, dl_8, dl_9, dl_10, dl_11, dl_12, dl_13, dl_14, dl_15, dl_16, dl_20, dl_24, dl_31, dl_50, dl_57, dl_67, dl_68, dl_74, dl_75, dl_79, dl_80, dl_99, dl_100, dl_200, dl_210, dl_224, dl_255, dl_289, dl_900, dl_1000, dl_1728, dl_65536, dl_65537, nI_add, pk_mul, pk_sub, pk_div, pk_rem, ds_rem2, nI_clamp, nI_leI, nI_ltI, nI_eq, ds_m1_eq, ds_eq_m1, ds_m2_eq, ds_eq_m2, ds_m1_le, ds_le_m1, ds_m1_lt, ds_lt_m1, ds_in_N, ds_bo0, ds_bo1, if_pos, if_neg, Nat.not_le, Nat.not_lt, not_true_eq_false, not_false_eq_true, if_true, if_false, ne_eq, Option.some.injEq, Prod.mk.injEq, Value.int.injEq, true_and, and_true, and_self, ite_self, Bool.not_eq_true, Bool.not_eq_false, Bool.true_eq_false, Bool.false_eq_true, reduceCtorEq, Nat.zero_add, Nat.reduceAdd, Nat.reduceMul, Nat.reduceSub, ds_setI_row, ds_setL_row, ds_rowI_self, ds_rowI_ne, ds_rowI_2, ds_rowI_rowI, ds_setS_1, ds_setS_21, ds_setS_self, ds_setS_ne, pk_us, pk_un, g2, hr, s_refuse]
      · have hmg := dk_IM_zg hm0
        have hsg := hmg.2.1
        obtain ⟨⟨r1, r2, r3⟩, ra, ri⟩ := dk_IM_de hmg
        simp only [Nat.zero_add] at r1 r2 r3
        rw [c_Mod_palm, b_Mod_palm_0]
        simp (disch := first | assumption | omega) only [ds_cI, ds_cV, ds_cL, ds_cR, ds_nn, ds_isK_t, ds_isA_t, ds_chk_t, ds_chkN, ds_nz_t, ds_nzN, ds_isB_t, ds_isB_bo, ↓dl_m1, ↓dl_m2, dl_0, dl_1, dl_2, dl_3, dl_4, dl_5, dl_6, dl_7, dl_8, dl_9, dl_10, dl_11, dl_12, dl_13, dl_14, dl_15, dl_16, dl_20, dl_24, dl_31, dl_50, dl_57, dl_67, dl_68, dl_74, dl_75, dl_79, dl_80, dl_99, dl_100, dl_200, dl_210, dl_224, dl_255, dl_289, dl_900, dl_1000, dl_1728, dl_65536, dl_65537, nI_add, pk_mul, pk_sub, pk_div, pk_rem, ds_rem2, nI_clamp, nI_leI, nI_ltI, nI_eq, ds_m1_eq, ds_eq_m1, ds_m2_eq, ds_eq_m2, ds_m1_le, ds_le_m1, ds_m1_lt, ds_lt_m1, ds_in_N, ds_bo0, ds_bo1, if_pos, if_neg, Nat.not_le, Nat.not_lt, not_true_eq_false, not_false_eq_true, if_true, if_false, ne_eq, Option.some.injEq, Prod.mk.injEq, Value.int.injEq, true_and, and_true, and_self, ite_self, Bool.not_eq_true, Bool.not_eq_false, Bool.true_eq_false, Bool.false_eq_true, reduceCtorEq, Nat.zero_add, Nat.reduceAdd, Nat.reduceMul, Nat.reduceSub, ds_setI_row, ds_setL_row, ds_rowI_self, ds_rowI_ne, ds_rowI_2, ds_rowI_rowI, ds_setS_1, ds_setS_21, ds_setS_self, ds_setS_ne, pk_us, pk_un, s_good, hsg, hn, decide_true, r2, r3, gin, hr, s_no]
  · have h4 := h0 4 (by decide)
    rw [hc0, dk_rng_0] at g2
    refine ⟨.int ds_m1, nI 1, ds_rowI z 0 (upd (z.1 0) 10 (nI 1)), K, U, u, M, m, ?_, dk_IC_no _ hc, dk_gC_no z _, ho, fun z0 hm0 => ⟨ds_rowI (dk_zg z0) 90 (upd ((dk_zg z0).1 90) 11 (nI 1)), ?_, dk_IM_no _ hm0, dk_gM_no z0 _⟩⟩
    · rw [c_Sea_palm, b_Sea_palm_0]
      simp (disch := first | assumption | omega) only [ds_cI, ds_cV, ds_cL, ds_cR, ds_nn, ds_isK_t, ds_isA_t, ds_chk_t, ds_chkN, ds_nz_t, ds_nzN, ds_isB_t, ds_isB_bo, ↓dl_m1, ↓dl_m2, dl_0, dl_1, dl_2, dl_3, dl_4, dl_5, dl_6, dl_7, dl_8, dl_9, dl_10, dl_11, dl_12, dl_13, dl_14, dl_15, dl_16, dl_20, dl_24, dl_31, dl_50, dl_57, dl_67, dl_68, dl_74, dl_75, dl_79, dl_80, dl_99, dl_100, dl_200, dl_210, dl_224, dl_255, dl_289, dl_900, dl_1000, dl_1728, dl_65536, dl_65537, nI_add, pk_mul, pk_sub, pk_div, pk_rem, ds_rem2, nI_clamp, nI_leI, nI_ltI, nI_eq, ds_m1_eq, ds_eq_m1, ds_m2_eq, ds_eq_m2, ds_m1_le, ds_le_m1, ds_m1_lt, ds_lt_m1, ds_in_N, ds_bo0, ds_bo1, if_pos, if_neg, Nat.not_le, Nat.not_lt, not_true_eq_false, not_false_eq_true, if_true, if_false, ne_eq, Option.some.injEq, Prod.mk.injEq, Value.int.injEq, true_and, and_true, and_self, ite_self, Bool.not_eq_true, Bool.not_eq_false, Bool.true_eq_false, Bool.false_eq_true, reduceCtorEq, Nat.zero_add, Nat.reduceAdd, Nat.reduceMul, Nat.reduceSub, ds_setI_row, ds_setL_row, ds_rowI_self, ds_rowI_ne, ds_rowI_2, ds_rowI_rowI, ds_setS_1, ds_setS_21, ds_setS_self, ds_setS_ne, pk_us, pk_un, g2, s_refuse]
    · have hsg := (dk_IM_zg hm0).2.1
      rw [c_Mod_palm, b_Mod_palm_0]
      simp (disch := first | assumption | omega) only [ds_cI, ds_cV, ds_cL, ds_cR, ds_nn, ds_isK_t, ds_isA_t, ds_chk_t, ds_chkN, ds_nz_t, ds_nzN, ds_isB_t, ds_isB_bo, ↓dl_m1, ↓dl_m2, dl_0, dl_1, dl_2, dl_3, dl_4, dl_5, dl_6, dl_7, dl_8, dl_9, dl_10, dl_11, dl_12, dl_13, dl_14, dl_15, dl_16, dl_20, dl_24, dl_31, dl_50, dl_57, dl_67, dl_68, dl_74, dl_75, dl_79, dl_80, dl_99, dl_100, dl_200, dl_210, dl_224, dl_255, dl_289, dl_900, dl_1000, dl_1728, dl_65536, dl_65537, nI_add, pk_mul, pk_sub, pk_div, pk_rem, ds_rem2, nI_clamp, nI_leI, nI_ltI, nI_eq, ds_m1_eq, ds_eq_m1, ds_m2_eq, ds_eq_m2, ds_m1_le, ds_le_m1, ds_m1_lt, ds_lt_m1, ds_in_N, ds_bo0, ds_bo1, if_pos, if_neg, Nat.not_le, Nat.not_lt, not_true_eq_false, not_false_eq_true, if_true, if_false, ne_eq, Option.some.injEq, Prod.mk.injEq, Value.int.injEq, true_and, and_true, and_self, ite_self, Bool.not_eq_true, Bool.not_eq_false, Bool.true_eq_false, Bool.false_eq_true, reduceCtorEq, Nat.zero_add, Nat.reduceAdd, Nat.reduceMul, Nat.reduceSub, ds_setI_row, ds_setL_row, ds_rowI_self, ds_rowI_ne, ds_rowI_2, ds_rowI_rowI, ds_setS_1, ds_setS_21, ds_setS_self, ds_setS_ne, pk_us, pk_un, s_good, hsg, h4, Nat.lt_irrefl, decide_false, s_no]
theorem k_lay (d : Nat) (z : ds_St) (h : dk_Inv z) : ∃ v z1 z2, ds_call (d + 20) j_Sea_lay [.ref 0] z = some (some v, z1) ∧ ds_call (d + 20) j_Mod_lay [.ref 90] z1 = some (some v, z2) ∧ dk_Inv z2 := by
  apply dk_both2 h
  intro t t' D K U u M m f B hc ho
  have hC := dk_IC_HC hc
  have hz := dk_OK_Hz ho
  have hs := s_hasSea (d + 18) t z D K hC hz
  have k12 := (dk_n12 hz).2
  have n12 := (dk_n12 hz).1
  have k13 := dk_K13 hz
  obtain ⟨dc, ac, ic⟩ := dk_IC_de hc
  have c1 := dc.1
  have c3 := dc.2.2
  have pe := dk_pm_m1 (x := K 13) (by omega)
  rcases ho.1 with ⟨hD, hK, hU, hM', hu, hm3⟩ | ⟨h0, hc0, hp0, hu0, hm0⟩
  · have hn : 0 < D 0 4 := by have := hD.2.2.2.2.1.1; omega
    by_cases hb1 : K 13 = 0
    · have c3' : z.1 61 3 = ds_m1 := by rw [c3]; exact pe.mpr hb1
      refine ⟨.int (nI 0), nI 6, ds_rowI z 0 (upd (z.1 0) 10 (nI 6)), K, U, u, M, m, ?_, dk_IC_no _ hc, dk_gC_no z _, ho, fun z0 hm0 => ⟨ds_rowI (dk_zg z0) 90 (upd ((dk_zg z0).1 90) 11 (nI 6)), ?_, dk_IM_no _ hm0, dk_gM_no z0 _⟩⟩
      · rw [c_Sea_lay, b_Sea_lay_0]
        simp (disch := first | assumption | omega) only [ds_cI, ds_cV, ds_cL, ds_cR, ds_nn, ds_isK_t, ds_isA_t, ds_chk_t, ds_chkN, ds_nz_t, ds_nzN, ds_isB_t, ds_isB_bo, ↓dl_m1, ↓dl_m2, dl_0, dl_1, dl_2, dl_3, dl_4, dl_5, dl_6, dl_7, dl_8, dl_9, dl_10, dl_11, dl_12, dl_13, dl_14, dl_15, dl_16, dl_20, dl_24, dl_31, dl_50, dl_57, dl_67, dl_68, dl_74, dl_75, dl_79, dl_80, dl_99, dl_100, dl_200, dl_210, dl_224, dl_255, dl_289, dl_900, dl_1000, dl_1728, dl_65536, dl_65537, nI_add, pk_mul, pk_sub, pk_div, pk_rem, ds_rem2, nI_clamp, nI_leI, nI_ltI, nI_eq, ds_m1_eq, ds_eq_m1, ds_m2_eq, ds_eq_m2, ds_m1_le, ds_le_m1, ds_m1_lt, ds_lt_m1, ds_in_N, ds_bo0, ds_bo1, if_pos, if_neg, Nat.not_le, Nat.not_lt, not_true_eq_false, not_false_eq_true, if_true, if_false, ne_eq, Option.some.injEq, Prod.mk.injEq, Value.int.injEq, true_and, and_true, and_self, ite_self, Bool.not_eq_true, Bool.not_eq_false, Bool.true_eq_false, Bool.false_eq_true, reduceCtorEq, Nat.zero_add, Nat.reduceAdd, Nat.reduceMul, Nat.reduceSub, ds_setI_row, ds_setL_row, ds_rowI_self, ds_rowI_ne, ds_rowI_2, ds_rowI_rowI, ds_setS_1, ds_setS_21, ds_setS_self, ds_setS_ne, pk_us, pk_un, hs, hn, decide_true, c3']
      · have hmg := dk_IM_zg hm0
        have hsg := hmg.2.1
        obtain ⟨⟨r1, r2, r3⟩, ra, ri⟩ := dk_IM_de hmg
        simp only [Nat.zero_add] at r3
        rw [hb1] at r3
        rw [c_Mod_lay, b_Mod_lay_0]
        simp (disch := first | assumption | omega) only [ds_cI, ds_cV, ds_cL, ds_cR, ds_nn, ds_isK_t, ds_isA_t, ds_chk_t, ds_chkN, ds_nz_t, ds_nzN, ds_isB_t, ds_isB_bo, ↓dl_m1, ↓dl_m2, dl_0, dl_1, dl_2, dl_3, dl_4, dl_5, dl_6, dl_7, dl_8, dl_9, dl_10, dl_11, dl_12, dl_13, dl_14, dl_15, dl_16, dl_20, dl_24, dl_31, dl_50, dl_57, dl_67, dl_68, dl_74, dl_75, dl_79, dl_80, dl_99, dl_100, dl_200, dl_210, dl_224, dl_255, dl_289, dl_900, dl_1000, dl_1728, dl_65536, dl_65537, nI_add, pk_mul, pk_sub, pk_div, pk_rem, ds_rem2, nI_clamp, nI_leI, nI_ltI, nI_eq, ds_m1_eq, ds_eq_m1, ds_m2_eq, ds_eq_m2, ds_m1_le, ds_le_m1, ds_m1_lt, ds_lt_m1, ds_in_N, ds_bo0, ds_bo1, if_pos, if_neg, Nat.not_le, Nat.not_lt, not_true_eq_false, not_false_eq_true, if_true, if_false, ne_eq, Option.some.injEq, Prod.mk.injEq, Value.int.injEq, true_and, and_true, and_self, ite_self, Bool.not_eq_true, Bool.not_eq_false, Bool.true_eq_false, Bool.false_eq_true, reduceCtorEq, Nat.zero_add, Nat.reduceAdd, Nat.reduceMul, Nat.reduceSub, ds_setI_row, ds_setL_row, ds_rowI_self, ds_rowI_ne, ds_rowI_2, ds_rowI_rowI, ds_setS_1, ds_setS_21, ds_setS_self, ds_setS_ne, pk_us, pk_un, s_good, hsg, hn, decide_true, r3, s_isNot, ds_isB_0]
    · have c3' : ¬ z.1 61 3 = ds_m1 := by rw [c3, pe]; exact hb1
      have hU12 : ∀ q, q < u → U q 12 ≤ 12 := fun q hq => (hU q hq).1
      obtain ⟨hK', k11⟩ := dk_lay_okK n12 hK (by omega)
      obtain ⟨z1, s1, s2, s3, s4⟩ := s_pushA (d + 16) u z K U k12 hU12 dc ac hu
      have d1 : z1.1 61 2 = nI (K 12) := by rw [s3 61 (by decide) (by decide)]; exact c1
      have d3 : z1.1 61 3 = nI (K 13 - 1) := by rw [s3 61 (by decide) (by decide), c3]; unfold dk_pm; rw [if_neg hb1]
      let z2 := ds_rowI (ds_rowI z1 62 (upd (z1.1 62) (K 12) (nI (K 13 - 1)))) 61 (upd (upd (z1.1 61) 2 (nI (K 12 + 1))) 3 ds_m1)
      have p1 : ds_call (d + 19) j_Deck_putUnder [.ref 61] z1 = some (none, z2) := by
        rw [c_Deck_putUnder, b_Deck_putUnder_0_61]
        simp only [z2]
        simp (disch := first | assumption | omega | rfl | decide) only [ds_cI, ds_cV, ds_cL, ds_cR, ds_nn, ds_isK_t, ds_isA_t, ds_chk_t, ds_chkN, ds_nz_t, ds_nzN, ds_isB_t, ds_isB_bo, ↓dl_m1, ↓dl_m2, dl_0, dl_1, dl_2, dl_3, dl_4, dl_5, dl_6, dl_7, dl_8, dl_9, dl_10, dl_11, dl_12, dl_13, dl_14, dl_15, dl_16, dl_20, dl_24, dl_31, dl_50, dl_57, dl_67, dl_68, dl_74, dl_75, dl_79, dl_80, dl_99, dl_100, dl_200, dl_210, dl_224, dl_255, dl_289, dl_900, dl_1000, dl_1728, dl_65536, dl_65537, nI_add, pk_mul, pk_sub, pk_div, pk_rem, ds_rem2, nI_clamp, nI_leI, nI_ltI, nI_eq, ds_m1_eq, ds_eq_m1, ds_m2_eq, ds_eq_m2, ds_m1_le, ds_le_m1, ds_m1_lt, ds_lt_m1, ds_in_N, ds_bo0, ds_bo1, if_pos, if_neg, Nat.not_le, Nat.not_lt, not_true_eq_false, not_false_eq_true, if_true, if_false, ne_eq, Option.some.injEq, Prod.mk.injEq, Value.int.injEq, true_and, and_true, and_self, ite_self, Bool.not_eq_true, Bool.not_eq_false, Bool.true_eq_false, Bool.false_eq_true, reduceCtorEq, Nat.zero_add, Nat.reduceAdd, Nat.reduceMul, Nat.reduceSub, ds_setI_row, ds_setL_row, ds_rowI_self, ds_rowI_ne, ds_rowI_2, ds_rowI_rowI, ds_setS_1, ds_setS_21, ds_setS_self, ds_setS_ne, pk_us, pk_un, d1, d3, s_putN (n := 12)]
      have p3 : ∀ q, q ≠ 61 → q ≠ 62 → z2.1 q = z1.1 q := fun q a b => by simp only [z2]; rw [ds_rowI_ne _ _ a, ds_rowI_ne _ _ b]
      have p2 : dk_deC z2 (dk_lay K) := by
        refine ⟨?_, ?_, ?_⟩
        · simp only [z2]; rw [ds_rowI_self, pk_un (by decide), pk_us]; rfl
        · intro q hq
          have hq' : q < K 12 + 1 := hq
          simp only [z2]
          rw [ds_rowI_ne _ _ (by decide), ds_rowI_self, dk_lay_q (by omega)]
          by_cases h : q = K 12
          · rw [if_pos h, h, pk_us]
          · rw [if_neg h, pk_un h, s3 62 (by decide) (by decide)]; exact dc.2.1 q (by omega)
        · simp only [z2]; rw [ds_rowI_self, pk_us]; rfl
      have p4 : z2.2 = z1.2 := rfl
      clear_value z2
      have f3 : ∀ q, q ≠ 61 → q ≠ 62 → q ≠ 80 → q ≠ 81 → z2.1 q = z.1 q := fun q a b c e => by rw [p3 q a b, s3 q c e]
      obtain ⟨o1, o2⟩ := dk_pu_ok hU hK hu
      refine ⟨.int (nI 1), nI 0, ds_rowI z2 0 (upd (z2.1 0) 10 (nI 0)), dk_lay K, dk_pu U u K, dk_pn u, M, m, ?_, ?_, ?_, ⟨.inl ⟨hD, hK', o1, hM', o2, hm3⟩, ho.2⟩, ?_⟩
      · rw [c_Sea_lay, b_Sea_lay_0]
        simp (disch := first | assumption | omega) only [ds_cI, ds_cV, ds_cL, ds_cR, ds_nn, ds_isK_t, ds_isA_t, ds_chk_t, ds_chkN, ds_nz_t, ds_nzN, ds_isB_t, ds_isB_bo, ↓dl_m1, ↓dl_m2, dl_0, dl_1, dl_2, dl_3, dl_4, dl_5, dl_6, dl_7, dl_8, dl_9, dl_10, dl_11, dl_12, dl_13, dl_14, dl_15, dl_16, dl_20, dl_24, dl_31, dl_50, dl_57, dl_67, dl_68, dl_74, dl_75, dl_79, dl_80, dl_99, dl_100, dl_200, dl_210, dl_224, dl_255, dl_289, dl_900, dl_1000, dl_1728, dl_65536, dl_65537, nI_add, pk_mul, pk_sub, pk_div, pk_rem, ds_rem2, nI_clamp, nI_leI, nI_ltI, nI_eq, ds_m1_eq, ds_eq_m1, ds_m2_eq, ds_eq_m2, ds_m1_le, ds_le_m1, ds_m1_lt, ds_lt_m1, ds_in_N, ds_bo0, ds_bo1, if_pos, if_neg, Nat.not_le, Nat.not_lt, not_true_eq_false, not_false_eq_true, if_true, if_false, ne_eq, Option.some.injEq, Prod.mk.injEq, Value.int.injEq, true_and, and_true, and_self, ite_self, Bool.not_eq_true, Bool.not_eq_false, Bool.true_eq_false, Bool.false_eq_true, reduceCtorEq, Nat.zero_add, Nat.reduceAdd, Nat.reduceMul, Nat.reduceSub, ds_setI_row, ds_setL_row, ds_rowI_self, ds_rowI_ne, ds_rowI_2, ds_rowI_rowI, ds_setS_1, ds_setS_21, ds_setS_self, ds_setS_ne, pk_us, pk_un, hs, hn, decide_true, c3', s1, p1]
      · refine dk_IC_mk hc (fun q x y => by rw [ds_rowI_ne _ _ (by omega)]; exact f3 q (by omega) (by omega) (by omega) (by omega)) (fun j hj => by show z2.2.2 j = _; rw [p4, s4]) (dk_deC_eq p2 (ds_rowI_ne _ _ (by decide)) (ds_rowI_ne _ _ (by decide))) (dk_acC_eq s2 ?_ ?_) (dk_imC_eq ic ?_ ?_)
        · rw [ds_rowI_ne _ _ (by decide), p3 80 (by decide) (by decide)]
        · rw [ds_rowI_ne _ _ (by decide), p3 81 (by decide) (by decide)]
        · rw [ds_rowI_ne _ _ (by decide), f3 82 (by decide) (by decide) (by decide) (by decide)]
        · rw [ds_rowI_ne _ _ (by decide), f3 83 (by decide) (by decide) (by decide) (by decide)]
      · refine ⟨fun q hq => by rw [ds_rowI_ne _ _ (by omega)]; exact f3 q (by omega) (by omega) (by omega) (by omega), ?_⟩
        rw [ds_rowI_self, f3 0 (by decide) (by decide) (by decide) (by decide)]
      · intro z0 hm0
        have hmg := dk_IM_zg hm0
        have hsg := hmg.2.1
        obtain ⟨rd, ra, ri⟩ := dk_IM_de hmg
        obtain ⟨r1, r2, r3⟩ := rd
        obtain ⟨y1, n1, n2, n3, n4, n5⟩ := s_note (d + 17) u (dk_zg z0) K U k12 hU12 ⟨r1, r2, r3⟩ ra hu
        simp only [Nat.zero_add] at r1 r2 r3
        have q2 : y1.1 95 12 = nI (K 12) := by rw [n3 95 (by decide) (by decide)]; exact r2
        have q3 : y1.1 95 13 = nI (K 13) := by rw [n3 95 (by decide) (by decide)]; exact r3
        let y2 := ds_rowI y1 95 (upd (upd (upd (y1.1 95) (K 12) (nI (K 13 - 1))) 12 (nI (K 12 + 1))) 13 (nI 0))
        have w3 : ∀ q, q ≠ 95 → y2.1 q = y1.1 q := fun q a => ds_rowI_ne _ _ a
        refine ⟨y2, ?_, ?_, ?_⟩
        · have ne : (12 : Nat) ≠ K 12 := by omega
          simp only [y2]
          rw [c_Mod_lay, b_Mod_lay_0]
          simp (disch := first | assumption | omega | rfl | decide) only [ds_cI, ds_cV, ds_cL, ds_cR, ds_nn, ds_isK_t, ds_isA_t, ds_chk_t, ds_chkN, ds_nz_t, ds_nzN, ds_isB_t, ds_isB_bo, ↓dl_m1, ↓dl_m2, dl_0, dl_1, dl_2, dl_3, dl_4, dl_5, dl_6, dl_7, dl_8, dl_9, dl_10, dl_11, dl_12, dl_13, dl_14, dl_15, dl_16, dl_20, dl_24, dl_31, dl_50, dl_57, dl_67, dl_68, dl_74, dl_75, dl_79, dl_80, dl_99, dl_100, dl_200, dl_210, dl_224, dl_255, dl_289, dl_900, dl_1000, dl_1728, dl_65536, dl_65537, nI_add, pk_mul, pk_sub, pk_div, pk_rem, ds_rem2, nI_clamp, nI_leI, nI_ltI, nI_eq, ds_m1_eq, ds_eq_m1, ds_m2_eq, ds_eq_m2, ds_m1_le, ds_le_m1, ds_m1_lt, ds_lt_m1, ds_in_N, ds_bo0, ds_bo1, if_pos, if_neg, Nat.not_le, Nat.not_lt, not_true_eq_false, not_false_eq_true, if_true, if_false, ne_eq, Option.some.injEq, Prod.mk.injEq, Value.int.injEq, true_and, and_true, and_self, ite_self, Bool.not_eq_true, Bool.not_eq_false, Bool.true_eq_false, Bool.false_eq_true, reduceCtorEq, Nat.zero_add, Nat.reduceAdd, Nat.reduceMul, Nat.reduceSub, ds_setI_row, ds_setL_row, ds_rowI_self, ds_rowI_ne, ds_rowI_2, ds_rowI_rowI, ds_setS_1, ds_setS_21, ds_setS_self, ds_setS_ne, pk_us, pk_un, s_good, hsg, hn, decide_true, r3, n1, q2, q3]
        · refine dk_IM_mk hm0 (by rw [w3 93 (by decide), n3 93 (by decide) (by decide), dk_zg_ne z0 (by decide)]) (by rw [w3 91 (by decide), n3 91 (by decide) (by decide), dk_zg_ne z0 (by decide)]) (fun k hk => by rw [w3 90 (by decide), n4 k (by omega), dk_zg_k z0 (by omega) (by omega)]) ⟨?_, ?_, ?_⟩ (dk_acM_eq n2 (by rw [w3 90 (by decide)]) (w3 96 (by decide))) (dk_imM_eq ri (by rw [w3 90 (by decide), n4 21 (by decide)]) (by rw [w3 97 (by decide), n3 97 (by decide) (by decide)]))
          · intro q hq
            have hq' : q < K 12 + 1 := hq
            simp only [y2, Nat.zero_add]
            rw [ds_rowI_self, pk_un (by omega), pk_un (by omega), dk_lay_q (by omega)]
            by_cases h : q = K 12
            · rw [if_pos h, h, pk_us]
            · rw [if_neg h, pk_un h, n3 95 (by decide) (by decide)]; exact r1 q (by omega)
          · simp only [y2, Nat.zero_add]; rw [ds_rowI_self, pk_un (by decide), pk_us]; rfl
          · simp only [y2, Nat.zero_add]; rw [ds_rowI_self, pk_us]; rfl
        · refine dk_gM_ok (fun p hp => by rw [w3 p (by omega), n3 p (by omega) (by omega), dk_zg_ne z0 (by omega)]) (fun k hk => by rw [w3 90 (by decide), n4 k (by omega)]) (fun j hj => by show y1.2.2 j = _; rw [n5]; rfl)
  · have h4 := h0 4 (by decide)
    refine ⟨.int (nI 0), nI 1, ds_rowI z 0 (upd (z.1 0) 10 (nI 1)), K, U, u, M, m, ?_, dk_IC_no _ hc, dk_gC_no z _, ho, fun z0 hm0 => ⟨ds_rowI (dk_zg z0) 90 (upd ((dk_zg z0).1 90) 11 (nI 1)), ?_, dk_IM_no _ hm0, dk_gM_no z0 _⟩⟩
    · rw [c_Sea_lay, b_Sea_lay_0]
      simp (disch := first | assumption | omega) only [ds_cI, ds_cV, ds_cL, ds_cR, ds_nn, ds_isK_t, ds_isA_t, ds_chk_t, ds_chkN, ds_nz_t, ds_nzN, ds_isB_t, ds_isB_bo, ↓dl_m1, ↓dl_m2, dl_0, dl_1, dl_2, dl_3, dl_4, dl_5, dl_6, dl_7, dl_8, dl_9, dl_10, dl_11, dl_12, dl_13, dl_14, dl_15, dl_16, dl_20, dl_24, dl_31, dl_50, dl_57, dl_67, dl_68, dl_74, dl_75, dl_79, dl_80, dl_99, dl_100, dl_200, dl_210, dl_224, dl_255, dl_289, dl_900, dl_1000, dl_1728, dl_65536, dl_65537, nI_add, pk_mul, pk_sub, pk_div, pk_rem, ds_rem2, nI_clamp, nI_leI, nI_ltI, nI_eq, ds_m1_eq, ds_eq_m1, ds_m2_eq, ds_eq_m2, ds_m1_le, ds_le_m1, ds_m1_lt, ds_lt_m1, ds_in_N, ds_bo0, ds_bo1, if_pos, if_neg, Nat.not_le, Nat.not_lt, not_true_eq_false, not_false_eq_true, if_true, if_false, ne_eq, Option.some.injEq, Prod.mk.injEq, Value.int.injEq, true_and, and_true, and_self, ite_self, Bool.not_eq_true, Bool.not_eq_false, Bool.true_eq_false, Bool.false_eq_true, reduceCtorEq, Nat.zero_add, Nat.reduceAdd, Nat.reduceMul, Nat.reduceSub, ds_setI_row, ds_setL_row, ds_rowI_self, ds_rowI_ne, ds_rowI_2, ds_rowI_rowI, ds_setS_1, ds_setS_21, ds_setS_self, ds_setS_ne, pk_us, pk_un, hs, h4, Nat.lt_irrefl, decide_false]
    · have hsg := (dk_IM_zg hm0).2.1
      rw [c_Mod_lay, b_Mod_lay_0]
      simp (disch := first | assumption | omega) only [ds_cI, ds_cV, ds_cL, ds_cR, ds_nn, ds_isK_t, ds_isA_t, ds_chk_t, ds_chkN, ds_nz_t, ds_nzN, ds_isB_t, ds_isB_bo, ↓dl_m1, ↓dl_m2, dl_0, dl_1, dl_2, dl_3, dl_4, dl_5, dl_6, dl_7, dl_8, dl_9, dl_10, dl_11, dl_12, dl_13, dl_14, dl_15, dl_16, dl_20, dl_24, dl_31, dl_50, dl_57, dl_67, dl_68, dl_74, dl_75, dl_79, dl_80, dl_99, dl_100, dl_200, dl_210, dl_224, dl_255, dl_289, dl_900, dl_1000, dl_1728, dl_65536, dl_65537, nI_add, pk_mul, pk_sub, pk_div, pk_rem, ds_rem2, nI_clamp, nI_leI, nI_ltI, nI_eq, ds_m1_eq, ds_eq_m1, ds_m2_eq, ds_eq_m2, ds_m1_le, ds_le_m1, ds_m1_lt, ds_lt_m1, ds_in_N, ds_bo0, ds_bo1, if_pos, if_neg, Nat.not_le, Nat.not_lt, not_true_eq_false, not_false_eq_true, if_true, if_false, ne_eq, Option.some.injEq, Prod.mk.injEq, Value.int.injEq, true_and, and_true, and_self, ite_self, Bool.not_eq_true, Bool.not_eq_false, Bool.true_eq_false, Bool.false_eq_true, reduceCtorEq, Nat.zero_add, Nat.reduceAdd, Nat.reduceMul, Nat.reduceSub, ds_setI_row, ds_setL_row, ds_rowI_self, ds_rowI_ne, ds_rowI_2, ds_rowI_rowI, ds_setS_1, ds_setS_21, ds_setS_self, ds_setS_ne, pk_us, pk_un, s_good, hsg, h4, Nat.lt_irrefl, decide_false, s_isNot, ds_isB_0]
