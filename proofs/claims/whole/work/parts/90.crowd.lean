/-! the crowd -/
def dk_max (f : Nat → Nat) : Nat → Nat
  | 0 => 0
  | n + 1 => if dk_max f n < f n then f n else dk_max f n
theorem dk_max_le {f : Nat → Nat} {b : Nat} : ∀ {n : Nat}, dk_max f n ≤ b ↔ ∀ k, k < n → f k ≤ b := by
  intro n
  induction n with
  | zero => simp [dk_max]
  | succ n ih =>
    simp only [dk_max]
    constructor
    · intro h k hk
      rcases Nat.lt_or_ge k n with h1 | h1
      · have : dk_max f n ≤ b := by split at h <;> omega
        exact ih.mp this k h1
      · have : k = n := by omega
        subst this
        split at h <;> omega
    · intro h
      have h1 := ih.mpr (fun k hk => h k (by omega))
      have h2 := h n (by omega)
      split <;> omega
theorem dk_max_re {f : Nat → Nat} {C : Nat → Nat} {L N : Nat} (hin : ∀ p, p < L → C p < N) (hz : ∀ i, i < N → (∀ p, p < L → C p ≠ i) → f i = 0) : dk_max f N = dk_max (fun p => f (C p)) L := by
  apply Nat.le_antisymm
  · rw [dk_max_le]
    intro i hi
    rcases dk_has C L i with ⟨p, hp, e⟩ | hno
    · have := dk_max_le.mp (Nat.le_refl (dk_max (fun p => f (C p)) L)) p hp
      rw [← e]; exact this
    · rw [hz i hi hno]; exact Nat.zero_le _
  · rw [dk_max_le]
    intro p hp
    exact dk_max_le.mp (Nat.le_refl (dk_max f N)) (C p) (hin p hp)
def dk_gr (D : Nat → Nat → Nat) (K : Nat → Nat) (L p : Nat) : Nat → Nat → Bool
  | 0 => fun q => p == q && !(D 1 (K q) == 2)
  | k + 1 => fun q => dk_gr D K L p k q || (dk_bp D L (dk_gr D K L p k) q && !(D 1 (K q) == 2))
theorem dk_gr_j {D : Nat → Nat → Nat} {K : Nat → Nat} {L p : Nat} (hj : D 1 (K p) = 2) : ∀ k q, dk_gr D K L p k q = false := by
  intro k
  induction k with
  | zero =>
    intro q
    simp only [dk_gr]
    by_cases h : p = q
    · subst h; simp [hj]
    · have : (p == q) = false := by simpa using h
      rw [this]; rfl
  | succ k ih =>
    intro q
    simp only [dk_gr]
    have : dk_bp D L (dk_gr D K L p k) q = false := by
      unfold dk_bp
      rw [dk_any_f]
      intro r hr
      rw [ih r]; rfl
    rw [ih q, this]; rfl
theorem dk_gr_ok {D : Nat → Nat → Nat} {K : Nat → Nat} {p : Nat} (hK : dk_okK D K) (hp : p < min (D 0 0 * D 0 1) (K 12)) (hj : ¬ D 1 (K p) = 2) : ∀ k q, q < min (D 0 0 * D 0 1) (K 12) → dk_gr D K (min (D 0 0 * D 0 1) (K 12)) p k q = (!(D 1 (K q) == 2) && (dk_le D K (K p) k).2 (K q)) := by
  intro k
  have ins : dk_is D K (K 12) (K p) = true := by
    unfold dk_is
    rw [dk_any_iff]
    exact ⟨p, hp, by simp⟩
  induction k with
  | zero =>
    intro q hq
    show (p == q && !(D 1 (K q) == 2)) = (!(D 1 (K q) == 2) && (K q == K p && dk_is D K (K 12) (K p)))
    rw [ins, Bool.and_true, Bool.and_comm]
    congr 1
    apply dk_boolext
    simp only [beq_iff_eq]
    constructor
    · intro h; rw [h]
    · intro h; exact (hK.2.1.2 q p (by omega) (by omega) h).symm
  | succ k ih =>
    intro q hq
    simp only [dk_gr]
    rw [ih q hq]
    have er : (dk_le D K (K p) (k + 1)).2 (K q) = ((dk_le D K (K p) k).2 (K q) || (dk_le D K (K p) (k + 1)).1 (K q)) := rfl
    rw [er]
    cases hnj : (!(D 1 (K q) == 2))
    · simp
    · rw [Bool.true_and, Bool.true_and, Bool.and_true]
      cases hr : (dk_le D K (K p) k).2 (K q)
      · rw [Bool.false_or, Bool.false_or]
        apply dk_boolext
        constructor
        · intro h
          unfold dk_bp at h
          obtain ⟨r, hrl, h2⟩ := (dk_any_iff _ _).mp h
          rw [Bool.and_eq_true, ih r hrl, Bool.and_eq_true] at h2
          obtain ⟨⟨h3, h4⟩, h5⟩ := h2
          obtain ⟨m, m1, m2, m3⟩ := (dk_vl_ok (D 0 4) (dk_be (dk_A D) K (K 12)) (fun i => D 1 i == 2) (fun i => i == K p && dk_is D K (K 12) (K p)) k (K r)).2 h4
          have hrm : (dk_le D K (K p) m).2 (K q) = false := by
            cases hh : (dk_le D K (K p) m).2 (K q)
            · rfl
            · have := dk_lv_mono hh (k - m)
              rw [show m + (k - m) = k by omega] at this
              have hr' : (dk_lv (D 0 4) (dk_be (dk_A D) K (K 12)) (fun i => D 1 i == 2) (fun i => i == K p && dk_is D K (K 12) (K p)) k).2 (K q) = false := hr
              rw [hr'] at this
              exact absurd this (by decide)
          have en : (dk_le D K (K p) (m + 1)).1 (K q) = true := by
            rw [dk_le_next hK hq, hrm, Bool.not_false, Bool.and_true]
            unfold dk_bp
            rw [dk_any_iff]
            refine ⟨r, hrl, ?_⟩
            have m3' : (dk_le D K (K p) m).1 (K r) = true := m3
            dsimp only
            rw [m3', h3, h5]
            rfl
          rcases Nat.lt_or_ge m k with hmk | hmk
          · exfalso
            have := dk_lv_mono (dk_lv_er en) (k - (m + 1))
            rw [show m + 1 + (k - (m + 1)) = k by omega] at this
            have hr' : (dk_lv (D 0 4) (dk_be (dk_A D) K (K 12)) (fun i => D 1 i == 2) (fun i => i == K p && dk_is D K (K 12) (K p)) k).2 (K q) = false := hr
            rw [hr'] at this
            exact absurd this (by decide)
          · have : m = k := by omega
            rw [← this]; exact en
        · intro h
          rw [dk_le_next hK hq, Bool.and_eq_true] at h
          have h1 := h.1
          unfold dk_bp at h1 ⊢
          obtain ⟨r, hrl, h2⟩ := (dk_any_iff _ _).mp h1
          rw [dk_any_iff]
          refine ⟨r, hrl, ?_⟩
          dsimp only at h2 ⊢
          rw [Bool.and_eq_true, Bool.and_eq_true] at h2
          obtain ⟨⟨h3, h4⟩, h5⟩ := h2
          rw [Bool.and_eq_true, ih r hrl, Bool.and_eq_true]
          refine ⟨⟨?_, dk_lv_er h3⟩, h5⟩
          rw [Bool.or_eq_true] at h4
          rcases h4 with h4 | h4
          · exact h4
          · have e : K r = K p := by simpa using h4
            rw [e]
            simpa using hj
      · simp
/-- the people of the group of island i -/
def dk_pg (D : Nat → Nat → Nat) (K : Nat → Nat) (i : Nat) : Nat := dk_sum (fun j => if ((dk_le D K i 12).2 j && !(D 1 j == 2)) = true then D 4 j else 0) (D 0 4)
def dk_pf (D : Nat → Nat → Nat) (K : Nat → Nat) (i : Nat) : Nat := if D 1 i = 2 then 0 else dk_pg D K i
theorem dk_pg_out {D : Nat → Nat → Nat} {K : Nat → Nat} {i j : Nat} (hr : (dk_le D K i 12).2 j = true) : ∃ p, p < min (D 0 0 * D 0 1) (K 12) ∧ K p = j := by
  obtain ⟨m, m1, m2, m3⟩ := (dk_vl_ok (D 0 4) (dk_be (dk_A D) K (K 12)) (fun i => D 1 i == 2) (fun i' => i' == i && dk_is D K (K 12) i) 12 j).2 hr
  exact dk_le_in (i0 := i) (n := m) m3
theorem dk_pg_re {D : Nat → Nat → Nat} {K : Nat → Nat} {p : Nat} (hK : dk_okK D K) (hp : p < min (D 0 0 * D 0 1) (K 12)) : dk_sum (fun q => if dk_gr D K (min (D 0 0 * D 0 1) (K 12)) p 12 q = true then D 4 (K q) else 0) (min (D 0 0 * D 0 1) (K 12)) = dk_pf D K (K p) := by
  unfold dk_pf
  by_cases hj : D 1 (K p) = 2
  · rw [if_pos hj]
    apply dk_sum_zero
    intro q _
    rw [dk_gr_j hj]
    rfl
  · rw [if_neg hj]
    unfold dk_pg
    rw [dk_reix (g := fun j => if ((dk_le D K (K p) 12).2 j && !(D 1 j == 2)) = true then D 4 j else 0) (dk_inj_sub hK.2.1 (Nat.min_le_right _ _)) (fun j hj2 hno => by
      cases hr : (dk_le D K (K p) 12).2 j
      · rfl
      · obtain ⟨q, hq, e⟩ := dk_pg_out hr
        exact absurd e (hno q hq))]
    apply dk_sum_congr
    intro q hq
    rw [dk_gr_ok hK hp hj 12 q hq, Bool.and_comm]
theorem s_max (d x y : Nat) (z : ds_St) (hx : x < 2 ^ 31) (hy : y < 2 ^ 31) : ds_call (d + 1) j_Math_max [.int (nI x), .int (nI y)] z = some (some (.int (nI (if x < y then y else x))), z) := by
  rw [c_Math_max, b_Math_max_0]
  by_cases h : x < y
  · simp (disch := first | assumption | omega) only [ds_cI, ds_cV, ds_cL, ds_cR, ds_nn, ds_isK_t, ds_isA_t, ds_chk_t, ds_chkN, ds_nz_t, ds_nzN, ds_isB_t, ds_isB_bo, ↓dl_m1, ↓dl_m2, dl_0, dl_1, dl_2, dl_3, dl_4, dl_5, dl_6, dl_7, dl_8, dl_9, dl_10, dl_11, dl_12, dl_13, dl_14, dl_15, dl_16, dl_20, dl_24, dl_31, dl_50, dl_57, dl_67, dl_68, dl_74, dl_75, dl_79, dl_80, dl_99, dl_100, dl_200, dl_210, dl_224, dl_255, dl_289, dl_900, dl_1000, dl_1728, dl_65536, dl_65537, nI_add, pk_mul, pk_sub, pk_div, pk_rem, ds_rem2, nI_clamp, nI_leI, nI_ltI, nI_eq, ds_m1_eq, ds_eq_m1, ds_m2_eq, ds_eq_m2, ds_m1_le, ds_le_m1, ds_m1_lt, ds_lt_m1, ds_in_N, ds_bo0, ds_bo1, if_pos, if_neg, Nat.not_le, Nat.not_lt, not_true_eq_false, not_false_eq_true, if_true, if_false, ne_eq, Option.some.injEq, Prod.mk.injEq, Value.int.injEq, true_and, and_true, and_self, ite_self, Bool.not_eq_true, Bool.not_eq_false, Bool.true_eq_false, Bool.false_eq_true, reduceCtorEq, Nat.zero_add, Nat.reduceAdd, Nat.reduceMul, Nat.reduceSub, ds_setI_row, ds_setL_row, ds_rowI_self, ds_rowI_ne, ds_rowI_2, ds_rowI_rowI, ds_setS_1, ds_setS_21, ds_setS_self, ds_setS_ne, pk_us, pk_un, h]
  · simp (disch := first | assumption | omega) only [ds_cI, ds_cV, ds_cL, ds_cR, ds_nn, ds_isK_t, ds_isA_t, ds_chk_t, ds_chkN, ds_nz_t, ds_nzN, ds_isB_t, ds_isB_bo, ↓dl_m1, ↓dl_m2, dl_0, dl_1, dl_2, dl_3, dl_4, dl_5, dl_6, dl_7, dl_8, dl_9, dl_10, dl_11, dl_12, dl_13, dl_14, dl_15, dl_16, dl_20, dl_24, dl_31, dl_50, dl_57, dl_67, dl_68, dl_74, dl_75, dl_79, dl_80, dl_99, dl_100, dl_200, dl_210, dl_224, dl_255, dl_289, dl_900, dl_1000, dl_1728, dl_65536, dl_65537, nI_add, pk_mul, pk_sub, pk_div, pk_rem, ds_rem2, nI_clamp, nI_leI, nI_ltI, nI_eq, ds_m1_eq, ds_eq_m1, ds_m2_eq, ds_eq_m2, ds_m1_le, ds_le_m1, ds_m1_lt, ds_lt_m1, ds_in_N, ds_bo0, ds_bo1, if_pos, if_neg, Nat.not_le, Nat.not_lt, not_true_eq_false, not_false_eq_true, if_true, if_false, ne_eq, Option.some.injEq, Prod.mk.injEq, Value.int.injEq, true_and, and_true, and_self, ite_self, Bool.not_eq_true, Bool.not_eq_false, Bool.true_eq_false, Bool.false_eq_true, reduceCtorEq, Nat.zero_add, Nat.reduceAdd, Nat.reduceMul, Nat.reduceSub, ds_setI_row, ds_setL_row, ds_rowI_self, ds_rowI_ne, ds_rowI_2, ds_rowI_rowI, ds_setS_1, ds_setS_21, ds_setS_self, ds_setS_ne, pk_us, pk_un, h]
theorem dk_pf_lt {D : Nat → Nat → Nat} {K : Nat → Nat} (hD : dk_ok D) (i : Nat) : dk_pf D K i < 2 ^ 30 := by
  unfold dk_pf dk_pg
  split
  · decide
  · have h1 := dk_sum_le (f := fun j => if ((dk_le D K i 12).2 j && !(D 1 j == 2)) = true then D 4 j else 0) (b := 100) (n := D 0 4) (fun j hj => by
      have := (hD.2.2.2.2.2.2.2.2.1 j hj).2.2.2
      split <;> omega)
    have := hD.2.2.2.2.1.2
    omega
theorem dk_max_lt {f : Nat → Nat} {b : Nat} (hb : 0 < b) (h : ∀ k, f k < b) : ∀ n, dk_max f n < b := by
  intro n
  induction n with
  | zero => exact hb
  | succ n ih =>
    simp only [dk_max]
    have := h n
    split <;> omega
theorem k_crowd (d : Nat) (z : ds_St) (h : dk_Inv z) : ∃ v z1 z2, ds_call (d + 20) j_Sea_crowd [.ref 0] z = some (some v, z1) ∧ ds_call (d + 20) j_Mod_crowd [.ref 90] z1 = some (some v, z2) ∧ dk_Inv z2 := by
  apply dk_both h
  intro t D K hC hM hz
  have hs := s_hasSea (d + 18) t z D K hC hz
  rcases hz with ⟨hD, hK⟩ | ⟨h0, hc0, hp0⟩
  · have hn : 0 < D 0 4 := by have := hD.2.2.2.2.1.1; omega
    have n12 := hD.2.2.2.2.1.2
    have k12 := hK.1
    obtain ⟨z', s1, s2, s3, s4⟩ := s_chartOf (d + 15) t 61 (K 12) z D K hC.1 hC.2.1 hD (dk_HC_dk hC hK)
    have pfl := dk_pf_lt (K := K) hD
    have eM : dk_max (dk_pf D K) (D 0 4) = dk_max (fun p => dk_pf D K (K p)) (min (D 0 0 * D 0 1) (K 12)) := by
      apply dk_max_re (fun p hp => hK.2.1.1 p (by omega))
      intro i hi hno
      unfold dk_pf
      split
      · rfl
      · unfold dk_pg
        apply dk_sum_zero
        intro j hj
        have : (dk_le D K i 12).2 j = false := by
          cases hr : (dk_le D K i 12).2 j
          · rfl
          · exfalso
            have e0 : ∀ n, ∀ j, (dk_le D K i n).1 j = false ∧ (dk_le D K i n).2 j = false := by
              have ins : dk_is D K (K 12) i = false := by
                unfold dk_is
                rw [dk_any_f]
                intro p hp
                simpa using hno p hp
              intro n
              induction n with
              | zero =>
                intro j
                refine ⟨?_, ?_⟩
                · show (j == i && dk_is D K (K 12) i) = false
                  rw [ins, Bool.and_false]
                · show (j == i && dk_is D K (K 12) i) = false
                  rw [ins, Bool.and_false]
              | succ n ih =>
                intro j
                have ea : dk_nx2 (D 0 4) (dk_be (dk_A D) K (K 12)) (fun i => D 1 i == 2) n (dk_le D K i n).1 (D 0 4) j = false := by
                  unfold dk_nx2
                  rw [dk_any_f]
                  intro p hp
                  rw [(ih p).1]
                  rfl
                refine ⟨?_, ?_⟩
                · show (!((dk_le D K i n).2 j) && dk_nx2 (D 0 4) (dk_be (dk_A D) K (K 12)) (fun i => D 1 i == 2) n (dk_le D K i n).1 (D 0 4) j) = false
                  rw [ea, Bool.and_false]
                · show ((dk_le D K i n).2 j || (!((dk_le D K i n).2 j) && dk_nx2 (D 0 4) (dk_be (dk_A D) K (K 12)) (fun i => D 1 i == 2) n (dk_le D K i n).1 (D 0 4) j)) = false
                  rw [ea, (ih j).2]; rfl
            rw [(e0 12 j).2] at hr
            exact absurd hr (by decide)
        rw [this]
        rfl
    -- the class
    have cls : ds_call (d + 19) j_Chart_mostPeople [.ref 67] z' = some (some (.int (nI (dk_max (dk_pf D K) (D 0 4)))), z') := by
      have p1 := s_placesWithoutJokers (d + 14) t _ z' D K s4 hD s2
      have p2 := fun S => s_besidePlaces (d + 16) t _ S z' D K s4 hD s2
      have p3 := fun S => s_personsAt (d + 15) t _ S z' D K s4 hD s2
      have pg := fun p => dk_pg_re (p := p) hK
      have hl := s2.2.1
      rw [eM]
      generalize hL : min (D 0 0 * D 0 1) (K 12) = L at *
      have l12 : L ≤ 12 := by omega
      have up := ds_up (F := fun p => ds_Rw ds_c_Chart_mostPeople ds_u_Chart_mostPeople (ds_call (d + 18)) 9 [some (.ref 67), some (.int (nI ((ds_bs (fun p => !(D 1 (K p) == 2)) L)))), some (.int (nI ((dk_max (fun p => dk_pf D K (K p)) p)))), some (.int (nI p)), none, none] [] z') (n := L) 0 (by
        intro p _ hp
        rw [b_Chart_mostPeople_9]
        have up2 := ds_up (F := fun k => ds_Rw ds_c_Chart_mostPeople ds_u_Chart_mostPeople (ds_call (d + 18)) 27 [some (.ref 67), some (.int (nI ((ds_bs (fun p => !(D 1 (K p) == 2)) L)))), some (.int (nI ((dk_max (fun p => dk_pf D K (K p)) p)))), some (.int (nI p)), some (.int (nI ((ds_bs (dk_gr D K L p k) L)))), some (.int (nI k))] [] z') (n := 12) 0 (by
          intro k _ hk
          rw [b_Chart_mostPeople_27]
          have e : ds_bs (dk_gr D K L p (k + 1)) L = ds_bs (dk_gr D K L p k) L ||| (ds_bs (dk_bp D L (dk_gr D K L p k)) L &&& ds_bs (fun p => !(D 1 (K p) == 2)) L) := by
            rw [dk_bs_and, dk_bs_or]
            rfl
          rw [e]
          simp (disch := first | assumption | omega) only [ds_cI, ds_cV, ds_cL, ds_cR, ds_nn, ds_isK_t, ds_isA_t, ds_chk_t, ds_chkN, ds_nz_t, ds_nzN, ds_isB_t, ds_isB_bo, ↓dl_m1, ↓dl_m2, dl_0, dl_1, dl_2, dl_3, dl_4, dl_5, dl_6, dl_7, dl_8, dl_9, dl_10, dl_11, dl_12, dl_13, dl_14, dl_15, dl_16, dl_20, dl_24, dl_31, dl_50, dl_57, dl_67, dl_68, dl_74, dl_75, dl_79, dl_80, dl_99, dl_100, dl_200, dl_210, dl_224, dl_255, dl_289, dl_900, dl_1000, dl_1728, dl_65536, dl_65537, nI_add, pk_mul, pk_sub, pk_div, pk_rem, ds_rem2, nI_clamp, nI_leI, nI_ltI, nI_eq, ds_m1_eq, ds_eq_m1, ds_m2_eq, ds_eq_m2, ds_m1_le, ds_le_m1, ds_m1_lt, ds_lt_m1, ds_in_N, ds_bo0, ds_bo1, if_pos, if_neg, Nat.not_le, Nat.not_lt, not_true_eq_false, not_false_eq_true, if_true, if_false, ne_eq, Option.some.injEq, Prod.mk.injEq, Value.int.injEq, true_and, and_true, and_self, ite_self, Bool.not_eq_true, Bool.not_eq_false, Bool.true_eq_false, Bool.false_eq_true, reduceCtorEq, Nat.zero_add, Nat.reduceAdd, Nat.reduceMul, Nat.reduceSub, ds_setI_row, ds_setL_row, ds_rowI_self, ds_rowI_ne, ds_rowI_2, ds_rowI_rowI, ds_setS_1, ds_setS_21, ds_setS_self, ds_setS_ne, pk_us, pk_un, p2, ds_and, ds_or]) (by decide)
        have e0 : ds_bs (dk_gr D K L p 0) L = 2 ^ p &&& ds_bs (fun p => !(D 1 (K p) == 2)) L := by
          rw [← dk_bs_one hp, dk_bs_and]
          rfl
        try simp only at up2
        rw [e0] at up2
        have b1 := dk_max_lt (f := fun p => dk_pf D K (K p)) (b := 2 ^ 30) (by decide) (fun k => pfl _) p
        have b2 := pfl (K p)
        have pgp := pg p hp
        have p3' := p3 (dk_gr D K L p 12)
        rw [pgp] at p3'
        have mx := s_max (d + 17) (dk_max (fun p => dk_pf D K (K p)) p) (dk_pf D K (K p)) z' (by omega) (by omega)
        simp only [dk_max]
        simp (disch := first | assumption | omega) only [ds_cI, ds_cV, ds_cL, ds_cR, ds_nn, ds_isK_t, ds_isA_t, ds_chk_t, ds_chkN, ds_nz_t, ds_nzN, ds_isB_t, ds_isB_bo, ↓dl_m1, ↓dl_m2, dl_0, dl_1, dl_2, dl_3, dl_4, dl_5, dl_6, dl_7, dl_8, dl_9, dl_10, dl_11, dl_12, dl_13, dl_14, dl_15, dl_16, dl_20, dl_24, dl_31, dl_50, dl_57, dl_67, dl_68, dl_74, dl_75, dl_79, dl_80, dl_99, dl_100, dl_200, dl_210, dl_224, dl_255, dl_289, dl_900, dl_1000, dl_1728, dl_65536, dl_65537, nI_add, pk_mul, pk_sub, pk_div, pk_rem, ds_rem2, nI_clamp, nI_leI, nI_ltI, nI_eq, ds_m1_eq, ds_eq_m1, ds_m2_eq, ds_eq_m2, ds_m1_le, ds_le_m1, ds_m1_lt, ds_lt_m1, ds_in_N, ds_bo0, ds_bo1, if_pos, if_neg, Nat.not_le, Nat.not_lt, not_true_eq_false, not_false_eq_true, if_true, if_false, ne_eq, Option.some.injEq, Prod.mk.injEq, Value.int.injEq, true_and, and_true, and_self, ite_self, Bool.not_eq_true, Bool.not_eq_false, Bool.true_eq_false, Bool.false_eq_true, reduceCtorEq, Nat.zero_add, Nat.reduceAdd, Nat.reduceMul, Nat.reduceSub, ds_setI_row, ds_setL_row, ds_rowI_self, ds_rowI_ne, ds_rowI_2, ds_rowI_rowI, ds_setS_1, ds_setS_21, ds_setS_self, ds_setS_ne, pk_us, pk_un, hl, ds_pow]
        rw [ds_and, up2, b_Chart_mostPeople_27]
        generalize dk_max (fun p => dk_pf D K (K p)) p = A at *
        generalize dk_pf D K (K p) = B at *
        simp (disch := first | assumption | omega) only [ds_cI, ds_cV, ds_cL, ds_cR, ds_nn, ds_isK_t, ds_isA_t, ds_chk_t, ds_chkN, ds_nz_t, ds_nzN, ds_isB_t, ds_isB_bo, ↓dl_m1, ↓dl_m2, dl_0, dl_1, dl_2, dl_3, dl_4, dl_5, dl_6, dl_7, dl_8, dl_9, dl_10, dl_11, dl_12, dl_13, dl_14, dl_15, dl_16, dl_20, dl_24, dl_31, dl_50, dl_57, dl_67, dl_68, dl_74, dl_75, dl_79, dl_80, dl_99, dl_100, dl_200, dl_210, dl_224, dl_255, dl_289, dl_900, dl_1000, dl_1728, dl_65536, dl_65537, nI_add, pk_mul, pk_sub, pk_div, pk_rem, ds_rem2, nI_clamp, nI_leI, nI_ltI, nI_eq, ds_m1_eq, ds_eq_m1, ds_m2_eq, ds_eq_m2, ds_m1_le, ds_le_m1, ds_m1_lt, ds_lt_m1, ds_in_N, ds_bo0, ds_bo1, if_pos, if_neg, Nat.not_le, Nat.not_lt, not_true_eq_false, not_false_eq_true, if_true, if_false, ne_eq, Option.some.injEq, Prod.mk.injEq, Value.int.injEq, true_and, and_true, and_self, ite_self, Bool.not_eq_true, Bool.not_eq_false, Bool.true_eq_false, Bool.false_eq_true, reduceCtorEq, Nat.zero_add, Nat.reduceAdd, Nat.reduceMul, Nat.reduceSub, ds_setI_row, ds_setL_row, ds_rowI_self, ds_rowI_ne, ds_rowI_2, ds_rowI_rowI, ds_setS_1, ds_setS_21, ds_setS_self, ds_setS_ne, pk_us, pk_un, p3', mx]) (Nat.zero_le _)
      have e0 : dk_max (fun p => dk_pf D K (K p)) 0 = 0 := rfl
      try simp only at up
      rw [e0] at up
      rw [c_Chart_mostPeople, b_Chart_mostPeople_0]
      simp (disch := first | assumption | omega) only [ds_cI, ds_cV, ds_cL, ds_cR, ds_nn, ds_isK_t, ds_isA_t, ds_chk_t, ds_chkN, ds_nz_t, ds_nzN, ds_isB_t, ds_isB_bo, ↓dl_m1, ↓dl_m2, dl_0, dl_1, dl_2, dl_3, dl_4, dl_5, dl_6, dl_7, dl_8, dl_9, dl_10, dl_11, dl_12, dl_13, dl_14, dl_15, dl_16, dl_20, dl_24, dl_31, dl_50, dl_57, dl_67, dl_68, dl_74, dl_75, dl_79, dl_80, dl_99, dl_100, dl_200, dl_210, dl_224, dl_255, dl_289, dl_900, dl_1000, dl_1728, dl_65536, dl_65537, nI_add, pk_mul, pk_sub, pk_div, pk_rem, ds_rem2, nI_clamp, nI_leI, nI_ltI, nI_eq, ds_m1_eq, ds_eq_m1, ds_m2_eq, ds_eq_m2, ds_m1_le, ds_le_m1, ds_m1_lt, ds_lt_m1, ds_in_N, ds_bo0, ds_bo1, if_pos, if_neg, Nat.not_le, Nat.not_lt, not_true_eq_false, not_false_eq_true, if_true, if_false, ne_eq, Option.some.injEq, Prod.mk.injEq, Value.int.injEq, true_and, and_true, and_self, ite_self, Bool.not_eq_true, Bool.not_eq_false, Bool.true_eq_false, Bool.false_eq_true, reduceCtorEq, Nat.zero_add, Nat.reduceAdd, Nat.reduceMul, Nat.reduceSub, ds_setI_row, ds_setL_row, ds_rowI_self, ds_rowI_ne, ds_rowI_2, ds_rowI_rowI, ds_setS_1, ds_setS_21, ds_setS_self, ds_setS_ne, pk_us, pk_un, p1]
      rw [up, b_Chart_mostPeople_9]
      simp (disch := first | assumption | omega) only [ds_cI, ds_cV, ds_cL, ds_cR, ds_nn, ds_isK_t, ds_isA_t, ds_chk_t, ds_chkN, ds_nz_t, ds_nzN, ds_isB_t, ds_isB_bo, ↓dl_m1, ↓dl_m2, dl_0, dl_1, dl_2, dl_3, dl_4, dl_5, dl_6, dl_7, dl_8, dl_9, dl_10, dl_11, dl_12, dl_13, dl_14, dl_15, dl_16, dl_20, dl_24, dl_31, dl_50, dl_57, dl_67, dl_68, dl_74, dl_75, dl_79, dl_80, dl_99, dl_100, dl_200, dl_210, dl_224, dl_255, dl_289, dl_900, dl_1000, dl_1728, dl_65536, dl_65537, nI_add, pk_mul, pk_sub, pk_div, pk_rem, ds_rem2, nI_clamp, nI_leI, nI_ltI, nI_eq, ds_m1_eq, ds_eq_m1, ds_m2_eq, ds_eq_m2, ds_m1_le, ds_le_m1, ds_m1_lt, ds_lt_m1, ds_in_N, ds_bo0, ds_bo1, if_pos, if_neg, Nat.not_le, Nat.not_lt, not_true_eq_false, not_false_eq_true, if_true, if_false, ne_eq, Option.some.injEq, Prod.mk.injEq, Value.int.injEq, true_and, and_true, and_self, ite_self, Bool.not_eq_true, Bool.not_eq_false, Bool.true_eq_false, Bool.false_eq_true, reduceCtorEq, Nat.zero_add, Nat.reduceAdd, Nat.reduceMul, Nat.reduceSub, ds_setI_row, ds_setL_row, ds_rowI_self, ds_rowI_ne, ds_rowI_2, ds_rowI_rowI, ds_setS_1, ds_setS_21, ds_setS_self, ds_setS_ne, pk_us, pk_un, hl]
    have i67 : ds_K 67 = 1 := rfl
    refine ⟨.int (nI (dk_max (dk_pf D K) (D 0 4))), nI 0, ds_rowI z' 0 (upd (z'.1 0) 10 (nI 0)), ?_, dk_qC_row _ (dk_fr_mono s3 (by decide) (by decide)), fun z0 hM0 => ?_⟩
    · rw [c_Sea_crowd, b_Sea_crowd_0]
      simp (disch := first | assumption | omega) only [ds_cI, ds_cV, ds_cL, ds_cR, ds_nn, ds_isK_t, ds_isA_t, ds_chk_t, ds_chkN, ds_nz_t, ds_nzN, ds_isB_t, ds_isB_bo, ↓dl_m1, ↓dl_m2, dl_0, dl_1, dl_2, dl_3, dl_4, dl_5, dl_6, dl_7, dl_8, dl_9, dl_10, dl_11, dl_12, dl_13, dl_14, dl_15, dl_16, dl_20, dl_24, dl_31, dl_50, dl_57, dl_67, dl_68, dl_74, dl_75, dl_79, dl_80, dl_99, dl_100, dl_200, dl_210, dl_224, dl_255, dl_289, dl_900, dl_1000, dl_1728, dl_65536, dl_65537, nI_add, pk_mul, pk_sub, pk_div, pk_rem, ds_rem2, nI_clamp, nI_leI, nI_ltI, nI_eq, ds_m1_eq, ds_eq_m1, ds_m2_eq, ds_eq_m2, ds_m1_le, ds_le_m1, ds_m1_lt, ds_lt_m1, ds_in_N, ds_bo0, ds_bo1, if_pos, if_neg, Nat.not_le, Nat.not_lt, not_true_eq_false, not_false_eq_true, if_true, if_false, ne_eq, Option.some.injEq, Prod.mk.injEq, Value.int.injEq, true_and, and_true, and_self, ite_self, Bool.not_eq_true, Bool.not_eq_false, Bool.true_eq_false, Bool.false_eq_true, reduceCtorEq, Nat.zero_add, Nat.reduceAdd, Nat.reduceMul, Nat.reduceSub, ds_setI_row, ds_setL_row, ds_rowI_self, ds_rowI_ne, ds_rowI_2, ds_rowI_rowI, ds_setS_1, ds_setS_21, ds_setS_self, ds_setS_ne, pk_us, pk_un, hs, hn, decide_true, s1, cls, s_answer]
    · have hMg := dk_zg_HM hM0
      have hsg := hMg.2.1
      have oi := hD.2.2.2.2.2.2.2.2.1
      have go : ∀ m i y, i + m = D 0 4 → (∀ p, p ≠ 99 → y.1 p = (dk_zg z0).1 p) → y.2 = (dk_zg z0).2 → ∃ y', ds_Rw ds_c_Mod_crowd ds_u_Mod_crowd (ds_call (d + 19)) 21 [some (.ref 90), some (.int (nI ((dk_max (dk_pf D K) i)))), some (.int (nI i)), none, none] [] y = some (some (.int (nI (dk_max (dk_pf D K) (D 0 4)))), y') ∧ (∀ p, p ≠ 99 → y'.1 p = (dk_zg z0).1 p) ∧ y'.2 = (dk_zg z0).2 := by
        intro m
        induction m with
        | zero =>
          intro i y hi hf h2
          have : i = D 0 4 := by omega
          subst this
          have hMy : dk_HM y D K := dk_HM_q hMg (hf 93 (by decide)) (hf 95 (by decide)) (by rw [hf 90 (by decide)])
          have m4 := hMy.1.1.2.2.2.2.1
          refine ⟨y, ?_, hf, h2⟩
          rw [b_Mod_crowd_21]
          simp (disch := first | assumption | omega) only [ds_cI, ds_cV, ds_cL, ds_cR, ds_nn, ds_isK_t, ds_isA_t, ds_chk_t, ds_chkN, ds_nz_t, ds_nzN, ds_isB_t, ds_isB_bo, ↓dl_m1, ↓dl_m2, dl_0, dl_1, dl_2, dl_3, dl_4, dl_5, dl_6, dl_7, dl_8, dl_9, dl_10, dl_11, dl_12, dl_13, dl_14, dl_15, dl_16, dl_20, dl_24, dl_31, dl_50, dl_57, dl_67, dl_68, dl_74, dl_75, dl_79, dl_80, dl_99, dl_100, dl_200, dl_210, dl_224, dl_255, dl_289, dl_900, dl_1000, dl_1728, dl_65536, dl_65537, nI_add, pk_mul, pk_sub, pk_div, pk_rem, ds_rem2, nI_clamp, nI_leI, nI_ltI, nI_eq, ds_m1_eq, ds_eq_m1, ds_m2_eq, ds_eq_m2, ds_m1_le, ds_le_m1, ds_m1_lt, ds_lt_m1, ds_in_N, ds_bo0, ds_bo1, if_pos, if_neg, Nat.not_le, Nat.not_lt, not_true_eq_false, not_false_eq_true, if_true, if_false, ne_eq, Option.some.injEq, Prod.mk.injEq, Value.int.injEq, true_and, and_true, and_self, ite_self, Bool.not_eq_true, Bool.not_eq_false, Bool.true_eq_false, Bool.false_eq_true, reduceCtorEq, Nat.zero_add, Nat.reduceAdd, Nat.reduceMul, Nat.reduceSub, ds_setI_row, ds_setL_row, ds_rowI_self, ds_rowI_ne, ds_rowI_2, ds_rowI_rowI, ds_setS_1, ds_setS_21, ds_setS_self, ds_setS_ne, pk_us, pk_un, m4]
        | succ m ih =>
          intro i y hi hf h2
          have hMy : dk_HM y D K := dk_HM_q hMg (hf 93 (by decide)) (hf 95 (by decide)) (by rw [hf 90 (by decide)])
          have m4 := hMy.1.1.2.2.2.2.1
          have jk := s_mjoker (d + 17) i y D hMy.1 hD (by omega)
          rcases Bool.eq_false_or_eq_true (D 1 i == 2) with hj | hj
          · have hj' : D 1 i = 2 := by simpa using hj
            rw [hj] at jk
            obtain ⟨y', q1, q2, q3⟩ := ih (i + 1) y (by omega) hf h2
            refine ⟨y', ?_, q2, q3⟩
            have e : dk_max (dk_pf D K) (i + 1) = dk_max (dk_pf D K) i := by
              simp only [dk_max]
              have : dk_pf D K i = 0 := by unfold dk_pf; rw [if_pos hj']
              rw [this, if_neg (by omega)]
            rw [← q1, e, b_Mod_crowd_21]
            simp (disch := first | assumption | omega) only [ds_cI, ds_cV, ds_cL, ds_cR, ds_nn, ds_isK_t, ds_isA_t, ds_chk_t, ds_chkN, ds_nz_t, ds_nzN, ds_isB_t, ds_isB_bo, ↓dl_m1, ↓dl_m2, dl_0, dl_1, dl_2, dl_3, dl_4, dl_5, dl_6, dl_7, dl_8, dl_9, dl_10, dl_11, dl_12, dl_13, dl_14, dl_15, dl_16, dl_20, dl_24, dl_31, dl_50, dl_57, dl_67, dl_68, dl_74, dl_75, dl_79, dl_80, dl_99, dl_100, dl_200, dl_210, dl_224, dl_255, dl_289, dl_900, dl_1000, dl_1728, dl_65536, dl_65537, nI_add, pk_mul, pk_sub, pk_div, pk_rem, ds_rem2, nI_clamp, nI_leI, nI_ltI, nI_eq, ds_m1_eq, ds_eq_m1, ds_m2_eq, ds_eq_m2, ds_m1_le, ds_le_m1, ds_m1_lt, ds_lt_m1, ds_in_N, ds_bo0, ds_bo1, if_pos, if_neg, Nat.not_le, Nat.not_lt, not_true_eq_false, not_false_eq_true, if_true, if_false, ne_eq, Option.some.injEq, Prod.mk.injEq, Value.int.injEq, true_and, and_true, and_self, ite_self, Bool.not_eq_true, Bool.not_eq_false, Bool.true_eq_false, Bool.false_eq_true, reduceCtorEq, Nat.zero_add, Nat.reduceAdd, Nat.reduceMul, Nat.reduceSub, ds_setI_row, ds_setL_row, ds_rowI_self, ds_rowI_ne, ds_rowI_2, ds_rowI_rowI, ds_setS_1, ds_setS_21, ds_setS_self, ds_setS_ne, pk_us, pk_un, m4, jk]
          · have hj' : ¬ D 1 i = 2 := by simpa using hj
            rw [hj] at jk
            obtain ⟨y1, l1, l2, l3, l4⟩ := s_layBridges (d + 15) i y D K hMy hD hK (by omega)
            have hf1 : ∀ p, p ≠ 99 → y1.1 p = (dk_zg z0).1 p := fun p hp => (l3 p hp).trans (hf p hp)
            have hM1 : dk_HM y1 D K := dk_HM_q hMg (hf1 93 (by decide)) (hf1 95 (by decide)) (by rw [hf1 90 (by decide)])
            have m41 := hM1.1.1.2.2.2.2.1
            have jk1 := fun j => s_mjoker (d + 17) j y1 D hM1.1 hD
            have of := fun j w => s_of (d + 18) j w y1 D hM1.1 hD
            have up := ds_up (F := fun k => ds_Rw ds_c_Mod_crowd ds_u_Mod_crowd (ds_call (d + 19)) 52 [some (.ref 90), some (.int (nI ((dk_max (dk_pf D K) i)))), some (.int (nI i)), some (.int (nI ((dk_sum (fun j => if ((dk_le D K i 12).2 j && !(D 1 j == 2)) = true then D 4 j else 0) k)))), some (.int (nI k))] [] y1) (n := D 0 4) 0 (by
              intro k _ hk
              have vk := l2 k hk
              obtain ⟨v1, v2⟩ := dk_vl_ok (D 0 4) (dk_be (dk_A D) K (K 12)) (fun i => D 1 i == 2) (fun i' => i' == i && dk_is D K (K 12) i) 12 k
              have jkk := jk1 k hk
              have ofk := of k 3 hk (by decide)
              rw [b_Mod_crowd_52]
              simp only [dk_sum]
              have rfl1 : (dk_le D K i 12).2 k = (dk_lv (D 0 4) (dk_be (dk_A D) K (K 12)) (fun i => D 1 i == 2) (fun i' => i' == i && dk_is D K (K 12) i) 12).2 k := rfl
              rw [rfl1]
              cases hr : (dk_lv (D 0 4) (dk_be (dk_A D) K (K 12)) (fun i => D 1 i == 2) (fun i' => i' == i && dk_is D K (K 12) i) 12).2 k
              · rw [v1 hr] at vk
                simp (disch := first | assumption | omega) only [ds_cI, ds_cV, ds_cL, ds_cR, ds_nn, ds_isK_t, ds_isA_t, ds_chk_t, ds_chkN, ds_nz_t, ds_nzN, ds_isB_t, ds_isB_bo, ↓dl_m1, ↓dl_m2, dl_0, dl_1, dl_2, dl_3, dl_4, dl_5, dl_6, dl_7, dl_8, dl_9, dl_10, dl_11, dl_12, dl_13, dl_14, dl_15, dl_16, dl_20, dl_24, dl_31, dl_50, dl_57, dl_67, dl_68, dl_74, dl_75, dl_79, dl_80, dl_99, dl_100, dl_200, dl_210, dl_224, dl_255, dl_289, dl_900, dl_1000, dl_1728, dl_65536, dl_65537, nI_add, pk_mul, pk_sub, pk_div, pk_rem, ds_rem2, nI_clamp, nI_leI, nI_ltI, nI_eq, ds_m1_eq, ds_eq_m1, ds_m2_eq, ds_eq_m2, ds_m1_le, ds_le_m1, ds_m1_lt, ds_lt_m1, ds_in_N, ds_bo0, ds_bo1, if_pos, if_neg, Nat.not_le, Nat.not_lt, not_true_eq_false, not_false_eq_true, if_true, if_false, ne_eq, Option.some.injEq, Prod.mk.injEq, Value.int.injEq, true_and, and_true, and_self, ite_self, Bool.not_eq_true, Bool.not_eq_false, Bool.true_eq_false, Bool.false_eq_true, reduceCtorEq, Nat.zero_add, Nat.reduceAdd, Nat.reduceMul, Nat.reduceSub, ds_setI_row, ds_setL_row, ds_rowI_self, ds_rowI_ne, ds_rowI_2, ds_rowI_rowI, ds_setS_1, ds_setS_21, ds_setS_self, ds_setS_ne, pk_us, pk_un, m41, vk, show ds_m1 < nI 0 from by decide, Bool.false_and, Nat.add_zero]
              · obtain ⟨l, g1, g2, _⟩ := v2 hr
                rw [g2] at vk
                rcases Bool.eq_false_or_eq_true (D 1 k == 2) with hjk | hjk
                · rw [hjk] at jkk
                  simp (disch := first | assumption | omega) only [ds_cI, ds_cV, ds_cL, ds_cR, ds_nn, ds_isK_t, ds_isA_t, ds_chk_t, ds_chkN, ds_nz_t, ds_nzN, ds_isB_t, ds_isB_bo, ↓dl_m1, ↓dl_m2, dl_0, dl_1, dl_2, dl_3, dl_4, dl_5, dl_6, dl_7, dl_8, dl_9, dl_10, dl_11, dl_12, dl_13, dl_14, dl_15, dl_16, dl_20, dl_24, dl_31, dl_50, dl_57, dl_67, dl_68, dl_74, dl_75, dl_79, dl_80, dl_99, dl_100, dl_200, dl_210, dl_224, dl_255, dl_289, dl_900, dl_1000, dl_1728, dl_65536, dl_65537, nI_add, pk_mul, pk_sub, pk_div, pk_rem, ds_rem2, nI_clamp, nI_leI, nI_ltI, nI_eq, ds_m1_eq, ds_eq_m1, ds_m2_eq, ds_eq_m2, ds_m1_le, ds_le_m1, ds_m1_lt, ds_lt_m1, ds_in_N, ds_bo0, ds_bo1, if_pos, if_neg, Nat.not_le, Nat.not_lt, not_true_eq_false, not_false_eq_true, if_true, if_false, ne_eq, Option.some.injEq, Prod.mk.injEq, Value.int.injEq, true_and, and_true, and_self, ite_self, Bool.not_eq_true, Bool.not_eq_false, Bool.true_eq_false, Bool.false_eq_true, reduceCtorEq, Nat.zero_add, Nat.reduceAdd, Nat.reduceMul, Nat.reduceSub, ds_setI_row, ds_setL_row, ds_rowI_self, ds_rowI_ne, ds_rowI_2, ds_rowI_rowI, ds_setS_1, ds_setS_21, ds_setS_self, ds_setS_ne, pk_us, pk_un, m41, vk, jkk, hjk, Bool.true_and, Bool.not_true, Nat.add_zero]
                · rw [hjk] at jkk
                  simp (disch := first | assumption | omega) only [ds_cI, ds_cV, ds_cL, ds_cR, ds_nn, ds_isK_t, ds_isA_t, ds_chk_t, ds_chkN, ds_nz_t, ds_nzN, ds_isB_t, ds_isB_bo, ↓dl_m1, ↓dl_m2, dl_0, dl_1, dl_2, dl_3, dl_4, dl_5, dl_6, dl_7, dl_8, dl_9, dl_10, dl_11, dl_12, dl_13, dl_14, dl_15, dl_16, dl_20, dl_24, dl_31, dl_50, dl_57, dl_67, dl_68, dl_74, dl_75, dl_79, dl_80, dl_99, dl_100, dl_200, dl_210, dl_224, dl_255, dl_289, dl_900, dl_1000, dl_1728, dl_65536, dl_65537, nI_add, pk_mul, pk_sub, pk_div, pk_rem, ds_rem2, nI_clamp, nI_leI, nI_ltI, nI_eq, ds_m1_eq, ds_eq_m1, ds_m2_eq, ds_eq_m2, ds_m1_le, ds_le_m1, ds_m1_lt, ds_lt_m1, ds_in_N, ds_bo0, ds_bo1, if_pos, if_neg, Nat.not_le, Nat.not_lt, not_true_eq_false, not_false_eq_true, if_true, if_false, ne_eq, Option.some.injEq, Prod.mk.injEq, Value.int.injEq, true_and, and_true, and_self, ite_self, Bool.not_eq_true, Bool.not_eq_false, Bool.true_eq_false, Bool.false_eq_true, reduceCtorEq, Nat.zero_add, Nat.reduceAdd, Nat.reduceMul, Nat.reduceSub, ds_setI_row, ds_setL_row, ds_rowI_self, ds_rowI_ne, ds_rowI_2, ds_rowI_rowI, ds_setS_1, ds_setS_21, ds_setS_self, ds_setS_ne, pk_us, pk_un, m41, vk, jkk, hjk, Bool.true_and, Bool.not_false, ofk]) (Nat.zero_le _)
            have e0 : dk_sum (fun j => if ((dk_le D K i 12).2 j && !(D 1 j == 2)) = true then D 4 j else 0) 0 = 0 := rfl
            have eP : dk_sum (fun j => if ((dk_le D K i 12).2 j && !(D 1 j == 2)) = true then D 4 j else 0) (D 0 4) = dk_pf D K i := by unfold dk_pf; rw [if_neg hj']; rfl
            try simp only at up
            rw [e0, eP] at up
            obtain ⟨y', q1, q2, q3⟩ := ih (i + 1) y1 (by omega) hf1 (l4.trans h2)
            refine ⟨y', ?_, q2, q3⟩
            have b1 := dk_max_lt (f := dk_pf D K) (b := 2 ^ 30) (by decide) pfl i
            have b2 := pfl i
            rw [← q1, b_Mod_crowd_21]
            simp (disch := first | assumption | omega) only [ds_cI, ds_cV, ds_cL, ds_cR, ds_nn, ds_isK_t, ds_isA_t, ds_chk_t, ds_chkN, ds_nz_t, ds_nzN, ds_isB_t, ds_isB_bo, ↓dl_m1, ↓dl_m2, dl_0, dl_1, dl_2, dl_3, dl_4, dl_5, dl_6, dl_7, dl_8, dl_9, dl_10, dl_11, dl_12, dl_13, dl_14, dl_15, dl_16, dl_20, dl_24, dl_31, dl_50, dl_57, dl_67, dl_68, dl_74, dl_75, dl_79, dl_80, dl_99, dl_100, dl_200, dl_210, dl_224, dl_255, dl_289, dl_900, dl_1000, dl_1728, dl_65536, dl_65537, nI_add, pk_mul, pk_sub, pk_div, pk_rem, ds_rem2, nI_clamp, nI_leI, nI_ltI, nI_eq, ds_m1_eq, ds_eq_m1, ds_m2_eq, ds_eq_m2, ds_m1_le, ds_le_m1, ds_m1_lt, ds_lt_m1, ds_in_N, ds_bo0, ds_bo1, if_pos, if_neg, Nat.not_le, Nat.not_lt, not_true_eq_false, not_false_eq_true, if_true, if_false, ne_eq, Option.some.injEq, Prod.mk.injEq, Value.int.injEq, true_and, and_true, and_self, ite_self, Bool.not_eq_true, Bool.not_eq_false, Bool.true_eq_false, Bool.false_eq_true, reduceCtorEq, Nat.zero_add, Nat.reduceAdd, Nat.reduceMul, Nat.reduceSub, ds_setI_row, ds_setL_row, ds_rowI_self, ds_rowI_ne, ds_rowI_2, ds_rowI_rowI, ds_setS_1, ds_setS_21, ds_setS_self, ds_setS_ne, pk_us, pk_un, m4, jk, l1]
            rw [up, b_Mod_crowd_52]
            simp only [dk_max]
            generalize dk_max (dk_pf D K) i = A at *
            generalize dk_pf D K i = B at *
            by_cases hAB : A < B
            · simp (disch := first | assumption | omega) only [ds_cI, ds_cV, ds_cL, ds_cR, ds_nn, ds_isK_t, ds_isA_t, ds_chk_t, ds_chkN, ds_nz_t, ds_nzN, ds_isB_t, ds_isB_bo, ↓dl_m1, ↓dl_m2, dl_0, dl_1, dl_2, dl_3, dl_4, dl_5, dl_6, dl_7, dl_8, dl_9, dl_10, dl_11, dl_12, dl_13, dl_14, dl_15, dl_16, dl_20, dl_24, dl_31, dl_50, dl_57, dl_67, dl_68, dl_74, dl_75, dl_79, dl_80, dl_99, dl_100, dl_200, dl_210, dl_224, dl_255, dl_289, dl_900, dl_1000, dl_1728, dl_65536, dl_65537, nI_add, pk_mul, pk_sub, pk_div, pk_rem, ds_rem2, nI_clamp, nI_leI, nI_ltI, nI_eq, ds_m1_eq, ds_eq_m1, ds_m2_eq, ds_eq_m2, ds_m1_le, ds_le_m1, ds_m1_lt, ds_lt_m1, ds_in_N, ds_bo0, ds_bo1, if_pos, if_neg, Nat.not_le, Nat.not_lt, not_true_eq_false, not_false_eq_true, if_true, if_false, ne_eq, Option.some.injEq, Prod.mk.injEq, Value.int.injEq, true_and, and_true, and_self, ite_self, Bool.not_eq_true, Bool.not_eq_false, Bool.true_eq_false, Bool.false_eq_true, reduceCtorEq, Nat.zero_add, Nat.reduceAdd, Nat.reduceMul, Nat.reduceSub, ds_setI_row, ds_setL_row, ds_rowI_self, ds_rowI_ne, ds_rowI_2, ds_rowI_rowI, ds_setS_1, ds_setS_21, ds_setS_self, ds_setS_ne, pk_us, pk_un, m41, hAB]
            · simp (disch := first | assumption | omega) only [ds_cI, ds_cV, ds_cL, ds_cR, ds_nn, ds_isK_t, ds_isA_t, ds_chk_t, ds_chkN, ds_nz_t, ds_nzN, ds_isB_t, ds_isB_bo, ↓dl_m1, ↓dl_m2, dl_0, dl_1, dl_2, dl_3, dl_4, dl_5, dl_6, dl_7, dl_8, dl_9, dl_10, dl_11, dl_12, dl_13, dl_14, dl_15, dl_16, dl_20, dl_24, dl_31, dl_50, dl_57, dl_67, dl_68, dl_74, dl_75, dl_79, dl_80, dl_99, dl_100, dl_200, dl_210, dl_224, dl_255, dl_289, dl_900, dl_1000, dl_1728, dl_65536, dl_65537, nI_add, pk_mul, pk_sub, pk_div, pk_rem, ds_rem2, nI_clamp, nI_leI, nI_ltI, nI_eq, ds_m1_eq, ds_eq_m1, ds_m2_eq, ds_eq_m2, ds_m1_le, ds_le_m1, ds_m1_lt, ds_lt_m1, ds_in_N, ds_bo0, ds_bo1, if_pos, if_neg, Nat.not_le, Nat.not_lt, not_true_eq_false, not_false_eq_true, if_true, if_false, ne_eq, Option.some.injEq, Prod.mk.injEq, Value.int.injEq, true_and, and_true, and_self, ite_self, Bool.not_eq_true, Bool.not_eq_false, Bool.true_eq_false, Bool.false_eq_true, reduceCtorEq, Nat.zero_add, Nat.reduceAdd, Nat.reduceMul, Nat.reduceSub, ds_setI_row, ds_setL_row, ds_rowI_self, ds_rowI_ne, ds_rowI_2, ds_rowI_rowI, ds_setS_1, ds_setS_21, ds_setS_self, ds_setS_ne, pk_us, pk_un, m41, hAB]
      obtain ⟨y', q1, q2, q3⟩ := go (D 0 4) 0 (dk_zg z0) (by omega) (fun p _ => rfl) rfl
      refine ⟨y', ?_, dk_qM_ok ⟨fun p a b => q2 p (by omega), fun k a => by rw [q2 90 (by decide)], fun k a => by rw [q3]⟩⟩
      have q1' : ds_Rw ds_c_Mod_crowd ds_u_Mod_crowd (ds_call (d + 19)) 21 [some (.ref 90), some (.int (nI 0)), some (.int (nI 0)), none, none] [] (dk_zg z0) = some (some (.int (nI (dk_max (dk_pf D K) (D 0 4)))), y') := q1
      rw [c_Mod_crowd, b_Mod_crowd_0]
      simp (disch := first | assumption | omega) only [ds_cI, ds_cV, ds_cL, ds_cR, ds_nn, ds_isK_t, ds_isA_t, ds_chk_t, ds_chkN, ds_nz_t, ds_nzN, ds_isB_t, ds_isB_bo, ↓dl_m1, ↓dl_m2, dl_0, dl_1, dl_2, dl_3, dl_4, dl_5, dl_6, dl_7, dl_8, dl_9, dl_10, dl_11, dl_12, dl_13, dl_14, dl_15, dl_16, dl_20, dl_24, dl_31, dl_50, dl_57, dl_67, dl_68, dl_74, dl_75, dl_79, dl_80, dl_99, dl_100, dl_200, dl_210, dl_224, dl_255, dl_289, dl_900, dl_1000, dl_1728, dl_65536, dl_65537, nI_add, pk_mul, pk_sub, pk_div, pk_rem, ds_rem2, nI_clamp, nI_leI, nI_ltI, nI_eq, ds_m1_eq, ds_eq_m1, ds_m2_eq, ds_eq_m2, ds_m1_le, ds_le_m1, ds_m1_lt, ds_lt_m1, ds_in_N, ds_bo0, ds_bo1, if_pos, if_neg, Nat.not_le, Nat.not_lt, not_true_eq_false, not_false_eq_true, if_true, if_false, ne_eq, Option.some.injEq, Prod.mk.injEq, Value.int.injEq, true_and, and_true, and_self, ite_self, Bool.not_eq_true, Bool.not_eq_false, Bool.true_eq_false, Bool.false_eq_true, reduceCtorEq, Nat.zero_add, Nat.reduceAdd, Nat.reduceMul, Nat.reduceSub, ds_setI_row, ds_setL_row, ds_rowI_self, ds_rowI_ne, ds_rowI_2, ds_rowI_rowI, ds_setS_1, ds_setS_21, ds_setS_self, ds_setS_ne, pk_us, pk_un, s_good, hsg, hn, decide_true, q1']
  · have h4 := h0 4 (by decide)
    refine ⟨.int ds_m1, nI 1, ds_rowI z 0 (upd (z.1 0) 10 (nI 1)), ?_, dk_qC_no z _, fun z0 hM0 => ⟨ds_rowI (dk_zg z0) 90 (upd ((dk_zg z0).1 90) 11 (nI 1)), ?_, dk_qM_no z0 _⟩⟩
    · rw [c_Sea_crowd, b_Sea_crowd_0]
      simp (disch := first | assumption | omega | rfl | decide) only [ds_cI, ds_cV, ds_cL, ds_cR, ds_nn, ds_isK_t, ds_isA_t, ds_chk_t, ds_chkN, ds_nz_t, ds_nzN, ds_isB_t, ds_isB_bo, ↓dl_m1, ↓dl_m2, dl_0, dl_1, dl_2, dl_3, dl_4, dl_5, dl_6, dl_7, dl_8, dl_9, dl_10, dl_11, dl_12, dl_13, dl_14, dl_15, dl_16, dl_20, dl_24, dl_31, dl_50, dl_57, dl_67, dl_68, dl_74, dl_75, dl_79, dl_80, dl_99, dl_100, dl_200, dl_210, dl_224, dl_255, dl_289, dl_900, dl_1000, dl_1728, dl_65536, dl_65537, nI_add, pk_mul, pk_sub, pk_div, pk_rem, ds_rem2, nI_clamp, nI_leI, nI_ltI, nI_eq, ds_m1_eq, ds_eq_m1, ds_m2_eq, ds_eq_m2, ds_m1_le, ds_le_m1, ds_m1_lt, ds_lt_m1, ds_in_N, ds_bo0, ds_bo1, if_pos, if_neg, Nat.not_le, Nat.not_lt, not_true_eq_false, not_false_eq_true, if_true, if_false, ne_eq, Option.some.injEq, Prod.mk.injEq, Value.int.injEq, true_and, and_true, and_self, ite_self, Bool.not_eq_true, Bool.not_eq_false, Bool.true_eq_false, Bool.false_eq_true, reduceCtorEq, Nat.zero_add, Nat.reduceAdd, Nat.reduceMul, Nat.reduceSub, ds_setI_row, ds_setL_row, ds_rowI_self, ds_rowI_ne, ds_rowI_2, ds_rowI_rowI, ds_setS_1, ds_setS_21, ds_setS_self, ds_setS_ne, pk_us, pk_un, s_refuse, hs, h4, Nat.lt_irrefl, decide_false]
    · have hMg := dk_zg_HM hM0
      have hsg := hMg.2.1
      rw [c_Mod_crowd, b_Mod_crowd_0]
      simp (disch := first | assumption | omega | rfl | decide) only [ds_cI, ds_cV, ds_cL, ds_cR, ds_nn, ds_isK_t, ds_isA_t, ds_chk_t, ds_chkN, ds_nz_t, ds_nzN, ds_isB_t, ds_isB_bo, ↓dl_m1, ↓dl_m2, dl_0, dl_1, dl_2, dl_3, dl_4, dl_5, dl_6, dl_7, dl_8, dl_9, dl_10, dl_11, dl_12, dl_13, dl_14, dl_15, dl_16, dl_20, dl_24, dl_31, dl_50, dl_57, dl_67, dl_68, dl_74, dl_75, dl_79, dl_80, dl_99, dl_100, dl_200, dl_210, dl_224, dl_255, dl_289, dl_900, dl_1000, dl_1728, dl_65536, dl_65537, nI_add, pk_mul, pk_sub, pk_div, pk_rem, ds_rem2, nI_clamp, nI_leI, nI_ltI, nI_eq, ds_m1_eq, ds_eq_m1, ds_m2_eq, ds_eq_m2, ds_m1_le, ds_le_m1, ds_m1_lt, ds_lt_m1, ds_in_N, ds_bo0, ds_bo1, if_pos, if_neg, Nat.not_le, Nat.not_lt, not_true_eq_false, not_false_eq_true, if_true, if_false, ne_eq, Option.some.injEq, Prod.mk.injEq, Value.int.injEq, true_and, and_true, and_self, ite_self, Bool.not_eq_true, Bool.not_eq_false, Bool.true_eq_false, Bool.false_eq_true, reduceCtorEq, Nat.zero_add, Nat.reduceAdd, Nat.reduceMul, Nat.reduceSub, ds_setI_row, ds_setL_row, ds_rowI_self, ds_rowI_ne, ds_rowI_2, ds_rowI_rowI, ds_setS_1, ds_setS_21, ds_setS_self, ds_setS_ne, pk_us, pk_un, s_good, s_no, hsg, h4, Nat.lt_irrefl, decide_false]
