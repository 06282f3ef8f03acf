/-! both searches end alike -/
def dk_oC (f : Bool) (L : Nat) (mv : Nat → Nat) (z : ds_St) : Prop := ∀ d, (f = false → ds_call (d + 3) j_Search_length [.ref 70] z = some (some (.int ds_m2), z)) ∧ (f = true → ds_call (d + 3) j_Search_length [.ref 70] z = some (some (.int (nI L)), z) ∧ ∀ k, k < L → ds_call (d + 3) j_Search_moveOf [.ref 70, .int (nI k)] z = some (some (.int (nI (mv k))), z))
def dk_oM (f : Bool) (L : Nat) (mv : Nat → Nat) (z : ds_St) : Prop := ∀ d, f = true → ds_call (d + 2) j_Mod_wayLong [.ref 90] z = some (some (.int (nI L)), z) ∧ ∀ k, k < L → ds_call (d + 2) j_Mod_moveOfWay [.ref 90, .int (nI k)] z = some (some (.int (nI (mv k))), z)
theorem dk_srch (d e c st kd kk : Nat) (V : Nat → Prop) (N : Nat → Nat → Nat) (G : Nat → Bool) (Pz Pm : ds_St → Prop) (hPz : ∀ z z', Pz z → dk_s3 z z' → Pz z') (hPm : ∀ z z', Pm z → dk_m3 z z' → Pm z') (h5 : ∀ z, Pz z → z.1 70 5 = nI c) (c2 : 2 ≤ c) (c12 : c ≤ 12) (h0 : V st) (hV : ∀ s, V s → s < 1728) (hN : ∀ s m, V s → m < c + 2 → V (N s m)) (hsb : ∀ z s m, Pz z → V s → m < c + 2 → ds_call (d + 4) j_Search_stateBehind [.ref 70, .int (nI s), .int (nI m)] z = some (some (.int (nI (N s m))), z)) (hgo : ∀ z s, Pz z → V s → ds_call (d + 5) j_Search_isGoal [.ref 70, .int (nI s)] z = some (some (.int (ds_bo (G s))), z)) (cb : Bool) (hcb : ∀ z, Pz z → ds_call (d + 5) j_Search_canBe [.ref 70] z = some (some (.int (ds_bo cb)), z)) (hcf : cb = false → ∀ s, V s → G s = false) (hmm : ∀ z, Pm z → ds_call (e + 5) j_Mod_movesOf [.ref 90, .ref 95] z = some (some (.int (nI (c + 2))), z)) (hmv : ∀ z s m, Pm z → V s → m < c + 2 → ds_call (e + 5) j_Mod_moved [.ref 90, .int (nI s), .int (nI m)] z = some (some (.int (nI (N s m))), z)) (hmg : ∀ z s, Pm z → V s → ds_call (e + 5) j_Mod_isGoal [.ref 90, .int (nI s)] z = some (some (.int (ds_bo (G s))), z)) : ∃ f L mv, L < 1728 ∧ (∀ z, Pz (ds_rowI z 70 (upd (upd (z.1 70) 5 (nI c)) 7 ds_m1)) → ∃ z', ds_call (d + 6) j_Search_seek [.ref 70, .int (nI st), .int (nI c)] z = some (none, z') ∧ dk_fr 70 75 z z' ∧ dk_oC f L mv z') ∧ (∀ z, Pm (ds_rowI z 90 (upd (upd (z.1 90) 36 (nI kd)) 39 (nI kk))) → ∃ z', ds_call (e + 6) j_Mod_seek [.ref 90, .int (nI st), .int (nI kd), .int (nI kk)] z = some (some (.int (ds_bo f)), z') ∧ dk_m3 (ds_rowI z 90 (upd (upd (z.1 90) 36 (nI kd)) 39 (nI kk))) z' ∧ dk_oM f L mv z') := by
  obtain ⟨T, hT⟩ := dk_ends (M := c + 2) (N := N) G h0 hN hV
  have cs := s_cseek d c st T V N G Pz hPz h5 c2 c12 h0 hV hN hsb hgo cb hcb hcf hT
  rcases hT with hT | hT
  · obtain ⟨L, hL⟩ := dk_Ln_W (dk_bf_W (M := c + 2) h0 hN T) hV hT.2.1
    refine ⟨true, L, fun k => (dk_bf N (c + 2) st T).2.2.1 (dk_bk (dk_bf N (c + 2) st T).2.1 (L - 1 - k) ((dk_bf N (c + 2) st T).1 T)), hL.2.2.2, fun z hz => ?_, fun z hz => ?_⟩
    · obtain ⟨z', w1, w2, w3⟩ := cs z hz
      refine ⟨z', w1, w2, fun u => ⟨fun q => absurd q (by decide), fun _ => ?_⟩⟩
      rcases w3 with ⟨_, g1, g2⟩ | ⟨g0, _⟩
      · have Y := dk_bf_Y (N := N) (st := st) (show c + 2 ≤ 14 by omega) T
        exact ⟨s_clen (u + 1) _ L z' _ g2 Y hL g1, fun k hk => s_cmove u _ L k z' _ g2 Y hL g1 hk⟩
      · have a := hT.2.1
        have b := g0.2
        omega
    · obtain ⟨z', w1, w2, w3⟩ := s_mseek e c st T kd kk V N G Pm hPm c2 c12 h0 hV hN hmm hmv hmg true ⟨hT.1, .inl ⟨rfl, hT.2.1, hT.2.2⟩⟩ z hz
      refine ⟨z', w1, w2, fun u _ => ⟨(s_mway (u + 1) st T (c + 2) L V N z' hV (w3 rfl) hL).1, (s_mway u st T (c + 2) L V N z' hV (w3 rfl) hL).2⟩⟩
  · refine ⟨false, 0, fun _ => 0, by decide, fun z hz => ?_, fun z hz => ?_⟩
    · obtain ⟨z', w1, w2, w3⟩ := cs z hz
      refine ⟨z', w1, w2, fun u => ⟨fun _ => ?_, fun q => absurd q (by decide)⟩⟩
      rcases w3 with ⟨g0, _⟩ | ⟨_, g1⟩
      · have a := g0.2.1
        have b := hT.2
        omega
      · exact s_clen0 (u + 2) z' g1
    · obtain ⟨z', w1, w2, w3⟩ := s_mseek e c st T kd kk V N G Pm hPm c2 c12 h0 hV hN hmm hmv hmg false ⟨hT.1, .inr ⟨rfl, hT.2⟩⟩ z hz
      exact ⟨z', w1, w2, fun u q => absurd q (by decide)⟩
theorem dk_m3_fm {z z' : ds_St} (h : dk_m3 z z') : dk_fm z z' := ⟨fun p a b => h.1 p (by omega) (by omega) (by omega) b, fun k a => h.2.1 k (by omega), fun j a => by rw [h.2.2]⟩
theorem dk_fm_36 (z : ds_St) (a b : Int32) : dk_fm z (ds_rowI z 90 (upd (upd (z.1 90) 36 a) 39 b)) := ⟨fun q a b => by rw [ds_rowI_ne _ _ b], fun j a => by rw [ds_rowI_self, pk_un (by omega), pk_un (by omega)], fun j a => rfl⟩
theorem dk_Pm_of {kd kk pl : Nat} {D : Nat → Nat → Nat} {K : Nat → Nat} {z : ds_St} (h : dk_HM z D K) (h37 : kd = 0 → z.1 90 37 = nI pl) : dk_Pm kd kk pl D K (ds_rowI z 90 (upd (upd (z.1 90) 36 (nI kd)) 39 (nI kk))) := by
  refine ⟨dk_HM_fm h (dk_fm_36 z _ _), ?_, ?_, fun q => ?_⟩
  · rw [ds_rowI_self, pk_un (by decide), pk_us]
  · rw [ds_rowI_self, pk_us]
  · rw [ds_rowI_self, pk_un (by decide), pk_un (by decide)]
    exact h37 q
theorem dk_tC_row {z : ds_St} {t : Nat} {D : Nat → Nat → Nat} (f : Nat → Int32) (h : dk_tC z t D) : dk_tC (ds_rowI z 70 f) t D := dk_tC_eq h (fun p _ h2 => ds_rowI_ne _ _ (by omega))
theorem dk_s1 (d t p pl : Nat) (z : ds_St) (D : Nat → Nat → Nat) (K : Nat → Nat) (hC : dk_HC z t D K) (hD : dk_ok D) (hK : dk_okK D K) (hp : p < K 12) (hpl : pl < K 12) : ∃ f L mv, L < 1728 ∧ (∃ z', ds_call (d + 7) j_Search_bringTo [.ref 70, .int (nI pl), .int (nI p), .int (nI (K 12))] z = some (none, z') ∧ dk_fr 70 75 z z' ∧ dk_oC f L mv z') ∧ (∀ z0, dk_HM z0 D K → ∃ z2, ds_call (d + 7) j_Mod_seekPlace [.ref 90, .int (nI (K p)), .int (nI pl)] z0 = some (some (.int (ds_bo f)), z2) ∧ dk_fm z0 z2 ∧ dk_oM f L mv z2) := by
  obtain ⟨k2, c12, _, _⟩ := dk_mo_K hD hK
  have n12 := hD.2.2.2.2.1.2
  obtain ⟨f, L, mv, hL, hc, hm⟩ := dk_srch d d (K 12) p 0 1 (dk_V1 (K 12)) (dk_N1 (K 12)) (dk_G1 pl) (dk_Pz 1 (K 12) pl t D) (dk_Pm 0 1 pl D K) dk_Pz_s3 dk_Pm_m3 (fun z h => h.2.1) k2 c12 hp (dk_V1_lt c12) (dk_V1_N c12) (s_sb1 (d + 1) (K 12) pl t D c12) (s_go1 (d + 2) (K 12) pl t D c12 hpl) true (s_cb1 (d + 4) (K 12) pl t D k2 c12) (fun h => absurd h (by decide)) (s_mmm (d + 4) 0 1 pl D K hK) (s_mv1 (d + 3) pl D K hK) (s_mg1 (d + 2) pl D K hK hpl)
  refine ⟨f, L, mv, hL, ?_, fun z0 hM0 => ?_⟩
  · let z1 := ds_rowI z 70 (upd (upd (z.1 70) 4 (nI 1)) 6 (nI pl))
    have z1e : ds_setI (ds_setI z 70 4 (nI 1)) 70 6 (nI pl) = z1 := by
      rw [ds_setI_row, ds_setI_row, ds_rowI_self, ds_rowI_rowI]
    have f1 : dk_fr 70 75 z z1 := dk_fr_row _ (dk_fr_refl _ _ _) (by decide) (by decide)
    have hP1 : dk_Pz 1 (K 12) pl t D (ds_rowI z1 70 (upd (upd (z1.1 70) 5 (nI (K 12))) 7 ds_m1)) := by
      have e : ∀ k, z1.1 70 k = upd (upd (z.1 70) 4 (nI 1)) 6 (nI pl) k := fun k => by
        show (ds_rowI z 70 _).1 70 k = _
        rw [ds_rowI_self]
      refine ⟨?_, ?_, fun _ => ?_, fun q => absurd rfl q, dk_tC_row _ (dk_tC_row _ hC.2.1)⟩
      · rw [ds_rowI_self, pk_un (by decide), pk_un (by decide), e, pk_un (by decide), pk_us]
      · rw [ds_rowI_self, pk_un (by decide), pk_us]
      · rw [ds_rowI_self, pk_un (by decide), pk_un (by decide), e, pk_us]
    clear_value z1
    obtain ⟨z', w1, w2, w3⟩ := hc z1 hP1
    refine ⟨z', ?_, dk_fr_trans f1 w2, w3⟩
    rw [c_Search_bringTo, b_Search_bringTo_0]
    simp only [dl_1, z1e]
    rw [ds_cV_t w1]
    rfl
  · let y1 := ds_rowI z0 90 (upd (z0.1 90) 37 (nI pl))
    have y1e : ds_setI z0 90 37 (nI pl) = y1 := ds_setI_row _ _ _ _
    have f1 : dk_fm z0 y1 := dk_fm_fld _ (dk_fm_refl z0) (by decide)
    have e37 : y1.1 90 37 = nI pl := by
      show (ds_rowI z0 90 _).1 90 37 = _
      rw [ds_rowI_self, pk_us]
    clear_value y1
    have hM1 := dk_HM_fm hM0 f1
    have pi := s_placeIn_y (d + 5) 95 (K 12) (D 0 4) p y1 K (dk_HM_dm hM1 hK) n12 hp
    have so := s_stateOf (d + 5) p 0 0 y1
    rw [show p + 12 * 0 + 144 * 0 = p by omega] at so
    obtain ⟨z2, w1, w2, w3⟩ := hm y1 (dk_Pm_of hM1 (fun _ => e37))
    refine ⟨z2, ?_, dk_fm_trans f1 (dk_fm_trans (dk_fm_36 y1 _ _) (dk_m3_fm w2)), w3⟩
    rw [c_Mod_seekPlace, b_Mod_seekPlace_0, y1e]
    simp (disch := first | assumption | omega) only [ds_cI, ds_cV, ds_cL, ds_cR, ds_nn, ds_isK_t, ds_isA_t, ds_chk_t, ds_chkN, ds_nz_t, ds_nzN, ds_isB_t, ds_isB_bo, ↓dl_m1, ↓dl_m2, dl_0, dl_1, dl_2, dl_3, dl_4, dl_5, dl_6, dl_7, dl_8, dl_9, dl_10, dl_11, dl_12, dl_13, dl_14, dl_15, dl_16, dl_20, dl_24, dl_31, dl_50, dl_57, dl_67, dl_68, dl_74, dl_75, dl_79, dl_80, dl_99, dl_100, dl_200, dl_210, dl_224, dl_255, dl_289, dl_900, dl_1000, dl_1728, dl_65536, dl_65537, nI_add, pk_mul, pk_sub, pk_div, pk_rem, ds_rem2, nI_clamp, nI_leI, nI_ltI, nI_eq, ds_m1_eq, ds_eq_m1, ds_m2_eq, ds_eq_m2, ds_m1_le, ds_le_m1, ds_m1_lt, ds_lt_m1, ds_in_N, ds_bo0, ds_bo1, if_pos, if_neg, Nat.not_le, Nat.not_lt, not_true_eq_false, not_false_eq_true, if_true, if_false, ne_eq, Option.some.injEq, Prod.mk.injEq, Value.int.injEq, true_and, and_true, and_self, ite_self, Bool.not_eq_true, Bool.not_eq_false, Bool.true_eq_false, Bool.false_eq_true, reduceCtorEq, Nat.zero_add, Nat.reduceAdd, Nat.reduceMul, Nat.reduceSub, ds_setI_row, ds_setL_row, ds_rowI_self, ds_rowI_ne, ds_rowI_2, ds_rowI_rowI, ds_setS_1, ds_setS_21, ds_setS_self, ds_setS_ne, pk_us, pk_un, pi, so, w1]
theorem dk_s2 (d t p q : Nat) (z : ds_St) (D : Nat → Nat → Nat) (K : Nat → Nat) (hC : dk_HC z t D K) (hD : dk_ok D) (hK : dk_okK D K) (hp : p < K 12) (hq : q < K 12) (hpq : p ≠ q) : ∃ f L mv, L < 1728 ∧ (∃ z', ds_call (d + 7) j_Search_bringTogether [.ref 70, .ref t, .int (nI p), .int (nI q), .int (nI (K 12))] z = some (none, z') ∧ dk_fr 70 75 z z' ∧ dk_oC f L mv z') ∧ (∀ z0, dk_HM z0 D K → ∃ z2, ds_call (d + 7) j_Mod_seekTwo [.ref 90, .int (nI (K p)), .int (nI (K q))] z0 = some (some (.int (ds_bo f)), z2) ∧ dk_fm z0 z2 ∧ dk_oM f L mv z2) := by
  obtain ⟨k2, c12, _, _⟩ := dk_mo_K hD hK
  have n12 := hD.2.2.2.2.1.2
  have ht := hC.2.1.1
  have hKt := ds_Kt ht
  have hKn := ds_Kti (i := 10) ht (by decide) (by decide)
  obtain ⟨f, L, mv, hL, hc, hm⟩ := dk_srch d d (K 12) (p + 12 * q) 1 2 (dk_V2 (K 12)) (dk_N2 (K 12)) (dk_G2 D) (dk_Pz 2 (K 12) 0 t D) (dk_Pm 1 2 0 D K) dk_Pz_s3 dk_Pm_m3 (fun z h => h.2.1) k2 c12 ⟨p, q, hp, hq, hpq, rfl⟩ (dk_V2_lt c12) (dk_V2_N c12) (s_sb2 (d + 1) (K 12) 0 t D c12) (s_go2 (d + 2) (K 12) 0 t D c12) (dk_cbe D 2 (K 12)) (s_cb (d + 3) 2 (K 12) 0 t D (by decide) (by decide) c12) (dk_cf2 c12) (s_mmm (d + 4) 1 2 0 D K hK) (s_mv2 (d + 3) 0 D K hK) (s_mg2 (d + 2) 0 D K hD hK)
  refine ⟨f, L, mv, hL, ?_, fun z0 hM0 => ?_⟩
  · let z1 := ds_setS (ds_rowI z 70 (upd (z.1 70) 4 (nI 2))) 3 (t + 10)
    have f1 : dk_fr 70 75 z z1 := dk_fr_setS (dk_fr_row _ (dk_fr_refl _ _ _) (by decide) (by decide)) (by decide)
    have hP1 : dk_Pz 2 (K 12) 0 t D (ds_rowI z1 70 (upd (upd (z1.1 70) 5 (nI (K 12))) 7 ds_m1)) := by
      have e : ∀ k, z1.1 70 k = upd (z.1 70) 4 (nI 2) k := fun k => by
        show (ds_rowI z 70 (upd (z.1 70) 4 (nI 2))).1 70 k = upd (z.1 70) 4 (nI 2) k
        rw [ds_rowI_self]
      refine ⟨?_, ?_, fun q => absurd q (by decide), fun _ => ?_, ?_⟩
      · rw [ds_rowI_self, pk_un (by decide), pk_un (by decide), e, pk_us]
      · rw [ds_rowI_self, pk_un (by decide), pk_us]
      · exact ds_setS_self _ _ _
      · exact dk_tC_eq hC.2.1 (fun p _ h2 => by
          rw [ds_rowI_ne _ _ (by omega)]
          show (ds_rowI z 70 _).1 p = _
          rw [ds_rowI_ne _ _ (by omega)])
    have z1d : ds_setS (ds_rowI z 70 (upd (z.1 70) 4 (nI 2))) 3 (t + 10) = z1 := rfl
    clear_value z1
    obtain ⟨z', w1, w2, w3⟩ := hc z1 hP1
    refine ⟨z', ?_, dk_fr_trans f1 w2, w3⟩
    rw [c_Search_bringTogether, b_Search_bringTogether_0]
    simp (disch := first | assumption | omega) only [ds_cI, ds_cV, ds_cL, ds_cR, ds_nn, ds_isK_t, ds_isA_t, ds_chk_t, ds_chkN, ds_nz_t, ds_nzN, ds_isB_t, ds_isB_bo, ↓dl_m1, ↓dl_m2, dl_0, dl_1, dl_2, dl_3, dl_4, dl_5, dl_6, dl_7, dl_8, dl_9, dl_10, dl_11, dl_12, dl_13, dl_14, dl_15, dl_16, dl_20, dl_24, dl_31, dl_50, dl_57, dl_67, dl_68, dl_74, dl_75, dl_79, dl_80, dl_99, dl_100, dl_200, dl_210, dl_224, dl_255, dl_289, dl_900, dl_1000, dl_1728, dl_65536, dl_65537, nI_add, pk_mul, pk_sub, pk_div, pk_rem, ds_rem2, nI_clamp, nI_leI, nI_ltI, nI_eq, ds_m1_eq, ds_eq_m1, ds_m2_eq, ds_eq_m2, ds_m1_le, ds_le_m1, ds_m1_lt, ds_lt_m1, ds_in_N, ds_bo0, ds_bo1, if_pos, if_neg, Nat.not_le, Nat.not_lt, not_true_eq_false, not_false_eq_true, if_true, if_false, ne_eq, Option.some.injEq, Prod.mk.injEq, Value.int.injEq, true_and, and_true, and_self, ite_self, Bool.not_eq_true, Bool.not_eq_false, Bool.true_eq_false, Bool.false_eq_true, reduceCtorEq, Nat.zero_add, Nat.reduceAdd, Nat.reduceMul, Nat.reduceSub, ds_setI_row, ds_setL_row, ds_rowI_self, ds_rowI_ne, ds_rowI_2, ds_rowI_rowI, ds_setS_1, ds_setS_21, ds_setS_self, ds_setS_ne, pk_us, pk_un, ds_Rt17, z1d, w1]
  · have pi := s_placeIn_y (d + 5) 95 (K 12) (D 0 4) p z0 K (dk_HM_dm hM0 hK) n12 hp
    have pj := s_placeIn_y (d + 5) 95 (K 12) (D 0 4) q z0 K (dk_HM_dm hM0 hK) n12 hq
    have so := s_stateOf (d + 5) p q 0 z0
    rw [show p + 12 * q + 144 * 0 = p + 12 * q by omega] at so
    obtain ⟨z2, w1, w2, w3⟩ := hm z0 (dk_Pm_of hM0 (fun q => absurd q (by decide)))
    refine ⟨z2, ?_, dk_fm_trans (dk_fm_36 z0 _ _) (dk_m3_fm w2), w3⟩
    rw [c_Mod_seekTwo, b_Mod_seekTwo_0]
    generalize p + 12 * q = s at *
    simp (disch := first | assumption | omega) only [ds_cI, ds_cV, ds_cL, ds_cR, ds_nn, ds_isK_t, ds_isA_t, ds_chk_t, ds_chkN, ds_nz_t, ds_nzN, ds_isB_t, ds_isB_bo, ↓dl_m1, ↓dl_m2, dl_0, dl_1, dl_2, dl_3, dl_4, dl_5, dl_6, dl_7, dl_8, dl_9, dl_10, dl_11, dl_12, dl_13, dl_14, dl_15, dl_16, dl_20, dl_24, dl_31, dl_50, dl_57, dl_67, dl_68, dl_74, dl_75, dl_79, dl_80, dl_99, dl_100, dl_200, dl_210, dl_224, dl_255, dl_289, dl_900, dl_1000, dl_1728, dl_65536, dl_65537, nI_add, pk_mul, pk_sub, pk_div, pk_rem, ds_rem2, nI_clamp, nI_leI, nI_ltI, nI_eq, ds_m1_eq, ds_eq_m1, ds_m2_eq, ds_eq_m2, ds_m1_le, ds_le_m1, ds_m1_lt, ds_lt_m1, ds_in_N, ds_bo0, ds_bo1, if_pos, if_neg, Nat.not_le, Nat.not_lt, not_true_eq_false, not_false_eq_true, if_true, if_false, ne_eq, Option.some.injEq, Prod.mk.injEq, Value.int.injEq, true_and, and_true, and_self, ite_self, Bool.not_eq_true, Bool.not_eq_false, Bool.true_eq_false, Bool.false_eq_true, reduceCtorEq, Nat.zero_add, Nat.reduceAdd, Nat.reduceMul, Nat.reduceSub, ds_setI_row, ds_setL_row, ds_rowI_self, ds_rowI_ne, ds_rowI_2, ds_rowI_rowI, ds_setS_1, ds_setS_21, ds_setS_self, ds_setS_ne, pk_us, pk_un, pi, pj, so, w1]
theorem dk_s3c (d t p q r : Nat) (z : ds_St) (D : Nat → Nat → Nat) (K : Nat → Nat) (hC : dk_HC z t D K) (hD : dk_ok D) (hK : dk_okK D K) (hp : p < K 12) (hq : q < K 12) (hr : r < K 12) (h1 : p ≠ q) (h2 : p ≠ r) (h3 : q ≠ r) : ∃ f L mv, L < 1728 ∧ (∃ z', ds_call (d + 7) j_Search_bringThree [.ref 70, .ref t, .int (nI p), .int (nI q), .int (nI r), .int (nI (K 12))] z = some (none, z') ∧ dk_fr 70 75 z z' ∧ dk_oC f L mv z') ∧ (∀ z0, dk_HM z0 D K → ∃ z2, ds_call (d + 7) j_Mod_seek [.ref 90, .int (nI (p + 12 * q + 144 * r)), .int (nI 2), .int (nI 3)] z0 = some (some (.int (ds_bo f)), z2) ∧ dk_fm z0 z2 ∧ dk_oM f L mv z2) := by
  obtain ⟨k2, c12, _, _⟩ := dk_mo_K hD hK
  have n12 := hD.2.2.2.2.1.2
  have ht := hC.2.1.1
  have hKt := ds_Kt ht
  have hKn := ds_Kti (i := 10) ht (by decide) (by decide)
  obtain ⟨f, L, mv, hL, hc, hm⟩ := dk_srch d (d + 1) (K 12) (p + 12 * q + 144 * r) 2 3 (dk_V3 (K 12)) (dk_N3 (K 12)) (dk_G3 D) (dk_Pz 3 (K 12) 0 t D) (dk_Pm 2 3 0 D K) dk_Pz_s3 dk_Pm_m3 (fun z h => h.2.1) k2 c12 ⟨p, q, r, hp, hq, hr, h1, h2, h3, rfl⟩ (dk_V3_lt c12) (dk_V3_N c12) (s_sb3 (d + 1) (K 12) 0 t D c12) (s_go3 (d + 2) (K 12) 0 t D c12) (dk_cbe D 3 (K 12)) (s_cb (d + 3) 3 (K 12) 0 t D (by decide) (by decide) c12) (dk_cf3 c12) (s_mmm (d + 5) 2 3 0 D K hK) (s_mv3 (d + 4) 0 D K hK) (s_mg3 (d + 3) 0 D K hD hK)
  refine ⟨f, L, mv, hL, ?_, fun z0 hM0 => ?_⟩
  · let z1 := ds_setS (ds_rowI z 70 (upd (z.1 70) 4 (nI 3))) 3 (t + 10)
    have f1 : dk_fr 70 75 z z1 := dk_fr_setS (dk_fr_row _ (dk_fr_refl _ _ _) (by decide) (by decide)) (by decide)
    have hP1 : dk_Pz 3 (K 12) 0 t D (ds_rowI z1 70 (upd (upd (z1.1 70) 5 (nI (K 12))) 7 ds_m1)) := by
      have e : ∀ k, z1.1 70 k = upd (z.1 70) 4 (nI 3) k := fun k => by
        show (ds_rowI z 70 (upd (z.1 70) 4 (nI 3))).1 70 k = upd (z.1 70) 4 (nI 3) k
        rw [ds_rowI_self]
      refine ⟨?_, ?_, fun q => absurd q (by decide), fun _ => ?_, ?_⟩
      · rw [ds_rowI_self, pk_un (by decide), pk_un (by decide), e, pk_us]
      · rw [ds_rowI_self, pk_un (by decide), pk_us]
      · exact ds_setS_self _ _ _
      · exact dk_tC_eq hC.2.1 (fun p _ h2 => by
          rw [ds_rowI_ne _ _ (by omega)]
          show (ds_rowI z 70 _).1 p = _
          rw [ds_rowI_ne _ _ (by omega)])
    have z1d : ds_setS (ds_rowI z 70 (upd (z.1 70) 4 (nI 3))) 3 (t + 10) = z1 := rfl
    clear_value z1
    obtain ⟨z', w1, w2, w3⟩ := hc z1 hP1
    refine ⟨z', ?_, dk_fr_trans f1 w2, w3⟩
    have es : p + 12 * (q + 12 * r) = p + 12 * q + 144 * r := by omega
    rw [c_Search_bringThree, b_Search_bringThree_0]
    generalize p + 12 * q + 144 * r = s at *
    simp (disch := first | assumption | omega) only [ds_cI, ds_cV, ds_cL, ds_cR, ds_nn, ds_isK_t, ds_isA_t, ds_chk_t, ds_chkN, ds_nz_t, ds_nzN, ds_isB_t, ds_isB_bo, ↓dl_m1, ↓dl_m2, dl_0, dl_1, dl_2, dl_3, dl_4, dl_5, dl_6, dl_7, dl_8, dl_9, dl_10, dl_11, dl_12, dl_13, dl_14, dl_15, dl_16, dl_20, dl_24, dl_31, dl_50, dl_57, dl_67, dl_68, dl_74, dl_75, dl_79, dl_80, dl_99, dl_100, dl_200, dl_210, dl_224, dl_255, dl_289, dl_900, dl_1000, dl_1728, dl_65536, dl_65537, nI_add, pk_mul, pk_sub, pk_div, pk_rem, ds_rem2, nI_clamp, nI_leI, nI_ltI, nI_eq, ds_m1_eq, ds_eq_m1, ds_m2_eq, ds_eq_m2, ds_m1_le, ds_le_m1, ds_m1_lt, ds_lt_m1, ds_in_N, ds_bo0, ds_bo1, if_pos, if_neg, Nat.not_le, Nat.not_lt, not_true_eq_false, not_false_eq_true, if_true, if_false, ne_eq, Option.some.injEq, Prod.mk.injEq, Value.int.injEq, true_and, and_true, and_self, ite_self, Bool.not_eq_true, Bool.not_eq_false, Bool.true_eq_false, Bool.false_eq_true, reduceCtorEq, Nat.zero_add, Nat.reduceAdd, Nat.reduceMul, Nat.reduceSub, ds_setI_row, ds_setL_row, ds_rowI_self, ds_rowI_ne, ds_rowI_2, ds_rowI_rowI, ds_setS_1, ds_setS_21, ds_setS_self, ds_setS_ne, pk_us, pk_un, ds_Rt17, z1d, es, w1]
  · obtain ⟨z2, w1, w2, w3⟩ := hm z0 (dk_Pm_of hM0 (fun q => absurd q (by decide)))
    exact ⟨z2, w1, dk_fm_trans (dk_fm_36 z0 _ _) (dk_m3_fm w2), w3⟩
theorem s_foundMove_y (d L k : Nat) (mv : Nat → Nat) (z : ds_St) (h : dk_oC true L mv z) (hk : k < L) (hL : L < 1728) : ds_call (d + 5) j_Sea_foundMove [.ref 0, .int (nI k)] z = some (some (.int (nI (mv k))), ds_rowI z 0 (upd (z.1 0) 10 (nI 0))) := by
  obtain ⟨l1, l2⟩ := (h (d + 1)).2 rfl
  have l3 := l2 k hk
  rw [c_Sea_foundMove, b_Sea_foundMove_0]
  simp (disch := first | assumption | omega) only [ds_cI, ds_cV, ds_cL, ds_cR, ds_nn, ds_isK_t, ds_isA_t, ds_chk_t, ds_chkN, ds_nz_t, ds_nzN, ds_isB_t, ds_isB_bo, ↓dl_m1, ↓dl_m2, dl_0, dl_1, dl_2, dl_3, dl_4, dl_5, dl_6, dl_7, dl_8, dl_9, dl_10, dl_11, dl_12, dl_13, dl_14, dl_15, dl_16, dl_20, dl_24, dl_31, dl_50, dl_57, dl_67, dl_68, dl_74, dl_75, dl_79, dl_80, dl_99, dl_100, dl_200, dl_210, dl_224, dl_255, dl_289, dl_900, dl_1000, dl_1728, dl_65536, dl_65537, nI_add, pk_mul, pk_sub, pk_div, pk_rem, ds_rem2, nI_clamp, nI_leI, nI_ltI, nI_eq, ds_m1_eq, ds_eq_m1, ds_m2_eq, ds_eq_m2, ds_m1_le, ds_le_m1, ds_m1_lt, ds_lt_m1, ds_in_N, ds_bo0, ds_bo1, if_pos, if_neg, Nat.not_le, Nat.not_lt, not_true_eq_false, not_false_eq_true, if_true, if_false, ne_eq, Option.some.injEq, Prod.mk.injEq, Value.int.injEq, true_and, and_true, and_self, ite_self, Bool.not_eq_true, Bool.not_eq_false, Bool.true_eq_false, Bool.false_eq_true, reduceCtorEq, Nat.zero_add, Nat.reduceAdd, Nat.reduceMul, Nat.reduceSub, ds_setI_row, ds_setL_row, ds_rowI_self, ds_rowI_ne, ds_rowI_2, ds_rowI_rowI, ds_setS_1, ds_setS_21, ds_setS_self, ds_setS_ne, pk_us, pk_un, l1, l3, s_answer]
theorem s_foundMove_n (d L : Nat) (f : Bool) (x : Int32) (mv : Nat → Nat) (z : ds_St) (h : dk_oC f L mv z) (hL : L < 1728) (hx : x < nI 0 ∨ nI L ≤ x ∨ f = false) : ds_call (d + 5) j_Sea_foundMove [.ref 0, .int x] z = some (some (.int ds_m1), ds_rowI z 0 (upd (z.1 0) 10 (nI 1))) := by
  rw [c_Sea_foundMove, b_Sea_foundMove_0]
  by_cases h0 : x < nI 0
  · simp (disch := first | assumption | omega) only [ds_cI, ds_cV, ds_cL, ds_cR, ds_nn, ds_isK_t, ds_isA_t, ds_chk_t, ds_chkN, ds_nz_t, ds_nzN, ds_isB_t, ds_isB_bo, ↓dl_m1, ↓dl_m2, dl_0, dl_1, dl_2, dl_3, dl_4, dl_5, dl_6, dl_7, dl_8, dl_9, dl_10, dl_11, dl_12, dl_13, dl_14, dl_15, dl_16, dl_20, dl_24, dl_31, dl_50, dl_57, dl_67, dl_68, dl_74, dl_75, dl_79, dl_80, dl_99, dl_100, dl_200, dl_210, dl_224, dl_255, dl_289, dl_900, dl_1000, dl_1728, dl_65536, dl_65537, nI_add, pk_mul, pk_sub, pk_div, pk_rem, ds_rem2, nI_clamp, nI_leI, nI_ltI, nI_eq, ds_m1_eq, ds_eq_m1, ds_m2_eq, ds_eq_m2, ds_m1_le, ds_le_m1, ds_m1_lt, ds_lt_m1, ds_in_N, ds_bo0, ds_bo1, if_pos, if_neg, Nat.not_le, Nat.not_lt, not_true_eq_false, not_false_eq_true, if_true, if_false, ne_eq, Option.some.injEq, Prod.mk.injEq, Value.int.injEq, true_and, and_true, and_self, ite_self, Bool.not_eq_true, Bool.not_eq_false, Bool.true_eq_false, Bool.false_eq_true, reduceCtorEq, Nat.zero_add, Nat.reduceAdd, Nat.reduceMul, Nat.reduceSub, ds_setI_row, ds_setL_row, ds_rowI_self, ds_rowI_ne, ds_rowI_2, ds_rowI_rowI, ds_setS_1, ds_setS_21, ds_setS_self, ds_setS_ne, pk_us, pk_un, h0, s_refuse]
  · cases f
    · have l1 := (h (d + 1)).1 rfl
      have le : ds_m2 ≤ x := by
        rw [Int32.lt_iff_toInt_lt] at h0
        rw [Int32.le_iff_toInt_le, ds_m2_toInt]
        have e0 : (nI 0).toInt = 0 := rfl
        omega
      simp (disch := first | assumption | omega) only [ds_cI, ds_cV, ds_cL, ds_cR, ds_nn, ds_isK_t, ds_isA_t, ds_chk_t, ds_chkN, ds_nz_t, ds_nzN, ds_isB_t, ds_isB_bo, ↓dl_m1, ↓dl_m2, dl_0, dl_1, dl_2, dl_3, dl_4, dl_5, dl_6, dl_7, dl_8, dl_9, dl_10, dl_11, dl_12, dl_13, dl_14, dl_15, dl_16, dl_20, dl_24, dl_31, dl_50, dl_57, dl_67, dl_68, dl_74, dl_75, dl_79, dl_80, dl_99, dl_100, dl_200, dl_210, dl_224, dl_255, dl_289, dl_900, dl_1000, dl_1728, dl_65536, dl_65537, nI_add, pk_mul, pk_sub, pk_div, pk_rem, ds_rem2, nI_clamp, nI_leI, nI_ltI, nI_eq, ds_m1_eq, ds_eq_m1, ds_m2_eq, ds_eq_m2, ds_m1_le, ds_le_m1, ds_m1_lt, ds_lt_m1, ds_in_N, ds_bo0, ds_bo1, if_pos, if_neg, Nat.not_le, Nat.not_lt, not_true_eq_false, not_false_eq_true, if_true, if_false, ne_eq, Option.some.injEq, Prod.mk.injEq, Value.int.injEq, true_and, and_true, and_self, ite_self, Bool.not_eq_true, Bool.not_eq_false, Bool.true_eq_false, Bool.false_eq_true, reduceCtorEq, Nat.zero_add, Nat.reduceAdd, Nat.reduceMul, Nat.reduceSub, ds_setI_row, ds_setL_row, ds_rowI_self, ds_rowI_ne, ds_rowI_2, ds_rowI_rowI, ds_setS_1, ds_setS_21, ds_setS_self, ds_setS_ne, pk_us, pk_un, h0, l1, le, s_refuse]
    · have le : nI L ≤ x := by
        rcases hx with a | a | a
        · exact absurd a h0
        · exact a
        · exact absurd a (by decide)
      have l1 := ((h (d + 1)).2 rfl).1
      simp (disch := first | assumption | omega) only [ds_cI, ds_cV, ds_cL, ds_cR, ds_nn, ds_isK_t, ds_isA_t, ds_chk_t, ds_chkN, ds_nz_t, ds_nzN, ds_isB_t, ds_isB_bo, ↓dl_m1, ↓dl_m2, dl_0, dl_1, dl_2, dl_3, dl_4, dl_5, dl_6, dl_7, dl_8, dl_9, dl_10, dl_11, dl_12, dl_13, dl_14, dl_15, dl_16, dl_20, dl_24, dl_31, dl_50, dl_57, dl_67, dl_68, dl_74, dl_75, dl_79, dl_80, dl_99, dl_100, dl_200, dl_210, dl_224, dl_255, dl_289, dl_900, dl_1000, dl_1728, dl_65536, dl_65537, nI_add, pk_mul, pk_sub, pk_div, pk_rem, ds_rem2, nI_clamp, nI_leI, nI_ltI, nI_eq, ds_m1_eq, ds_eq_m1, ds_m2_eq, ds_eq_m2, ds_m1_le, ds_le_m1, ds_m1_lt, ds_lt_m1, ds_in_N, ds_bo0, ds_bo1, if_pos, if_neg, Nat.not_le, Nat.not_lt, not_true_eq_false, not_false_eq_true, if_true, if_false, ne_eq, Option.some.injEq, Prod.mk.injEq, Value.int.injEq, true_and, and_true, and_self, ite_self, Bool.not_eq_true, Bool.not_eq_false, Bool.true_eq_false, Bool.false_eq_true, reduceCtorEq, Nat.zero_add, Nat.reduceAdd, Nat.reduceMul, Nat.reduceSub, ds_setI_row, ds_setL_row, ds_rowI_self, ds_rowI_ne, ds_rowI_2, ds_rowI_rowI, ds_setS_1, ds_setS_21, ds_setS_self, ds_setS_ne, pk_us, pk_un, h0, l1, le, s_refuse]
theorem s_in_out (d L : Nat) (x : Int32) (z : ds_St) (hL : L < 2 ^ 31) (h : x < nI 0 ∨ nI L ≤ x) : ds_call (d + 1) j_Mod_in [.int x, .int (nI 0), .int (nI L - nI 1)] z = some (some (.int (nI 0)), z) := by
  rw [c_Mod_in, b_Mod_in_0]
  rcases h with hx | hx
  · simp (disch := first | assumption | omega) only [ds_cI, ds_cV, ds_cL, ds_cR, ds_nn, ds_isK_t, ds_isA_t, ds_chk_t, ds_chkN, ds_nz_t, ds_nzN, ds_isB_t, ds_isB_bo, ↓dl_m1, ↓dl_m2, dl_0, dl_1, dl_2, dl_3, dl_4, dl_5, dl_6, dl_7, dl_8, dl_9, dl_10, dl_11, dl_12, dl_13, dl_14, dl_15, dl_16, dl_20, dl_24, dl_31, dl_50, dl_57, dl_67, dl_68, dl_74, dl_75, dl_79, dl_80, dl_99, dl_100, dl_200, dl_210, dl_224, dl_255, dl_289, dl_900, dl_1000, dl_1728, dl_65536, dl_65537, nI_add, pk_mul, pk_sub, pk_div, pk_rem, ds_rem2, nI_clamp, nI_leI, nI_ltI, nI_eq, ds_m1_eq, ds_eq_m1, ds_m2_eq, ds_eq_m2, ds_m1_le, ds_le_m1, ds_m1_lt, ds_lt_m1, ds_in_N, ds_bo0, ds_bo1, if_pos, if_neg, Nat.not_le, Nat.not_lt, not_true_eq_false, not_false_eq_true, if_true, if_false, ne_eq, Option.some.injEq, Prod.mk.injEq, Value.int.injEq, true_and, and_true, and_self, ite_self, Bool.not_eq_true, Bool.not_eq_false, Bool.true_eq_false, Bool.false_eq_true, reduceCtorEq, Nat.zero_add, Nat.reduceAdd, Nat.reduceMul, Nat.reduceSub, ds_setI_row, ds_setL_row, ds_rowI_self, ds_rowI_ne, ds_rowI_2, ds_rowI_rowI, ds_setS_1, ds_setS_21, ds_setS_self, ds_setS_ne, pk_us, pk_un, hx]
  · have hx1 : ¬ x < nI 0 := fun q => by
      rw [Int32.lt_iff_toInt_lt] at q
      rw [Int32.le_iff_toInt_le, nI_toInt (by omega)] at hx
      have e0 : (nI 0).toInt = 0 := rfl
      omega
    have hx2 : nI L - nI 1 < x := by
      rw [Int32.le_iff_toInt_le, nI_toInt (by omega)] at hx
      rcases Nat.eq_zero_or_pos L with q | q
      · rw [Int32.lt_iff_toInt_lt, q]
        have e0 : (nI 0 - nI 1).toInt = -1 := by decide
        omega
      · rw [pk_sub (by omega), Int32.lt_iff_toInt_lt, nI_toInt (by omega)]
        omega
    simp only [dl_0]
    rw [if_neg hx1, if_pos hx2]
    rfl
theorem dk_qM_no2 {z z2 : ds_St} (v : Int32) (h : dk_fm (dk_zg z) z2) : dk_qM z (ds_rowI z2 90 (upd (z2.1 90) 11 v)) v := by
  refine ⟨fun p a b => by rw [ds_rowI_ne _ _ b, h.1 p a b, dk_zg_ne z b], fun k a => by rw [ds_rowI_self, pk_un (by omega), h.2.1 k (by omega), dk_zg_k z (by omega) (by omega)], by rw [ds_rowI_self, pk_us], fun j a => h.2.2 j a⟩
