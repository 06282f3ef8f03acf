/-! the law's rounds -/
/-- what the law's calls are: its script, the methods -/
noncomputable def dw_cl (L : Nat) (xs : Nat → Int32) (d : Nat) : Nat → List Value → ds_St → Option ds_Out := fun j as z => if j = 9998 then some (some (.int (nI L)), z) else if j = 9999 then (match as with
  | [.int i] => if decide (i < 0) = false ∧ i.toNatClampNeg < L then some (some (.int (xs i.toNatClampNeg)), z) else none
  | _ => none) else ds_call (d + 20) j as z
theorem dw_98 (L : Nat) (xs : Nat → Int32) (d : Nat) (z : ds_St) : dw_cl L xs d 9998 [] z = some (some (.int (nI L)), z) := rfl
theorem dw_99 (L : Nat) (xs : Nat → Int32) (d i : Nat) (z : ds_St) (hL : L < 2 ^ 31) (h : i < L) : dw_cl L xs d 9999 [.int (nI i)] z = some (some (.int (xs i)), z) := by
  show (if decide (nI i < 0) = false ∧ (nI i).toNatClampNeg < L then some (some (Value.int (xs (nI i).toNatClampNeg)), z) else none) = (some (some (Value.int (xs i)), z) : Option ds_Out)
  rw [nI_clamp (by omega), if_pos ⟨decide_eq_false (by show ¬ nI i < nI 0; rw [nI_ltI (by omega) (by decide)]; omega), h⟩]
theorem dw_co (L : Nat) (xs : Nat → Int32) (d j : Nat) (as : List Value) (z : ds_St) (h : j < 9998) : dw_cl L xs d j as z = ds_call (d + 20) j as z := by
  unfold dw_cl
  rw [if_neg (by omega), if_neg (by omega)]
theorem dw_cI {cl : Nat → List Value → ds_St → Option ds_Out} {j : Nat} {as : List Value} {z z1 : ds_St} {f : Int32 → ds_St → Option ds_Out} {r : Int32} {o : Option ds_Out} (h : cl j as z = some (some (.int r), z1)) (g : f r z1 = o) : ds_cI cl j as z f = o := by
  rw [ds_cI_t h]
  exact g
theorem dw_cL {cl : Nat → List Value → ds_St → Option ds_Out} {j : Nat} {as : List Value} {z z1 : ds_St} {f : Int64 → ds_St → Option ds_Out} {r : Int64} {o : Option ds_Out} (h : cl j as z = some (some (.long r), z1)) (g : f r z1 = o) : ds_cL cl j as z f = o := by
  unfold ds_cL
  rw [h]
  exact g
theorem dw_cmp (r : Int64) : lg_cmp r r = 0 := by
  unfold lg_cmp
  simp
theorem l_feed (L d i : Nat) (xs : Nat → Int32) (z : ds_St) (hL : L ≤ 3072) (hi : i + 6 ≤ L) (h : dk_Inv z) : ∃ z', ds_Rw ds_c_LawR ds_u_Law_law (dw_cl L xs d) 264 [some (.ref 200), some (.ref 0), some (.ref 90), some (.ref 111), some (.int (nI i)), none, none] [] z = some (some (.int (nI i)), z') ∧ dk_Inv z' := by
  obtain ⟨v, z1, z2, w1, w2, hI⟩ := k_feed d (xs (i + 1)) (xs (i + 2)) (xs (i + 3)) (xs (i + 4)) (xs (i + 5)) z h
  obtain ⟨r, rfl⟩ := dt_int (by decide) ((c_Sea_feed _ _ _ _ _ _ _ _).symm.trans w1)
  refine ⟨z2, ?_, hI⟩
  rw [b_LawR_264]
  simp only [dl_1, dl_2, dl_3, dl_4, dl_5, nI_add]
  refine dw_cI (dw_99 L xs d (i + 1) z (by omega) (by omega)) ?_
  refine dw_cI (dw_99 L xs d (i + 2) z (by omega) (by omega)) ?_
  refine dw_cI (dw_99 L xs d (i + 3) z (by omega) (by omega)) ?_
  refine dw_cI (dw_99 L xs d (i + 4) z (by omega) (by omega)) ?_
  refine dw_cI (dw_99 L xs d (i + 5) z (by omega) (by omega)) ?_
  refine dw_cI ((dw_co L xs d _ _ z (by decide)).trans w1) ?_
  refine dw_cI (dw_99 L xs d (i + 1) z1 (by omega) (by omega)) ?_
  refine dw_cI (dw_99 L xs d (i + 2) z1 (by omega) (by omega)) ?_
  refine dw_cI (dw_99 L xs d (i + 3) z1 (by omega) (by omega)) ?_
  refine dw_cI (dw_99 L xs d (i + 4) z1 (by omega) (by omega)) ?_
  refine dw_cI (dw_99 L xs d (i + 5) z1 (by omega) (by omega)) ?_
  refine dw_cI ((dw_co L xs d _ _ z1 (by decide)).trans w2) ?_
  exact if_pos rfl
theorem l_sea (L d i : Nat) (xs : Nat → Int32) (z : ds_St) (hL : L ≤ 3072) (hi : i + 6 ≤ L) (h : dk_Inv z) : ∃ z', ds_Rw ds_c_LawR ds_u_Law_law (dw_cl L xs d) 337 [some (.ref 200), some (.ref 0), some (.ref 90), some (.ref 111), some (.int (nI i)), none, none] [] z = some (some (.int (nI i)), z') ∧ dk_Inv z' := by
  obtain ⟨v, z1, z2, w1, w2, hI⟩ := k_sea d (xs (i + 1)) z h
  obtain ⟨r, rfl⟩ := dt_int (by decide) ((c_Sea_sea _ _ _ _).symm.trans w1)
  refine ⟨z2, ?_, hI⟩
  rw [b_LawR_337]
  simp only [dl_1, dl_2, dl_3, dl_4, dl_5, nI_add]
  refine dw_cI (dw_99 L xs d (i + 1) z (by omega) (by omega)) ?_
  refine dw_cI ((dw_co L xs d _ _ z (by decide)).trans w1) ?_
  refine dw_cI (dw_99 L xs d (i + 1) z1 (by omega) (by omega)) ?_
  refine dw_cI ((dw_co L xs d _ _ z1 (by decide)).trans w2) ?_
  exact if_pos rfl
theorem l_fault (L d i : Nat) (xs : Nat → Int32) (z : ds_St) (hL : L ≤ 3072) (hi : i + 6 ≤ L) (h : dk_Inv z) : ∃ z', ds_Rw ds_c_LawR ds_u_Law_law (dw_cl L xs d) 362 [some (.ref 200), some (.ref 0), some (.ref 90), some (.ref 111), some (.int (nI i)), none, none] [] z = some (some (.int (nI i)), z') ∧ dk_Inv z' := by
  obtain ⟨v, z1, z2, w1, w2, hI⟩ := k_fault d  z h
  obtain ⟨r, rfl⟩ := dt_int (by decide) ((c_Sea_fault _ _ _).symm.trans w1)
  refine ⟨z2, ?_, hI⟩
  rw [b_LawR_362]
  refine dw_cI ((dw_co L xs d _ _ z (by decide)).trans w1) ?_
  refine dw_cI ((dw_co L xs d _ _ z1 (by decide)).trans w2) ?_
  exact if_pos rfl
theorem l_where (L d i : Nat) (xs : Nat → Int32) (z : ds_St) (hL : L ≤ 3072) (hi : i + 6 ≤ L) (h : dk_Inv z) : ∃ z', ds_Rw ds_c_LawR ds_u_Law_law (dw_cl L xs d) 375 [some (.ref 200), some (.ref 0), some (.ref 90), some (.ref 111), some (.int (nI i)), none, none] [] z = some (some (.int (nI i)), z') ∧ dk_Inv z' := by
  obtain ⟨v, z1, z2, w1, w2, hI⟩ := k_where d  z h
  obtain ⟨r, rfl⟩ := dt_int (by decide) ((c_Sea_where _ _ _).symm.trans w1)
  refine ⟨z2, ?_, hI⟩
  rw [b_LawR_375]
  refine dw_cI ((dw_co L xs d _ _ z (by decide)).trans w1) ?_
  refine dw_cI ((dw_co L xs d _ _ z1 (by decide)).trans w2) ?_
  exact if_pos rfl
theorem l_island (L d i : Nat) (xs : Nat → Int32) (z : ds_St) (hL : L ≤ 3072) (hi : i + 6 ≤ L) (h : dk_Inv z) : ∃ z', ds_Rw ds_c_LawR ds_u_Law_law (dw_cl L xs d) 388 [some (.ref 200), some (.ref 0), some (.ref 90), some (.ref 111), some (.int (nI i)), none, none] [] z = some (some (.int (nI i)), z') ∧ dk_Inv z' := by
  obtain ⟨v, z1, z2, w1, w2, hI⟩ := k_island d (xs (i + 1)) (xs (i + 2)) z h
  obtain ⟨r, rfl⟩ := dt_int (by decide) ((c_Sea_island _ _ _ _ _).symm.trans w1)
  refine ⟨z2, ?_, hI⟩
  rw [b_LawR_388]
  simp only [dl_1, dl_2, dl_3, dl_4, dl_5, nI_add]
  refine dw_cI (dw_99 L xs d (i + 1) z (by omega) (by omega)) ?_
  refine dw_cI (dw_99 L xs d (i + 2) z (by omega) (by omega)) ?_
  refine dw_cI ((dw_co L xs d _ _ z (by decide)).trans w1) ?_
  refine dw_cI (dw_99 L xs d (i + 1) z1 (by omega) (by omega)) ?_
  refine dw_cI (dw_99 L xs d (i + 2) z1 (by omega) (by omega)) ?_
  refine dw_cI ((dw_co L xs d _ _ z1 (by decide)).trans w2) ?_
  exact if_pos rfl
theorem l_card (L d i : Nat) (xs : Nat → Int32) (z : ds_St) (hL : L ≤ 3072) (hi : i + 6 ≤ L) (h : dk_Inv z) : ∃ z', ds_Rw ds_c_LawR ds_u_Law_law (dw_cl L xs d) 425 [some (.ref 200), some (.ref 0), some (.ref 90), some (.ref 111), some (.int (nI i)), none, none] [] z = some (some (.int (nI i)), z') ∧ dk_Inv z' := by
  obtain ⟨v, z1, z2, w1, w2, hI⟩ := k_card d (xs (i + 1)) z h
  obtain ⟨r, rfl⟩ := dt_int (by decide) ((c_Sea_card _ _ _ _).symm.trans w1)
  refine ⟨z2, ?_, hI⟩
  rw [b_LawR_425]
  simp only [dl_1, dl_2, dl_3, dl_4, dl_5, nI_add]
  refine dw_cI (dw_99 L xs d (i + 1) z (by omega) (by omega)) ?_
  refine dw_cI ((dw_co L xs d _ _ z (by decide)).trans w1) ?_
  refine dw_cI (dw_99 L xs d (i + 1) z1 (by omega) (by omega)) ?_
  refine dw_cI ((dw_co L xs d _ _ z1 (by decide)).trans w2) ?_
  exact if_pos rfl
theorem l_beside (L d i : Nat) (xs : Nat → Int32) (z : ds_St) (hL : L ≤ 3072) (hi : i + 6 ≤ L) (h : dk_Inv z) : ∃ z', ds_Rw ds_c_LawR ds_u_Law_law (dw_cl L xs d) 450 [some (.ref 200), some (.ref 0), some (.ref 90), some (.ref 111), some (.int (nI i)), none, none] [] z = some (some (.int (nI i)), z') ∧ dk_Inv z' := by
  obtain ⟨v, z1, z2, w1, w2, hI⟩ := k_beside d (xs (i + 1)) z h
  obtain ⟨r, rfl⟩ := dt_int (by decide) ((c_Sea_beside _ _ _ _).symm.trans w1)
  refine ⟨z2, ?_, hI⟩
  rw [b_LawR_450]
  simp only [dl_1, dl_2, dl_3, dl_4, dl_5, nI_add]
  refine dw_cI (dw_99 L xs d (i + 1) z (by omega) (by omega)) ?_
  refine dw_cI ((dw_co L xs d _ _ z (by decide)).trans w1) ?_
  refine dw_cI (dw_99 L xs d (i + 1) z1 (by omega) (by omega)) ?_
  refine dw_cI ((dw_co L xs d _ _ z1 (by decide)).trans w2) ?_
  exact if_pos rfl
theorem l_trade (L d i : Nat) (xs : Nat → Int32) (z : ds_St) (hL : L ≤ 3072) (hi : i + 6 ≤ L) (h : dk_Inv z) : ∃ z', ds_Rw ds_c_LawR ds_u_Law_law (dw_cl L xs d) 475 [some (.ref 200), some (.ref 0), some (.ref 90), some (.ref 111), some (.int (nI i)), none, none] [] z = some (some (.int (nI i)), z') ∧ dk_Inv z' := by
  obtain ⟨v, z1, z2, w1, w2, hI⟩ := k_trade d (xs (i + 1)) (xs (i + 2)) z h
  obtain ⟨r, rfl⟩ := dt_int (by decide) ((c_Sea_trade _ _ _ _ _).symm.trans w1)
  refine ⟨z2, ?_, hI⟩
  rw [b_LawR_475]
  simp only [dl_1, dl_2, dl_3, dl_4, dl_5, nI_add]
  refine dw_cI (dw_99 L xs d (i + 1) z (by omega) (by omega)) ?_
  refine dw_cI (dw_99 L xs d (i + 2) z (by omega) (by omega)) ?_
  refine dw_cI ((dw_co L xs d _ _ z (by decide)).trans w1) ?_
  refine dw_cI (dw_99 L xs d (i + 1) z1 (by omega) (by omega)) ?_
  refine dw_cI (dw_99 L xs d (i + 2) z1 (by omega) (by omega)) ?_
  refine dw_cI ((dw_co L xs d _ _ z1 (by decide)).trans w2) ?_
  exact if_pos rfl
theorem l_trades (L d i : Nat) (xs : Nat → Int32) (z : ds_St) (hL : L ≤ 3072) (hi : i + 6 ≤ L) (h : dk_Inv z) : ∃ z', ds_Rw ds_c_LawR ds_u_Law_law (dw_cl L xs d) 512 [some (.ref 200), some (.ref 0), some (.ref 90), some (.ref 111), some (.int (nI i)), none, none] [] z = some (some (.int (nI i)), z') ∧ dk_Inv z' := by
  obtain ⟨v, z1, z2, w1, w2, hI⟩ := k_trades d  z h
  obtain ⟨r, rfl⟩ := dt_int (by decide) ((c_Sea_trades _ _ _).symm.trans w1)
  refine ⟨z2, ?_, hI⟩
  rw [b_LawR_512]
  refine dw_cI ((dw_co L xs d _ _ z (by decide)).trans w1) ?_
  refine dw_cI ((dw_co L xs d _ _ z1 (by decide)).trans w2) ?_
  exact if_pos rfl
theorem l_wars (L d i : Nat) (xs : Nat → Int32) (z : ds_St) (hL : L ≤ 3072) (hi : i + 6 ≤ L) (h : dk_Inv z) : ∃ z', ds_Rw ds_c_LawR ds_u_Law_law (dw_cl L xs d) 525 [some (.ref 200), some (.ref 0), some (.ref 90), some (.ref 111), some (.int (nI i)), none, none] [] z = some (some (.int (nI i)), z') ∧ dk_Inv z' := by
  obtain ⟨v, z1, z2, w1, w2, hI⟩ := k_wars d  z h
  obtain ⟨r, rfl⟩ := dt_int (by decide) ((c_Sea_wars _ _ _).symm.trans w1)
  refine ⟨z2, ?_, hI⟩
  rw [b_LawR_525]
  refine dw_cI ((dw_co L xs d _ _ z (by decide)).trans w1) ?_
  refine dw_cI ((dw_co L xs d _ _ z1 (by decide)).trans w2) ?_
  exact if_pos rfl
theorem l_run (L d i : Nat) (xs : Nat → Int32) (z : ds_St) (hL : L ≤ 3072) (hi : i + 6 ≤ L) (h : dk_Inv z) : ∃ z', ds_Rw ds_c_LawR ds_u_Law_law (dw_cl L xs d) 538 [some (.ref 200), some (.ref 0), some (.ref 90), some (.ref 111), some (.int (nI i)), none, none] [] z = some (some (.int (nI i)), z') ∧ dk_Inv z' := by
  obtain ⟨v, z1, z2, w1, w2, hI⟩ := k_run d  z h
  obtain ⟨r, rfl⟩ := dt_int (by decide) ((c_Sea_run _ _ _).symm.trans w1)
  refine ⟨z2, ?_, hI⟩
  rw [b_LawR_538]
  refine dw_cI ((dw_co L xs d _ _ z (by decide)).trans w1) ?_
  refine dw_cI ((dw_co L xs d _ _ z1 (by decide)).trans w2) ?_
  exact if_pos rfl
theorem l_runAt (L d i : Nat) (xs : Nat → Int32) (z : ds_St) (hL : L ≤ 3072) (hi : i + 6 ≤ L) (h : dk_Inv z) : ∃ z', ds_Rw ds_c_LawR ds_u_Law_law (dw_cl L xs d) 551 [some (.ref 200), some (.ref 0), some (.ref 90), some (.ref 111), some (.int (nI i)), none, none] [] z = some (some (.int (nI i)), z') ∧ dk_Inv z' := by
  obtain ⟨v, z1, z2, w1, w2, hI⟩ := k_runAt d (xs (i + 1)) z h
  obtain ⟨r, rfl⟩ := dt_int (by decide) ((c_Sea_runAt _ _ _ _).symm.trans w1)
  refine ⟨z2, ?_, hI⟩
  rw [b_LawR_551]
  simp only [dl_1, dl_2, dl_3, dl_4, dl_5, nI_add]
  refine dw_cI (dw_99 L xs d (i + 1) z (by omega) (by omega)) ?_
  refine dw_cI ((dw_co L xs d _ _ z (by decide)).trans w1) ?_
  refine dw_cI (dw_99 L xs d (i + 1) z1 (by omega) (by omega)) ?_
  refine dw_cI ((dw_co L xs d _ _ z1 (by decide)).trans w2) ?_
  exact if_pos rfl
theorem l_journey (L d i : Nat) (xs : Nat → Int32) (z : ds_St) (hL : L ≤ 3072) (hi : i + 6 ≤ L) (h : dk_Inv z) : ∃ z', ds_Rw ds_c_LawR ds_u_Law_law (dw_cl L xs d) 576 [some (.ref 200), some (.ref 0), some (.ref 90), some (.ref 111), some (.int (nI i)), none, none] [] z = some (some (.int (nI i)), z') ∧ dk_Inv z' := by
  obtain ⟨v, z1, z2, w1, w2, hI⟩ := k_journey d (xs (i + 1)) (xs (i + 2)) z h
  obtain ⟨r, rfl⟩ := dt_int (by decide) ((c_Sea_journey _ _ _ _ _).symm.trans w1)
  refine ⟨z2, ?_, hI⟩
  rw [b_LawR_576]
  simp only [dl_1, dl_2, dl_3, dl_4, dl_5, nI_add]
  refine dw_cI (dw_99 L xs d (i + 1) z (by omega) (by omega)) ?_
  refine dw_cI (dw_99 L xs d (i + 2) z (by omega) (by omega)) ?_
  refine dw_cI ((dw_co L xs d _ _ z (by decide)).trans w1) ?_
  refine dw_cI (dw_99 L xs d (i + 1) z1 (by omega) (by omega)) ?_
  refine dw_cI (dw_99 L xs d (i + 2) z1 (by omega) (by omega)) ?_
  refine dw_cI ((dw_co L xs d _ _ z1 (by decide)).trans w2) ?_
  exact if_pos rfl
theorem l_wishes (L d i : Nat) (xs : Nat → Int32) (z : ds_St) (hL : L ≤ 3072) (hi : i + 6 ≤ L) (h : dk_Inv z) : ∃ z', ds_Rw ds_c_LawR ds_u_Law_law (dw_cl L xs d) 613 [some (.ref 200), some (.ref 0), some (.ref 90), some (.ref 111), some (.int (nI i)), none, none] [] z = some (some (.int (nI i)), z') ∧ dk_Inv z' := by
  obtain ⟨v, z1, z2, w1, w2, hI⟩ := k_wishes d  z h
  obtain ⟨r, rfl⟩ := dt_int (by decide) ((c_Sea_wishes _ _ _).symm.trans w1)
  refine ⟨z2, ?_, hI⟩
  rw [b_LawR_613]
  refine dw_cI ((dw_co L xs d _ _ z (by decide)).trans w1) ?_
  refine dw_cI ((dw_co L xs d _ _ z1 (by decide)).trans w2) ?_
  exact if_pos rfl
theorem l_crowd (L d i : Nat) (xs : Nat → Int32) (z : ds_St) (hL : L ≤ 3072) (hi : i + 6 ≤ L) (h : dk_Inv z) : ∃ z', ds_Rw ds_c_LawR ds_u_Law_law (dw_cl L xs d) 626 [some (.ref 200), some (.ref 0), some (.ref 90), some (.ref 111), some (.int (nI i)), none, none] [] z = some (some (.int (nI i)), z') ∧ dk_Inv z' := by
  obtain ⟨v, z1, z2, w1, w2, hI⟩ := k_crowd d  z h
  obtain ⟨r, rfl⟩ := dt_int (by decide) ((c_Sea_crowd _ _ _).symm.trans w1)
  refine ⟨z2, ?_, hI⟩
  rw [b_LawR_626]
  refine dw_cI ((dw_co L xs d _ _ z (by decide)).trans w1) ?_
  refine dw_cI ((dw_co L xs d _ _ z1 (by decide)).trans w2) ?_
  exact if_pos rfl
theorem l_nearest (L d i : Nat) (xs : Nat → Int32) (z : ds_St) (hL : L ≤ 3072) (hi : i + 6 ≤ L) (h : dk_Inv z) : ∃ z', ds_Rw ds_c_LawR ds_u_Law_law (dw_cl L xs d) 639 [some (.ref 200), some (.ref 0), some (.ref 90), some (.ref 111), some (.int (nI i)), none, none] [] z = some (some (.int (nI i)), z') ∧ dk_Inv z' := by
  obtain ⟨v, z1, z2, w1, w2, hI⟩ := k_nearest d (xs (i + 1)) (xs (i + 2)) z h
  obtain ⟨r, rfl⟩ := dt_int (by decide) ((c_Sea_nearest _ _ _ _ _).symm.trans w1)
  refine ⟨z2, ?_, hI⟩
  rw [b_LawR_639]
  simp only [dl_1, dl_2, dl_3, dl_4, dl_5, nI_add]
  refine dw_cI (dw_99 L xs d (i + 1) z (by omega) (by omega)) ?_
  refine dw_cI (dw_99 L xs d (i + 2) z (by omega) (by omega)) ?_
  refine dw_cI ((dw_co L xs d _ _ z (by decide)).trans w1) ?_
  refine dw_cI (dw_99 L xs d (i + 1) z1 (by omega) (by omega)) ?_
  refine dw_cI (dw_99 L xs d (i + 2) z1 (by omega) (by omega)) ?_
  refine dw_cI ((dw_co L xs d _ _ z1 (by decide)).trans w2) ?_
  exact if_pos rfl
theorem l_people (L d i : Nat) (xs : Nat → Int32) (z : ds_St) (hL : L ≤ 3072) (hi : i + 6 ≤ L) (h : dk_Inv z) : ∃ z', ds_Rw ds_c_LawR ds_u_Law_law (dw_cl L xs d) 676 [some (.ref 200), some (.ref 0), some (.ref 90), some (.ref 111), some (.int (nI i)), none, none] [] z = some (some (.int (nI i)), z') ∧ dk_Inv z' := by
  obtain ⟨v, z1, z2, w1, w2, hI⟩ := k_people d (xs (i + 1)) z h
  obtain ⟨r, rfl⟩ := dt_int (by decide) ((c_Sea_people _ _ _ _).symm.trans w1)
  refine ⟨z2, ?_, hI⟩
  rw [b_LawR_676]
  simp only [dl_1, dl_2, dl_3, dl_4, dl_5, nI_add]
  refine dw_cI (dw_99 L xs d (i + 1) z (by omega) (by omega)) ?_
  refine dw_cI ((dw_co L xs d _ _ z (by decide)).trans w1) ?_
  refine dw_cI (dw_99 L xs d (i + 1) z1 (by omega) (by omega)) ?_
  refine dw_cI ((dw_co L xs d _ _ z1 (by decide)).trans w2) ?_
  exact if_pos rfl
theorem l_planned (L d i : Nat) (xs : Nat → Int32) (z : ds_St) (hL : L ≤ 3072) (hi : i + 6 ≤ L) (h : dk_Inv z) : ∃ z', ds_Rw ds_c_LawR ds_u_Law_law (dw_cl L xs d) 701 [some (.ref 200), some (.ref 0), some (.ref 90), some (.ref 111), some (.int (nI i)), none, none] [] z = some (some (.int (nI i)), z') ∧ dk_Inv z' := by
  obtain ⟨v, z1, z2, w1, w2, hI⟩ := k_planned d (xs (i + 1)) (xs (i + 2)) z h
  obtain ⟨r, rfl⟩ := dt_int (by decide) ((c_Sea_planned _ _ _ _ _).symm.trans w1)
  refine ⟨z2, ?_, hI⟩
  rw [b_LawR_701]
  simp only [dl_1, dl_2, dl_3, dl_4, dl_5, nI_add]
  refine dw_cI (dw_99 L xs d (i + 1) z (by omega) (by omega)) ?_
  refine dw_cI (dw_99 L xs d (i + 2) z (by omega) (by omega)) ?_
  refine dw_cI ((dw_co L xs d _ _ z (by decide)).trans w1) ?_
  refine dw_cI (dw_99 L xs d (i + 1) z1 (by omega) (by omega)) ?_
  refine dw_cI (dw_99 L xs d (i + 2) z1 (by omega) (by omega)) ?_
  refine dw_cI ((dw_co L xs d _ _ z1 (by decide)).trans w2) ?_
  exact if_pos rfl
theorem l_plannedTrades (L d i : Nat) (xs : Nat → Int32) (z : ds_St) (hL : L ≤ 3072) (hi : i + 6 ≤ L) (h : dk_Inv z) : ∃ z', ds_Rw ds_c_LawR ds_u_Law_law (dw_cl L xs d) 738 [some (.ref 200), some (.ref 0), some (.ref 90), some (.ref 111), some (.int (nI i)), none, none] [] z = some (some (.int (nI i)), z') ∧ dk_Inv z' := by
  obtain ⟨v, z1, z2, w1, w2, hI⟩ := k_plannedTrades d (xs (i + 1)) z h
  obtain ⟨r, rfl⟩ := dt_int (by decide) ((c_Sea_plannedTrades _ _ _ _).symm.trans w1)
  refine ⟨z2, ?_, hI⟩
  rw [b_LawR_738]
  simp only [dl_1, dl_2, dl_3, dl_4, dl_5, nI_add]
  refine dw_cI (dw_99 L xs d (i + 1) z (by omega) (by omega)) ?_
  refine dw_cI ((dw_co L xs d _ _ z (by decide)).trans w1) ?_
  refine dw_cI (dw_99 L xs d (i + 1) z1 (by omega) (by omega)) ?_
  refine dw_cI ((dw_co L xs d _ _ z1 (by decide)).trans w2) ?_
  exact if_pos rfl
theorem l_judge (L d i : Nat) (xs : Nat → Int32) (z : ds_St) (hL : L ≤ 3072) (hi : i + 6 ≤ L) (h : dk_Inv z) : ∃ z', ds_Rw ds_c_LawR ds_u_Law_law (dw_cl L xs d) 763 [some (.ref 200), some (.ref 0), some (.ref 90), some (.ref 111), some (.int (nI i)), none, none] [] z = some (some (.int (nI i)), z') ∧ dk_Inv z' := by
  obtain ⟨v, z1, z2, w1, w2, hI⟩ := k_judge d  z h
  obtain ⟨r, rfl⟩ := dt_int (by decide) ((c_Sea_judge _ _ _).symm.trans w1)
  refine ⟨z2, ?_, hI⟩
  rw [b_LawR_763]
  refine dw_cI ((dw_co L xs d _ _ z (by decide)).trans w1) ?_
  refine dw_cI ((dw_co L xs d _ _ z1 (by decide)).trans w2) ?_
  exact if_pos rfl
theorem l_fits (L d i : Nat) (xs : Nat → Int32) (z : ds_St) (hL : L ≤ 3072) (hi : i + 6 ≤ L) (h : dk_Inv z) : ∃ z', ds_Rw ds_c_LawR ds_u_Law_law (dw_cl L xs d) 776 [some (.ref 200), some (.ref 0), some (.ref 90), some (.ref 111), some (.int (nI i)), none, none] [] z = some (some (.int (nI i)), z') ∧ dk_Inv z' := by
  obtain ⟨v, z1, z2, w1, w2, hI⟩ := k_fits d (xs (i + 1)) z h
  obtain ⟨r, rfl⟩ := dt_int (by decide) ((c_Sea_fits _ _ _ _).symm.trans w1)
  refine ⟨z2, ?_, hI⟩
  rw [b_LawR_776]
  simp only [dl_1, dl_2, dl_3, dl_4, dl_5, nI_add]
  refine dw_cI (dw_99 L xs d (i + 1) z (by omega) (by omega)) ?_
  refine dw_cI ((dw_co L xs d _ _ z (by decide)).trans w1) ?_
  refine dw_cI (dw_99 L xs d (i + 1) z1 (by omega) (by omega)) ?_
  refine dw_cI ((dw_co L xs d _ _ z1 (by decide)).trans w2) ?_
  exact if_pos rfl
theorem l_fitAt (L d i : Nat) (xs : Nat → Int32) (z : ds_St) (hL : L ≤ 3072) (hi : i + 6 ≤ L) (h : dk_Inv z) : ∃ z', ds_Rw ds_c_LawR ds_u_Law_law (dw_cl L xs d) 801 [some (.ref 200), some (.ref 0), some (.ref 90), some (.ref 111), some (.int (nI i)), none, none] [] z = some (some (.int (nI i)), z') ∧ dk_Inv z' := by
  obtain ⟨v, z1, z2, w1, w2, hI⟩ := k_fitAt d (xs (i + 1)) (xs (i + 2)) z h
  obtain ⟨r, rfl⟩ := dt_int (by decide) ((c_Sea_fitAt _ _ _ _ _).symm.trans w1)
  refine ⟨z2, ?_, hI⟩
  rw [b_LawR_801]
  simp only [dl_1, dl_2, dl_3, dl_4, dl_5, nI_add]
  refine dw_cI (dw_99 L xs d (i + 1) z (by omega) (by omega)) ?_
  refine dw_cI (dw_99 L xs d (i + 2) z (by omega) (by omega)) ?_
  refine dw_cI ((dw_co L xs d _ _ z (by decide)).trans w1) ?_
  refine dw_cI (dw_99 L xs d (i + 1) z1 (by omega) (by omega)) ?_
  refine dw_cI (dw_99 L xs d (i + 2) z1 (by omega) (by omega)) ?_
  refine dw_cI ((dw_co L xs d _ _ z1 (by decide)).trans w2) ?_
  exact if_pos rfl
theorem l_again (L d i : Nat) (xs : Nat → Int32) (z : ds_St) (hL : L ≤ 3072) (hi : i + 6 ≤ L) (h : dk_Inv z) : ∃ z', ds_Rw ds_c_LawR ds_u_Law_law (dw_cl L xs d) 838 [some (.ref 200), some (.ref 0), some (.ref 90), some (.ref 111), some (.int (nI i)), none, none] [] z = some (some (.int (nI i)), z') ∧ dk_Inv z' := by
  obtain ⟨v, z1, z2, w1, w2, hI⟩ := k_again d  z h
  obtain ⟨r, rfl⟩ := dt_int (by decide) ((c_Sea_again _ _ _).symm.trans w1)
  refine ⟨z2, ?_, hI⟩
  rw [b_LawR_838]
  refine dw_cI ((dw_co L xs d _ _ z (by decide)).trans w1) ?_
  refine dw_cI ((dw_co L xs d _ _ z1 (by decide)).trans w2) ?_
  exact if_pos rfl
theorem l_cycle (L d i : Nat) (xs : Nat → Int32) (z : ds_St) (hL : L ≤ 3072) (hi : i + 6 ≤ L) (h : dk_Inv z) : ∃ z', ds_Rw ds_c_LawR ds_u_Law_law (dw_cl L xs d) 851 [some (.ref 200), some (.ref 0), some (.ref 90), some (.ref 111), some (.int (nI i)), none, none] [] z = some (some (.int (nI i)), z') ∧ dk_Inv z' := by
  obtain ⟨v, z1, z2, w1, w2, hI⟩ := k_cycle d (xs (i + 1)) z h
  obtain ⟨r, rfl⟩ := dt_int (by decide) ((c_Sea_cycle _ _ _ _).symm.trans w1)
  refine ⟨z2, ?_, hI⟩
  rw [b_LawR_851]
  simp only [dl_1, dl_2, dl_3, dl_4, dl_5, nI_add]
  refine dw_cI (dw_99 L xs d (i + 1) z (by omega) (by omega)) ?_
  refine dw_cI ((dw_co L xs d _ _ z (by decide)).trans w1) ?_
  refine dw_cI (dw_99 L xs d (i + 1) z1 (by omega) (by omega)) ?_
  refine dw_cI ((dw_co L xs d _ _ z1 (by decide)).trans w2) ?_
  exact if_pos rfl
theorem l_can (L d i : Nat) (xs : Nat → Int32) (z : ds_St) (hL : L ≤ 3072) (hi : i + 6 ≤ L) (h : dk_Inv z) : ∃ z', ds_Rw ds_c_LawR ds_u_Law_law (dw_cl L xs d) 876 [some (.ref 200), some (.ref 0), some (.ref 90), some (.ref 111), some (.int (nI i)), none, none] [] z = some (some (.int (nI i)), z') ∧ dk_Inv z' := by
  obtain ⟨v, z1, z2, w1, w2, hI⟩ := k_can d (xs (i + 1)) (xs (i + 2)) z h
  obtain ⟨r, rfl⟩ := dt_int (by decide) ((c_Sea_can _ _ _ _ _).symm.trans w1)
  refine ⟨z2, ?_, hI⟩
  rw [b_LawR_876]
  simp only [dl_1, dl_2, dl_3, dl_4, dl_5, nI_add]
  refine dw_cI (dw_99 L xs d (i + 1) z (by omega) (by omega)) ?_
  refine dw_cI (dw_99 L xs d (i + 2) z (by omega) (by omega)) ?_
  refine dw_cI ((dw_co L xs d _ _ z (by decide)).trans w1) ?_
  refine dw_cI (dw_99 L xs d (i + 1) z1 (by omega) (by omega)) ?_
  refine dw_cI (dw_99 L xs d (i + 2) z1 (by omega) (by omega)) ?_
  refine dw_cI ((dw_co L xs d _ _ z1 (by decide)).trans w2) ?_
  exact if_pos rfl
theorem l_alike (L d i : Nat) (xs : Nat → Int32) (z : ds_St) (hL : L ≤ 3072) (hi : i + 6 ≤ L) (h : dk_Inv z) : ∃ z', ds_Rw ds_c_LawR ds_u_Law_law (dw_cl L xs d) 1057 [some (.ref 200), some (.ref 0), some (.ref 90), some (.ref 111), some (.int (nI i)), none, none] [] z = some (some (.int (nI i)), z') ∧ dk_Inv z' := by
  obtain ⟨v, z1, z2, w1, w2, hI⟩ := k_alike d (xs (i + 1)) (xs (i + 2)) z h
  obtain ⟨r, rfl⟩ := dt_int (by decide) ((c_Sea_alike _ _ _ _ _).symm.trans w1)
  refine ⟨z2, ?_, hI⟩
  rw [b_LawR_1057]
  simp only [dl_1, dl_2, dl_3, dl_4, dl_5, nI_add]
  refine dw_cI (dw_99 L xs d (i + 1) z (by omega) (by omega)) ?_
  refine dw_cI (dw_99 L xs d (i + 2) z (by omega) (by omega)) ?_
  refine dw_cI ((dw_co L xs d _ _ z (by decide)).trans w1) ?_
  refine dw_cI (dw_99 L xs d (i + 1) z1 (by omega) (by omega)) ?_
  refine dw_cI (dw_99 L xs d (i + 2) z1 (by omega) (by omega)) ?_
  refine dw_cI ((dw_co L xs d _ _ z1 (by decide)).trans w2) ?_
  exact if_pos rfl
theorem l_fewest (L d i : Nat) (xs : Nat → Int32) (z : ds_St) (hL : L ≤ 3072) (hi : i + 6 ≤ L) (h : dk_Inv z) : ∃ z', ds_Rw ds_c_LawR ds_u_Law_law (dw_cl L xs d) 1094 [some (.ref 200), some (.ref 0), some (.ref 90), some (.ref 111), some (.int (nI i)), none, none] [] z = some (some (.int (nI i)), z') ∧ dk_Inv z' := by
  obtain ⟨v, z1, z2, w1, w2, hI⟩ := k_fewest d (xs (i + 1)) (xs (i + 2)) z h
  obtain ⟨r, rfl⟩ := dt_int (by decide) ((c_Sea_fewest _ _ _ _ _).symm.trans w1)
  refine ⟨z2, ?_, hI⟩
  rw [b_LawR_1094]
  simp only [dl_1, dl_2, dl_3, dl_4, dl_5, nI_add]
  refine dw_cI (dw_99 L xs d (i + 1) z (by omega) (by omega)) ?_
  refine dw_cI (dw_99 L xs d (i + 2) z (by omega) (by omega)) ?_
  refine dw_cI ((dw_co L xs d _ _ z (by decide)).trans w1) ?_
  refine dw_cI (dw_99 L xs d (i + 1) z1 (by omega) (by omega)) ?_
  refine dw_cI (dw_99 L xs d (i + 2) z1 (by omega) (by omega)) ?_
  refine dw_cI ((dw_co L xs d _ _ z1 (by decide)).trans w2) ?_
  exact if_pos rfl
theorem l_moveAt (L d i : Nat) (xs : Nat → Int32) (z : ds_St) (hL : L ≤ 3072) (hi : i + 6 ≤ L) (h : dk_Inv z) : ∃ z', ds_Rw ds_c_LawR ds_u_Law_law (dw_cl L xs d) 1131 [some (.ref 200), some (.ref 0), some (.ref 90), some (.ref 111), some (.int (nI i)), none, none] [] z = some (some (.int (nI i)), z') ∧ dk_Inv z' := by
  obtain ⟨v, z1, z2, w1, w2, hI⟩ := k_moveAt d (xs (i + 1)) (xs (i + 2)) (xs (i + 3)) z h
  obtain ⟨r, rfl⟩ := dt_int (by decide) ((c_Sea_moveAt _ _ _ _ _ _).symm.trans w1)
  refine ⟨z2, ?_, hI⟩
  rw [b_LawR_1131]
  simp only [dl_1, dl_2, dl_3, dl_4, dl_5, nI_add]
  refine dw_cI (dw_99 L xs d (i + 1) z (by omega) (by omega)) ?_
  refine dw_cI (dw_99 L xs d (i + 2) z (by omega) (by omega)) ?_
  refine dw_cI (dw_99 L xs d (i + 3) z (by omega) (by omega)) ?_
  refine dw_cI ((dw_co L xs d _ _ z (by decide)).trans w1) ?_
  refine dw_cI (dw_99 L xs d (i + 1) z1 (by omega) (by omega)) ?_
  refine dw_cI (dw_99 L xs d (i + 2) z1 (by omega) (by omega)) ?_
  refine dw_cI (dw_99 L xs d (i + 3) z1 (by omega) (by omega)) ?_
  refine dw_cI ((dw_co L xs d _ _ z1 (by decide)).trans w2) ?_
  exact if_pos rfl
theorem l_together (L d i : Nat) (xs : Nat → Int32) (z : ds_St) (hL : L ≤ 3072) (hi : i + 6 ≤ L) (h : dk_Inv z) : ∃ z', ds_Rw ds_c_LawR ds_u_Law_law (dw_cl L xs d) 1180 [some (.ref 200), some (.ref 0), some (.ref 90), some (.ref 111), some (.int (nI i)), none, none] [] z = some (some (.int (nI i)), z') ∧ dk_Inv z' := by
  obtain ⟨v, z1, z2, w1, w2, hI⟩ := k_together d (xs (i + 1)) (xs (i + 2)) z h
  obtain ⟨r, rfl⟩ := dt_int (by decide) ((c_Sea_together _ _ _ _ _).symm.trans w1)
  refine ⟨z2, ?_, hI⟩
  rw [b_LawR_1180]
  simp only [dl_1, dl_2, dl_3, dl_4, dl_5, nI_add]
  refine dw_cI (dw_99 L xs d (i + 1) z (by omega) (by omega)) ?_
  refine dw_cI (dw_99 L xs d (i + 2) z (by omega) (by omega)) ?_
  refine dw_cI ((dw_co L xs d _ _ z (by decide)).trans w1) ?_
  refine dw_cI (dw_99 L xs d (i + 1) z1 (by omega) (by omega)) ?_
  refine dw_cI (dw_99 L xs d (i + 2) z1 (by omega) (by omega)) ?_
  refine dw_cI ((dw_co L xs d _ _ z1 (by decide)).trans w2) ?_
  exact if_pos rfl
theorem l_togetherAt (L d i : Nat) (xs : Nat → Int32) (z : ds_St) (hL : L ≤ 3072) (hi : i + 6 ≤ L) (h : dk_Inv z) : ∃ z', ds_Rw ds_c_LawR ds_u_Law_law (dw_cl L xs d) 1217 [some (.ref 200), some (.ref 0), some (.ref 90), some (.ref 111), some (.int (nI i)), none, none] [] z = some (some (.int (nI i)), z') ∧ dk_Inv z' := by
  obtain ⟨v, z1, z2, w1, w2, hI⟩ := k_togetherAt d (xs (i + 1)) (xs (i + 2)) (xs (i + 3)) z h
  obtain ⟨r, rfl⟩ := dt_int (by decide) ((c_Sea_togetherAt _ _ _ _ _ _).symm.trans w1)
  refine ⟨z2, ?_, hI⟩
  rw [b_LawR_1217]
  simp only [dl_1, dl_2, dl_3, dl_4, dl_5, nI_add]
  refine dw_cI (dw_99 L xs d (i + 1) z (by omega) (by omega)) ?_
  refine dw_cI (dw_99 L xs d (i + 2) z (by omega) (by omega)) ?_
  refine dw_cI (dw_99 L xs d (i + 3) z (by omega) (by omega)) ?_
  refine dw_cI ((dw_co L xs d _ _ z (by decide)).trans w1) ?_
  refine dw_cI (dw_99 L xs d (i + 1) z1 (by omega) (by omega)) ?_
  refine dw_cI (dw_99 L xs d (i + 2) z1 (by omega) (by omega)) ?_
  refine dw_cI (dw_99 L xs d (i + 3) z1 (by omega) (by omega)) ?_
  refine dw_cI ((dw_co L xs d _ _ z1 (by decide)).trans w2) ?_
  exact if_pos rfl
theorem l_three (L d i : Nat) (xs : Nat → Int32) (z : ds_St) (hL : L ≤ 3072) (hi : i + 6 ≤ L) (h : dk_Inv z) : ∃ z', ds_Rw ds_c_LawR ds_u_Law_law (dw_cl L xs d) 1266 [some (.ref 200), some (.ref 0), some (.ref 90), some (.ref 111), some (.int (nI i)), none, none] [] z = some (some (.int (nI i)), z') ∧ dk_Inv z' := by
  obtain ⟨v, z1, z2, w1, w2, hI⟩ := k_three d (xs (i + 1)) (xs (i + 2)) (xs (i + 3)) z h
  obtain ⟨r, rfl⟩ := dt_int (by decide) ((c_Sea_three _ _ _ _ _ _).symm.trans w1)
  refine ⟨z2, ?_, hI⟩
  rw [b_LawR_1266]
  simp only [dl_1, dl_2, dl_3, dl_4, dl_5, nI_add]
  refine dw_cI (dw_99 L xs d (i + 1) z (by omega) (by omega)) ?_
  refine dw_cI (dw_99 L xs d (i + 2) z (by omega) (by omega)) ?_
  refine dw_cI (dw_99 L xs d (i + 3) z (by omega) (by omega)) ?_
  refine dw_cI ((dw_co L xs d _ _ z (by decide)).trans w1) ?_
  refine dw_cI (dw_99 L xs d (i + 1) z1 (by omega) (by omega)) ?_
  refine dw_cI (dw_99 L xs d (i + 2) z1 (by omega) (by omega)) ?_
  refine dw_cI (dw_99 L xs d (i + 3) z1 (by omega) (by omega)) ?_
  refine dw_cI ((dw_co L xs d _ _ z1 (by decide)).trans w2) ?_
  exact if_pos rfl
theorem l_best (L d i : Nat) (xs : Nat → Int32) (z : ds_St) (hL : L ≤ 3072) (hi : i + 6 ≤ L) (h : dk_Inv z) : ∃ z', ds_Rw ds_c_LawR ds_u_Law_law (dw_cl L xs d) 1315 [some (.ref 200), some (.ref 0), some (.ref 90), some (.ref 111), some (.int (nI i)), none, none] [] z = some (some (.int (nI i)), z') ∧ dk_Inv z' := by
  obtain ⟨v, z1, z2, w1, w2, hI⟩ := k_best d  z h
  obtain ⟨r, rfl⟩ := dt_int (by decide) ((c_Sea_best _ _ _).symm.trans w1)
  refine ⟨z2, ?_, hI⟩
  rw [b_LawR_1315]
  refine dw_cI ((dw_co L xs d _ _ z (by decide)).trans w1) ?_
  refine dw_cI ((dw_co L xs d _ _ z1 (by decide)).trans w2) ?_
  exact if_pos rfl
theorem l_bestTrades (L d i : Nat) (xs : Nat → Int32) (z : ds_St) (hL : L ≤ 3072) (hi : i + 6 ≤ L) (h : dk_Inv z) : ∃ z', ds_Rw ds_c_LawR ds_u_Law_law (dw_cl L xs d) 1328 [some (.ref 200), some (.ref 0), some (.ref 90), some (.ref 111), some (.int (nI i)), none, none] [] z = some (some (.int (nI i)), z') ∧ dk_Inv z' := by
  obtain ⟨v, z1, z2, w1, w2, hI⟩ := k_bestTrades d  z h
  obtain ⟨r, rfl⟩ := dt_int (by decide) ((c_Sea_bestTrades _ _ _).symm.trans w1)
  refine ⟨z2, ?_, hI⟩
  rw [b_LawR_1328]
  refine dw_cI ((dw_co L xs d _ _ z (by decide)).trans w1) ?_
  refine dw_cI ((dw_co L xs d _ _ z1 (by decide)).trans w2) ?_
  exact if_pos rfl
theorem l_bestTwo (L d i : Nat) (xs : Nat → Int32) (z : ds_St) (hL : L ≤ 3072) (hi : i + 6 ≤ L) (h : dk_Inv z) : ∃ z', ds_Rw ds_c_LawR ds_u_Law_law (dw_cl L xs d) 1341 [some (.ref 200), some (.ref 0), some (.ref 90), some (.ref 111), some (.int (nI i)), none, none] [] z = some (some (.int (nI i)), z') ∧ dk_Inv z' := by
  obtain ⟨v, z1, z2, w1, w2, hI⟩ := k_bestTwo d  z h
  obtain ⟨r, rfl⟩ := dt_int (by decide) ((c_Sea_bestTwo _ _ _).symm.trans w1)
  refine ⟨z2, ?_, hI⟩
  rw [b_LawR_1341]
  refine dw_cI ((dw_co L xs d _ _ z (by decide)).trans w1) ?_
  refine dw_cI ((dw_co L xs d _ _ z1 (by decide)).trans w2) ?_
  exact if_pos rfl
theorem l_exchange (L d i : Nat) (xs : Nat → Int32) (z : ds_St) (hL : L ≤ 3072) (hi : i + 6 ≤ L) (h : dk_Inv z) : ∃ z', ds_Rw ds_c_LawR ds_u_Law_law (dw_cl L xs d) 1354 [some (.ref 200), some (.ref 0), some (.ref 90), some (.ref 111), some (.int (nI i)), none, none] [] z = some (some (.int (nI i)), z') ∧ dk_Inv z' := by
  obtain ⟨v, z1, z2, w1, w2, hI⟩ := k_exchange d  z h
  obtain ⟨r, rfl⟩ := dt_int (by decide) ((c_Sea_exchange _ _ _).symm.trans w1)
  refine ⟨z2, ?_, hI⟩
  rw [b_LawR_1354]
  refine dw_cI ((dw_co L xs d _ _ z (by decide)).trans w1) ?_
  refine dw_cI ((dw_co L xs d _ _ z1 (by decide)).trans w2) ?_
  exact if_pos rfl
theorem l_gain (L d i : Nat) (xs : Nat → Int32) (z : ds_St) (hL : L ≤ 3072) (hi : i + 6 ≤ L) (h : dk_Inv z) : ∃ z', ds_Rw ds_c_LawR ds_u_Law_law (dw_cl L xs d) 1367 [some (.ref 200), some (.ref 0), some (.ref 90), some (.ref 111), some (.int (nI i)), none, none] [] z = some (some (.int (nI i)), z') ∧ dk_Inv z' := by
  obtain ⟨v, z1, z2, w1, w2, hI⟩ := k_gain d (xs (i + 1)) (xs (i + 2)) (xs (i + 3)) (xs (i + 4)) z h
  obtain ⟨r, rfl⟩ := dt_int (by decide) ((c_Sea_gain _ _ _ _ _ _ _).symm.trans w1)
  refine ⟨z2, ?_, hI⟩
  rw [b_LawR_1367]
  simp only [dl_1, dl_2, dl_3, dl_4, dl_5, nI_add]
  refine dw_cI (dw_99 L xs d (i + 1) z (by omega) (by omega)) ?_
  refine dw_cI (dw_99 L xs d (i + 2) z (by omega) (by omega)) ?_
  refine dw_cI (dw_99 L xs d (i + 3) z (by omega) (by omega)) ?_
  refine dw_cI (dw_99 L xs d (i + 4) z (by omega) (by omega)) ?_
  refine dw_cI ((dw_co L xs d _ _ z (by decide)).trans w1) ?_
  refine dw_cI (dw_99 L xs d (i + 1) z1 (by omega) (by omega)) ?_
  refine dw_cI (dw_99 L xs d (i + 2) z1 (by omega) (by omega)) ?_
  refine dw_cI (dw_99 L xs d (i + 3) z1 (by omega) (by omega)) ?_
  refine dw_cI (dw_99 L xs d (i + 4) z1 (by omega) (by omega)) ?_
  refine dw_cI ((dw_co L xs d _ _ z1 (by decide)).trans w2) ?_
  exact if_pos rfl
theorem l_rests (L d i : Nat) (xs : Nat → Int32) (z : ds_St) (hL : L ≤ 3072) (hi : i + 6 ≤ L) (h : dk_Inv z) : ∃ z', ds_Rw ds_c_LawR ds_u_Law_law (dw_cl L xs d) 1428 [some (.ref 200), some (.ref 0), some (.ref 90), some (.ref 111), some (.int (nI i)), none, none] [] z = some (some (.int (nI i)), z') ∧ dk_Inv z' := by
  obtain ⟨v, z1, z2, w1, w2, hI⟩ := k_rests d (xs (i + 1)) (xs (i + 2)) z h
  obtain ⟨r, rfl⟩ := dt_int (by decide) ((c_Sea_rests _ _ _ _ _).symm.trans w1)
  refine ⟨z2, ?_, hI⟩
  rw [b_LawR_1428]
  simp only [dl_1, dl_2, dl_3, dl_4, dl_5, nI_add]
  refine dw_cI (dw_99 L xs d (i + 1) z (by omega) (by omega)) ?_
  refine dw_cI (dw_99 L xs d (i + 2) z (by omega) (by omega)) ?_
  refine dw_cI ((dw_co L xs d _ _ z (by decide)).trans w1) ?_
  refine dw_cI (dw_99 L xs d (i + 1) z1 (by omega) (by omega)) ?_
  refine dw_cI (dw_99 L xs d (i + 2) z1 (by omega) (by omega)) ?_
  refine dw_cI ((dw_co L xs d _ _ z1 (by decide)).trans w2) ?_
  exact if_pos rfl
theorem l_rest (L d i : Nat) (xs : Nat → Int32) (z : ds_St) (hL : L ≤ 3072) (hi : i + 6 ≤ L) (h : dk_Inv z) : ∃ z', ds_Rw ds_c_LawR ds_u_Law_law (dw_cl L xs d) 1465 [some (.ref 200), some (.ref 0), some (.ref 90), some (.ref 111), some (.int (nI i)), none, none] [] z = some (some (.int (nI i)), z') ∧ dk_Inv z' := by
  obtain ⟨v, z1, z2, w1, w2, hI⟩ := k_rest d (xs (i + 1)) (xs (i + 2)) z h
  obtain ⟨r, rfl⟩ := dt_int (by decide) ((c_Sea_rest _ _ _ _ _).symm.trans w1)
  refine ⟨z2, ?_, hI⟩
  rw [b_LawR_1465]
  simp only [dl_1, dl_2, dl_3, dl_4, dl_5, nI_add]
  refine dw_cI (dw_99 L xs d (i + 1) z (by omega) (by omega)) ?_
  refine dw_cI (dw_99 L xs d (i + 2) z (by omega) (by omega)) ?_
  refine dw_cI ((dw_co L xs d _ _ z (by decide)).trans w1) ?_
  refine dw_cI (dw_99 L xs d (i + 1) z1 (by omega) (by omega)) ?_
  refine dw_cI (dw_99 L xs d (i + 2) z1 (by omega) (by omega)) ?_
  refine dw_cI ((dw_co L xs d _ _ z1 (by decide)).trans w2) ?_
  exact if_pos rfl
theorem l_decade (L d i : Nat) (xs : Nat → Int32) (z : ds_St) (hL : L ≤ 3072) (hi : i + 6 ≤ L) (h : dk_Inv z) : ∃ z', ds_Rw ds_c_LawR ds_u_Law_law (dw_cl L xs d) 1502 [some (.ref 200), some (.ref 0), some (.ref 90), some (.ref 111), some (.int (nI i)), none, none] [] z = some (some (.int (nI i)), z') ∧ dk_Inv z' := by
  obtain ⟨v, z1, z2, w1, w2, hI⟩ := k_decade d (xs (i + 1)) (xs (i + 2)) z h
  obtain ⟨r, rfl⟩ := dt_int (by decide) ((c_Sea_decade _ _ _ _ _).symm.trans w1)
  refine ⟨z2, ?_, hI⟩
  rw [b_LawR_1502]
  simp only [dl_1, dl_2, dl_3, dl_4, dl_5, nI_add]
  refine dw_cI (dw_99 L xs d (i + 1) z (by omega) (by omega)) ?_
  refine dw_cI (dw_99 L xs d (i + 2) z (by omega) (by omega)) ?_
  refine dw_cI ((dw_co L xs d _ _ z (by decide)).trans w1) ?_
  refine dw_cI (dw_99 L xs d (i + 1) z1 (by omega) (by omega)) ?_
  refine dw_cI (dw_99 L xs d (i + 2) z1 (by omega) (by omega)) ?_
  refine dw_cI ((dw_co L xs d _ _ z1 (by decide)).trans w2) ?_
  exact if_pos rfl
theorem l_decadeWishes (L d i : Nat) (xs : Nat → Int32) (z : ds_St) (hL : L ≤ 3072) (hi : i + 6 ≤ L) (h : dk_Inv z) : ∃ z', ds_Rw ds_c_LawR ds_u_Law_law (dw_cl L xs d) 1539 [some (.ref 200), some (.ref 0), some (.ref 90), some (.ref 111), some (.int (nI i)), none, none] [] z = some (some (.int (nI i)), z') ∧ dk_Inv z' := by
  obtain ⟨v, z1, z2, w1, w2, hI⟩ := k_decadeWishes d (xs (i + 1)) (xs (i + 2)) z h
  obtain ⟨r, rfl⟩ := dt_int (by decide) ((c_Sea_decadeWishes _ _ _ _ _).symm.trans w1)
  refine ⟨z2, ?_, hI⟩
  rw [b_LawR_1539]
  simp only [dl_1, dl_2, dl_3, dl_4, dl_5, nI_add]
  refine dw_cI (dw_99 L xs d (i + 1) z (by omega) (by omega)) ?_
  refine dw_cI (dw_99 L xs d (i + 2) z (by omega) (by omega)) ?_
  refine dw_cI ((dw_co L xs d _ _ z (by decide)).trans w1) ?_
  refine dw_cI (dw_99 L xs d (i + 1) z1 (by omega) (by omega)) ?_
  refine dw_cI (dw_99 L xs d (i + 2) z1 (by omega) (by omega)) ?_
  refine dw_cI ((dw_co L xs d _ _ z1 (by decide)).trans w2) ?_
  exact if_pos rfl
theorem l_decadeOf (L d i : Nat) (xs : Nat → Int32) (z : ds_St) (hL : L ≤ 3072) (hi : i + 6 ≤ L) (h : dk_Inv z) : ∃ z', ds_Rw ds_c_LawR ds_u_Law_law (dw_cl L xs d) 1576 [some (.ref 200), some (.ref 0), some (.ref 90), some (.ref 111), some (.int (nI i)), none, none] [] z = some (some (.int (nI i)), z') ∧ dk_Inv z' := by
  obtain ⟨v, z1, z2, w1, w2, hI⟩ := k_decadeOf d (xs (i + 1)) (xs (i + 2)) (xs (i + 3)) z h
  obtain ⟨r, rfl⟩ := dt_int (by decide) ((c_Sea_decadeOf _ _ _ _ _ _).symm.trans w1)
  refine ⟨z2, ?_, hI⟩
  rw [b_LawR_1576]
  simp only [dl_1, dl_2, dl_3, dl_4, dl_5, nI_add]
  refine dw_cI (dw_99 L xs d (i + 1) z (by omega) (by omega)) ?_
  refine dw_cI (dw_99 L xs d (i + 2) z (by omega) (by omega)) ?_
  refine dw_cI (dw_99 L xs d (i + 3) z (by omega) (by omega)) ?_
  refine dw_cI ((dw_co L xs d _ _ z (by decide)).trans w1) ?_
  refine dw_cI (dw_99 L xs d (i + 1) z1 (by omega) (by omega)) ?_
  refine dw_cI (dw_99 L xs d (i + 2) z1 (by omega) (by omega)) ?_
  refine dw_cI (dw_99 L xs d (i + 3) z1 (by omega) (by omega)) ?_
  refine dw_cI ((dw_co L xs d _ _ z1 (by decide)).trans w2) ?_
  exact if_pos rfl
theorem l_deal (L d i : Nat) (xs : Nat → Int32) (z : ds_St) (hL : L ≤ 3072) (hi : i + 6 ≤ L) (h : dk_Inv z) : ∃ z', ds_Rw ds_c_LawR ds_u_Law_law (dw_cl L xs d) 1625 [some (.ref 200), some (.ref 0), some (.ref 90), some (.ref 111), some (.int (nI i)), none, none] [] z = some (some (.int (nI i)), z') ∧ dk_Inv z' := by
  obtain ⟨v, z1, z2, w1, w2, hI⟩ := k_deal d (xs (i + 1)) z h
  obtain ⟨r, rfl⟩ := dt_int (by decide) ((c_Sea_deal _ _ _ _).symm.trans w1)
  refine ⟨z2, ?_, hI⟩
  rw [b_LawR_1625]
  simp only [dl_1, dl_2, dl_3, dl_4, dl_5, nI_add]
  refine dw_cI (dw_99 L xs d (i + 1) z (by omega) (by omega)) ?_
  refine dw_cI ((dw_co L xs d _ _ z (by decide)).trans w1) ?_
  refine dw_cI (dw_99 L xs d (i + 1) z1 (by omega) (by omega)) ?_
  refine dw_cI ((dw_co L xs d _ _ z1 (by decide)).trans w2) ?_
  exact if_pos rfl
theorem l_palm (L d i : Nat) (xs : Nat → Int32) (z : ds_St) (hL : L ≤ 3072) (hi : i + 6 ≤ L) (h : dk_Inv z) : ∃ z', ds_Rw ds_c_LawR ds_u_Law_law (dw_cl L xs d) 1650 [some (.ref 200), some (.ref 0), some (.ref 90), some (.ref 111), some (.int (nI i)), none, none] [] z = some (some (.int (nI i)), z') ∧ dk_Inv z' := by
  obtain ⟨v, z1, z2, w1, w2, hI⟩ := k_palm d (xs (i + 1)) z h
  obtain ⟨r, rfl⟩ := dt_int (by decide) ((c_Sea_palm _ _ _ _).symm.trans w1)
  refine ⟨z2, ?_, hI⟩
  rw [b_LawR_1650]
  simp only [dl_1, dl_2, dl_3, dl_4, dl_5, nI_add]
  refine dw_cI (dw_99 L xs d (i + 1) z (by omega) (by omega)) ?_
  refine dw_cI ((dw_co L xs d _ _ z (by decide)).trans w1) ?_
  refine dw_cI (dw_99 L xs d (i + 1) z1 (by omega) (by omega)) ?_
  refine dw_cI ((dw_co L xs d _ _ z1 (by decide)).trans w2) ?_
  exact if_pos rfl
theorem l_lay (L d i : Nat) (xs : Nat → Int32) (z : ds_St) (hL : L ≤ 3072) (hi : i + 6 ≤ L) (h : dk_Inv z) : ∃ z', ds_Rw ds_c_LawR ds_u_Law_law (dw_cl L xs d) 1675 [some (.ref 200), some (.ref 0), some (.ref 90), some (.ref 111), some (.int (nI i)), none, none] [] z = some (some (.int (nI i)), z') ∧ dk_Inv z' := by
  obtain ⟨v, z1, z2, w1, w2, hI⟩ := k_lay d  z h
  obtain ⟨r, rfl⟩ := dt_int (by decide) ((c_Sea_lay _ _ _).symm.trans w1)
  refine ⟨z2, ?_, hI⟩
  rw [b_LawR_1675]
  refine dw_cI ((dw_co L xs d _ _ z (by decide)).trans w1) ?_
  refine dw_cI ((dw_co L xs d _ _ z1 (by decide)).trans w2) ?_
  exact if_pos rfl
theorem l_undo (L d i : Nat) (xs : Nat → Int32) (z : ds_St) (hL : L ≤ 3072) (hi : i + 6 ≤ L) (h : dk_Inv z) : ∃ z', ds_Rw ds_c_LawR ds_u_Law_law (dw_cl L xs d) 1688 [some (.ref 200), some (.ref 0), some (.ref 90), some (.ref 111), some (.int (nI i)), none, none] [] z = some (some (.int (nI i)), z') ∧ dk_Inv z' := by
  obtain ⟨v, z1, z2, w1, w2, hI⟩ := k_undo d  z h
  obtain ⟨r, rfl⟩ := dt_int (by decide) ((c_Sea_undo _ _ _).symm.trans w1)
  refine ⟨z2, ?_, hI⟩
  rw [b_LawR_1688]
  refine dw_cI ((dw_co L xs d _ _ z (by decide)).trans w1) ?_
  refine dw_cI ((dw_co L xs d _ _ z1 (by decide)).trans w2) ?_
  exact if_pos rfl
theorem l_image (L d i : Nat) (xs : Nat → Int32) (z : ds_St) (hL : L ≤ 3072) (hi : i + 6 ≤ L) (h : dk_Inv z) : ∃ z', ds_Rw ds_c_LawR ds_u_Law_law (dw_cl L xs d) 1701 [some (.ref 200), some (.ref 0), some (.ref 90), some (.ref 111), some (.int (nI i)), none, none] [] z = some (some (.int (nI i)), z') ∧ dk_Inv z' := by
  obtain ⟨v, z1, z2, w1, w2, hI⟩ := k_image d  z h
  obtain ⟨r, rfl⟩ := dt_int (by decide) ((c_Sea_image _ _ _).symm.trans w1)
  refine ⟨z2, ?_, hI⟩
  rw [b_LawR_1701]
  refine dw_cI ((dw_co L xs d _ _ z (by decide)).trans w1) ?_
  refine dw_cI ((dw_co L xs d _ _ z1 (by decide)).trans w2) ?_
  exact if_pos rfl
theorem l_back (L d i : Nat) (xs : Nat → Int32) (z : ds_St) (hL : L ≤ 3072) (hi : i + 6 ≤ L) (h : dk_Inv z) : ∃ z', ds_Rw ds_c_LawR ds_u_Law_law (dw_cl L xs d) 1714 [some (.ref 200), some (.ref 0), some (.ref 90), some (.ref 111), some (.int (nI i)), none, none] [] z = some (some (.int (nI i)), z') ∧ dk_Inv z' := by
  obtain ⟨v, z1, z2, w1, w2, hI⟩ := k_back d (xs (i + 1)) z h
  obtain ⟨r, rfl⟩ := dt_int (by decide) ((c_Sea_back _ _ _ _).symm.trans w1)
  refine ⟨z2, ?_, hI⟩
  rw [b_LawR_1714]
  simp only [dl_1, dl_2, dl_3, dl_4, dl_5, nI_add]
  refine dw_cI (dw_99 L xs d (i + 1) z (by omega) (by omega)) ?_
  refine dw_cI ((dw_co L xs d _ _ z (by decide)).trans w1) ?_
  refine dw_cI (dw_99 L xs d (i + 1) z1 (by omega) (by omega)) ?_
  refine dw_cI ((dw_co L xs d _ _ z1 (by decide)).trans w2) ?_
  exact if_pos rfl
theorem l_size (L d i : Nat) (xs : Nat → Int32) (z : ds_St) (hL : L ≤ 3072) (hi : i + 6 ≤ L) (h : dk_Inv z) : ∃ z', ds_Rw ds_c_LawR ds_u_Law_law (dw_cl L xs d) 1795 [some (.ref 200), some (.ref 0), some (.ref 90), some (.ref 111), some (.int (nI i)), none, none] [] z = some (some (.int (nI i)), z') ∧ dk_Inv z' := by
  obtain ⟨v, z1, z2, w1, w2, hI⟩ := k_size d (xs (i + 1)) z h
  obtain ⟨r, rfl⟩ := dt_int (by decide) ((c_Sea_size _ _ _ _).symm.trans w1)
  refine ⟨z2, ?_, hI⟩
  rw [b_LawR_1795]
  simp only [dl_1, dl_2, dl_3, dl_4, dl_5, nI_add]
  refine dw_cI (dw_99 L xs d (i + 1) z (by omega) (by omega)) ?_
  refine dw_cI ((dw_co L xs d _ _ z (by decide)).trans w1) ?_
  refine dw_cI (dw_99 L xs d (i + 1) z1 (by omega) (by omega)) ?_
  refine dw_cI ((dw_co L xs d _ _ z1 (by decide)).trans w2) ?_
  exact if_pos rfl
theorem l_trouble (L d i : Nat) (xs : Nat → Int32) (z : ds_St) (hL : L ≤ 3072) (hi : i + 6 ≤ L) (h : dk_Inv z) : ∃ z', ds_Rw ds_c_LawR ds_u_Law_law (dw_cl L xs d) 1820 [some (.ref 200), some (.ref 0), some (.ref 90), some (.ref 111), some (.int (nI i)), none, none] [] z = some (some (.int (nI i)), z') ∧ dk_Inv z' := by
  obtain ⟨v, z1, z2, w1, w2, hI⟩ := k_trouble d  z h
  obtain ⟨r, rfl⟩ := dt_int (by decide) ((c_Sea_trouble _ _ _).symm.trans w1)
  refine ⟨z2, ?_, hI⟩
  rw [b_LawR_1820]
  refine dw_cI ((dw_co L xs d _ _ z (by decide)).trans w1) ?_
  refine dw_cI ((dw_co L xs d _ _ z1 (by decide)).trans w2) ?_
  exact if_pos rfl
theorem l_odds (L d i : Nat) (xs : Nat → Int32) (z : ds_St) (hL : L ≤ 3072) (hi : i + 6 ≤ L) (h : dk_Inv z) : ∃ z', ds_Rw ds_c_LawR ds_u_Law_law (dw_cl L xs d) 913 [some (.ref 200), some (.ref 0), some (.ref 90), some (.ref 111), some (.int (nI i)), none, none] [] z = some (some (.int (nI i)), z') ∧ dk_Inv z' := by
  have k0 : ds_K 0 = 8 := rfl
  by_cases q : xs (i + 4) = nI 0
  · obtain ⟨v, z1, z2, w1, w2, hI⟩ := k_odds d (xs (i + 1)) (xs (i + 2)) (xs (i + 3)) (nI 0) z h
    obtain ⟨r, rfl⟩ := dt_long (by decide) ((c_Sea_odds _ _ _ _ _ _ _).symm.trans w1)
    refine ⟨z2, ?_, hI⟩
    rw [b_LawR_913]
    simp only [dl_0, dl_1, dl_2, dl_3, dl_4, dl_5, nI_add]
    refine dw_cI (dw_99 L xs d (i + 1) z (by omega) (by omega)) ?_
    refine dw_cI (dw_99 L xs d (i + 2) z (by omega) (by omega)) ?_
    refine dw_cI (dw_99 L xs d (i + 3) z (by omega) (by omega)) ?_
    refine dw_cI (dw_99 L xs d (i + 4) z (by omega) (by omega)) ?_
    refine (if_pos q).trans ?_
    rw [b_LawR_946, ds_isK_t k0]
    simp only [dl_0, dl_1, dl_2, dl_3, dl_4, dl_5, nI_add]
    refine dw_cL ((dw_co L xs d _ _ z (by decide)).trans w1) ?_
    refine dw_cI (dw_99 L xs d (i + 1) z1 (by omega) (by omega)) ?_
    refine dw_cI (dw_99 L xs d (i + 2) z1 (by omega) (by omega)) ?_
    refine dw_cI (dw_99 L xs d (i + 3) z1 (by omega) (by omega)) ?_
    refine dw_cI (dw_99 L xs d (i + 4) z1 (by omega) (by omega)) ?_
    refine (if_pos q).trans ?_
    refine dw_cL ((dw_co L xs d _ _ z1 (by decide)).trans w2) ?_
    exact if_pos (dw_cmp r)
  · obtain ⟨v, z1, z2, w1, w2, hI⟩ := k_odds d (xs (i + 1)) (xs (i + 2)) (xs (i + 3)) (nI 1) z h
    obtain ⟨r, rfl⟩ := dt_long (by decide) ((c_Sea_odds _ _ _ _ _ _ _).symm.trans w1)
    refine ⟨z2, ?_, hI⟩
    rw [b_LawR_913]
    simp only [dl_0, dl_1, dl_2, dl_3, dl_4, dl_5, nI_add]
    refine dw_cI (dw_99 L xs d (i + 1) z (by omega) (by omega)) ?_
    refine dw_cI (dw_99 L xs d (i + 2) z (by omega) (by omega)) ?_
    refine dw_cI (dw_99 L xs d (i + 3) z (by omega) (by omega)) ?_
    refine dw_cI (dw_99 L xs d (i + 4) z (by omega) (by omega)) ?_
    refine (if_neg q).trans ?_
    rw [b_LawR_946, ds_isK_t k0]
    simp only [dl_0, dl_1, dl_2, dl_3, dl_4, dl_5, nI_add]
    refine dw_cL ((dw_co L xs d _ _ z (by decide)).trans w1) ?_
    refine dw_cI (dw_99 L xs d (i + 1) z1 (by omega) (by omega)) ?_
    refine dw_cI (dw_99 L xs d (i + 2) z1 (by omega) (by omega)) ?_
    refine dw_cI (dw_99 L xs d (i + 3) z1 (by omega) (by omega)) ?_
    refine dw_cI (dw_99 L xs d (i + 4) z1 (by omega) (by omega)) ?_
    refine (if_neg q).trans ?_
    refine dw_cL ((dw_co L xs d _ _ z1 (by decide)).trans w2) ?_
    exact if_pos (dw_cmp r)
theorem l_inSea (L d i : Nat) (xs : Nat → Int32) (z : ds_St) (hL : L ≤ 3072) (hi : i + 6 ≤ L) (h : dk_Inv z) : ∃ z', ds_Rw ds_c_LawR ds_u_Law_law (dw_cl L xs d) 991 [some (.ref 200), some (.ref 0), some (.ref 90), some (.ref 111), some (.int (nI i)), none, none] [] z = some (some (.int (nI i)), z') ∧ dk_Inv z' := by
  have k0 : ds_K 0 = 8 := rfl
  by_cases q : xs (i + 3) = nI 0
  · obtain ⟨v, z1, z2, w1, w2, hI⟩ := k_inSea d (xs (i + 1)) (xs (i + 2)) (nI 0) z h
    obtain ⟨r, rfl⟩ := dt_long (by decide) ((c_Sea_inSea _ _ _ _ _ _).symm.trans w1)
    refine ⟨z2, ?_, hI⟩
    rw [b_LawR_991]
    simp only [dl_0, dl_1, dl_2, dl_3, dl_4, dl_5, nI_add]
    refine dw_cI (dw_99 L xs d (i + 1) z (by omega) (by omega)) ?_
    refine dw_cI (dw_99 L xs d (i + 2) z (by omega) (by omega)) ?_
    refine dw_cI (dw_99 L xs d (i + 3) z (by omega) (by omega)) ?_
    refine (if_pos q).trans ?_
    rw [b_LawR_1018, ds_isK_t k0]
    simp only [dl_0, dl_1, dl_2, dl_3, dl_4, dl_5, nI_add]
    refine dw_cL ((dw_co L xs d _ _ z (by decide)).trans w1) ?_
    refine dw_cI (dw_99 L xs d (i + 1) z1 (by omega) (by omega)) ?_
    refine dw_cI (dw_99 L xs d (i + 2) z1 (by omega) (by omega)) ?_
    refine dw_cI (dw_99 L xs d (i + 3) z1 (by omega) (by omega)) ?_
    refine (if_pos q).trans ?_
    refine dw_cL ((dw_co L xs d _ _ z1 (by decide)).trans w2) ?_
    exact if_pos (dw_cmp r)
  · obtain ⟨v, z1, z2, w1, w2, hI⟩ := k_inSea d (xs (i + 1)) (xs (i + 2)) (nI 1) z h
    obtain ⟨r, rfl⟩ := dt_long (by decide) ((c_Sea_inSea _ _ _ _ _ _).symm.trans w1)
    refine ⟨z2, ?_, hI⟩
    rw [b_LawR_991]
    simp only [dl_0, dl_1, dl_2, dl_3, dl_4, dl_5, nI_add]
    refine dw_cI (dw_99 L xs d (i + 1) z (by omega) (by omega)) ?_
    refine dw_cI (dw_99 L xs d (i + 2) z (by omega) (by omega)) ?_
    refine dw_cI (dw_99 L xs d (i + 3) z (by omega) (by omega)) ?_
    refine (if_neg q).trans ?_
    rw [b_LawR_1018, ds_isK_t k0]
    simp only [dl_0, dl_1, dl_2, dl_3, dl_4, dl_5, nI_add]
    refine dw_cL ((dw_co L xs d _ _ z (by decide)).trans w1) ?_
    refine dw_cI (dw_99 L xs d (i + 1) z1 (by omega) (by omega)) ?_
    refine dw_cI (dw_99 L xs d (i + 2) z1 (by omega) (by omega)) ?_
    refine dw_cI (dw_99 L xs d (i + 3) z1 (by omega) (by omega)) ?_
    refine (if_neg q).trans ?_
    refine dw_cL ((dw_co L xs d _ _ z1 (by decide)).trans w2) ?_
    exact if_pos (dw_cmp r)
def dw_E (i : Nat) (a : Option ds_Out) : Prop := ∃ z', a = some (some (.int (nI i)), z') ∧ dk_Inv z'
theorem dw_eI {i : Nat} {cl : Nat → List Value → ds_St → Option ds_Out} {j : Nat} {as : List Value} {z z1 : ds_St} {f : Int32 → ds_St → Option ds_Out} {r : Int32} (h : cl j as z = some (some (.int r), z1)) (g : dw_E i (f r z1)) : dw_E i (ds_cI cl j as z f) := by
  rw [ds_cI_t h]
  exact g
theorem dw_eT {i : Nat} {c : Prop} [Decidable c] {a b : Option ds_Out} (h : c) (g : dw_E i a) : dw_E i (if c then a else b) := by
  rw [if_pos h]
  exact g
theorem dw_eF {i : Nat} {c : Prop} [Decidable c] {a b : Option ds_Out} (h : ¬ c) (g : dw_E i b) : dw_E i (if c then a else b) := by
  rw [if_neg h]
  exact g
theorem dw_gap {L i : Nat} (hL : L ≤ 3072) (hi : i ≤ 4000) : (nI L - 6 < nI i) = (L < i + 6) := by
  show (nI L - nI 6 < nI i) = (L < i + 6)
  apply propext
  rw [Int32.lt_iff_toInt_lt, Int32.toInt_sub, nI_toInt (by omega), nI_toInt (by decide), nI_toInt (by omega)]
  have e : Int.bmod ((L : Int) - ((6 : Nat) : Int)) (2 ^ 32) = (L : Int) - ((6 : Nat) : Int) := by
    apply Int.bmod_eq_of_le <;> omega
  rw [e]
  omega
theorem l_end (L d i : Nat) (xs : Nat → Int32) (z : ds_St) (hL : L ≤ 3072) (hi : L < i + 6) (h4 : i ≤ 4000) : ds_Rw ds_c_LawE ds_u_Law_law (dw_cl L xs d) 23 [some (.ref 200), some (.ref 0), some (.ref 90), some (.ref 111), some (.int (nI i)), none, none] [] z = some (some (.int 1), z) := by
  rw [b_LawE_23]
  refine dw_cI (dw_98 L xs d z) ?_
  exact if_pos (by rw [dw_gap hL h4]; exact hi)
theorem l_round (L d i : Nat) (xs : Nat → Int32) (z : ds_St) (hL : L ≤ 3072) (hi : i + 6 ≤ L) (h : dk_Inv z) (h49 : ¬ xs i &&& 63 = 49) : dw_E i (ds_Rw ds_c_LawR ds_u_Law_law (dw_cl L xs d) 23 [some (.ref 200), some (.ref 0), some (.ref 90), some (.ref 111), some (.int (nI i)), none, none] [] z) := by
  rw [b_LawR_23]
  refine dw_eI (dw_98 L xs d z) ?_
  refine dw_eF (by rw [dw_gap hL (by omega)]; omega) ?_
  refine dw_eI (dw_99 L xs d i z (by omega) (by omega)) ?_
  generalize xs i &&& 63 = op at *
  by_cases q0 : op = 0
  · exact dw_eT q0 (l_feed L d i xs z hL hi h)
  refine dw_eF q0 ?_
  by_cases q1 : op = 1
  · exact dw_eT q1 (l_sea L d i xs z hL hi h)
  refine dw_eF q1 ?_
  by_cases q2 : op = 2
  · exact dw_eT q2 (l_fault L d i xs z hL hi h)
  refine dw_eF q2 ?_
  by_cases q3 : op = 3
  · exact dw_eT q3 (l_where L d i xs z hL hi h)
  refine dw_eF q3 ?_
  by_cases q4 : op = 4
  · exact dw_eT q4 (l_island L d i xs z hL hi h)
  refine dw_eF q4 ?_
  by_cases q5 : op = 5
  · exact dw_eT q5 (l_card L d i xs z hL hi h)
  refine dw_eF q5 ?_
  by_cases q6 : op = 6
  · exact dw_eT q6 (l_beside L d i xs z hL hi h)
  refine dw_eF q6 ?_
  by_cases q7 : op = 7
  · exact dw_eT q7 (l_trade L d i xs z hL hi h)
  refine dw_eF q7 ?_
  by_cases q8 : op = 8
  · exact dw_eT q8 (l_trades L d i xs z hL hi h)
  refine dw_eF q8 ?_
  by_cases q9 : op = 9
  · exact dw_eT q9 (l_wars L d i xs z hL hi h)
  refine dw_eF q9 ?_
  by_cases q10 : op = 10
  · exact dw_eT q10 (l_run L d i xs z hL hi h)
  refine dw_eF q10 ?_
  by_cases q11 : op = 11
  · exact dw_eT q11 (l_runAt L d i xs z hL hi h)
  refine dw_eF q11 ?_
  by_cases q12 : op = 12
  · exact dw_eT q12 (l_journey L d i xs z hL hi h)
  refine dw_eF q12 ?_
  by_cases q13 : op = 13
  · exact dw_eT q13 (l_wishes L d i xs z hL hi h)
  refine dw_eF q13 ?_
  by_cases q14 : op = 14
  · exact dw_eT q14 (l_crowd L d i xs z hL hi h)
  refine dw_eF q14 ?_
  by_cases q15 : op = 15
  · exact dw_eT q15 (l_nearest L d i xs z hL hi h)
  refine dw_eF q15 ?_
  by_cases q16 : op = 16
  · exact dw_eT q16 (l_people L d i xs z hL hi h)
  refine dw_eF q16 ?_
  by_cases q17 : op = 17
  · exact dw_eT q17 (l_planned L d i xs z hL hi h)
  refine dw_eF q17 ?_
  by_cases q18 : op = 18
  · exact dw_eT q18 (l_plannedTrades L d i xs z hL hi h)
  refine dw_eF q18 ?_
  by_cases q19 : op = 19
  · exact dw_eT q19 (l_judge L d i xs z hL hi h)
  refine dw_eF q19 ?_
  by_cases q20 : op = 20
  · exact dw_eT q20 (l_fits L d i xs z hL hi h)
  refine dw_eF q20 ?_
  by_cases q21 : op = 21
  · exact dw_eT q21 (l_fitAt L d i xs z hL hi h)
  refine dw_eF q21 ?_
  by_cases q22 : op = 22
  · exact dw_eT q22 (l_again L d i xs z hL hi h)
  refine dw_eF q22 ?_
  by_cases q23 : op = 23
  · exact dw_eT q23 (l_cycle L d i xs z hL hi h)
  refine dw_eF q23 ?_
  by_cases q24 : op = 24
  · exact dw_eT q24 (l_can L d i xs z hL hi h)
  refine dw_eF q24 ?_
  by_cases q25 : op = 25
  · exact dw_eT q25 (l_odds L d i xs z hL hi h)
  refine dw_eF q25 ?_
  by_cases q26 : op = 26
  · exact dw_eT q26 (l_inSea L d i xs z hL hi h)
  refine dw_eF q26 ?_
  by_cases q27 : op = 27
  · exact dw_eT q27 (l_alike L d i xs z hL hi h)
  refine dw_eF q27 ?_
  by_cases q28 : op = 28
  · exact dw_eT q28 (l_fewest L d i xs z hL hi h)
  refine dw_eF q28 ?_
  by_cases q29 : op = 29
  · exact dw_eT q29 (l_moveAt L d i xs z hL hi h)
  refine dw_eF q29 ?_
  by_cases q30 : op = 30
  · exact dw_eT q30 (l_together L d i xs z hL hi h)
  refine dw_eF q30 ?_
  by_cases q31 : op = 31
  · exact dw_eT q31 (l_togetherAt L d i xs z hL hi h)
  refine dw_eF q31 ?_
  by_cases q32 : op = 32
  · exact dw_eT q32 (l_three L d i xs z hL hi h)
  refine dw_eF q32 ?_
  by_cases q33 : op = 33
  · exact dw_eT q33 (l_best L d i xs z hL hi h)
  refine dw_eF q33 ?_
  by_cases q34 : op = 34
  · exact dw_eT q34 (l_bestTrades L d i xs z hL hi h)
  refine dw_eF q34 ?_
  by_cases q35 : op = 35
  · exact dw_eT q35 (l_bestTwo L d i xs z hL hi h)
  refine dw_eF q35 ?_
  by_cases q36 : op = 36
  · exact dw_eT q36 (l_exchange L d i xs z hL hi h)
  refine dw_eF q36 ?_
  by_cases q37 : op = 37
  · exact dw_eT q37 (l_gain L d i xs z hL hi h)
  refine dw_eF q37 ?_
  by_cases q38 : op = 38
  · exact dw_eT q38 (l_rests L d i xs z hL hi h)
  refine dw_eF q38 ?_
  by_cases q39 : op = 39
  · exact dw_eT q39 (l_rest L d i xs z hL hi h)
  refine dw_eF q39 ?_
  by_cases q40 : op = 40
  · exact dw_eT q40 (l_decade L d i xs z hL hi h)
  refine dw_eF q40 ?_
  by_cases q41 : op = 41
  · exact dw_eT q41 (l_decadeWishes L d i xs z hL hi h)
  refine dw_eF q41 ?_
  by_cases q42 : op = 42
  · exact dw_eT q42 (l_decadeOf L d i xs z hL hi h)
  refine dw_eF q42 ?_
  by_cases q43 : op = 43
  · exact dw_eT q43 (l_deal L d i xs z hL hi h)
  refine dw_eF q43 ?_
  by_cases q44 : op = 44
  · exact dw_eT q44 (l_palm L d i xs z hL hi h)
  refine dw_eF q44 ?_
  by_cases q45 : op = 45
  · exact dw_eT q45 (l_lay L d i xs z hL hi h)
  refine dw_eF q45 ?_
  by_cases q46 : op = 46
  · exact dw_eT q46 (l_undo L d i xs z hL hi h)
  refine dw_eF q46 ?_
  by_cases q47 : op = 47
  · exact dw_eT q47 (l_image L d i xs z hL hi h)
  refine dw_eF q47 ?_
  by_cases q48 : op = 48
  · exact dw_eT q48 (l_back L d i xs z hL hi h)
  refine dw_eF q48 ?_
  by_cases q49 : op = 49
  · exact absurd q49 h49
  refine dw_eF q49 ?_
  by_cases q50 : op = 50
  · exact dw_eT q50 (l_size L d i xs z hL hi h)
  refine dw_eF q50 ?_
  by_cases q51 : op = 51
  · exact dw_eT q51 (l_trouble L d i xs z hL hi h)
  refine dw_eF q51 ?_
  exact ⟨z, rfl, h⟩
