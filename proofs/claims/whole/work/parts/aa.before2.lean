/-! from the head of a round of 49 to the call of led -/
set_option maxRecDepth 20000 in
theorem dw_sw49 (F : Int → Option ds_Out) : ds_sw (49 : Int32) F 1833 0 [264, 337, 362, 375, 388, 425, 450, 475, 512, 525, 538, 551, 576, 613, 626, 639, 676, 701, 738, 763, 776, 801, 838, 851, 876, 913, 991, 1057, 1094, 1131, 1180, 1217, 1266, 1315, 1328, 1341, 1354, 1367, 1428, 1465, 1502, 1539, 1576, 1625, 1650, 1675, 1688, 1701, 1714, 1739, 1795, 1820] = F 1739 := by
  first
    | rfl
    | simp [ds_sw]
section BEFORE
variable {p : Program} {l : Launch} {e : Env} {s : State} {m : MethodId} {args : Array Value} {below : List Frame} {meth : Method} {c : Code} {cells slots : Nat} {Q : State → Prop}
variable {D : va_G} {A : Nat → Prop} {ad adV : Nat → Nat} {cy : Nat → ClassId} {Ts : List Cond} {L : Nat} {xs : Nat → Int32}
theorem dw_before (X : ds_Cx p s m args c D A ad cy 7 "DealtSeaLaw" Ts code) (hA : ∀ q : Nat, s.heap.size ≤ q → A q) (hAm : ds_Amb s) (hT : ds_Tx ad adV A s s.heap) (hX : va_X (ad 200) L xs s s.heap) (h200 : ad 200 < s.heap.size) (hn200 : ¬ A (ad 200)) (hL : L ≤ 3072) (hc : cells ≤ 601024) (hs : slots ≤ 7293033) {z : ds_St} {H : Heap} {locs : List Loc} {ls : Array Slot} {i : Nat} (hi : i + 6 ≤ L) (h49 : xs i &&& 63 = 49) (hP : va_P D vwCl (ds_ws cy ad z) H) (hS : va_S A s.heap H locs) (hl : ds_LV ad ls 7 (dw_lv (nI i)))
    (k : ∀ H' locs' ls', va_P D vwCl (ds_ws cy ad z) H' → va_S A s.heap H' locs' → ds_LV ad ls' 7 (dw_lv (nI i)) → W p l e room_1 s m args below meth c H' locs' cells slots Q (F0 m 1747 ls' [.ref (ad 111), .int (xs (i + 1)), .ref (ad 0)])) : W p l e room_1 s m args below meth c H locs cells slots Q (F0 m 23 ls []) := by
  have hr : ds_stp ds_c_LawB [(1747, [true, true, true, true, true, true, true])] (dw_cl L xs 0) (dw_K (dw_lv (nI i)) [.ref 111, .int (xs (i + 1)), .ref 0] z) 60 23 (dw_lv (nI i)) [] z = some (some (.float 0), z) := by
    rw [b_LawB]
    refine dw_cI (dw_98 L xs 0 z) ?_
    refine (if_neg (by rw [dw_gap hL (by omega)]; omega)).trans ?_
    refine dw_cI (dw_99 L xs 0 i z (by omega) (by omega)) ?_
    rw [h49, dw_sw49]
    refine (if_pos rfl).trans ?_
    rw [dl_1, nI_add]
    refine dw_cI (dw_99 L xs 0 (i + 1) z (by omega) (by omega)) ?_
    exact dw_K_at _ _ _
  have hR : ds_Rm room_1 (ds_rm 20) cells slots := ⟨rfl, rfl, by decide, by decide, hc, hs⟩
  refine ds_stp_W (zr := true) (lw := true) (R := room_1) dw_CdB X hA hAm hT (dw_cls D ad adV cy L xs) hR ?_ (ds_HT_ok l ad adV p e room_1 s m args below meth c cells slots Q D A cy 7 "DealtSeaLaw" Ts code X hT (by decide) (by decide) hc hs) (dw_HX hX h200 hn200) (fun pc lv st z1 H1 locs1 ls1 hk hP1 hS1 hl1 => ?_) 60 23 _ [] z H locs ls hr hP hS hl
  · refine ⟨?_, ?_, ?_, ?_, ?_, ?_, ?_⟩
    · intro pc ls x z1 H locs hd hok hz
      cases hz
    · intro pc ls x z1 H locs hd hok _ _ ho
      cases ho
    · intro pc ls x z1 H locs hd hok ho
      cases ho
    · intro pc ls x z1 H locs hd hok ho
      cases ho
    · intro pc ls z1 H locs hd hok ho
      cases ho
    · intro pc i lv ls st z1 H locs hpc hd ho
      cases ho
    · intro pc i1 n lv ls1 x r z1 H1 locs1 hpc hd _ hlv ho
      cases ho
  · obtain ⟨e1, e2, e3, e4⟩ := dw_K_of hk
    subst e1
    subst e2
    subst e3
    subst e4
    exact k H1 locs1 ls1 hP1 hS1 hl1
end BEFORE
