/-! the law's loop -/
theorem dw_part {l : ds_Code} {P : Nat × Instr × Nat → Prop} (n : Nat) (h1 : ∀ q ∈ (l.drop n).take 40, P q) (h2 : ∀ q ∈ l.drop (n + 40), P q) : ∀ q ∈ l.drop n, P q := by
  intro q hq
  rw [← List.take_append_drop 40 (l.drop n), List.drop_drop] at hq
  rcases List.mem_append.mp hq with h | h
  · exact h1 q h
  · exact h2 q h
set_option maxRecDepth 100000 in
theorem dw_nil : ds_c_Law_law.drop 1080 = [] := rfl
theorem dw_Cd : ds_Cd "DealtSeaLaw" true true code ds_c_Law_law := by
  have e1080 : ∀ q ∈ ds_c_Law_law.drop 1080, ∃ raw, decode code q.1 = .ok (raw, q.2.2) ∧ ds_len raw q.2.2 = true ∧ ds_res "DealtSeaLaw" true true q.1 raw = q.2.1 := by
    rw [dw_nil]
    intro q hq
    exact absurd hq List.not_mem_nil
  have e1040 := dw_part (l := ds_c_Law_law) 1040 (ds_Cd_of ds_kL_1040) e1080
  have e1000 := dw_part (l := ds_c_Law_law) 1000 (ds_Cd_of ds_kL_1000) e1040
  have e960 := dw_part (l := ds_c_Law_law) 960 (ds_Cd_of ds_kL_960) e1000
  have e920 := dw_part (l := ds_c_Law_law) 920 (ds_Cd_of ds_kL_920) e960
  have e880 := dw_part (l := ds_c_Law_law) 880 (ds_Cd_of ds_kL_880) e920
  have e840 := dw_part (l := ds_c_Law_law) 840 (ds_Cd_of ds_kL_840) e880
  have e800 := dw_part (l := ds_c_Law_law) 800 (ds_Cd_of ds_kL_800) e840
  have e760 := dw_part (l := ds_c_Law_law) 760 (ds_Cd_of ds_kL_760) e800
  have e720 := dw_part (l := ds_c_Law_law) 720 (ds_Cd_of ds_kL_720) e760
  have e680 := dw_part (l := ds_c_Law_law) 680 (ds_Cd_of ds_kL_680) e720
  have e640 := dw_part (l := ds_c_Law_law) 640 (ds_Cd_of ds_kL_640) e680
  have e600 := dw_part (l := ds_c_Law_law) 600 (ds_Cd_of ds_kL_600) e640
  have e560 := dw_part (l := ds_c_Law_law) 560 (ds_Cd_of ds_kL_560) e600
  have e520 := dw_part (l := ds_c_Law_law) 520 (ds_Cd_of ds_kL_520) e560
  have e480 := dw_part (l := ds_c_Law_law) 480 (ds_Cd_of ds_kL_480) e520
  have e440 := dw_part (l := ds_c_Law_law) 440 (ds_Cd_of ds_kL_440) e480
  have e400 := dw_part (l := ds_c_Law_law) 400 (ds_Cd_of ds_kL_400) e440
  have e360 := dw_part (l := ds_c_Law_law) 360 (ds_Cd_of ds_kL_360) e400
  have e320 := dw_part (l := ds_c_Law_law) 320 (ds_Cd_of ds_kL_320) e360
  have e280 := dw_part (l := ds_c_Law_law) 280 (ds_Cd_of ds_kL_280) e320
  have e240 := dw_part (l := ds_c_Law_law) 240 (ds_Cd_of ds_kL_240) e280
  have e200 := dw_part (l := ds_c_Law_law) 200 (ds_Cd_of ds_kL_200) e240
  have e160 := dw_part (l := ds_c_Law_law) 160 (ds_Cd_of ds_kL_160) e200
  have e120 := dw_part (l := ds_c_Law_law) 120 (ds_Cd_of ds_kL_120) e160
  have e80 := dw_part (l := ds_c_Law_law) 80 (ds_Cd_of ds_kL_80) e120
  have e40 := dw_part (l := ds_c_Law_law) 40 (ds_Cd_of ds_kL_40) e80
  have e0 := dw_part (l := ds_c_Law_law) 0 (ds_Cd_of ds_kL_0) e40
  exact e0
theorem dw_CdR : ds_Cd "DealtSeaLaw" true true code ds_c_LawR := fun q hq => dw_Cd q (by rw [ds_LawR_eq] at hq; exact (List.mem_filter.mp hq).1)
theorem dw_CdE : ds_Cd "DealtSeaLaw" true true code ds_c_LawE := fun q hq => dw_Cd q (by rw [ds_LawE_eq] at hq; exact (List.mem_filter.mp hq).1)
set_option maxRecDepth 100000 in
theorem dw_jsr : (ds_c_Law_law.all fun q => match q.2.1 with | .jsr _ => Nat.beq q.1 1833 | _ => true) = true := rfl
theorem dw_d1833 : decode code 1833 = .ok (.iinc 4 6, 3) := by decide +kernel
theorem dw_d1836 : decode code 1836 = .ok (.goto (-1813), 3) := by decide +kernel
/-- the way back stands at 1833 -/
theorem dw_at {cd : ds_Code} (hcd : ds_Cd "DealtSeaLaw" true true code cd) (hsub : ∀ q ∈ cd, q ∈ ds_c_Law_law) {pc i : Nat} {n : Int} (h : ∃ ins len, (pc, ins, len) ∈ cd) (hd : decode code pc = .ok (.iinc i n, 3)) : pc = 1833 := by
  obtain ⟨ins, len, hm⟩ := h
  obtain ⟨raw, h1, h2, h3⟩ := hcd _ hm
  dsimp only at h1 h2 h3
  rw [hd] at h1
  have e1 : raw = .iinc i n := (Prod.mk.inj (Except.ok.inj h1)).1.symm
  subst e1
  have e2 : ins = .jsr 0 := by rw [← h3]; rfl
  subst e2
  have h6 := List.all_eq_true.mp dw_jsr _ (hsub _ hm)
  exact Nat.eq_of_beq_eq_true h6
def dw_lv (x : Int32) : ds_Lv := [some (.ref 200), some (.ref 0), some (.ref 90), some (.ref 111), some (.int x), none, none]
set_option maxRecDepth 100000 in
theorem dw_msk (x : Int32) (r1 r2 : Option Value) : ds_msk [(23, [true, true, true, true, true, false, false])] 23 (ds_store1 [some (.ref 200), some (.ref 0), some (.ref 90), some (.ref 111), some (.int x), r1, r2] 4 (.int (x + ds_k 6))) = dw_lv (x + nI 6) := rfl
set_option maxRecDepth 100000 in
theorem dw_mt {j : Nat} (h : j < ds_mt.length) : j < 9998 := Nat.lt_of_lt_of_le h (Nat.le_of_ble_eq_true rfl)
section LOOP
variable {p : Program} {l : Launch} {e : Env} {s : State} {m : MethodId} {args : Array Value} {below : List Frame} {meth : Method} {c : Code} {cells slots : Nat} {Q : State → Prop}
variable {D : va_G} {A : Nat → Prop} {ad adV : Nat → Nat} {cy : Nat → ClassId} {Ts : List Cond} {L : Nat} {xs : Nat → Int32}
theorem dw_back (X : ds_Cx p s m args c D A ad cy 7 "DealtSeaLaw" Ts code) {H : Heap} {locs : List Loc} {ls : Array Slot} {x : Int32} {r : ds_Lv} (hl : ds_LV ad ls 7 (some (.ref 200) :: some (.ref 0) :: some (.ref 90) :: some (.ref 111) :: some (.int x) :: r))
    (k : ∀ ls', ds_LV ad ls' 7 (dw_lv (x + nI 6)) → W p l e room_1 s m args below meth c H locs cells slots Q (F0 m 23 ls' [])) : W p l e room_1 s m args below meth c H locs cells slots Q (F0 m 1833 ls []) := by
  obtain ⟨hx, hb, _⟩ := X
  obtain ⟨r1, r2, rfl⟩ : ∃ r1 r2, r = [r1, r2] := by
    have h := hl.2.1
    match r, h with
    | [a, b], _ => exact ⟨a, b, rfl⟩
  have hm : (4, Value.int x) ∈ ds_al ad 0 (some (.ref 200) :: some (.ref 0) :: some (.ref 90) :: some (.ref 111) :: some (.int x) :: [r1, r2]) := ds_al_mem.mpr ⟨4, .int x, rfl, by simp [ds_v]⟩
  obtain ⟨j, hj⟩ := List.getElem?_of_mem hm
  refine lv_iinc hx hb dw_d1833 hl.1 hj (by rw [ds_k_of]) (by decide) rfl (fun ls1 hl1 => ?_)
  have h1 := (hl.store1 (v := .int (x + ds_k 6)) (fun _ q => by cases q) hl1).msk [(23, [true, true, true, true, true, false, false])] 23
  rw [dw_msk] at h1
  exact lv_goto hx hb dw_d1836 (by decide) (k ls1 h1)
theorem dw_cls (D : va_G) (ad adV : Nat → Nat) (cy : Nat → ClassId) (L : Nat) (xs : Nat → Int32) : ∀ j as z1 o1, j < ds_mt.length → dw_cl L xs 0 j as z1 = some o1 → ds_Con l D ad adV cy (ds_rm 20) j as z1 o1 := fun j as z1 o1 hj h1 => by
  rw [dw_co L xs 0 j as z1 (dw_mt hj)] at h1
  exact ds_con l D ad adV cy (ds_HT_ok l ad adV) 20 j as z1 o1 h1
theorem dw_HX (hX : va_X (ad 200) L xs s s.heap) (h200 : ad 200 < s.heap.size) (hn200 : ¬ A (ad 200)) : ds_HX s A ad true (dw_cl L xs 0) := fun _ => ⟨L, xs, hX, h200, hn200, fun z x z1 h => by
    rw [dw_98] at h
    cases h
    rfl, fun i z x z1 h => by
    have h' : (if decide (i < 0) = false ∧ i.toNatClampNeg < L then some (some (Value.int (xs i.toNatClampNeg)), z) else none) = (some (some (Value.int x), z1) : Option ds_Out) := h
    split at h'
    · rename_i q
      cases h'
      exact ⟨fun h => h.elim (of_decide_eq_false q.1) (fun h2 => Nat.not_lt.mpr h2 q.2), rfl⟩
    · cases h'⟩
theorem dw_round (X : ds_Cx p s m args c D A ad cy 7 "DealtSeaLaw" Ts code) (hA : ∀ q : Nat, s.heap.size ≤ q → A q) (hAm : ds_Amb s) (hT : ds_Tx ad adV A s s.heap) (hX : va_X (ad 200) L xs s s.heap) (h200 : ad 200 < s.heap.size) (hn200 : ¬ A (ad 200)) (hL : L ≤ 3072) (hc : cells ≤ 601024) (hs : slots ≤ 7293033) {z : ds_St} {H : Heap} {locs : List Loc} {ls : Array Slot} {i : Nat} (hi : i + 6 ≤ L) (h49 : ¬ xs i &&& 63 = 49) (hI : dk_Inv z) (hP : va_P D vwCl (ds_ws cy ad z) H) (hS : va_S A s.heap H locs) (hl : ds_LV ad ls 7 (dw_lv (nI i)))
    (k : ∀ z' H' locs' ls', dk_Inv z' → va_P D vwCl (ds_ws cy ad z') H' → va_S A s.heap H' locs' → ds_LV ad ls' 7 (dw_lv (nI (i + 6))) → W p l e room_1 s m args below meth c H' locs' cells slots Q (F0 m 23 ls' [])) : W p l e room_1 s m args below meth c H locs cells slots Q (F0 m 23 ls []) := by
  obtain ⟨z', hr, hI'⟩ := l_round L 0 i xs z hL hi hI h49
  have hR : ds_Rm room_1 (ds_rm 20) cells slots := ⟨rfl, rfl, by decide, by decide, hc, hs⟩
  refine ds_Rw_W2 (zr := true) (lw := true) (R := room_1) dw_CdR X hA hAm hT (dw_cls D ad adV cy L xs) hR ?_ (ds_HT_ok l ad adV p e room_1 s m args below meth c cells slots Q D A cy 7 "DealtSeaLaw" Ts code X hT (by decide) (by decide) hc hs) (dw_HX hX h200 hn200) (st := []) hr hP hS hl
  refine ⟨?_, ?_, ?_, ?_, ?_, ?_, ?_⟩
  · intro pc ls x z1 H locs hd hok hz
    cases hz
  · intro pc ls x z1 H locs hd hok
    obtain ⟨pc1, len1, hm⟩ := hok
    rw [ds_LawR_eq] at hm
    exact (Bool.false_ne_true (List.mem_filter.mp hm).2).elim
  · intro pc ls x z1 H locs hd hok ho
    cases ho
  · intro pc ls x z1 H locs hd hok ho
    cases ho
  · intro pc ls z1 H locs hd hok ho
    cases ho
  · intro pc i lv ls st z1 H locs hpc hd ho
    cases ho
  · intro pc i1 n lv ls1 x r z1 H1 locs1 hpc hd _ hlv ho hP1 hS1 hl1
    have e := dw_at dw_CdR (fun q hq => by rw [ds_LawR_eq] at hq; exact (List.mem_filter.mp hq).1) hpc hd
    subst e
    subst hlv
    cases ho
    refine dw_back X hl1 (fun ls' hl' => k z' H1 locs1 ls' hI' hP1 hS1 ?_)
    rw [nI_add] at hl'
    exact hl'
end LOOP
