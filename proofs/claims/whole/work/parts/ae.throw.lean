/-! led: what its throw stands on -/
abbrev dz_E : String := "java/util/NoSuchElementException"
abbrev dz_at : List Cond := vx_at0 "DealtSea" 357 dz_E ["java/lang/RuntimeException", "java/lang/Exception"]
def dz_nb : List Cond := [.declares ⟨"java/lang/RuntimeException", "<init>", "()V"⟩, .declares ⟨"java/lang/Exception", "<init>", "()V"⟩, .declares ⟨"java/lang/Throwable", "<init>", "()V"⟩, .castable "java/util/NoSuchElementException" "java/util/NoSuchElementException"]
set_option maxRecDepth 100000 in
theorem dz_in : ∀ w ∈ dz_at, w ∈ lw_tbl := ds_picks _ [155, 1372, 1381, 1383, 1386, 1388, 1373, 1374, 165, 166, 1375, 1380, 1384, 1400, 1362, 1401, 1364, 1402, 1366, 1376, 1378, 1368, 1390, 1391, 1392, 1393, 1353, 1393, 1394, 1395, 1396, 1355, 1396, 1397, 1398, 1373, 1357, 1389, 1351, 1352, 1359, 1360, 1361, 1363, 1365, 1367, 1371, 1370, 1369] (by first | rfl | decide +kernel)
theorem dz_nb_of : ∀ w ∈ dz_at, goodWord w = true ∨ w ∈ dz_nb := by decide +kernel
set_option maxRecDepth 100000 in
theorem dz_nb_in : ∀ w ∈ dz_nb, w ∈ lw_tbl := ds_picks _ [1353, 1355, 1357, 1352] (by first | rfl | decide +kernel)
theorem dz_nb_on : ∀ w ∈ dz_nb, w.onTables = true := by decide +kernel
theorem dz_hgood : ∀ w ∈ Cond.classLink "DealtSea" 355 dz_E :: Cond.initialized dz_E :: dz_at, vx_ot w = true := by decide +kernel
set_option maxRecDepth 100000 in
theorem dz_w355 : Cond.classLink "DealtSea" 355 dz_E ∈ lw_tbl := List.mem_of_getElem? (i := 1350) rfl
set_option maxRecDepth 100000 in
theorem dz_wini : Cond.initialized dz_E ∈ lw_tbl := List.mem_of_getElem? (i := 158) rfl
def dz_Th (A : Nat → Prop) (U : State) (H : Heap) : Prop := (∀ w ∈ dz_nb, va_Nw w U) ∧ vx_Zq Bundle.tN "UNASSIGNED_STACK" Bundle.steD A U H ∧ vx_Zq Bundle.tN "SUPPRESSED_SENTINEL" Bundle.listD A U H
theorem dz_Th.warm {A : Nat → Prop} {s U : State} {H : Heap} (hW : s.WarmedH U.vm) (h : dz_Th A s H) : dz_Th A U H := by
  refine ⟨fun w hw => ?_, vx_Zq.moved hW.alike h.2.1, vx_Zq.moved hW.alike h.2.2⟩
  have hz := h.1 w hw
  simp only [dz_nb, List.mem_cons, List.not_mem_nil, or_false] at hw
  rcases hw with rfl | rfl | rfl | rfl
  · exact va_Nw.warmD hW hz
  · exact va_Nw.warmD hW hz
  · exact va_Nw.warmD hW hz
  · exact va_Nw.warmC hW hz
theorem dz_Th.same {A : Nat → Prop} {s U : State} {H : Heap} (hv : s.vm = U.vm) (h : dz_Th A s H) : dz_Th A U H :=
  have ha : s.vm.Alike U.vm := hv ▸ Vm.Alike.refl s.vm
  ⟨fun w hw => va_Nw.same (dz_nb_on w hw) hv (h.1 w hw), vx_Zq.moved ha h.2.1, vx_Zq.moved ha h.2.2⟩
theorem dz_Th.kept {A : Nat → Prop} {U : State} {H H1 : Heap} (h : dz_Th A U H) (hq : ∀ a : Nat, a < H.size → ¬ A a → H1[a]? = H[a]?) : dz_Th A U H1 := ⟨h.1, h.2.1.kept hq, h.2.2.kept hq⟩
theorem dz_Th.narrow {A B : Nat → Prop} {U : State} {H : Heap} (h : dz_Th A U H) (hAB : ∀ q, B q → A q) : dz_Th B U H := ⟨h.1, h.2.1.narrow hAB, h.2.2.narrow hAB⟩
set_option maxRecDepth 100000 in
theorem dz_Th_start {s : State} {args : Array Value} {A : Nat → Prop} (hts : ∀ w ∈ lw_tbl, w.before args s = true) (hgv : (Jvm.Cond.and given_1 narrow_1).before args s = true) (hA : ∀ a : Nat, a < s.heap.size → ¬ A a) : dz_Th A s s.heap := by
  have hfl := flat_of_before _ hgv
  have hini : (Cond.initialized Bundle.tN).before args s = true := hts _ (List.mem_of_getElem? (i := 155) rfl)
  refine ⟨fun w hw => va_Nw.of (dz_nb_on w hw) (hts w (dz_nb_in w hw)), ?_, ?_⟩
  · exact vx_Zqof (hts _ (List.mem_of_getElem? (i := 1377) rfl)) hini (hfl _ (List.mem_of_getElem? (i := 9) rfl)) hA
  · exact vx_Zqof (hts _ (List.mem_of_getElem? (i := 1379) rfl)) hini (hfl _ (List.mem_of_getElem? (i := 10) rfl)) hA
def dz_Pre (D : va_G) (ad adV : Nat → Nat) (cy : Nat → ClassId) (z : ds_St) (sz : Nat) (U : State) : Prop := ds_Pre D ad adV cy z sz U ∧ dz_Th (va_A (ds_ws cy ad z) sz) U U.heap
theorem dz_Pre_blind {D : va_G} {ad adV : Nat → Nat} {cy : Nat → ClassId} {z : ds_St} {sz : Nat} {as : List Value} : FrameBlind (va_Pc as (dz_Pre D ad adV cy z sz)) := by
  intro a U g mk q
  obtain ⟨q0, q1, q2⟩ := q
  have h1 := ds_Pre_blind (D := D) (ad := ad) (adV := adV) (cy := cy) (z := z) (sz := sz) (as := as) a U g mk ⟨q0, q1⟩
  exact ⟨h1.1, h1.2, dz_Th.same (s := U) (U := U.calling g mk a) (H := U.heap) rfl q2⟩
section PRE
variable {s : State} {D : va_G} {A : Nat → Prop} {ad adV : Nat → Nat} {cy : Nat → ClassId} {z : ds_St} {H : Heap} {locs : List Loc}
theorem dz_Pre_of (hK : va_K D vwCl (ds_tys cy) s) (hD : va_D A (ds_ws cy ad z)) (hA : ∀ q : Nat, s.heap.size ≤ q → A q) (hAm : ds_Amb s) (hT : ds_Tx ad adV A s s.heap) (hTh : dz_Th A s s.heap) (hP : va_P D vwCl (ds_ws cy ad z) H) (hS : va_S A s.heap H locs) :
    ∀ U : State, U.heap = H → s.WarmedH U.vm → dz_Pre D ad adV cy z H.size U := by
  intro U hU hW
  refine ⟨ds_Pre_of hK hD hA hAm hT hP hS U hU hW, ?_⟩
  rw [hU]
  exact ((hTh.kept hS.2.1).warm hW).narrow (ds_A_sub hD hA hS)
end PRE
