/-! DealtSeaLaw.led: it answers 0 and lays the answer, or 1 where led throws -/
def dz_rmL : Room := { frames := 70, cells := 1, slots := 6, locals := 3000 }
def dz_cwL : Cond := .codeWith y_Law_led method_3_code 4 (some .int) [(0, 9, 12, 13)]
set_option maxRecDepth 100000 in
theorem dz_cwL_in : dz_cwL ∈ lw_tbl := List.mem_of_getElem? (i := 1344) rfl
set_option maxRecDepth 100000 in
theorem dz_w13 : Cond.classLink "DealtSeaLaw" 13 dz_E ∈ lw_tbl := List.mem_of_getElem? (i := 1345) rfl
set_option maxRecDepth 100000 in
theorem dz_w7 : Cond.methodLink "DealtSeaLaw" 7 y_Sea_led ∈ lw_tbl ∧ Cond.instanceMethod y_Sea_led ∈ lw_tbl ∧ Cond.selects "DealtSea" y_Sea_led y_Sea_led ∈ lw_tbl ∧ ds_cw ds_m_Sea_led ∈ lw_tbl ∧ Cond.initialized "DealtSea" ∈ lw_tbl := ⟨List.mem_of_getElem? (i := 1346) rfl, List.mem_of_getElem? (i := 1347) rfl, List.mem_of_getElem? (i := 1348) rfl, List.mem_of_getElem? (i := 1349) rfl, List.mem_of_getElem? (i := 137) rfl⟩
set_option maxRecDepth 100000 in
theorem dz_w224 : Cond.methodLink "DealtSeaLaw" 224 y_Law_led ∈ lw_tbl ∧ Cond.static y_Law_led ∈ lw_tbl ∧ Cond.initialized "DealtSeaLaw" ∈ lw_tbl := ⟨List.mem_of_getElem? (i := 1342) rfl, List.mem_of_getElem? (i := 1343) rfl, List.mem_of_getElem? (i := 136) rfl⟩
theorem dz_e0 : decode method_3_code 0 = .ok (.aload_n 2, 1) := by decide +kernel
theorem dz_e1 : decode method_3_code 1 = .ok (.iconst 0, 1) := by decide +kernel
theorem dz_e2 : decode method_3_code 2 = .ok (.aload_n 0, 1) := by decide +kernel
theorem dz_e3 : decode method_3_code 3 = .ok (.iload_n 1, 1) := by decide +kernel
theorem dz_e4 : decode method_3_code 4 = .ok (.invokevirtual 7, 3) := by decide +kernel
theorem dz_e12 : decode method_3_code 12 = .ok (.astore_n 3, 1) := by decide +kernel
theorem dz_e13 : decode method_3_code 13 = .ok (.iconst 1, 1) := by decide +kernel
theorem dz_e14 : decode method_3_code 14 = .ok (.ireturn, 1) := by decide +kernel
set_option maxRecDepth 20000 in
theorem dz_row (cl : Nat → List Value → ds_St → Option ds_Out) (x : Int32) (z : ds_St) : ds_Rw ds_c_Law_led [] cl 0 [some (.ref 0), some (.int x), some (.ref 111), none] [] z = (ds_cI cl j_Sea_led [.ref 0, .int x] z fun r1 z1 => some (some (.int 0), ds_setL z1 111 0 r1.toInt64)) :=
  (ds_Rw_stp 400 0 [some (.ref 0), some (.int x), some (.ref 111), none] [] z).trans rfl
section GOX
variable {p : Program} {l : Launch} {e : Env} {R : Room} {s : State} {m : MethodId} {args : Array Value} {below : List Frame} {meth : Method} {c : Code} {cells slots mc ms : Nat} {Q : State → Prop}
variable {D : va_G} {A A1 : Nat → Prop} {ad adV : Nat → Nat} {cy : Nat → ClassId} {z : ds_St} {H : Heap} {locs : List Loc} {ls : Array Slot} {pc : Nat} {st0 rest : List Value}
theorem dz_S {st₀ t T' : State} {L : List Loc} (h0 : st₀.heap = H) (e1 : T'.heap = t.heap) (hS : va_S A s.heap H locs) (hA : ∀ q, A1 q → A q) (hL : ∀ q ∈ L, A1 q.base) (hF : va_F A1 st₀ t) : va_S A s.heap T'.heap (locs ++ L) := by
  obtain ⟨hz, hk⟩ := hF
  rw [h0] at hz hk
  exact ⟨Nat.le_trans hS.1 (by rw [e1]; exact hz), fun q h1 h2 => by rw [e1, hk q (Nat.lt_of_lt_of_le h1 hS.1) (fun zz => h2 (hA q zz))]; exact hS.2.1 q h1 h2, fun q hq => by
      rcases List.mem_append.mp hq with h | h
      · exact hS.2.2 q h
      · exact hA _ (hL q h)⟩
/-- behind a call that throws -/
theorem dz_goX (hr : vx_Run p l e R s m args below meth c H locs cells slots mc ms (F0 m pc ls st0) rest (fun _ _ _ => False) (dz_XC D ad cy z A1) A1) (hS : va_S A s.heap H locs) (hA : ∀ q, A1 q → A q)
    (kk : ∀ (ce : Cell) (q9 : Addr) (H1 : Heap) (locs1 : List Loc), va_P D vwCl (ds_ws cy ad z) H1 → va_S A s.heap H1 locs1 → H1[q9]? = some ce → ce.vm = .none → s.vm.findClass dz_E = some ce.cls → vx_W p l e R s m args below meth c H1 locs1 (cells + mc) (slots + ms) Q (F0 m pc ls rest) q9) : W p l e R s m args below meth c H locs cells slots Q (F0 m pc ls st0) := by
  intro T hT X
  rcases hr T hT X with ⟨v, st₀, t, T', L, h0, X', hL, e1, e2, hq, st⟩ | ⟨q, st₀, t, T', L, E, ce, h0, X', hL, e1, e2, ⟨hE, hp, hF⟩, hce, hcv, hcl, st⟩
  · exact hq.elim
  · subst hE
    obtain ⟨t2, a1, b1⟩ := kk ce q T'.heap (locs ++ L) (by rw [e1]; exact hp) (dz_S h0 e1 hS hA hL hF) (by rw [e1]; exact hce) hcv hcl T' rfl X'
    exact ⟨t2, st.trans a1, b1⟩
/-- behind a call that doesn't -/
theorem dz_goL {o1 : ds_Out} (hr : vx_Run p l e R s m args below meth c H locs cells slots mc ms (F0 m pc ls st0) rest (fun st oc t => ds_Post D ad cy o1 A1 st oc t) (fun _ _ _ => False) A1) (hS : va_S A s.heap H locs) (hA : ∀ q, A1 q → A q)
    (kk : ∀ (H1 : Heap) (locs1 : List Loc), va_P D vwCl (ds_ws cy ad o1.2) H1 → va_S A s.heap H1 locs1 → W p l e R s m args below meth c H1 locs1 (cells + mc) (slots + ms) Q (F0 m (pc + 3) ls ((o1.1.map (ds_v ad)).toList ++ rest))) : W p l e R s m args below meth c H locs cells slots Q (F0 m pc ls st0) := by
  intro T hT X
  rcases hr T hT X with ⟨v, st₀, t, T', L, h0, X', hL, e1, e2, ⟨hv, hp, hF⟩, st⟩ | ⟨q, st₀, t, T', L, E, ce, h0, X', hL, e1, e2, hq, -⟩
  · cases hv
    obtain ⟨t2, a1, b1⟩ := kk T'.heap (locs ++ L) (by rw [e1]; exact hp) (dz_S h0 e1 hS hA hL hF) T' rfl X'
    exact ⟨t2, st t2 a1, b1⟩
  · exact hq.elim
end GOX
set_option maxHeartbeats 4000000 in
set_option maxRecDepth 20000 in
theorem dz_law (l : Launch) (hlt : l.stackTraces = false) (D : va_G) (ad adV : Nat → Nat) (cy : Nat → ClassId) (x : Int32) (z z' : ds_St) (r : Nat)
    (h : (∃ j, ds_call 20 j_Sea_led [.ref 0, .int x] z = some (some (.int (nI j)), z) ∧ r = 0 ∧ z' = ds_setL z 111 0 (nI j).toInt64) ∨ (ds_Rw ds_c_Sea_led ds_u_Sea_led (ds_call 19) 0 [some (.ref 0), some (.int x), none, none] [] z = some (some .null, z) ∧ r = 1 ∧ z = z')) (sz : Nat) :
    vx_Met l y_Law_led (dz_cwL :: ds_WS) dz_rmL (va_Pc (([.ref 0, .int x, .ref 111] : List Value).map (ds_v ad)) (dz_Pre D ad adV cy z sz)) (fun _ st oc t => ds_Post D ad cy (some (.int (nI r)), z') (va_A (ds_ws cy ad z) sz) st oc t) (fun _ _ _ => False) 1 6 (va_A (ds_ws cy ad z) sz) := by
  refine vx_ofWH (cc := method_3_code) (maxL := 4) (ret := some .int) (hh := [(0, 9, 12, 13)]) (by decide +kernel) rfl ?_
  intro p e s m args below meth c s₁ B hml hv
  obtain ⟨rfl, ⟨hsz, hP, hK, hD0, hAm, hT⟩, hTh⟩ := hv
  have hx := B.exec
  have hb := B.bytes
  have hr := B.returns
  have hts := atoms_spec (ws := dz_cwL :: ds_WS) B.pre
  have htab : c.exceptionTable.toList = tableOf [(0, 9, 12, 13)] := vx_table (x := y_Law_led) B (hts _ List.mem_cons_self)
  have hown : s.vm.findClass "DealtSeaLaw" = some m.cls := findClass_of_methodNamed B.named
  have hlocks := B.notSynchronized
  subst hsz
  have hD := hD0.self (sz := s.heap.size)
  have hA : ∀ q : Nat, s.heap.size ≤ q → va_A (ds_ws cy ad z) s.heap.size q := fun q h => Or.inr h
  have hS : va_S (va_A (ds_ws cy ad z) s.heap.size) s.heap s.heap [] := va_S.rf
  have hin : ∀ w ∈ lw_tbl, goodWord w = true → w ∈ dz_cwL :: ds_WS := ds_self
  have X : ds_Cx p s m (([.ref 0, .int x, .ref 111] : List Value).map (ds_v ad)).toArray c D (va_A (ds_ws cy ad z) s.heap.size) ad cy 4 "DealtSeaLaw" (dz_cwL :: ds_WS) method_3_code := ⟨hx, hb, hml, hown, hts, hin, hK, fun z1 => ds_D_any hD z1⟩
  have hw : ∀ w ∈ lw_tbl, goodWord w = true → w.before _ s = true := fun w h1 h2 => hts w (hin w h1 h2)
  show W p l e dz_rmL s m (([.ref 0, .int x, .ref 111] : List Value).map (ds_v ad)).toArray below meth c s.heap [] 0 0 _ (entryFrame m (([.ref 0, .int x, .ref 111] : List Value).map (ds_v ad)).toArray 4)
  refine dz_entry [.ref 0, .int x, .ref 111] 4 rfl (Nat.le_of_ble_eq_true rfl) (fun ls hl => ?_)
  have hl' : ds_LV ad ls 4 [some (.ref 0), some (.int x), some (.ref 111), none] := hl
  rcases h with ⟨j, hc, rfl, rfl⟩ | ⟨hthrow, rfl, rfl⟩
  · have hrun : ds_Rw ds_c_Law_led [] (ds_call 20) 0 [some (.ref 0), some (.int x), some (.ref 111), none] [] z = some (some (.int (nI 0)), ds_setL z 111 0 (nI j).toInt64) := by
      rw [dz_row]
      unfold ds_cI
      rw [hc]
      rfl
    have hR : ds_Rm dz_rmL (ds_rm 20) 1 6 := ⟨rfl, rfl, by decide, by decide, by decide, by decide⟩
    refine W.widen (k := 1) (n := 6) (by decide) (by decide) ?_
    refine ds_Rw_W2 (zr := false) (lw := false) (R := dz_rmL) (ds_Cd_of ds_k_Law_led) X hA hAm hT (fun j as z1 o1 _ h1 => ds_con l D ad adV cy (ds_HT_ok l ad adV) 20 j as z1 o1 h1) hR ?_ (ds_HT_ok l ad adV p e dz_rmL s m _ below meth c 1 6 _ D _ cy 4 "DealtSeaLaw" _ method_3_code X hT (by decide) (by decide) (by decide) (by decide)) (fun q => by cases q) (st := []) hrun hP hS hl'
    refine ⟨?_, ?_, ?_, ?_, ?_, ?_, ?_⟩
    · intro pc ls x z1 H locs hd hok _ ho hP1 hS1
      obtain ⟨e1, e2⟩ := Prod.mk.inj ho
      cases e1
      subst e2
      exact vx_ret (W.iret hx hb hr (fun t ht hW => ⟨rfl, by rw [ht]; exact hP1, hS1.F ht⟩) hS1.2.2 hd)
    · intro pc ls x z1 H locs hd hok hz
      cases hz
    · intro pc ls x z1 H locs hd hok ho
      cases ho
    · intro pc ls x z1 H locs hd hok ho
      cases ho
    · intro pc ls z1 H locs hd hok ho
      cases ho
    · intro pc i lv ls st z1 H locs hpc hd ho
      cases ho
    · intro pc i1 n lv ls1 x r z1 H1 locs1 hpc hd hlw
      cases hlw
  · have hcl0 := (ds_Kd_all (c := 8) (by decide))
    obtain ⟨C, T, N, ty0, hcl0, -, -, -, -, -, -⟩ := hcl0
    have hCn : C = "DealtSea" := by
      have h1 := ds_cnm_ok 8 (by decide)
      rw [List.getD_eq_getElem?_getD, hcl0] at h1
      exact h1
    obtain ⟨jj, hjj, hobj⟩ := ds_obj_at (cy := cy) (ad := ad) (z := z) (q := 0) (c0 := 8) rfl (by decide)
    have hrecv := va_recv hK hP (ci := 8) (q0 := jj) hcl0 hobj
    rw [show (C, T, N).1 = "DealtSea" from hCn] at hrecv
    refine lv_aload_n hx hb dz_e0 rfl (hl'.at (i := 2) (v := .ref 111) rfl) ?_
    refine lv_iconst hx hb dz_e1 rfl ?_
    refine lv_aload_n hx hb dz_e2 rfl (hl'.at (i := 0) (v := .ref 0) rfl) ?_
    refine lv_iload_n hx hb dz_e3 rfl (hl'.at (i := 1) (v := .int x) rfl) ?_
    refine dz_goX (A1 := va_A (ds_ws cy ad z) s.heap.size) (vx_runV (As := [.int x]) (rest := [.int (Int32.ofInt 0), .ref (ad 111)]) (b := ad 0) (C := "DealtSea") (n := 1) ⟨hx, hb, hml, hown, hts⟩ (dz_sea l hlt D ad adV cy x z hthrow s.heap.size)
      ⟨callB_of 1 hts (ds_gi hin dz_w7.2.2.2.1 rfl) rfl rfl rfl (hw _ dz_w7.2.2.2.2 rfl) (hw _ dz_w7.1 rfl) ⟨by decide +kernel, by decide +kernel, by decide +kernel⟩ ⟨by decide, by decide⟩, hw _ dz_w7.2.1 rfl, hw _ dz_w7.2.2.1 rfl⟩
      ⟨dz_Pre_blind, hrecv, fun U hU hW => ⟨rfl, dz_Pre_of hK hD hA hAm hT hTh hP hS U hU hW⟩⟩ rfl rfl hl'.1.1 rfl (lv_room (Nat.le_of_ble_eq_true rfl)) dz_e4 ⟨by decide, by decide⟩) hS (fun q h => h) (fun ce q9 H1 locs1 hP1 hS1 hce hcv hcl => ?_)
    refine dz_catch (own := "DealtSeaLaw") (name := dz_E) (E := dz_E) (x := ⟨0, 9, 12, 13⟩) hown (htab.trans rfl) rfl (by decide) (hw _ dz_w13 rfl) (va_Nw.use rfl (hTh.1 _ (List.mem_of_getElem? (i := 3) rfl))) hce hcv hcl ?_
    refine lv_astore_n hx hb dz_e12 rfl hl'.1 (by decide) rfl (fun ls1 hl1 => ?_)
    refine lv_iconst hx hb dz_e13 (show Int32.ofInt 1 = nI 1 from rfl) ?_
    exact vx_ret (W.iret hx hb hr (fun t ht hW => ⟨rfl, by rw [ht]; exact hP1, hS1.F ht⟩) hS1.2.2 dz_e14)
