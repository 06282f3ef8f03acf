section CALLS2
variable {p : Program} {l : Launch} {e : Env} {R : Room} {s : State} {m : MethodId} {args : Array Value} {below : List Frame} {meth : Method} {c : Code} {cells slots : Nat} {Q : State → Prop}
variable {D : va_G} {A : Nat → Prop} {ad adV : Nat → Nat} {cy : Nat → ClassId} {nL : Nat} {own : String} {Ts : List Cond} {bytes : ByteArray}
variable {k : ds_KT} {o : ds_Out} {pc : Nat} {lv : ds_Lv} {st : List Value} {z : ds_St} {H : Heap} {locs : List Loc} {ls : Array Slot} {cl : Nat → List Value → ds_St → Option ds_Out} {rm : Room}
theorem ds_cat_map (st : List Value) : ((st.map (ds_v ad)).map fun v => v.category) = st.map fun v => v.category := by
  rw [List.map_map]
  exact List.map_congr_left fun v _ => ds_v_cat ad v
theorem ds_okst_of {r : List Value} (h : ds_okst r = true) : ((r.map (ds_v ad)).map fun v => v.category).sum ≤ 8 := by
  rw [ds_cat_map]
  exact Nat.le_of_ble_eq_true h
/-- room for the callees -/
def ds_Rm (R rm : Room) (cells slots : Nat) : Prop := rm.cells = 0 ∧ rm.slots = 0 ∧ rm.frames + 1 ≤ R.frames ∧ 49 + rm.locals ≤ R.locals ∧ cells ≤ R.cells ∧ slots ≤ R.slots
theorem ds_out_map (o1 : ds_Out) (r : List Value) : (o1.1.toList ++ r).map (ds_v ad) = (o1.1.map (ds_v ad)).toList ++ r.map (ds_v ad) := by
  rw [List.map_append]
  cases o1.1 <;> rfl
set_option maxHeartbeats 4000000 in
theorem ds_s_callV (X : ds_Cx p s m args c D A ad cy nL own Ts bytes) (hA : ∀ q : Nat, s.heap.size ≤ q → A q) (hAm : ds_Amb s) (hT : ds_Tx ad adV A s s.heap)
    (hcl : ∀ j as z1 o1, j < ds_mt.length → cl j as z1 = some o1 → ds_Con l D ad adV cy rm j as z1 o1) (hR : ds_Rm R rm cells slots) {i j c0 : Nat} (hm : ds_f3 ds_ml own i = some (j, c0, 0)) (hd : decode bytes pc = .ok (.invokevirtual i, 3))
    (h : ds_inv cl j (c0 % 16) (c0 / 16 % 4) (c0 / 64) (pc + 3) lv st z k = some o)
    (hG : ds_Go p l e R s m args below meth c cells slots Q D A ad cy nL k o) (hP : va_P D vwCl (ds_ws cy ad z) H) (hS : va_S A s.heap H locs) (hl : ds_LV ad ls nL lv) : W p l e R s m args below meth c H locs cells slots Q (F0 m pc ls (st.map (ds_v ad))) := by
  obtain ⟨hx, hb, hml, hown, hts, hin, hK, hD⟩ := X
  have hq : (own, i, j, c0, 0) ∈ ds_mlv := List.mem_filter.mpr ⟨ds_f3_mem hm, rfl⟩
  obtain ⟨hj, hc10, hcls, hpar⟩ := ds_mlv_ok _ hq
  dsimp only at hj hc10 hcls hpar
  obtain ⟨en, he⟩ : ∃ en, ds_mt[j]? = some en := ⟨_, List.getElem?_eq_getElem hj⟩
  have hem : en ∈ ds_mt := List.mem_of_getElem? he
  have hy : ds_yj j = en.1 := by unfold ds_yj; rw [List.getD_eq_getElem?_getD, he]; rfl
  have w1 : Cond.methodLink own i (ds_yj j) ∈ lw_tbl := ds_mv_in _ (List.mem_map.mpr ⟨_, hq, rfl⟩)
  have w2 : Cond.instanceMethod (ds_yj j) ∈ lw_tbl := ds_mvi_in _ (List.mem_map.mpr ⟨_, hq, rfl⟩)
  have w3 : Cond.selects (ds_yj j).cls (ds_yj j) (ds_yj j) ∈ lw_tbl := ds_mvs_in _ (List.mem_map.mpr ⟨_, hq, rfl⟩)
  have w4 : Cond.initialized en.1.cls ∈ lw_tbl := ds_mi_in _ (List.mem_map.mpr ⟨en, hem, rfl⟩)
  rw [hy] at w1 w2 w3 hcls hpar
  unfold ds_inv at h
  obtain ⟨hb1, h⟩ := ds_b_of h
  rw [Bool.and_eq_true] at hb1
  have hlen : (st.take (c0 % 16)).length = c0 % 16 := Nat.eq_of_beq_eq_true hb1.2
  have h99 : Nat.beq (c0 / 64) 99 = false := by
    cases hbq : Nat.beq (c0 / 64) 99 with
    | false => rfl
    | true => have := Nat.eq_of_beq_eq_true hbq; omega
  rw [h99] at h
  dsimp only at h
  split at h
  · rename_i q as heq
    obtain ⟨hK1, h⟩ := ds_isK_of h
    obtain ⟨o1, hc, hk⟩ := ds_do_of h
    obtain ⟨e', he', hM⟩ := hcl j _ z o1 hj hc
    cases he.symm.trans he'
    have htk : st.take (c0 % 16) = as.reverse ++ [.ref q] := by
      rw [← List.reverse_reverse (st.take (c0 % 16)), heq, List.reverse_cons]
    have hst : st.map (ds_v ad) = (as.map (ds_v ad)).reverse ++ .ref (ad q) :: (st.drop (c0 % 16)).map (ds_v ad) := by
      conv => lhs; rw [← List.take_append_drop (c0 % 16) st, htk]
      simp [List.map_append, List.map_reverse, ds_v]
    have hn : (as.map (ds_v ad)).length = c0 % 16 - 1 := by
      rw [htk] at hlen
      simp at hlen
      rw [List.length_map]
      omega
    have hpar' : (parseMethodDescriptor en.1.desc).map (fun d => d.parameters.length) = some (c0 % 16 - 1) := by
      cases hpd : parseMethodDescriptor en.1.desc with
      | none => rw [hpd] at hpar; cases hpar
      | some d =>
        rw [hpd] at hpar
        simp only [Option.map_some, Option.some.injEq] at hpar ⊢
        omega
    obtain ⟨C, T, N, ty0, hcl0, -, -, -, -, -, -⟩ := ds_Kd_all hc10
    have hCn : C = en.1.cls := by
      have h1 := ds_cnm_ok _ hc10
      rw [List.getD_eq_getElem?_getD, hcl0] at h1
      rw [hcls]
      exact h1
    obtain ⟨jj, hjj, hobj⟩ := ds_obj_at (cy := cy) (ad := ad) (z := z) hK1 hc10
    have hrecv := va_recv hK hP (ci := c0 / 64) (q0 := jj) hcl0 hobj
    rw [show (C, T, N).1 = en.1.cls from hCn] at hrecv
    obtain ⟨np1, np2, -⟩ := ds_mt_plain en hem
    have hsm := ds_mt_small en hem
    obtain ⟨hR1, hR2, hR3, hR4, hR5, hR6⟩ := hR
    rw [hst]
    refine ds_call_go (o1 := o1) (A1 := va_A (ds_ws cy ad z) H.size) (va_runV (As := as.map (ds_v ad)) (rest := (st.drop (c0 % 16)).map (ds_v ad)) (b := ad q) (C := en.1.cls) (n := c0 % 16 - 1) ⟨hx, hb, hml, hown, hts⟩ (hM H.size)
      ⟨callB_of (c0 % 16 - 1) hts (ds_goodIn hin hem) rfl hR1 hR2 (hts _ (hin _ w4 rfl)) (hts _ (hin _ w1 rfl)) ⟨np1, np2, hpar'⟩ ⟨hR3, by omega⟩, hts _ (hin _ w2 rfl), hts _ (hin _ w3 rfl)⟩
      ⟨ds_Pre_blind, hrecv, fun U hU hW => ⟨rfl, ds_Pre_of hK (hD z) hA hAm hT hP hS U hU hW⟩⟩ rfl hn hl.1.1 rfl (lv_room (ds_okst_of hb1.1)) hd ⟨by omega, by omega⟩) hS (ds_A_sub (hD z) hA hS) (fun H1 locs1 hP1 hS1 => ?_)
    have := hG _ _ _ _ _ _ _ hk hP1 hS1 hl
    rw [ds_out_map] at this
    exact this
  · cases h
set_option maxHeartbeats 4000000 in
theorem ds_s_callS (X : ds_Cx p s m args c D A ad cy nL own Ts bytes) (hA : ∀ q : Nat, s.heap.size ≤ q → A q) (hAm : ds_Amb s) (hT : ds_Tx ad adV A s s.heap)
    (hcl : ∀ j as z1 o1, j < ds_mt.length → cl j as z1 = some o1 → ds_Con l D ad adV cy rm j as z1 o1) (hR : ds_Rm R rm cells slots) {i j c0 : Nat} (hm : ds_f3 ds_ml own i = some (j, c0, 1)) (hd : decode bytes pc = .ok (.invokestatic i, 3))
    (h : ds_inv cl j (c0 % 16) (c0 / 16 % 4) (c0 / 64) (pc + 3) lv st z k = some o)
    (hG : ds_Go p l e R s m args below meth c cells slots Q D A ad cy nL k o) (hP : va_P D vwCl (ds_ws cy ad z) H) (hS : va_S A s.heap H locs) (hl : ds_LV ad ls nL lv) : W p l e R s m args below meth c H locs cells slots Q (F0 m pc ls (st.map (ds_v ad))) := by
  obtain ⟨hx, hb, hml, hown, hts, hin, hK, hD⟩ := X
  unfold ds_inv at h
  obtain ⟨hb1, h⟩ := ds_b_of h
  rw [Bool.and_eq_true] at hb1
  have hlen : (st.take (c0 % 16)).length = c0 % 16 := Nat.eq_of_beq_eq_true hb1.2
  have hq : (own, i, j, c0, 1) ∈ ds_mls := List.mem_filter.mpr ⟨ds_f3_mem hm, rfl⟩
  obtain ⟨hj, hc99, hpar⟩ := ds_mls_ok _ hq
  dsimp only at hj hc99 hpar
  obtain ⟨en, he⟩ : ∃ en, ds_mt[j]? = some en := ⟨_, List.getElem?_eq_getElem hj⟩
  have hem : en ∈ ds_mt := List.mem_of_getElem? he
  have hy : ds_yj j = en.1 := by unfold ds_yj; rw [List.getD_eq_getElem?_getD, he]; rfl
  have w1 : Cond.methodLink own i (ds_yj j) ∈ lw_tbl := ds_ms_in _ (List.mem_map.mpr ⟨_, hq, rfl⟩)
  have w2 : Cond.static (ds_yj j) ∈ lw_tbl := ds_mst_in _ (List.mem_map.mpr ⟨_, hq, rfl⟩)
  have w4 : Cond.initialized en.1.cls ∈ lw_tbl := ds_mi_in _ (List.mem_map.mpr ⟨en, hem, rfl⟩)
  rw [hy] at w1 w2 hpar
  rw [show Nat.beq (c0 / 64) 99 = true by rw [hc99]; rfl] at h
  dsimp only at h
  obtain ⟨o1, hc, hk⟩ := ds_do_of h
  obtain ⟨e', he', hM⟩ := hcl j _ z o1 hj hc
  cases he.symm.trans he'
  have hst : st.map (ds_v ad) = ((st.take (c0 % 16)).reverse.map (ds_v ad)).reverse ++ (st.drop (c0 % 16)).map (ds_v ad) := by
    conv => lhs; rw [← List.take_append_drop (c0 % 16) st]
    simp [List.map_append, List.map_reverse]
  have hn : ((st.take (c0 % 16)).reverse.map (ds_v ad)).length = c0 % 16 := by
    rw [List.length_map, List.length_reverse, hlen]
  obtain ⟨np1, np2, -⟩ := ds_mt_plain en hem
  have hsm := ds_mt_small en hem
  obtain ⟨hR1, hR2, hR3, hR4, hR5, hR6⟩ := hR
  rw [hst]
  refine ds_call_go (o1 := o1) (A1 := va_A (ds_ws cy ad z) H.size) (va_runS (As := (st.take (c0 % 16)).reverse.map (ds_v ad)) (rest := (st.drop (c0 % 16)).map (ds_v ad)) (n := c0 % 16) ⟨hx, hb, hml, hown, hts⟩ (hM H.size)
    ⟨callB_of (c0 % 16) hts (ds_goodIn hin hem) rfl hR1 hR2 (hts _ (hin _ w4 rfl)) (hts _ (hin _ w1 rfl)) ⟨np1, np2, hpar⟩ ⟨hR3, by omega⟩, hts _ (hin _ w2 rfl)⟩
    ⟨ds_Pre_blind, fun U hU hW => ⟨rfl, ds_Pre_of hK (hD z) hA hAm hT hP hS U hU hW⟩⟩ rfl hn hl.1.1 rfl (lv_room (ds_okst_of hb1.1)) hd ⟨by omega, by omega⟩) hS (ds_A_sub (hD z) hA hS) (fun H1 locs1 hP1 hS1 => ?_)
  have := hG _ _ _ _ _ _ _ hk hP1 hS1 hl
  rw [ds_out_map] at this
  exact this
set_option maxHeartbeats 4000000 in
theorem ds_s_callN (X : ds_Cx p s m args c D A ad cy nL own Ts bytes) (hA : ∀ q : Nat, s.heap.size ≤ q → A q) (hAm : ds_Amb s) (hT : ds_Tx ad adV A s s.heap)
    (hcl : ∀ j as z1 o1, j < ds_mt.length → cl j as z1 = some o1 → ds_Con l D ad adV cy rm j as z1 o1) (hR : ds_Rm R rm cells slots) {i j c0 : Nat} (hm : ds_f3 ds_ml own i = some (j, c0, 2)) (hd : decode bytes pc = .ok (.invokestatic i, 3))
    (h : ds_inv cl j (c0 % 16) (c0 / 16 % 4) (c0 / 64) (pc + 3) lv st z k = some o)
    (hG : ds_Go p l e R s m args below meth c cells slots Q D A ad cy nL k o) (hP : va_P D vwCl (ds_ws cy ad z) H) (hS : va_S A s.heap H locs) (hl : ds_LV ad ls nL lv) : W p l e R s m args below meth c H locs cells slots Q (F0 m pc ls (st.map (ds_v ad))) := by
  obtain ⟨hx, hb, hml, hown, hts, hin, hK, hD⟩ := X
  unfold ds_inv at h
  obtain ⟨hb1, h⟩ := ds_b_of h
  rw [Bool.and_eq_true] at hb1
  have hlen : (st.take (c0 % 16)).length = c0 % 16 := Nat.eq_of_beq_eq_true hb1.2
  have hq : (own, i, j, c0, 2) ∈ ds_mln := List.mem_filter.mpr ⟨ds_f3_mem hm, rfl⟩
  obtain ⟨hj, hc99, hpar⟩ := ds_mln_ok _ hq
  dsimp only at hj hc99 hpar
  obtain ⟨en, he⟩ : ∃ en, ds_mt[j]? = some en := ⟨_, List.getElem?_eq_getElem hj⟩
  have hem : en ∈ ds_mt := List.mem_of_getElem? he
  have hy : ds_yj j = en.1 := by unfold ds_yj; rw [List.getD_eq_getElem?_getD, he]; rfl
  have w1 : va_Nw (.methodLinkNest own i (ds_yj j) "DealtSea") s := hAm _ hq
  have w2 : Cond.static (ds_yj j) ∈ lw_tbl := ds_mnt_in _ (List.mem_map.mpr ⟨_, hq, rfl⟩)
  have w4 : Cond.initialized en.1.cls ∈ lw_tbl := ds_mi_in _ (List.mem_map.mpr ⟨en, hem, rfl⟩)
  rw [hy] at w1 w2 hpar
  rw [show Nat.beq (c0 / 64) 99 = true by rw [hc99]; rfl] at h
  dsimp only at h
  obtain ⟨o1, hc, hk⟩ := ds_do_of h
  obtain ⟨e', he', hM⟩ := hcl j _ z o1 hj hc
  cases he.symm.trans he'
  have hst : st.map (ds_v ad) = ((st.take (c0 % 16)).reverse.map (ds_v ad)).reverse ++ (st.drop (c0 % 16)).map (ds_v ad) := by
    conv => lhs; rw [← List.take_append_drop (c0 % 16) st]
    simp [List.map_append, List.map_reverse]
  have hn : ((st.take (c0 % 16)).reverse.map (ds_v ad)).length = c0 % 16 := by
    rw [List.length_map, List.length_reverse, hlen]
  obtain ⟨np1, np2, -⟩ := ds_mt_plain en hem
  have hsm := ds_mt_small en hem
  obtain ⟨hR1, hR2, hR3, hR4, hR5, hR6⟩ := hR
  rw [hst]
  refine ds_call_go (o1 := o1) (A1 := va_A (ds_ws cy ad z) H.size) (va_runSN (As := (st.take (c0 % 16)).reverse.map (ds_v ad)) (rest := (st.drop (c0 % 16)).map (ds_v ad)) (n := c0 % 16) (host := "DealtSea") ⟨hx, hb, hml, hown, hts⟩ (hM H.size)
    ⟨va_cnB (c0 % 16) hts (ds_goodIn hin hem) rfl hR1 hR2 w1 (hts _ (hin _ w4 rfl)) ⟨np1, np2, hpar⟩ ⟨hR3, by omega⟩, hts _ (hin _ w2 rfl), trivial⟩
    ⟨ds_Pre_blind, fun U hU hW => ⟨rfl, ds_Pre_of hK (hD z) hA hAm hT hP hS U hU hW⟩⟩ rfl hn hl.1.1 rfl (lv_room (ds_okst_of hb1.1)) hd ⟨by omega, by omega⟩) hS (ds_A_sub (hD z) hA hS) (fun H1 locs1 hP1 hS1 => ?_)
  have := hG _ _ _ _ _ _ _ hk hP1 hS1 hl
  rw [ds_out_map] at this
  exact this
end CALLS2
