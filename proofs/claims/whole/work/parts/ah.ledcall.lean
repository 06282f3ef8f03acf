/-! the one call of led -/
theorem dz_d1747 : decode code 1747 = .ok (.invokestatic 224, 3) := by decide +kernel
section LEDC
variable {p : Program} {l : Launch} {e : Env} {s : State} {m : MethodId} {below : List Frame} {meth : Method} {c : Code} {b : Nat} {D : va_G} {A : Nat → Prop} {ad adV : Nat → Nat} {cy : Nat → ClassId} {Ts : List Cond}
set_option maxRecDepth 20000 in
theorem dz_call (X : ds_Cx p s m #[Value.ref b] c D A ad cy 7 "DealtSeaLaw" Ts code) (hA : ∀ q : Nat, s.heap.size ≤ q → A q) (hAm : ds_Amb s) (hT : ds_Tx ad adV A s s.heap) (hTh : dz_Th A s s.heap) (hlt : l.stackTraces = false) : dw_Call p l e s m below meth c b D A ad cy 1 6 := by
  intro cells slots i x z H locs ls hc hs hP hS hl hh
  obtain ⟨hx, hb, hml, hown, hts, hin, hK, hD⟩ := X
  have hG : GoodIn Ts (va_wsS "DealtSeaLaw" 224 y_Law_led (dz_cwL :: ds_WS)) := by
    intro w hw
    unfold va_wsS at hw
    rcases List.mem_append.mp hw with h | h
    · simp only [List.mem_cons, List.not_mem_nil, or_false] at h
      rcases h with rfl | rfl | rfl
      · exact ⟨hin _ dz_w224.1 rfl, good_of_word rfl⟩
      · exact ⟨hin _ dz_w224.2.1 rfl, good_of_word rfl⟩
      · exact ⟨hin _ dz_w224.2.2 rfl, good_of_word rfl⟩
    · exact ds_gi hin dz_cwL_in rfl w h
  have main : ∀ (r : Nat) (z' : ds_St), (∀ sz : Nat, vx_Met l y_Law_led (dz_cwL :: ds_WS) dz_rmL (va_Pc (([.ref 0, .int x, .ref 111] : List Value).map (ds_v ad)) (dz_Pre D ad adV cy z sz)) (fun _ st oc t => ds_Post D ad cy (some (.int (nI r)), z') (va_A (ds_ws cy ad z) sz) st oc t) (fun _ _ _ => False) 1 6 (va_A (ds_ws cy ad z) sz)) →
      (∀ H' locs', va_P D vwCl (ds_ws cy ad z') H' → va_S A s.heap H' locs' → W p l e room_1 s m #[Value.ref b] below meth c H' locs' (cells + 1) (slots + 6) (lw_Z below #[Value.ref b] s) (F0 m 1750 ls [.int (nI r)])) →
      W p l e room_1 s m #[Value.ref b] below meth c H locs cells slots (lw_Z below #[Value.ref b] s) (F0 m 1747 ls [.ref (ad 111), .int x, .ref (ad 0)]) := by
    intro r z' hM k
    refine dz_goL (o1 := (some (.int (nI r)), z')) (A1 := va_A (ds_ws cy ad z) H.size) (vx_runSX (hh := [(0, 9, 12, 13)]) (As := ([.ref 0, .int x, .ref 111] : List Value).map (ds_v ad)) (rest := []) (n := 3) ⟨hx, hb, hml, hown, hts⟩ (hM H.size) (vx_cwSW 3 hts hG rfl rfl rfl ⟨by decide +kernel, by decide +kernel, by decide +kernel⟩ ⟨by decide, by decide⟩) ⟨dz_Pre_blind, fun U hU hW => ⟨rfl, dz_Pre_of hK (hD z) hA hAm hT hTh hP hS U hU hW⟩⟩ rfl rfl hl.1.1 rfl (lv_room (Nat.le_of_ble_eq_true rfl)) dz_d1747 ⟨hc, hs⟩) hS (ds_A_sub (hD z) hA hS) (fun H1 locs1 hP1 hS1 => ?_)
    exact k H1 locs1 hP1 hS1
  rcases hh with ⟨j, a1, k⟩ | ⟨a1, k⟩
  · exact main 0 _ (dz_law l hlt D ad adV cy x z _ 0 (.inl ⟨j, a1, rfl, rfl⟩)) k
  · exact main 1 z (dz_law l hlt D ad adV cy x z z 1 (.inr ⟨a1, rfl, rfl⟩)) k
end LEDC
theorem whole_start {p : Program} {e : Env} {s : State} {m : MethodId} {below : List Frame} {meth : Method} {c : Code} (l : Launch) (hfl : l.flags = flags0) {b L : Nat} {xs : Nat → Int32} (hL : L ≤ 3072) (C0 : lw_At p s m meth c b L xs) : W p l e room_1 s m #[Value.ref b] below meth c s.heap [] 0 0 (lw_Z below #[Value.ref b] s) (entryFrame m ([Value.ref b] : List Value).toArray 7) := by
  have C1 := C0
  obtain ⟨-, -, -, -, -, hts, -, -, -, hgv⟩ := C1
  exact dw_whole l hL C0 (kc := 1) (ks := 6) (by decide) (by decide) (fun D A ad adV cy X hA hA2 hAm hT => dz_call X hA hAm hT (dz_Th_start hts hgv (fun a ha h => absurd (hA2 a h) (by omega))) (dw_nt hfl))
