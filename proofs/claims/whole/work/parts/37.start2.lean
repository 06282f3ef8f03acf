set_option maxRecDepth 100000 in
set_option maxHeartbeats 4000000 in
theorem ds_K_start {s : State} {args : Array Value} (hts : ∀ w ∈ lw_tbl, w.before args s = true) : ∃ (D : va_G) (cy : Nat → ClassId), va_K D vwCl (ds_tys cy) s := by
  obtain ⟨c0, i0, h0⟩ := u_known (C := RX0) (T := TX0) (N := 4) (n := 4) hts ds_uw0 (hts (.instantiable RX0 4) (List.mem_of_getElem? (i := 387) rfl))
  obtain ⟨c1, i1, h1⟩ := u_known (C := RX1) (T := TX1) (N := 4) (n := 4) hts ds_uw1 (hts (.instantiable RX1 4) (List.mem_of_getElem? (i := 335) rfl))
  obtain ⟨c2, i2, h2⟩ := u_known (C := RX2) (T := TX2) (N := 4) (n := 4) hts ds_uw2 (hts (.instantiable RX2 4) (List.mem_of_getElem? (i := 313) rfl))
  obtain ⟨c3, i3, h3⟩ := u_known (C := RX3) (T := TX3) (N := 2) (n := 2) hts ds_uw3 (hts (.instantiable RX3 2) (List.mem_of_getElem? (i := 407) rfl))
  obtain ⟨c4, i4, h4⟩ := u_known (C := RX4) (T := TX4) (N := 13) (n := 13) hts ds_uw4 (hts (.instantiable RX4 13) (List.mem_of_getElem? (i := 168) rfl))
  obtain ⟨c5, i5, h5⟩ := u_known (C := RX5) (T := TX5) (N := 8) (n := 8) hts ds_uw5 (hts (.instantiable RX5 8) (List.mem_of_getElem? (i := 356) rfl))
  obtain ⟨c6, i6, h6⟩ := u_known (C := RX6) (T := TX6) (N := 4) (n := 4) hts ds_uw6 (hts (.instantiable RX6 4) (List.mem_of_getElem? (i := 421) rfl))
  obtain ⟨c7, i7, h7⟩ := u_known (C := RX7) (T := TX7) (N := 18) (n := 18) hts ds_uw7 (hts (.instantiable RX7 18) (List.mem_of_getElem? (i := 174) rfl))
  obtain ⟨c8, i8, h8⟩ := u_known (C := RX8) (T := TX8) (N := 13) (n := 13) hts ds_uw8 (hts (.instantiable RX8 13) (List.mem_of_getElem? (i := 160) rfl))
  obtain ⟨c9, i9, h9⟩ := u_known (C := RX9) (T := TX9) (N := 45) (n := 45) hts ds_uw9 (hts (.instantiable RX9 45) (List.mem_of_getElem? (i := 1412) rfl))
  obtain ⟨a_byte, k_byte, m_byte, e1_byte, e2_byte, e3_byte⟩ := Cond.arrayClass_spec (hts (.arrayClass .byte) (List.mem_of_getElem? (i := 266) rfl))
  obtain ⟨a_int, k_int, m_int, e1_int, e2_int, e3_int⟩ := Cond.arrayClass_spec (hts (.arrayClass .int) (List.mem_of_getElem? (i := 267) rfl))
  obtain ⟨a_long, k_long, m_long, e1_long, e2_long, e3_long⟩ := Cond.arrayClass_spec (hts (.arrayClass .long) (List.mem_of_getElem? (i := 309) rfl))
  refine ⟨(fun k => match k with
    | 0 => c0
    | 1 => c1
    | 2 => c2
    | 3 => c3
    | 4 => c4
    | 5 => c5
    | 6 => c6
    | 7 => c7
    | 8 => c8
    | _ => c9, fun k => match k with
    | 0 => i0
    | 1 => i1
    | 2 => i2
    | 3 => i3
    | 4 => i4
    | 5 => i5
    | 6 => i6
    | 7 => i7
    | 8 => i8
    | _ => i9), fun k => if k = 10 then a_byte else if k = 11 then a_int else a_long, fun k q hq => ?_, fun k q hq => ?_⟩
  · match k, hq with
    | 0, hq => cases hq; exact h0
    | 1, hq => cases hq; exact h1
    | 2, hq => cases hq; exact h2
    | 3, hq => cases hq; exact h3
    | 4, hq => cases hq; exact h4
    | 5, hq => cases hq; exact h5
    | 6, hq => cases hq; exact h6
    | 7, hq => cases hq; exact h7
    | 8, hq => cases hq; exact h8
    | 9, hq => cases hq; exact h9
    | n + 10, hq => simp [vwCl] at hq
  · match k, hq with
    | 0, hq => cases hq; exact ⟨fun n z => ⟨fun k h => (by cases h), k_byte, e2_byte, m_byte, e3_byte⟩, e1_byte⟩
    | 1, hq => cases hq; exact ⟨fun n z => ⟨fun k h => (by cases h), k_int, e2_int, m_int, e3_int⟩, e1_int⟩
    | 2, hq => cases hq; exact ⟨fun n z => ⟨fun k h => (by cases h), k_long, e2_long, m_long, e3_long⟩, e1_long⟩
    | n + 3, hq => simp [ds_tys] at hq
theorem ds_Amb_start {s : State} {args : Array Value} (hts : ∀ w ∈ lw_tbl, w.before args s = true) : ds_Amb s := fun q hq => va_Nw.of rfl (hts _ (ds_mn_in _ (List.mem_map.mpr ⟨q, hq, rfl⟩)))
set_option maxRecDepth 100000 in
theorem ds_niw_in : ∀ w ∈ ds_niw, w ∈ lw_tbl := ds_picks _ [341, 175, 169, 311, 314, 336, 357, 388, 408] rfl
theorem ds_AmC_start {s : State} {args : Array Value} (hts : ∀ w ∈ lw_tbl, w.before args s = true) : ds_AmC s := fun w hw => va_Nw.of (ds_niw_on w hw) (hts w (ds_niw_in w hw))
set_option maxRecDepth 100000 in
set_option maxHeartbeats 4000000 in
theorem ds_Tx_start {s : State} {args : Array Value} (hts : ∀ w ∈ lw_tbl, w.before args s = true) (hgv : (Jvm.Cond.and given_1 narrow_1).before args s = true) : ∃ adK adV : Nat → Nat, ∀ (ad : Nat → Nat) (A : Nat → Prop), (∀ i, ad (300 + i) = adK i) → (∀ a : Nat, a < s.heap.size → ¬ A a) → ds_Tx ad adV A s s.heap := by
  have hfl := flat_of_before _ hgv
  have h0 : ∀ i : Nat, ∃ q : Nat × Nat, i < 34 → (ds_tm i).eval args s none [] s = some (.ref q.1) ∧ ∀ A : Nat → Prop, (∀ a : Nat, a < s.heap.size → ¬ A a) → va_O "java/lang/String" q.1 A s s.heap ∧ va_OF "java/lang/String" "coder" "B" (.int 0) q.1 A s s.heap ∧ va_OF "java/lang/String" "value" "[B" (.ref q.2) q.1 A s s.heap ∧ va_T .byte q.2 (ds_txt.getD i []).length (fun j => .int (Int32.ofNat ((ds_txt.getD i []).getD j 0))) A s s.heap := by
    intro i
    by_cases hi : i < 34
    · have hc : ∀ w ∈ ds_txc i, w.before args s = true := fun w hw => hfl w (ds_txc_in i hi w hw)
      have hex : (Cond.exactly (ds_tm i) "java/lang/String").before args s = true := hc _ (List.mem_append_left _ (List.mem_of_getElem? (i := 0) rfl))
      have hco : (Cond.eq (.field (ds_tm i) "java/lang/String" "coder" "B") (.int 0)).before args s = true := hc _ (List.mem_append_left _ (List.mem_of_getElem? (i := 1) rfl))
      have har : (Cond.arrayOf (ds_tmv i) .byte).before args s = true := hc _ (List.mem_append_left _ (List.mem_of_getElem? (i := 2) rfl))
      have hle : (Cond.eq (.length (ds_tmv i)) (.int (Int32.ofNat (ds_txt.getD i []).length))).before args s = true := hc _ (List.mem_append_left _ (List.mem_of_getElem? (i := 3) rfl))
      have hel : ∀ j, j < (ds_txt.getD i []).length → (Cond.eq (.elem (ds_tmv i) (.int (Int32.ofNat j))) (.int (Int32.ofNat ((ds_txt.getD i []).getD j 0)))).before args s = true := fun j hj => hc _ (List.mem_append_right _ (List.mem_map.mpr ⟨j, List.mem_range.mpr hj, rfl⟩))
      have hN : (ds_txt.getD i []).length < 2 ^ 31 := by have := (ds_txt_ok i hi).1; omega
      obtain ⟨a, c, cA, kA, q1, q2, q3, q4, q5, q6, -⟩ := Cond.exactly_spec (args := args) (first := s) (o := none) (s := s) (idx := []) (t := ds_tm i) (cls := "java/lang/String") hex
      obtain ⟨t, ht, hT⟩ := va_Tof (f := fun j => .int (Int32.ofNat ((ds_txt.getD i []).getD j 0))) (A := fun _ => False) hN har (va_eqt hle) (fun j hj => va_eqt (hel j hj)) (fun _ _ h => h)
      refine ⟨(a, t), fun _ => ⟨q1, fun A hA => ⟨⟨cA, q3, q5, by rw [q6]; exact q2, hA a (Array.getElem?_eq_some_iff.mp q3).1⟩, vk_OFof q1 (va_eqt hco) hA, vk_OFof q1 ht hA, ?_⟩⟩⟩
      obtain ⟨t2, ht2, hT2⟩ := va_Tof (f := fun j => .int (Int32.ofNat ((ds_txt.getD i []).getD j 0))) (A := A) hN har (va_eqt hle) (fun j hj => va_eqt (hel j hj)) hA
      cases ht.symm.trans ht2
      exact hT2
    · exact ⟨(0, 0), fun h => absurd h hi⟩
  obtain ⟨f, hf⟩ := Classical.axiomOfChoice h0
  refine ⟨fun i => (f i).1, fun i => (f i).2, fun ad A had hA => ⟨fun i hi => ?_, ?_, ?_⟩⟩
  · obtain ⟨q1, q2⟩ := hf i hi
    obtain ⟨r1, r2, r3, r4⟩ := q2 A hA
    unfold ds_Tx1
    rw [had i]
    refine ⟨vk_R.of (A := args) ?_ ?_, r1, r2, r3, r4⟩
    · exact (hts _ (ds_tsr_all _ (List.mem_map.mpr ⟨i, List.mem_range.mpr hi, rfl⟩)))
    · exact q1
  · exact va_Zof (hts _ (List.mem_of_getElem? (i := 553) rfl)) (hts _ (List.mem_of_getElem? (i := 148) rfl)) (va_eqt (hfl _ ds_w_comp)) hA
  · exact va_Zqof (hts _ (List.mem_of_getElem? (i := 569) rfl)) (hts _ (List.mem_of_getElem? (i := 150) rfl)) (hfl _ ds_w_sio) hA
