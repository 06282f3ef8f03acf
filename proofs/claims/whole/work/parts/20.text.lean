/-! String.length and charAt of a text: seven small methods, nothing is written -/
def ds_rt (k : Nat) : Room := { frames := 2 * k + 1, cells := 0, slots := 0, locals := 60 * k + 40 }
def ds_Pu (v : Option Value) : Array Value → State → Outcome → State → Prop := fun _ st oc t => oc = .returned v ∧ t.heap = st.heap
abbrev ds_F : Nat → Prop := fun _ => False
section TEXT
variable {p : Program} {l : Launch} {e : Env} {R : Room} {s : State} {m : MethodId} {args : Array Value} {below : List Frame} {meth : Method} {c : Code} {cells slots : Nat} {Q : State → Prop} {H : Heap} {locs : List Loc} {pc : Nat} {ls : Array Slot}
theorem ds_pure_go {rest st0 : List Value} {v : Option Value} (hr : va_Run p l e R s m args below meth c H locs cells slots 0 0 (F0 m pc ls st0) rest (fun st oc t => oc = .returned v ∧ t.heap = st.heap) ds_F)
    (kk : W p l e R s m args below meth c H locs cells slots Q (F0 m (pc + 3) ls (v.toList ++ rest))) : W p l e R s m args below meth c H locs cells slots Q (F0 m pc ls st0) := by
  intro T hT X
  obtain ⟨v', st₀, t, T', L, h0, X', hL, e1, e2, ⟨hv, hh⟩, hst⟩ := hr T hT X
  cases hv
  have hL0 : L = [] := by
    cases L with
    | nil => rfl
    | cons q r => exact absurd (hL q List.mem_cons_self) id
  subst hL0
  rw [List.append_nil] at X'
  obtain ⟨t2, a1, b1⟩ := kk T' (by rw [e1, hh, h0]) X'
  exact ⟨t2, hst t2 a1, b1⟩
end TEXT
theorem ds_gi {Ts : List Cond} (hin : ∀ w ∈ lw_tbl, goodWord w = true → w ∈ Ts) {w0 : Cond} (h0 : w0 ∈ lw_tbl) (hg : goodWord w0 = true) : GoodIn Ts (w0 :: ds_WS) := by
  intro w hw
  rcases List.mem_cons.mp hw with rfl | hw
  · exact ⟨hin _ h0 hg, good_of_word hg⟩
  · obtain ⟨h1, h2⟩ := List.mem_filter.mp hw
    exact ⟨hin w h1 h2, good_of_word h2⟩
theorem ds_self {w0 : Cond} : ∀ w ∈ lw_tbl, goodWord w = true → w ∈ w0 :: ds_WS := fun w h1 h2 => List.mem_cons_of_mem _ (ds_WS_in h1 h2)
set_option maxHeartbeats 4000000 in
theorem ct_c_pci (l : Launch) (i n : Int32) (v3 : Value) (h1 : ¬ i < 0) (h2 : i < n) (hv3 : v3.category = 1) : Met l yt_pci (Cond.code yt_pci ct_pci 3 (some .int) :: ds_WS) (ds_rt 0) (va_Pc [.int i, .int n, v3] (fun _ => True)) (ds_Pu (some (.int i))) 0 0 ds_F := by
  refine Met.ofW (cc := ct_pci) (maxL := 3) (ret := some .int) (by decide +kernel) rfl ?_
  intro p e s m args below meth c s₁ B hml hv
  obtain ⟨rfl, -⟩ := hv
  have hx := B.exec
  have hb := B.bytes
  have hr := B.returns
  have hlocks := B.notSynchronized
  have hln : (lg_sl [.int i, .int n, v3]).length ≤ 3 := by cases v3 <;> first | (simp [Value.category] at hv3; done) | (simp [lg_sl, Value.category]; done)
  have hl := lv_entry ([.int i, .int n, v3]) (n := 3) hln
  rw [lg_entry_eq]
  generalize (lg_sl ([.int i, .int n, v3]) ++ List.replicate (3 - (lg_sl ([.int i, .int n, v3])).length) Slot.unset).toArray = ls at hl ⊢
  have hl : lv_has ls 3 [(0, .int i), (1, .int n), (2, v3)] := hl
  refine lv_iload_n hx hb dt_pci_0 rfl (lv_at hl 0 rfl) ?_
  refine lv_if_lt (tgt := 9) hx hb dt_pci_1 (by decide) (fun q => absurd q h1) (fun _ => ?_)
  refine lv_iload_n hx hb dt_pci_4 rfl (lv_at hl 0 rfl) ?_
  refine lv_iload_n hx hb dt_pci_5 rfl (lv_at hl 1 rfl) ?_
  refine lv_icmp_lt (tgt := 16) hx hb dt_pci_6 (by decide) (fun _ => ?_) (fun q => absurd h2 q)
  refine lv_iload_n hx hb dt_pci_16 rfl (lv_at hl 0 rfl) ?_
  exact W.iret hx hb hr (fun t ht hW => ⟨rfl, ht⟩) (fun q hq => by cases hq) dt_pci_17
/-- a static that holds null or a reference -/
abbrev ds_sio (U : State) : Prop := va_Zq "jdk/internal/util/Preconditions" "SIOOBE_FORMATTER" "Ljava/util/function/BiFunction;" ds_F U U.heap
theorem ds_sio_blind {as : List Value} : FrameBlind (va_Pc as ds_sio) := fun a U g mk q => ⟨q.1, va_Zq.moved (u := U) (U := U.calling g mk a) (Vm.Alike.refl U.vm) q.2⟩
set_option maxHeartbeats 4000000 in
theorem ct_c_ci (l : Launch) (i n : Int32) (h1 : ¬ i < 0) (h2 : i < n) : Met l yt_ci (Cond.code yt_ci ct_ci 2 none :: ds_WS) (ds_rt 1) (va_Pc [.int i, .int n] ds_sio) (ds_Pu none) 0 0 ds_F := by
  refine Met.ofW (cc := ct_ci) (maxL := 2) (ret := none) (by decide +kernel) rfl ?_
  intro p e s m args below meth c s₁ B hml hv
  obtain ⟨rfl, hZ⟩ := hv
  have hx := B.exec
  have hb := B.bytes
  have hr := B.returns
  have hts := atoms_spec (ws := Cond.code yt_ci ct_ci 2 none :: ds_WS) B.pre
  have hown : s.vm.findClass "java/lang/String" = some m.cls := findClass_of_methodNamed B.named
  have hlocks := B.notSynchronized
  have hS : va_S ds_F s.heap s.heap [] := va_S.rf
  have hl := lv_entry ([.int i, .int n]) (n := 2) (Nat.le_of_ble_eq_true rfl)
  rw [lg_entry_eq]
  generalize (lg_sl ([.int i, .int n]) ++ List.replicate (2 - (lg_sl ([.int i, .int n])).length) Slot.unset).toArray = ls at hl ⊢
  have hl : lv_has ls 2 [(0, .int i), (1, .int n)] := hl
  refine lv_iload_n hx hb dt_ci_0 rfl (lv_at hl 0 rfl) ?_
  refine lv_iload_n hx hb dt_ci_1 rfl (lv_at hl 1 rfl) ?_
  have go : ∀ v3 : Value, v3.category = 1 → W p l e (headSpec (Cond.code yt_ci ct_ci 2 none :: ds_WS) (ds_rt 1)).room s m #[.int i, .int n] below meth c s.heap [] 0 0 (MQ below (ds_Pu none) #[.int i, .int n] s 0 0 ds_F) (F0 m 5 ls [v3, .int n, .int i]) := by
    intro v3 hv3
    refine ds_pure_go (rest := []) (v := some (.int i)) (va_runS (As := [.int i, .int n, v3]) (rest := []) (n := 3) ⟨hx, hb, hml, hown, hts⟩ (ct_c_pci l i n v3 h1 h2 hv3)
      ⟨callB_of 3 hts (ds_gi ds_self wt_code_pci rfl) rfl rfl rfl (hts _ (ds_self _ wt_ini_P rfl)) (hts _ (ds_self _ wt_ml_ci_pci rfl)) (by decide +kernel) ⟨Nat.le_of_ble_eq_true rfl, Nat.le_of_ble_eq_true rfl⟩, hts _ (ds_self _ wt_stat_pci rfl)⟩
      ⟨fun a U g mk q => q, fun U hU hW => ⟨rfl, trivial⟩⟩ rfl rfl hl.1 rfl (lv_room (Nat.le_of_ble_eq_true rfl)) dt_ci_5 ⟨Nat.le_of_ble_eq_true rfl, Nat.le_of_ble_eq_true rfl⟩) ?_
    refine lv_pop hx hb dt_ci_8 rfl ?_
    exact W.vret hx hb hr (fun t ht hW => ⟨rfl, ht⟩) (fun q hq => by cases hq) dt_ci_9
  rcases hZ with hZ | ⟨q, hZ⟩
  · exact va_gets hx hb hZ hS hown (hts _ (ds_self _ wt_f_sio rfl)) (fun _ h9 => h9) dt_ci_2 (go _ rfl)
  · exact va_gets hx hb hZ hS hown (hts _ (ds_self _ wt_f_sio rfl)) (fun _ h9 => h9) dt_ci_2 (go _ rfl)
theorem ds_b7 : ∀ b, b < 128 → (((Int32.ofNat b) &&& 255).toUInt32 % 65536).toInt32 = Int32.ofNat b ∧ narrow .char (.int (Int32.ofNat b)) = .int (Int32.ofNat b) := by decide +kernel
/-- a row of signs -/
def ds_sg (av : Nat) (w : List Nat) (U : State) : Prop := va_T .byte av w.length (fun j => .int (Int32.ofNat (w.getD j 0))) ds_F U U.heap
set_option maxHeartbeats 4000000 in
theorem ct_c_lch (l : Launch) (av : Nat) (w : List Nat) (hw : w.length < 100) (hb7 : ∀ b ∈ w, b < 128) (i : Int32) (hi : vp_in i w.length) : Met l yt_lch (Cond.code yt_lch ct_lch 2 (some .char) :: ds_WS) (ds_rt 2) (va_Pc [.ref av, .int i] (fun U => ds_sg av w U ∧ ds_sio U)) (ds_Pu (some (.int (Int32.ofNat (w.getD i.toNatClampNeg 0))))) 0 0 ds_F := by
  refine Met.ofW (cc := ct_lch) (maxL := 2) (ret := some .char) (by decide +kernel) rfl ?_
  intro p e s m args below meth c s₁ B hml hv
  obtain ⟨rfl, hsg, hZ⟩ := hv
  have hx := B.exec
  have hb := B.bytes
  have hr := B.returns
  have hts := atoms_spec (ws := Cond.code yt_lch ct_lch 2 (some .char) :: ds_WS) B.pre
  have hown : s.vm.findClass "java/lang/StringLatin1" = some m.cls := findClass_of_methodNamed B.named
  have hlocks := B.notSynchronized
  have hS : va_S ds_F s.heap s.heap [] := va_S.rf
  have hl := lv_entry ([.ref av, .int i]) (n := 2) (Nat.le_of_ble_eq_true rfl)
  rw [lg_entry_eq]
  generalize (lg_sl ([.ref av, .int i]) ++ List.replicate (2 - (lg_sl ([.ref av, .int i])).length) Slot.unset).toArray = ls at hl ⊢
  have hl : lv_has ls 2 [(0, .ref av), (1, .int i)] := hl
  obtain ⟨j, hj, rfl⟩ := vp_in_of hi (by omega)
  have hi1 : ¬ nI j < 0 := nI_pos (by omega)
  have hi2 : nI j < Int32.ofNat w.length := nI_lt hj (by omega)
  have hcl : (nI j).toNatClampNeg = j := nI_clamp (by omega)
  refine lv_iload_n hx hb dt_lch_0 rfl (lv_at hl 1 rfl) ?_
  refine lv_aload_n hx hb dt_lch_1 rfl (lv_at hl 0 rfl) ?_
  refine va_tlen hx hb hsg hS rfl dt_lch_2 ?_
  refine ds_pure_go (rest := []) (v := none) (va_runS (As := [.int (nI j), .int (Int32.ofNat w.length)]) (rest := []) (n := 2) ⟨hx, hb, hml, hown, hts⟩ (ct_c_ci l _ _ hi1 hi2)
      ⟨callB_of 2 hts (ds_gi ds_self wt_code_ci rfl) rfl rfl rfl (hts _ (ds_self _ wt_ini_S rfl)) (hts _ (ds_self _ wt_ml_lch_ci rfl)) (by decide +kernel) ⟨Nat.le_of_ble_eq_true rfl, Nat.le_of_ble_eq_true rfl⟩, hts _ (ds_self _ wt_stat_ci rfl)⟩
      ⟨ds_sio_blind, fun U hU hW => ⟨rfl, by show va_Zq _ _ _ _ U U.heap; rw [hU]; exact va_Zq.moved hW.alike hZ⟩⟩ rfl rfl hl.1 rfl (lv_room (Nat.le_of_ble_eq_true rfl)) dt_lch_3 ⟨Nat.le_of_ble_eq_true rfl, Nat.le_of_ble_eq_true rfl⟩) ?_
  refine lv_aload_n hx hb dt_lch_6 rfl (lv_at hl 0 rfl) ?_
  refine lv_iload_n hx hb dt_lch_7 rfl (lv_at hl 1 rfl) ?_
  refine va_tb hx hb hsg hS hi rfl dt_lch_8 ?_
  refine lv_sipush (v := 255) hx hb dt_lch_9 (by decide +kernel) ?_
  refine lv_iand hx hb dt_lch_12 ?_
  have hlt : w.getD j 0 < 128 := by
    rw [List.getD_eq_getElem?_getD, List.getElem?_eq_getElem hj]
    exact hb7 _ (List.getElem_mem hj)
  have hb8 := ds_b7 _ hlt
  rw [hcl]
  refine lv_i2c hx hb dt_lch_13 hb8.1 ?_
  exact W.zret hx hb hr hb8.2 (fun t ht hW => ⟨rfl, ht⟩) (fun q hq => by cases hq) dt_lch_14
/-- a text: its object, its signs -/
def ds_so (a av : Nat) (w : List Nat) (U : State) : Prop := va_O "java/lang/String" a ds_F U U.heap ∧ va_OF "java/lang/String" "coder" "B" (.int 0) a ds_F U U.heap ∧ va_OF "java/lang/String" "value" "[B" (.ref av) a ds_F U U.heap ∧ ds_sg av w U ∧ va_Z "java/lang/String" "COMPACT_STRINGS" "Z" (.int 1) ds_F U U.heap ∧ ds_sio U
theorem ds_so.moved {a av : Nat} {w : List Nat} {u U : State} (hh : U.heap = u.heap) (hvm : u.vm.Alike U.vm) (h : ds_so a av w u) : ds_so a av w U := by
  obtain ⟨h1, h2, h3, h4, h5, h6⟩ := h
  unfold ds_so ds_sg ds_sio
  rw [hh]
  exact ⟨va_O.moved hvm h1, va_OF.moved hvm h2, va_OF.moved hvm h3, va_T.moved hvm h4, va_Z.moved hvm h5, va_Zq.moved hvm h6⟩
theorem ds_so_blind {as : List Value} {a av : Nat} {w : List Nat} : FrameBlind (va_Pc as (ds_so a av w)) := fun b U g mk q => ⟨q.1, ds_so.moved (u := U) (U := U.calling g mk b) rfl (Vm.Alike.refl U.vm) q.2⟩
set_option maxHeartbeats 4000000 in
theorem ct_c_isL (l : Launch) (a av : Nat) (w : List Nat) : Met l yt_isL (Cond.code yt_isL ct_isL 1 (some .boolean) :: ds_WS) (ds_rt 0) (va_Pc [.ref a] (ds_so a av w)) (ds_Pu (some (.int 1))) 0 0 ds_F := by
  refine Met.ofW (cc := ct_isL) (maxL := 1) (ret := some .boolean) (by decide +kernel) rfl ?_
  intro p e s m args below meth c s₁ B hml hv
  obtain ⟨rfl, hO, hco, hva, hsg, hcs, hZ⟩ := hv
  have hx := B.exec
  have hb := B.bytes
  have hr := B.returns
  have hts := atoms_spec (ws := Cond.code yt_isL ct_isL 1 (some .boolean) :: ds_WS) B.pre
  have hown : s.vm.findClass "java/lang/String" = some m.cls := findClass_of_methodNamed B.named
  have hlocks := B.notSynchronized
  have hS : va_S ds_F s.heap s.heap [] := va_S.rf
  have hl := lv_entry ([.ref a]) (n := 1) (Nat.le_of_ble_eq_true rfl)
  rw [lg_entry_eq]
  generalize (lg_sl ([.ref a]) ++ List.replicate (1 - (lg_sl ([.ref a])).length) Slot.unset).toArray = ls at hl ⊢
  have hl : lv_has ls 1 [(0, .ref a)] := hl
  refine va_gets hx hb hcs hS hown (hts _ (ds_self _ wt_f_comp rfl)) (fun _ h9 => h9) dt_isL_0 ?_
  refine lv_if_eq (tgt := 17) hx hb dt_isL_3 (by decide) (fun q => absurd q (by decide)) (fun _ => ?_)
  refine lv_aload_n hx hb dt_isL_6 rfl (lv_at hl 0 rfl) ?_
  refine vk_getf hx hb hco hS hown (hts _ (ds_self _ wt_f_coder rfl)) (fun _ h9 => h9) dt_isL_7 ?_
  refine lv_if_ne (tgt := 17) hx hb dt_isL_10 (by decide) (fun q => absurd rfl q) (fun _ => ?_)
  refine lv_iconst (v := 1) hx hb dt_isL_13 (by decide) ?_
  refine lv_goto (tgt := 18) hx hb dt_isL_14 (by decide) ?_
  exact W.zret hx hb hr (by decide +kernel) (fun t ht hW => ⟨rfl, ht⟩) (fun q hq => by cases hq) dt_isL_18
set_option maxHeartbeats 4000000 in
theorem ct_c_coder (l : Launch) (a av : Nat) (w : List Nat) : Met l yt_coder (Cond.code yt_coder ct_coder 1 (some .byte) :: ds_WS) (ds_rt 0) (va_Pc [.ref a] (ds_so a av w)) (ds_Pu (some (.int 0))) 0 0 ds_F := by
  refine Met.ofW (cc := ct_coder) (maxL := 1) (ret := some .byte) (by decide +kernel) rfl ?_
  intro p e s m args below meth c s₁ B hml hv
  obtain ⟨rfl, hO, hco, hva, hsg, hcs, hZ⟩ := hv
  have hx := B.exec
  have hb := B.bytes
  have hr := B.returns
  have hts := atoms_spec (ws := Cond.code yt_coder ct_coder 1 (some .byte) :: ds_WS) B.pre
  have hown : s.vm.findClass "java/lang/String" = some m.cls := findClass_of_methodNamed B.named
  have hlocks := B.notSynchronized
  have hS : va_S ds_F s.heap s.heap [] := va_S.rf
  have hl := lv_entry ([.ref a]) (n := 1) (Nat.le_of_ble_eq_true rfl)
  rw [lg_entry_eq]
  generalize (lg_sl ([.ref a]) ++ List.replicate (1 - (lg_sl ([.ref a])).length) Slot.unset).toArray = ls at hl ⊢
  have hl : lv_has ls 1 [(0, .ref a)] := hl
  refine va_gets hx hb hcs hS hown (hts _ (ds_self _ wt_f_comp rfl)) (fun _ h9 => h9) dt_coder_0 ?_
  refine lv_if_eq (tgt := 13) hx hb dt_coder_3 (by decide) (fun q => absurd q (by decide)) (fun _ => ?_)
  refine lv_aload_n hx hb dt_coder_6 rfl (lv_at hl 0 rfl) ?_
  refine vk_getf hx hb hco hS hown (hts _ (ds_self _ wt_f_coder rfl)) (fun _ h9 => h9) dt_coder_7 ?_
  refine lv_goto (tgt := 14) hx hb dt_coder_10 (by decide) ?_
  exact W.zret hx hb hr (by decide +kernel) (fun t ht hW => ⟨rfl, ht⟩) (fun q hq => by cases hq) dt_coder_14
set_option maxHeartbeats 4000000 in
theorem ct_c_len (l : Launch) (a av : Nat) (w : List Nat) : Met l yt_len (Cond.code yt_len ct_len 1 (some .int) :: ds_WS) (ds_rt 1) (va_Pc [.ref a] (ds_so a av w)) (ds_Pu (some (.int (Int32.ofNat w.length)))) 0 0 ds_F := by
  refine Met.ofW (cc := ct_len) (maxL := 1) (ret := some .int) (by decide +kernel) rfl ?_
  intro p e s m args below meth c s₁ B hml hv
  obtain ⟨rfl, hso⟩ := hv
  obtain ⟨hO, hco, hva, hsg, hcs, hZ⟩ := id hso
  have hx := B.exec
  have hb := B.bytes
  have hr := B.returns
  have hts := atoms_spec (ws := Cond.code yt_len ct_len 1 (some .int) :: ds_WS) B.pre
  have hown : s.vm.findClass "java/lang/String" = some m.cls := findClass_of_methodNamed B.named
  have hlocks := B.notSynchronized
  have hS : va_S ds_F s.heap s.heap [] := va_S.rf
  have hl := lv_entry ([.ref a]) (n := 1) (Nat.le_of_ble_eq_true rfl)
  rw [lg_entry_eq]
  generalize (lg_sl ([.ref a]) ++ List.replicate (1 - (lg_sl ([.ref a])).length) Slot.unset).toArray = ls at hl ⊢
  have hl : lv_has ls 1 [(0, .ref a)] := hl
  have hrecv : ∃ cell : Cell, s.heap[a]? = some cell ∧ cell.vm.isStatics = false ∧ s.vm.findClass "java/lang/String" = some cell.cls := by
    obtain ⟨cell, q1, q2, q3, -⟩ := hO
    exact ⟨cell, q1, q2, q3⟩
  refine lv_aload_n hx hb dt_len_0 rfl (lv_at hl 0 rfl) ?_
  refine vk_getf hx hb hva hS hown (hts _ (ds_self _ wt_f_value rfl)) (fun _ h9 => h9) dt_len_1 ?_
  refine va_tlen hx hb hsg hS rfl dt_len_4 ?_
  refine lv_aload_n hx hb dt_len_5 rfl (lv_at hl 0 rfl) ?_
  refine ds_pure_go (rest := [.int (Int32.ofNat w.length)]) (v := some (.int 0)) (va_runV (As := []) (rest := [.int (Int32.ofNat w.length)]) (b := a) (C := "java/lang/String") (n := 0) ⟨hx, hb, hml, hown, hts⟩ (ct_c_coder l a av w)
      ⟨callB_of 0 hts (ds_gi ds_self wt_code_coder rfl) rfl rfl rfl (hts _ (ds_self _ wt_ini_S rfl)) (hts _ (ds_self _ wt_ml_len_coder rfl)) (by decide +kernel) ⟨Nat.le_of_ble_eq_true rfl, Nat.le_of_ble_eq_true rfl⟩, hts _ (ds_self _ wt_inst_coder rfl), hts _ (ds_self _ wt_sel_coder rfl)⟩
      ⟨ds_so_blind, hrecv, fun U hU hW => ⟨rfl, ds_so.moved hU hW.alike hso⟩⟩ rfl rfl hl.1 rfl (lv_room (Nat.le_of_ble_eq_true rfl)) dt_len_6 ⟨Nat.le_of_ble_eq_true rfl, Nat.le_of_ble_eq_true rfl⟩) ?_
  refine lv_ishr hx hb dt_len_9 ?_
  have hsh : (Int32.ofNat w.length) >>> ((0 : Int32) &&& 31) = Int32.ofNat w.length := by
    rw [show ((0 : Int32) &&& 31) = 0 by decide]
    simp
  rw [hsh]
  exact W.iret hx hb hr (fun t ht hW => ⟨rfl, ht⟩) (fun q hq => by cases hq) dt_len_10
set_option maxHeartbeats 4000000 in
theorem ct_c_charAt (l : Launch) (a av : Nat) (w : List Nat) (hw : w.length < 100) (hb7 : ∀ b ∈ w, b < 128) (i : Int32) (hi : vp_in i w.length) : Met l yt_charAt (Cond.code yt_charAt ct_charAt 2 (some .char) :: ds_WS) (ds_rt 3) (va_Pc [.ref a, .int i] (ds_so a av w)) (ds_Pu (some (.int (Int32.ofNat (w.getD i.toNatClampNeg 0))))) 0 0 ds_F := by
  refine Met.ofW (cc := ct_charAt) (maxL := 2) (ret := some .char) (by decide +kernel) rfl ?_
  intro p e s m args below meth c s₁ B hml hv
  obtain ⟨rfl, hso⟩ := hv
  obtain ⟨hO, hco, hva, hsg, hcs, hZ⟩ := id hso
  have hx := B.exec
  have hb := B.bytes
  have hr := B.returns
  have hts := atoms_spec (ws := Cond.code yt_charAt ct_charAt 2 (some .char) :: ds_WS) B.pre
  have hown : s.vm.findClass "java/lang/String" = some m.cls := findClass_of_methodNamed B.named
  have hlocks := B.notSynchronized
  have hS : va_S ds_F s.heap s.heap [] := va_S.rf
  have hl := lv_entry ([.ref a, .int i]) (n := 2) (Nat.le_of_ble_eq_true rfl)
  rw [lg_entry_eq]
  generalize (lg_sl ([.ref a, .int i]) ++ List.replicate (2 - (lg_sl ([.ref a, .int i])).length) Slot.unset).toArray = ls at hl ⊢
  have hl : lv_has ls 2 [(0, .ref a), (1, .int i)] := hl
  have hrecv : ∃ cell : Cell, s.heap[a]? = some cell ∧ cell.vm.isStatics = false ∧ s.vm.findClass "java/lang/String" = some cell.cls := by
    obtain ⟨cell, q1, q2, q3, -⟩ := hO
    exact ⟨cell, q1, q2, q3⟩
  have hch : narrow .char (.int (Int32.ofNat (w.getD i.toNatClampNeg 0))) = .int (Int32.ofNat (w.getD i.toNatClampNeg 0)) := by
    obtain ⟨j, hj, rfl⟩ := vp_in_of hi (by omega)
    rw [nI_clamp (by omega)]
    refine (ds_b7 _ ?_).2
    rw [List.getD_eq_getElem?_getD, List.getElem?_eq_getElem hj]
    exact hb7 _ (List.getElem_mem hj)
  refine lv_aload_n hx hb dt_charAt_0 rfl (lv_at hl 0 rfl) ?_
  refine ds_pure_go (rest := []) (v := some (.int 1)) (va_runV (As := []) (rest := []) (b := a) (C := "java/lang/String") (n := 0) ⟨hx, hb, hml, hown, hts⟩ (ct_c_isL l a av w)
      ⟨callB_of 0 hts (ds_gi ds_self wt_code_isL rfl) rfl rfl rfl (hts _ (ds_self _ wt_ini_S rfl)) (hts _ (ds_self _ wt_ml_charAt_isL rfl)) (by decide +kernel) ⟨Nat.le_of_ble_eq_true rfl, Nat.le_of_ble_eq_true rfl⟩, hts _ (ds_self _ wt_inst_isL rfl), hts _ (ds_self _ wt_sel_isL rfl)⟩
      ⟨ds_so_blind, hrecv, fun U hU hW => ⟨rfl, ds_so.moved hU hW.alike hso⟩⟩ rfl rfl hl.1 rfl (lv_room (Nat.le_of_ble_eq_true rfl)) dt_charAt_1 ⟨Nat.le_of_ble_eq_true rfl, Nat.le_of_ble_eq_true rfl⟩) ?_
  refine lv_if_eq (tgt := 16) hx hb dt_charAt_4 (by decide) (fun q => absurd q (by decide)) (fun _ => ?_)
  refine lv_aload_n hx hb dt_charAt_7 rfl (lv_at hl 0 rfl) ?_
  refine vk_getf hx hb hva hS hown (hts _ (ds_self _ wt_f_value rfl)) (fun _ h9 => h9) dt_charAt_8 ?_
  refine lv_iload_n hx hb dt_charAt_11 rfl (lv_at hl 1 rfl) ?_
  refine ds_pure_go (rest := []) (v := some (.int (Int32.ofNat (w.getD i.toNatClampNeg 0)))) (va_runS (As := [.ref av, .int i]) (rest := []) (n := 2) ⟨hx, hb, hml, hown, hts⟩ (ct_c_lch l av w hw hb7 i hi)
      ⟨callB_of 2 hts (ds_gi ds_self wt_code_lch rfl) rfl rfl rfl (hts _ (ds_self _ wt_ini_L rfl)) (hts _ (ds_self _ wt_ml_charAt_lch rfl)) (by decide +kernel) ⟨Nat.le_of_ble_eq_true rfl, Nat.le_of_ble_eq_true rfl⟩, hts _ (ds_self _ wt_stat_lch rfl)⟩
      ⟨fun b U g mk q => ⟨q.1, va_T.moved (u := U) (U := U.calling g mk b) (Vm.Alike.refl U.vm) q.2.1, va_Zq.moved (u := U) (U := U.calling g mk b) (Vm.Alike.refl U.vm) q.2.2⟩, fun U hU hW => ⟨rfl, (ds_so.moved hU hW.alike hso).2.2.2.1, (ds_so.moved hU hW.alike hso).2.2.2.2.2⟩⟩ rfl rfl hl.1 rfl (lv_room (Nat.le_of_ble_eq_true rfl)) dt_charAt_12 ⟨Nat.le_of_ble_eq_true rfl, Nat.le_of_ble_eq_true rfl⟩) ?_
  exact W.zret hx hb hr hch (fun t ht hW => ⟨rfl, ht⟩) (fun q hq => by cases hq) dt_charAt_15
theorem ds_txt_ok : ∀ i, i < 34 → (ds_txt.getD i []).length < 100 ∧ ∀ b ∈ ds_txt.getD i [], b < 128 := by decide +kernel
theorem ds_m3w : ∀ q ∈ ds_ml, q.2.2.2.2 = 3 → Cond.methodLink q.1 q.2.1 yt_len ∈ lw_tbl := by decide +kernel
theorem ds_m4w : ∀ q ∈ ds_ml, q.2.2.2.2 = 4 → Cond.methodLink q.1 q.2.1 yt_charAt ∈ lw_tbl := by decide +kernel
set_option maxHeartbeats 4000000 in
theorem ds_HT_ok (l : Launch) (ad adV : Nat → Nat) : ds_HTall l ad adV := by
  intro p e R s m args below meth c cells slots Q D A cy nL own Ts bytes X hT hRf hRl hRc hRs
  obtain ⟨hx, hb, hml, hown, hts, hin, hK, hD⟩ := X
  have hso : ∀ i, i < 34 → ∀ (H : Heap) (locs : List Loc), va_S A s.heap H locs → ∀ U : State, U.heap = H → s.WarmedH U.vm → ds_so (ad (300 + i)) (adV i) (ds_txt.getD i []) U := by
    intro i hi H locs hS U hU hW
    have hT1 := ((hT.kept hS.2.1).warm hW).narrow (B := ds_F) (fun q h => absurd h id)
    obtain ⟨-, h2, h3, h4, h5⟩ := hT1.1 i hi
    unfold ds_so ds_sg ds_sio
    rw [hU]
    exact ⟨h2, h3, h4, h5, hT1.2.1, hT1.2.2⟩
  have hrecv : ∀ i, i < 34 → ∀ (H : Heap) (locs : List Loc), va_S A s.heap H locs → ∃ cell : Cell, H[ad (300 + i)]? = some cell ∧ cell.vm.isStatics = false ∧ s.vm.findClass "java/lang/String" = some cell.cls := by
    intro i hi H locs hS
    obtain ⟨cell, q1, q2, q3, -⟩ := ((hT.kept hS.2.1).1 i hi).2.1
    exact ⟨cell, q1, q2, q3⟩
  refine ⟨?_, ?_⟩
  · intro i n pc ls rest H locs hi hm hd hsz hS hrest kk
    have w1 := ds_m3w _ (ds_f3_mem hm) rfl
    dsimp only at w1
    exact ds_pure_go (rest := rest) (v := some (.int (Int32.ofNat (ds_txt.getD i []).length))) (va_runV (As := []) (rest := rest) (b := ad (300 + i)) (C := "java/lang/String") (n := 0) ⟨hx, hb, hml, hown, hts⟩ (ct_c_len l (ad (300 + i)) (adV i) (ds_txt.getD i []))
      ⟨callB_of 0 hts (ds_gi hin wt_code_len rfl) rfl rfl rfl (hts _ (hin _ wt_ini_S rfl)) (hts _ (hin _ w1 rfl)) (by decide +kernel) ⟨by simp [ds_rt]; omega, by simp [ds_rt]; omega⟩, hts _ (hin _ wt_inst_len rfl), hts _ (hin _ wt_sel_len rfl)⟩
      ⟨ds_so_blind, hrecv i hi H locs hS, fun U hU hW => ⟨rfl, hso i hi H locs hS U hU hW⟩⟩ rfl rfl hsz rfl (lv_room hrest) hd ⟨hRc, hRs⟩) kk
  · intro i n pc x ls rest H locs hi hxi hm hd hsz hS hrest kk
    have w1 := ds_m4w _ (ds_f3_mem hm) rfl
    dsimp only at w1
    obtain ⟨t1, t2⟩ := ds_txt_ok i hi
    exact ds_pure_go (rest := rest) (v := some (.int (Int32.ofNat ((ds_txt.getD i []).getD x.toNatClampNeg 0)))) (va_runV (As := [.int x]) (rest := rest) (b := ad (300 + i)) (C := "java/lang/String") (n := 1) ⟨hx, hb, hml, hown, hts⟩ (ct_c_charAt l (ad (300 + i)) (adV i) (ds_txt.getD i []) t1 t2 x hxi)
      ⟨callB_of 1 hts (ds_gi hin wt_code_charAt rfl) rfl rfl rfl (hts _ (hin _ wt_ini_S rfl)) (hts _ (hin _ w1 rfl)) (by decide +kernel) ⟨by simp [ds_rt]; omega, by simp [ds_rt]; omega⟩, hts _ (hin _ wt_inst_charAt rfl), hts _ (hin _ wt_sel_charAt rfl)⟩
      ⟨ds_so_blind, hrecv i hi H locs hS, fun U hU hW => ⟨rfl, hso i hi H locs hS U hU hW⟩⟩ rfl rfl hsz rfl (lv_room hrest) hd ⟨hRc, hRs⟩) kk
