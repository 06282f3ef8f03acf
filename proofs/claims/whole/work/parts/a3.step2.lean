/-! the step theorem once more, for the law: its way back stands at one place -/
section MAIN2
variable (p : Program) (l : Launch) (e : Env) (R : Room) (s : State) (m : MethodId) (args : Array Value) (below : List Frame) (meth : Method) (c : Code) (cells slots : Nat) (Q : State → Prop)
variable (D : va_G) (A : Nat → Prop) (ad : Nat → Nat) (cy : Nat → ClassId) (nL : Nat) (own : String) (bytes : ByteArray) (zr lw : Bool)
/-- how a run ends; ok: the instructions that the method has -/
def ds_End2 (okp : Nat → Prop) (ok : Instr → Prop) (o : ds_Out) : Prop :=
  (∀ (pc : Nat) (ls : Array Slot) (x : Int32) (z : ds_St) (H : Heap) (locs : List Loc), decode bytes pc = .ok (.ireturn, 1) → ok .ireturn → zr = false → o = (some (.int x), z) → va_P D vwCl (ds_ws cy ad z) H → va_S A s.heap H locs → W p l e R s m args below meth c H locs cells slots Q (F0 m pc ls [.int x])) ∧
  (∀ (pc : Nat) (ls : Array Slot) (x : Int32) (z : ds_St) (H : Heap) (locs : List Loc), decode bytes pc = .ok (.ireturn, 1) → ok .dreturn → zr = true → (x = 0 ∨ x = 1) → o = (some (.int x), z) → va_P D vwCl (ds_ws cy ad z) H → va_S A s.heap H locs → W p l e R s m args below meth c H locs cells slots Q (F0 m pc ls [.int x])) ∧
  (∀ (pc : Nat) (ls : Array Slot) (x : Int64) (z : ds_St) (H : Heap) (locs : List Loc), decode bytes pc = .ok (.lreturn, 1) → ok .lreturn → o = (some (.long x), z) → va_P D vwCl (ds_ws cy ad z) H → va_S A s.heap H locs → W p l e R s m args below meth c H locs cells slots Q (F0 m pc ls [.long x])) ∧
  (∀ (pc : Nat) (ls : Array Slot) (x : Nat) (z : ds_St) (H : Heap) (locs : List Loc), decode bytes pc = .ok (.areturn, 1) → ok .areturn → o = (some (.ref x), z) → va_P D vwCl (ds_ws cy ad z) H → va_S A s.heap H locs → W p l e R s m args below meth c H locs cells slots Q (F0 m pc ls [.ref (ad x)])) ∧
  (∀ (pc : Nat) (ls : Array Slot) (z : ds_St) (H : Heap) (locs : List Loc), decode bytes pc = .ok (.return_, 1) → ok .return_ → o = (none, z) → va_P D vwCl (ds_ws cy ad z) H → va_S A s.heap H locs → W p l e R s m args below meth c H locs cells slots Q (F0 m pc ls [])) ∧
  (∀ (pc i : Nat) (lv : ds_Lv) (ls : Array Slot) (st : List Value) (z : ds_St) (H : Heap) (locs : List Loc), okp pc → decode bytes pc = .ok (.new i, 3) → o = (some .null, z) → va_P D vwCl (ds_ws cy ad z) H → va_S A s.heap H locs → ds_LV ad ls nL lv → W p l e R s m args below meth c H locs cells slots Q (F0 m pc ls (st.map (ds_v ad)))) ∧
  (∀ (pc i : Nat) (n : Int) (lv : ds_Lv) (ls : Array Slot) (x : Int32) (r : ds_Lv) (z : ds_St) (H : Heap) (locs : List Loc), okp pc → decode bytes pc = .ok (.iinc i n, 3) → lw = true → lv = some (.ref 200) :: some (.ref 0) :: some (.ref 90) :: some (.ref 111) :: some (.int x) :: r → o = (some (.int x), z) → va_P D vwCl (ds_ws cy ad z) H → va_S A s.heap H locs → ds_LV ad ls nL lv → W p l e R s m args below meth c H locs cells slots Q (F0 m pc ls []))
end MAIN2
section STEPM2
variable {p : Program} {l : Launch} {e : Env} {R : Room} {s : State} {m : MethodId} {args : Array Value} {below : List Frame} {meth : Method} {c : Code} {cells slots : Nat} {Q : State → Prop}
variable {D : va_G} {A : Nat → Prop} {ad adV : Nat → Nat} {cy : Nat → ClassId} {nL : Nat} {own : String} {Ts : List Cond} {bytes : ByteArray} {zr lw : Bool}
variable {k : ds_KT} {o : ds_Out} {pc : Nat} {lv : ds_Lv} {st : List Value} {z : ds_St} {H : Heap} {locs : List Loc} {ls : Array Slot} {cl : Nat → List Value → ds_St → Option ds_Out} {rm : Room} {ok : Instr → Prop}
set_option maxHeartbeats 8000000 in
theorem ds_step2 {okp : Nat → Prop} (hpc : okp pc) (X : ds_Cx p s m args c D A ad cy nL own Ts bytes) (hA : ∀ q : Nat, s.heap.size ≤ q → A q) (hAm : ds_Amb s) (hT : ds_Tx ad adV A s s.heap)
    (hcl : ∀ j as z1 o1, j < ds_mt.length → cl j as z1 = some o1 → ds_Con l D ad adV cy rm j as z1 o1) (hR : ds_Rm R rm cells slots) (hE : ds_End2 p l e R s m args below meth c cells slots Q D A ad cy nL bytes zr lw okp ok o) (hHT : ds_HT p l e R s m args below meth c cells slots Q A ad nL own bytes) (hHX : ds_HX s A ad lw cl) {raw : Instr} {len : Nat} (hd : decode bytes pc = .ok (raw, len)) (hln : ds_len raw len = true) (hok : ok (ds_res own zr lw pc raw)) (h : ds_x1 cl (ds_res own zr lw pc raw) len pc lv st z k = some o)
    (hG : ds_Go p l e R s m args below meth c cells slots Q D A ad cy nL k o) (hP : va_P D vwCl (ds_ws cy ad z) H) (hS : va_S A s.heap H locs) (hl : ds_LV ad ls nL lv) : W p l e R s m args below meth c H locs cells slots Q (F0 m pc ls (st.map (ds_v ad))) := by
  obtain ⟨hx, hb, hml, hown, hts, hin, hK, hD⟩ := id X
  cases raw
  case iload_n n =>
    have hl1 : len = 1 := Nat.eq_of_beq_eq_true hln
    subst hl1
    simp only [ds_res, ds_x1] at h
    split at h
    · rename_i x hx0
      exact lv_iload_n hx hb hd rfl (hl.at hx0) (hG _ _ _ _ _ _ _ h hP hS hl)
    · cases h
  case iload n =>
    have hl1 : len = 2 := Nat.eq_of_beq_eq_true hln
    subst hl1
    simp only [ds_res, ds_x1] at h
    split at h
    · rename_i x hx0
      exact lv_iload hx hb hd (hl.at hx0) (hG _ _ _ _ _ _ _ h hP hS hl)
    · cases h
  case istore_n n =>
    have hl1 : len = 1 := Nat.eq_of_beq_eq_true hln
    subst hl1
    simp only [ds_res, ds_x1] at h
    obtain ⟨x, r, rfl, h⟩ := ds_uI_of h
    obtain ⟨h1, h⟩ := ds_b_of h
    rw [hl.2.1] at h1
    exact lv_istore_n hx hb hd rfl hl.1 (Nat.le_of_ble_eq_true h1) rfl (fun ls1 hl1 => hG _ _ _ _ _ _ _ h hP hS (hl.store1 (v := .int x) (fun _ q => by cases q) hl1))
  case istore n =>
    have hl1 : len = 2 := Nat.eq_of_beq_eq_true hln
    subst hl1
    simp only [ds_res, ds_x1] at h
    obtain ⟨x, r, rfl, h⟩ := ds_uI_of h
    obtain ⟨h1, h⟩ := ds_b_of h
    rw [hl.2.1] at h1
    exact lv_istore hx hb hd hl.1 (Nat.le_of_ble_eq_true h1) rfl (fun ls1 hl1 => hG _ _ _ _ _ _ _ h hP hS (hl.store1 (v := .int x) (fun _ q => by cases q) hl1))
  case lload_n n =>
    have hl1 : len = 1 := Nat.eq_of_beq_eq_true hln
    subst hl1
    simp only [ds_res, ds_x1] at h
    split at h
    · rename_i x hx0
      exact lv_lload_n hx hb hd rfl (hl.at hx0) (hG _ _ _ _ _ _ _ h hP hS hl)
    · cases h
  case lload n =>
    have hl1 : len = 2 := Nat.eq_of_beq_eq_true hln
    subst hl1
    simp only [ds_res, ds_x1] at h
    split at h
    · rename_i x hx0
      exact lv_lload hx hb hd (hl.at hx0) (hG _ _ _ _ _ _ _ h hP hS hl)
    · cases h
  case lstore_n n =>
    have hl1 : len = 1 := Nat.eq_of_beq_eq_true hln
    subst hl1
    simp only [ds_res, ds_x1] at h
    obtain ⟨x, r, rfl, h⟩ := ds_uL_of h
    obtain ⟨h1, h⟩ := ds_b_of h
    rw [hl.2.1] at h1
    exact lv_lstore_n hx hb hd rfl hl.1 (Nat.le_of_ble_eq_true h1) rfl (fun ls1 hl1 => hG _ _ _ _ _ _ _ h hP hS (hl.store2 (v := .long x) (fun _ q => by cases q) hl1))
  case lstore n =>
    have hl1 : len = 2 := Nat.eq_of_beq_eq_true hln
    subst hl1
    simp only [ds_res, ds_x1] at h
    obtain ⟨x, r, rfl, h⟩ := ds_uL_of h
    obtain ⟨h1, h⟩ := ds_b_of h
    rw [hl.2.1] at h1
    exact lv_lstore hx hb hd hl.1 (Nat.le_of_ble_eq_true h1) rfl (fun ls1 hl1 => hG _ _ _ _ _ _ _ h hP hS (hl.store2 (v := .long x) (fun _ q => by cases q) hl1))
  case aload_n n =>
    have hl1 : len = 1 := Nat.eq_of_beq_eq_true hln
    subst hl1
    simp only [ds_res, ds_x1] at h
    split at h
    · rename_i x hx0
      exact lv_aload_n hx hb hd rfl (hl.at hx0) (hG _ _ _ _ _ _ _ h hP hS hl)
    · cases h
  case aload n =>
    have hl1 : len = 2 := Nat.eq_of_beq_eq_true hln
    subst hl1
    simp only [ds_res, ds_x1] at h
    split at h
    · rename_i x hx0
      exact lv_aload hx hb hd (hl.at hx0) (hG _ _ _ _ _ _ _ h hP hS hl)
    · cases h
  case astore_n n =>
    have hl1 : len = 1 := Nat.eq_of_beq_eq_true hln
    subst hl1
    simp only [ds_res, ds_x1] at h
    obtain ⟨x, r, rfl, h⟩ := ds_uR_of h
    obtain ⟨h1, h⟩ := ds_b_of h
    rw [hl.2.1] at h1
    exact lv_astore_n hx hb hd rfl hl.1 (Nat.le_of_ble_eq_true h1) rfl (fun ls1 hl1 => hG _ _ _ _ _ _ _ h hP hS (hl.store1 (v := .ref x) (fun _ q => by cases q) hl1))
  case astore n =>
    have hl1 : len = 2 := Nat.eq_of_beq_eq_true hln
    subst hl1
    simp only [ds_res, ds_x1] at h
    obtain ⟨x, r, rfl, h⟩ := ds_uR_of h
    obtain ⟨h1, h⟩ := ds_b_of h
    rw [hl.2.1] at h1
    exact lv_astore hx hb hd hl.1 (Nat.le_of_ble_eq_true h1) rfl (fun ls1 hl1 => hG _ _ _ _ _ _ _ h hP hS (hl.store1 (v := .ref x) (fun _ q => by cases q) hl1))
  case iconst n =>
    have hl1 : len = 1 := Nat.eq_of_beq_eq_true hln
    subst hl1
    simp only [ds_res, ds_x1] at h
    exact lv_iconst hx hb hd (ds_k_of n) (hG _ _ _ _ _ _ _ h hP hS hl)
  case bipush n =>
    have hl1 : len = 2 := Nat.eq_of_beq_eq_true hln
    subst hl1
    simp only [ds_res] at h
    split at h
    · rename_i hv
      exact lv_bipush hx hb hd hv (hG _ _ _ _ _ _ _ h hP hS hl)
    · cases h
  case sipush n =>
    have hl1 : len = 3 := Nat.eq_of_beq_eq_true hln
    subst hl1
    simp only [ds_res] at h
    split at h
    · rename_i hv
      exact lv_sipush hx hb hd hv (hG _ _ _ _ _ _ _ h hP hS hl)
    · cases h
  case lconst n =>
    have hl1 : len = 1 := Nat.eq_of_beq_eq_true hln
    subst hl1
    simp only [ds_res, ds_x1] at h
    exact lv_lconst hx hb hd rfl (hG _ _ _ _ _ _ _ h hP hS hl)
  case ldc n =>
    have hl1 : len = 2 := Nat.eq_of_beq_eq_true hln
    subst hl1
    simp only [ds_res] at h
    cases hk1 : ds_f3 ds_kl own n with
    | some v =>
      rw [hk1] at h
      have hw := ds_kl_in _ (List.mem_map.mpr ⟨_, ds_f3_mem hk1, rfl⟩)
      exact lv_ldc hx hb hown (hts _ (hin _ hw.1 hw.2)) hd (hG _ _ _ _ _ _ _ h hP hS hl)
    | none =>
      rw [hk1] at h
      dsimp only at h
      cases hk2 : ds_f3 ds_tl own n with
      | some t =>
        rw [hk2] at h
        have hq := ds_tl_ok _ (ds_f3_mem hk2)
        dsimp only at hq
        have hR1 := (hT.1 t hq.1).1
        rw [hq.2] at hR1
        dsimp only at hR1
        exact va_ldcS hx hb hown hR1 hd (hG _ _ _ _ _ _ _ h hP hS hl)
      | none => rw [hk2] at h; cases h
  case ldc_w n =>
    have hl1 : len = 3 := Nat.eq_of_beq_eq_true hln
    subst hl1
    simp only [ds_res] at h
    cases hk1 : ds_f3 ds_kl own n with
    | some v =>
      rw [hk1] at h
      have hw := ds_kl_in _ (List.mem_map.mpr ⟨_, ds_f3_mem hk1, rfl⟩)
      exact lv_ldcw hx hb hown (hts _ (hin _ hw.1 hw.2)) hd (hG _ _ _ _ _ _ _ h hP hS hl)
    | none =>
      rw [hk1] at h
      dsimp only at h
      cases hk2 : ds_f3 ds_tl own n with
      | some t =>
        rw [hk2] at h
        have hq := ds_tl_ok _ (ds_f3_mem hk2)
        dsimp only at hq
        have hR1 := (hT.1 t hq.1).1
        rw [hq.2] at hR1
        dsimp only at hR1
        intro T hT1 X1
        obtain ⟨t2, a1, b1⟩ := hG _ _ _ _ _ _ _ h hP hS hl T hT1 X1
        exact ⟨t2, X1.ldcStringW hx hown (va_tabsS hR1).1 (va_tabsS hR1).2 (g := F0 m pc ls (st.map (ds_v ad))) rfl (by rw [hb]; exact hd) t2 a1, b1⟩
      | none => rw [hk2] at h; cases h
  case ldc2_w n =>
    have hl1 : len = 3 := Nat.eq_of_beq_eq_true hln
    subst hl1
    simp only [ds_res] at h
    cases hk1 : ds_f3 ds_Ll own n with
    | some v =>
      rw [hk1] at h
      have hw := ds_Ll_in _ (List.mem_map.mpr ⟨_, ds_f3_mem hk1, rfl⟩)
      exact lv_ldc2 hx hb hown (hts _ (hin _ hw.1 hw.2)) hd (hG _ _ _ _ _ _ _ h hP hS hl)
    | none => rw [hk1] at h; cases h
  case iinc i n =>
    have hl1 : len = 3 := Nat.eq_of_beq_eq_true hln
    subst hl1
    cases lw with
    | true =>
      simp only [ds_res, cond_true, ds_x1] at h
      split at h
      · split at h
        · cases h
          exact hE.2.2.2.2.2.2 pc i n _ ls _ _ z H locs hpc hd rfl rfl rfl hP hS hl
        · cases h
      · cases h
    | false =>
      simp only [ds_res, cond_false, ds_x1] at h
      split at h
      · rename_i x hx0
        obtain ⟨h1, h⟩ := ds_b_of h
        rw [hl.2.1] at h1
        have hm : (i, Value.int x) ∈ ds_al ad 0 lv := ds_al_mem.mpr ⟨i, _, ds_lv_getD hx0, by simp [ds_v]⟩
        obtain ⟨j, hj⟩ := List.getElem?_of_mem hm
        exact lv_iinc hx hb hd hl.1 hj (by rw [ds_k_of]) (Nat.le_of_ble_eq_true h1) rfl (fun ls1 hl1 => hG _ _ _ _ _ _ _ h hP hS (hl.store1 (v := .int (x + ds_k n)) (fun _ q => by cases q) hl1))
      · cases h
  case iadd =>
    have hl1 : len = 1 := Nat.eq_of_beq_eq_true hln
    subst hl1
    simp only [ds_res, ds_x1] at h
    obtain ⟨x, y, r, rfl, h⟩ := ds_bI_of h
    exact lv_iadd hx hb hd (hG _ _ _ _ _ _ _ h hP hS hl)
  case isub =>
    have hl1 : len = 1 := Nat.eq_of_beq_eq_true hln
    subst hl1
    simp only [ds_res, ds_x1] at h
    obtain ⟨x, y, r, rfl, h⟩ := ds_bI_of h
    exact lv_isub hx hb hd (hG _ _ _ _ _ _ _ h hP hS hl)
  case imul =>
    have hl1 : len = 1 := Nat.eq_of_beq_eq_true hln
    subst hl1
    simp only [ds_res, ds_x1] at h
    obtain ⟨x, y, r, rfl, h⟩ := ds_bI_of h
    exact lv_imul hx hb hd (hG _ _ _ _ _ _ _ h hP hS hl)
  case iand =>
    have hl1 : len = 1 := Nat.eq_of_beq_eq_true hln
    subst hl1
    simp only [ds_res, ds_x1] at h
    obtain ⟨x, y, r, rfl, h⟩ := ds_bI_of h
    exact lv_iand hx hb hd (hG _ _ _ _ _ _ _ h hP hS hl)
  case ior =>
    have hl1 : len = 1 := Nat.eq_of_beq_eq_true hln
    subst hl1
    simp only [ds_res, ds_x1] at h
    obtain ⟨x, y, r, rfl, h⟩ := ds_bI_of h
    exact lv_ior hx hb hd (hG _ _ _ _ _ _ _ h hP hS hl)
  case ixor =>
    have hl1 : len = 1 := Nat.eq_of_beq_eq_true hln
    subst hl1
    simp only [ds_res, ds_x1] at h
    obtain ⟨x, y, r, rfl, h⟩ := ds_bI_of h
    exact lv_ixor hx hb hd (hG _ _ _ _ _ _ _ h hP hS hl)
  case ishl =>
    have hl1 : len = 1 := Nat.eq_of_beq_eq_true hln
    subst hl1
    simp only [ds_res, ds_x1] at h
    obtain ⟨x, y, r, rfl, h⟩ := ds_bI_of h
    exact lv_ishl hx hb hd (hG _ _ _ _ _ _ _ h hP hS hl)
  case ishr =>
    have hl1 : len = 1 := Nat.eq_of_beq_eq_true hln
    subst hl1
    simp only [ds_res, ds_x1] at h
    obtain ⟨x, y, r, rfl, h⟩ := ds_bI_of h
    exact lv_ishr hx hb hd (hG _ _ _ _ _ _ _ h hP hS hl)
  case idiv =>
    have hl1 : len = 1 := Nat.eq_of_beq_eq_true hln
    subst hl1
    simp only [ds_res, ds_x1] at h
    obtain ⟨x, y, r, rfl, h⟩ := ds_bI_of h
    obtain ⟨h1, h⟩ := ds_nz_of h
    exact lv_idiv hx hb hd h1 (hG _ _ _ _ _ _ _ h hP hS hl)
  case irem =>
    have hl1 : len = 1 := Nat.eq_of_beq_eq_true hln
    subst hl1
    simp only [ds_res, ds_x1] at h
    obtain ⟨x, y, r, rfl, h⟩ := ds_bI_of h
    obtain ⟨h1, h⟩ := ds_nz_of h
    exact lv_irem hx hb hd h1 (hG _ _ _ _ _ _ _ h hP hS hl)
  case iushr =>
    have hl1 : len = 1 := Nat.eq_of_beq_eq_true hln
    subst hl1
    simp only [ds_res, ds_x1] at h
    obtain ⟨x, y, r, rfl, h⟩ := ds_bI_of h
    exact lv_iushr hx hb hd rfl (hG _ _ _ _ _ _ _ h hP hS hl)
  case ineg =>
    have hl1 : len = 1 := Nat.eq_of_beq_eq_true hln
    subst hl1
    simp only [ds_res, ds_x1] at h
    obtain ⟨x, r, rfl, h⟩ := ds_uI_of h
    exact lv_ineg hx hb hd (hG _ _ _ _ _ _ _ h hP hS hl)
  case i2l =>
    have hl1 : len = 1 := Nat.eq_of_beq_eq_true hln
    subst hl1
    simp only [ds_res, ds_x1] at h
    obtain ⟨x, r, rfl, h⟩ := ds_uI_of h
    exact lv_i2l hx hb hd rfl (hG _ _ _ _ _ _ _ h hP hS hl)
  case i2b =>
    have hl1 : len = 1 := Nat.eq_of_beq_eq_true hln
    subst hl1
    simp only [ds_res, ds_x1] at h
    obtain ⟨x, r, rfl, h⟩ := ds_uI_of h
    exact lv_i2b hx hb hd rfl (hG _ _ _ _ _ _ _ h hP hS hl)
  case l2i =>
    have hl1 : len = 1 := Nat.eq_of_beq_eq_true hln
    subst hl1
    simp only [ds_res, ds_x1] at h
    obtain ⟨x, r, rfl, h⟩ := ds_uL_of h
    exact lv_l2i hx hb hd rfl (hG _ _ _ _ _ _ _ h hP hS hl)
  case ladd =>
    have hl1 : len = 1 := Nat.eq_of_beq_eq_true hln
    subst hl1
    simp only [ds_res, ds_x1] at h
    obtain ⟨x, y, r, rfl, h⟩ := ds_bL_of h
    exact lv_ladd hx hb hd (hG _ _ _ _ _ _ _ h hP hS hl)
  case lsub =>
    have hl1 : len = 1 := Nat.eq_of_beq_eq_true hln
    subst hl1
    simp only [ds_res, ds_x1] at h
    obtain ⟨x, y, r, rfl, h⟩ := ds_bL_of h
    exact lv_lsub hx hb hd (hG _ _ _ _ _ _ _ h hP hS hl)
  case lmul =>
    have hl1 : len = 1 := Nat.eq_of_beq_eq_true hln
    subst hl1
    simp only [ds_res, ds_x1] at h
    obtain ⟨x, y, r, rfl, h⟩ := ds_bL_of h
    exact lv_lmul hx hb hd (hG _ _ _ _ _ _ _ h hP hS hl)
  case ldiv =>
    have hl1 : len = 1 := Nat.eq_of_beq_eq_true hln
    subst hl1
    simp only [ds_res, ds_x1] at h
    obtain ⟨x, y, r, rfl, h⟩ := ds_bL_of h
    obtain ⟨h1, h⟩ := ds_nzL_of h
    exact lv_ldiv hx hb hd h1 (hG _ _ _ _ _ _ _ h hP hS hl)
  case lrem =>
    have hl1 : len = 1 := Nat.eq_of_beq_eq_true hln
    subst hl1
    simp only [ds_res, ds_x1] at h
    obtain ⟨x, y, r, rfl, h⟩ := ds_bL_of h
    obtain ⟨h1, h⟩ := ds_nzL_of h
    exact lv_lrem hx hb hd h1 (hG _ _ _ _ _ _ _ h hP hS hl)
  case lcmp =>
    have hl1 : len = 1 := Nat.eq_of_beq_eq_true hln
    subst hl1
    simp only [ds_res, ds_x1] at h
    obtain ⟨x, y, r, rfl, h⟩ := ds_bL_of h
    exact W.lcmp hx hb hd (hG _ _ _ _ _ _ _ h hP hS hl)
  case pop =>
    have hl1 : len = 1 := Nat.eq_of_beq_eq_true hln
    subst hl1
    simp only [ds_res, ds_x1] at h
    split at h
    · exact lv_pop hx hb hd rfl (hG _ _ _ _ _ _ _ h hP hS hl)
    · exact lv_pop hx hb hd rfl (hG _ _ _ _ _ _ _ h hP hS hl)
    · cases h
  case dup =>
    have hl1 : len = 1 := Nat.eq_of_beq_eq_true hln
    subst hl1
    simp only [ds_res, ds_x1] at h
    split at h
    · exact lv_dup hx hb hd rfl (hG _ _ _ _ _ _ _ h hP hS hl)
    · exact lv_dup hx hb hd rfl (hG _ _ _ _ _ _ _ h hP hS hl)
    · cases h
  case dup2 =>
    have hl1 : len = 1 := Nat.eq_of_beq_eq_true hln
    subst hl1
    simp only [ds_res, ds_x1] at h
    split at h
    · exact lv_dup2_11 hx hb hd rfl rfl (hG _ _ _ _ _ _ _ h hP hS hl)
    · cases h
  case goto t =>
    have hl1 : len = 3 := Nat.eq_of_beq_eq_true hln
    subst hl1
    simp only [ds_res] at h
    split at h
    · rename_i ht
      exact lv_goto hx hb hd (ds_tgt ht) (hG _ _ _ _ _ _ _ h hP hS hl)
    · cases h
  case ifCond cc t =>
    have hl1 : len = 3 := Nat.eq_of_beq_eq_true hln
    subst hl1
    simp only [ds_res] at h
    split at h
    · rename_i ht
      simp only [ds_x1] at h
      obtain ⟨x, r, rfl, h⟩ := ds_uI_of h
      have hh := ds_br_of h
      cases cc
      · exact lv_if_eq hx hb hd (ds_tgt ht) (fun q => hG _ _ _ _ _ _ _ (hh.1 q) hP hS hl) (fun q => hG _ _ _ _ _ _ _ (hh.2 q) hP hS hl)
      · exact lv_if_ne hx hb hd (ds_tgt ht) (fun q => hG _ _ _ _ _ _ _ (hh.1 q) hP hS hl) (fun q => hG _ _ _ _ _ _ _ (hh.2 (fun nq => nq q)) hP hS hl)
      · exact lv_if_lt hx hb hd (ds_tgt ht) (fun q => hG _ _ _ _ _ _ _ (hh.1 q) hP hS hl) (fun q => hG _ _ _ _ _ _ _ (hh.2 q) hP hS hl)
      · exact lv_if_ge hx hb hd (ds_tgt ht) (fun q => hG _ _ _ _ _ _ _ (hh.1 q) hP hS hl) (fun q => hG _ _ _ _ _ _ _ (hh.2 q) hP hS hl)
      · exact lv_if_gt hx hb hd (ds_tgt ht) (fun q => hG _ _ _ _ _ _ _ (hh.1 q) hP hS hl) (fun q => hG _ _ _ _ _ _ _ (hh.2 q) hP hS hl)
      · exact lv_if_le hx hb hd (ds_tgt ht) (fun q => hG _ _ _ _ _ _ _ (hh.1 q) hP hS hl) (fun q => hG _ _ _ _ _ _ _ (hh.2 q) hP hS hl)
    · cases h
  case if_icmp cc t =>
    have hl1 : len = 3 := Nat.eq_of_beq_eq_true hln
    subst hl1
    simp only [ds_res] at h
    split at h
    · rename_i ht
      simp only [ds_x1] at h
      obtain ⟨x, y, r, rfl, h⟩ := ds_bI_of h
      have hh := ds_br_of h
      cases cc
      · exact lv_icmp_eq hx hb hd (ds_tgt ht) (fun q => hG _ _ _ _ _ _ _ (hh.1 q) hP hS hl) (fun q => hG _ _ _ _ _ _ _ (hh.2 q) hP hS hl)
      · exact lv_icmp_ne hx hb hd (ds_tgt ht) (fun q => hG _ _ _ _ _ _ _ (hh.1 q) hP hS hl) (fun q => hG _ _ _ _ _ _ _ (hh.2 (fun nq => nq q)) hP hS hl)
      · exact lv_icmp_lt hx hb hd (ds_tgt ht) (fun q => hG _ _ _ _ _ _ _ (hh.1 q) hP hS hl) (fun q => hG _ _ _ _ _ _ _ (hh.2 q) hP hS hl)
      · exact lv_icmp_ge hx hb hd (ds_tgt ht) (fun q => hG _ _ _ _ _ _ _ (hh.1 q) hP hS hl) (fun q => hG _ _ _ _ _ _ _ (hh.2 q) hP hS hl)
      · exact lv_icmp_gt hx hb hd (ds_tgt ht) (fun q => hG _ _ _ _ _ _ _ (hh.1 q) hP hS hl) (fun q => hG _ _ _ _ _ _ _ (hh.2 q) hP hS hl)
      · exact lv_icmp_le hx hb hd (ds_tgt ht) (fun q => hG _ _ _ _ _ _ _ (hh.1 q) hP hS hl) (fun q => hG _ _ _ _ _ _ _ (hh.2 q) hP hS hl)
    · cases h
  case tableswitch d lo hi offs =>
    simp only [ds_res] at h
    split at h
    · rename_i hc
      obtain ⟨h1, h2, h3, h4, h5⟩ := hc
      simp only [ds_x1] at h
      obtain ⟨x, r, hst, h6⟩ := ds_uI_of h
      subst hst
      have hlo : ((lo.toNat : Nat) : Int) = lo := Int.toNat_of_nonneg h2
      have hsz : (offs.toList.map fun o => (pc : Int) + o).length = offs.size := by simp
      rcases ds_sw_out (x := x) (f := fun t => k t.toNat lv r z) (d := (pc : Int) + d) (offs.toList.map fun o => (pc : Int) + o) lo.toNat (by rw [hsz]; omega) with ⟨i, t, q1, q2, q3⟩ | ⟨q1, q2⟩
      · rw [q3] at h6
        simp only [List.getElem?_map] at q1
        cases ho : offs.toList[i]? with
        | none => rw [ho] at q1; cases q1
        | some off =>
          rw [ho] at q1
          cases q1
          have hi : i < offs.size := by
            have := (List.getElem?_eq_some_iff.mp ho).1
            simpa using this
          have hoff : 0 ≤ (pc : Int) + off := h5 off (List.mem_of_getElem? ho)
          refine lv_tableIn hx hb hd (off := off) (by omega) (by omega) ?_ (ds_tgt hoff) (hG _ _ _ _ _ _ _ h6 hP hS hl)
          have : (x.toInt - lo).toNat = i := by omega
          rw [this]
          simpa using ho
      · rw [q2] at h6
        refine lv_tableOut hx hb hd ?_ (ds_tgt h1) (hG _ _ _ _ _ _ _ h6 hP hS hl)
        rw [hsz] at q1
        omega
    · cases h
  case getfield n =>
    have hl1 : len = 3 := Nat.eq_of_beq_eq_true hln
    subst hl1
    simp only [ds_res] at h
    cases hf : ds_f3 ds_fl own n with
    | some f => rw [hf] at h; exact ds_s_get X hf hd h hG hP hS hl
    | none => rw [hf] at h; cases h
  case putfield n =>
    have hl1 : len = 3 := Nat.eq_of_beq_eq_true hln
    subst hl1
    simp only [ds_res] at h
    cases hf : ds_f3 ds_fl own n with
    | some f =>
      rw [hf] at h
      dsimp only at h
      split at h
      · rename_i hfin
        exact ds_s_put X hf hfin hd h hG hP hS hl
      · cases h
    | none => rw [hf] at h; cases h
  case iaload =>
    have hl1 : len = 1 := Nat.eq_of_beq_eq_true hln
    subst hl1
    cases lw with
    | true =>
      simp only [ds_res, cond_true, ds_x1] at h
      obtain ⟨L, xs, hX, hbl, hbA, -, h9⟩ := hHX rfl
      split at h
      · rename_i i q r
        obtain ⟨h1, h⟩ := ds_b_of h
        have hq : q = 200 := Nat.eq_of_beq_eq_true h1
        subst hq
        unfold ds_cI at h
        split at h
        · rename_i x z1 hc
          obtain ⟨h2, rfl⟩ := h9 _ _ _ _ hc
          exact va_sld hx hb hX hbl hbA hS h2 hd (hG _ _ _ _ _ _ _ h hP hS hl)
        · cases h
      · cases h
    | false =>
      simp only [ds_res, cond_false, ds_x1, ds_ldI] at h
      split at h
      · rename_i i q r
        obtain ⟨h1, h⟩ := ds_isK_of h
        obtain ⟨h2, h⟩ := ds_chk_of h
        obtain ⟨j, hj, he⟩ := ds_rowI_at (cy := cy) (ad := ad) (z := z) h1
        exact va_iald hx hb hK hP j 1 he rfl h2 hd (hG _ _ _ _ _ _ _ h hP hS hl)
      · cases h
  case baload =>
    have hl1 : len = 1 := Nat.eq_of_beq_eq_true hln
    subst hl1
    simp only [ds_res, ds_x1] at h
    unfold ds_ldI at h
    split at h
    · rename_i i q r
      obtain ⟨h1, h⟩ := ds_isK_of h
      obtain ⟨h2, h⟩ := ds_chk_of h
      obtain ⟨j, hj, he⟩ := ds_rowB_at (cy := cy) (ad := ad) (z := z) h1
      exact va_bald hx hb hK hP j 0 he rfl h2 hd (hG _ _ _ _ _ _ _ h hP hS hl)
    · cases h
  case laload =>
    have hl1 : len = 1 := Nat.eq_of_beq_eq_true hln
    subst hl1
    simp only [ds_res, ds_x1] at h
    split at h
    · rename_i i q r
      obtain ⟨h1, h⟩ := ds_isK_of h
      obtain ⟨h2, h⟩ := ds_chk_of h
      obtain ⟨j, hj, he⟩ := ds_rowL_at (cy := cy) (ad := ad) (z := z) h1
      exact va_lald hx hb hK hP j 2 he rfl h2 hd (hG _ _ _ _ _ _ _ h hP hS hl)
    · cases h
  case iastore =>
    have hl1 : len = 1 := Nat.eq_of_beq_eq_true hln
    subst hl1
    simp only [ds_res, ds_x1] at h
    unfold ds_stI at h
    split at h
    · rename_i v i q r
      obtain ⟨h1, h⟩ := ds_isK_of h
      obtain ⟨h2, h⟩ := ds_chk_of h
      obtain ⟨j, hj, he⟩ := ds_rowI_at (cy := cy) (ad := ad) (z := z) h1
      refine va_iast hx hb hK hP (hD z) hS j 1 he rfl h2 hd (fun H1 locs1 hP1 _ hS1 => ?_)
      have hcell : ds_cell cy ad (ds_setI z q i.toNatClampNeg v) q = .inl (cy 11, ds_N q, .inl (upd (z.1 q) i.toNatClampNeg v)) := by
        unfold ds_cell
        rw [if_neg (by omega), if_pos h1]
        simp [ds_setI]
      rw [← hcell, ds_ws_set cy ad z _ hj (ds_cell_I cy ad z q i.toNatClampNeg v)] at hP1
      exact hG _ _ _ _ _ _ _ h hP1 hS1 hl
    · cases h
  case bastore =>
    have hl1 : len = 1 := Nat.eq_of_beq_eq_true hln
    subst hl1
    simp only [ds_res, ds_x1] at h
    unfold ds_stI at h
    split at h
    · rename_i v i q r
      obtain ⟨h1, h⟩ := ds_isK_of h
      obtain ⟨h2, h⟩ := ds_chk_of h
      obtain ⟨j, hj, he⟩ := ds_rowB_at (cy := cy) (ad := ad) (z := z) h1
      refine va_bast hx hb hK hP (hD z) hS j 0 he rfl h2 hd (fun H1 locs1 hP1 _ hS1 => ?_)
      have hcell : ds_cell cy ad (ds_setI z q i.toNatClampNeg (vp_nar .byte v)) q = .inl (cy 10, ds_N q, .inl (upd (z.1 q) i.toNatClampNeg (vp_nar .byte v))) := by
        unfold ds_cell
        rw [if_pos h1]
        simp [ds_setI]
      rw [← hcell, ds_ws_set cy ad z _ hj (ds_cell_I cy ad z q i.toNatClampNeg (vp_nar .byte v))] at hP1
      exact hG _ _ _ _ _ _ _ h hP1 hS1 hl
    · cases h
  case lastore =>
    have hl1 : len = 1 := Nat.eq_of_beq_eq_true hln
    subst hl1
    simp only [ds_res, ds_x1] at h
    split at h
    · rename_i v i q r
      obtain ⟨h1, h⟩ := ds_isK_of h
      obtain ⟨h2, h⟩ := ds_chk_of h
      obtain ⟨j, hj, he⟩ := ds_rowL_at (cy := cy) (ad := ad) (z := z) h1
      refine va_last hx hb hK hP (hD z) hS j 2 he rfl h2 hd (fun H1 locs1 hP1 _ hS1 => ?_)
      have hcell : ds_cell cy ad (ds_setL z q i.toNatClampNeg v) q = .inl (cy 12, ds_N q, .inr (.inl (vp_updL (z.2.1 q) i.toNatClampNeg v))) := by
        unfold ds_cell
        rw [if_neg (by omega), if_neg (by omega), if_pos h1]
        simp [ds_setL]
      rw [← hcell, ds_ws_set cy ad z _ hj (ds_cell_L cy ad z q i.toNatClampNeg v)] at hP1
      exact hG _ _ _ _ _ _ _ h hP1 hS1 hl
    · cases h
  case arraylength =>
    have hl1 : len = 1 := Nat.eq_of_beq_eq_true hln
    subst hl1
    cases lw with
    | true =>
      simp only [ds_res, cond_true, ds_x1] at h
      obtain ⟨L, xs, hX, hbl, hbA, h8, -⟩ := hHX rfl
      obtain ⟨q, r, rfl, h⟩ := ds_uR_of h
      obtain ⟨h1, h⟩ := ds_b_of h
      have hq : q = 200 := Nat.eq_of_beq_eq_true h1
      subst hq
      unfold ds_cI at h
      split at h
      · rename_i x z1 hc
        have hx8 := h8 _ _ _ hc
        subst hx8
        exact va_slen hx hb hX hbl hbA hS hd (hG _ _ _ _ _ _ _ h hP hS hl)
      · cases h
    | false =>
      simp only [ds_res, cond_false, ds_x1] at h
      obtain ⟨q, r, rfl, h⟩ := ds_uR_of h
      obtain ⟨h1, h⟩ := ds_isA_of h
      rcases h1 with h1 | h1 | h1
      · obtain ⟨j, hj, he⟩ := ds_rowB_at (cy := cy) (ad := ad) (z := z) h1
        exact va_alen hx hb hK hP j 0 he rfl rfl hd (hG _ _ _ _ _ _ _ h hP hS hl)
      · obtain ⟨j, hj, he⟩ := ds_rowI_at (cy := cy) (ad := ad) (z := z) h1
        exact va_alen hx hb hK hP j 1 he rfl rfl hd (hG _ _ _ _ _ _ _ h hP hS hl)
      · obtain ⟨j, hj, he⟩ := ds_rowL_at (cy := cy) (ad := ad) (z := z) h1
        exact va_alen hx hb hK hP j 2 he rfl rfl hd (hG _ _ _ _ _ _ _ h hP hS hl)
  case invokevirtual n =>
    have hl1 : len = 3 := Nat.eq_of_beq_eq_true hln
    subst hl1
    simp only [ds_res] at h
    split at h
    · rename_i j c0 hm
      exact ds_s_callV X hA hAm hT hcl hR hm hd h hG hP hS hl
    · rename_i a1 a2 hm
      have hm0 := ds_m3_ok _ (ds_f3_mem hm)
      dsimp only at hm0
      obtain ⟨rfl, rfl⟩ := hm0 rfl
      simp only [ds_x1] at h
      obtain ⟨q, r, rfl, h⟩ := ds_uR_of h
      obtain ⟨i, hi, rfl, h⟩ := ds_isT_of h
      obtain ⟨h1, h⟩ := ds_b_of h
      have := hG _ _ _ _ _ _ _ h hP hS hl
      refine hHT.1 i n pc ls (r.map (ds_v ad)) H locs hi hm hd hl.1.1 hS (ds_okst_of h1) ?_
      rw [ds_sl_eq] at this
      exact this
    · rename_i a1 a2 hm
      have hm0 := ds_m4_ok _ (ds_f3_mem hm)
      dsimp only at hm0
      obtain ⟨rfl, rfl⟩ := hm0 rfl
      simp only [ds_x1] at h
      split at h
      · rename_i x q r
        obtain ⟨i, hi, rfl, h⟩ := ds_isT_of h
        obtain ⟨h1, h⟩ := ds_b_of h
        obtain ⟨h2, h⟩ := ds_chk_of h
        have := hG _ _ _ _ _ _ _ h hP hS hl
        rw [ds_sl_eq] at this h2
        exact hHT.2 i n pc x ls (r.map (ds_v ad)) H locs hi h2 hm hd hl.1.1 hS (ds_okst_of h1) this
      · cases h
    · cases h
  case invokestatic n =>
    have hl1 : len = 3 := Nat.eq_of_beq_eq_true hln
    subst hl1
    simp only [ds_res] at h
    split at h
    · rename_i j c0 hm
      exact ds_s_callS X hA hAm hT hcl hR hm hd h hG hP hS hl
    · rename_i j c0 hm
      exact ds_s_callN X hA hAm hT hcl hR hm hd h hG hP hS hl
    · rename_i a1 a2 hm
      simp only [ds_x1] at h
      exact ds_s_copy X hR hm hd h hG hP hS hl
    · cases h
  case ireturn =>
    have hl1 : len = 1 := Nat.eq_of_beq_eq_true hln
    subst hl1
    cases zr with
    | true =>
      simp only [ds_res, cond_true, ds_x1] at h
      split at h
      · obtain ⟨h1, h⟩ := ds_isB_of h
        cases h
        exact hE.2.1 pc ls _ z H locs hd hok rfl h1 rfl hP hS
      · cases h
    | false =>
      simp only [ds_res, cond_false, ds_x1] at h
      split at h
      · cases h
        exact hE.1 pc ls _ z H locs hd hok rfl rfl hP hS
      · cases h
  case lreturn =>
    have hl1 : len = 1 := Nat.eq_of_beq_eq_true hln
    subst hl1
    simp only [ds_res, ds_x1] at h
    split at h
    · cases h
      exact hE.2.2.1 pc ls _ z H locs hd hok rfl hP hS
    · cases h
  case areturn =>
    have hl1 : len = 1 := Nat.eq_of_beq_eq_true hln
    subst hl1
    simp only [ds_res, ds_x1] at h
    split at h
    · cases h
      exact hE.2.2.2.1 pc ls _ z H locs hd hok rfl hP hS
    · cases h
  case return_ =>
    have hl1 : len = 1 := Nat.eq_of_beq_eq_true hln
    subst hl1
    simp only [ds_res, ds_x1] at h
    split at h
    · cases h
      exact hE.2.2.2.2.1 pc ls z H locs hd hok rfl hP hS
    · cases h
  case new n =>
    have hl1 : len = 3 := Nat.eq_of_beq_eq_true hln
    subst hl1
    simp only [ds_res, ds_x1] at h
    cases h
    exact hE.2.2.2.2.2.1 pc n lv ls st z H locs hpc hd rfl hP hS hl
  all_goals (simp only [ds_res, ds_x1] at h; cases h)
end STEPM2
section RUN2
variable {p : Program} {l : Launch} {e : Env} {R : Room} {s : State} {m : MethodId} {args : Array Value} {below : List Frame} {meth : Method} {c : Code} {cells slots : Nat} {Q : State → Prop}
variable {D : va_G} {A : Nat → Prop} {ad adV : Nat → Nat} {cy : Nat → ClassId} {nL : Nat} {own : String} {Ts : List Cond} {bytes : ByteArray} {zr lw : Bool}
variable {o : ds_Out} {cl : Nat → List Value → ds_St → Option ds_Out} {rm : Room} {cd : ds_Code} {cu : ds_Cuts}
theorem ds_run_W2 (hcd : ds_Cd own zr lw bytes cd) (X : ds_Cx p s m args c D A ad cy nL own Ts bytes) (hA : ∀ q : Nat, s.heap.size ≤ q → A q) (hAm : ds_Amb s) (hT : ds_Tx ad adV A s s.heap)
    (hcl : ∀ j as z1 o1, j < ds_mt.length → cl j as z1 = some o1 → ds_Con l D ad adV cy rm j as z1 o1) (hR : ds_Rm R rm cells slots) (hE : ds_End2 p l e R s m args below meth c cells slots Q D A ad cy nL bytes zr lw (fun pc => ∃ i len, (pc, i, len) ∈ cd) (fun i => ∃ pc len, (pc, i, len) ∈ cd) o) (hHT : ds_HT p l e R s m args below meth c cells slots Q A ad nL own bytes) (hHX : ds_HX s A ad lw cl) :
    ∀ (n pc : Nat) (lv : ds_Lv) (st : List Value) (z : ds_St) (H : Heap) (locs : List Loc) (ls : Array Slot), ds_run cd cu cl n pc lv st z = some o → va_P D vwCl (ds_ws cy ad z) H → va_S A s.heap H locs → ds_LV ad ls nL lv → W p l e R s m args below meth c H locs cells slots Q (F0 m pc ls (st.map (ds_v ad))) := by
  intro n
  induction n with
  | zero => intro pc lv st z H locs ls h; cases h
  | succ n ih =>
    intro pc lv st z H locs ls h hP hS hl
    rw [ds_run] at h
    cases hf : ds_find cd pc with
    | none => rw [hf] at h; cases h
    | some q =>
      rw [hf] at h
      obtain ⟨ins, len⟩ := q
      dsimp only at h
      have hmem := ds_find_mem hf
      obtain ⟨raw, hd, hln, hr⟩ := hcd _ hmem
      dsimp only at hd hln hr
      rw [← hr] at h
      exact ds_step2 ⟨ins, len, hmem⟩ X hA hAm hT hcl hR hE hHT hHX hd hln ⟨pc, len, by rw [hr]; exact hmem⟩ h (fun pc1 lv1 st1 z1 H1 locs1 ls1 h1 hP1 hS1 hl1 => ih _ _ _ _ _ _ _ h1 hP1 hS1 (hl1.msk cu pc1)) hP hS hl
theorem ds_Rw_W2 (hcd : ds_Cd own zr lw bytes cd) (X : ds_Cx p s m args c D A ad cy nL own Ts bytes) (hA : ∀ q : Nat, s.heap.size ≤ q → A q) (hAm : ds_Amb s) (hT : ds_Tx ad adV A s s.heap)
    (hcl : ∀ j as z1 o1, j < ds_mt.length → cl j as z1 = some o1 → ds_Con l D ad adV cy rm j as z1 o1) (hR : ds_Rm R rm cells slots) (hE : ds_End2 p l e R s m args below meth c cells slots Q D A ad cy nL bytes zr lw (fun pc => ∃ i len, (pc, i, len) ∈ cd) (fun i => ∃ pc len, (pc, i, len) ∈ cd) o) (hHT : ds_HT p l e R s m args below meth c cells slots Q A ad nL own bytes) (hHX : ds_HX s A ad lw cl)
    {pc : Nat} {lv : ds_Lv} {st : List Value} {z : ds_St} {H : Heap} {locs : List Loc} {ls : Array Slot} (h : ds_Rw cd cu cl pc lv st z = some o) (hP : va_P D vwCl (ds_ws cy ad z) H) (hS : va_S A s.heap H locs) (hl : ds_LV ad ls nL lv) : W p l e R s m args below meth c H locs cells slots Q (F0 m pc ls (st.map (ds_v ad))) := by
  obtain ⟨n, hn⟩ := ds_Rw_iff.mp h
  exact ds_run_W2 hcd X hA hAm hT hcl hR hE hHT hHX n pc lv st z H locs ls hn hP hS hl
end RUN2
