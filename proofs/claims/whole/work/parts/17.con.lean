/-! the run is the machine's; the contracts of all methods, by the depth of calls -/
theorem ds_find_mem : ∀ {cd : ds_Code} {pc : Nat} {q : Instr × Nat}, ds_find cd pc = some q → (pc, q.1, q.2) ∈ cd := by
  intro cd
  induction cd with
  | nil => intro pc q h; cases h
  | cons a r ih =>
    intro pc q h
    simp only [ds_find] at h
    cases hb : Nat.beq a.1 pc with
    | true =>
      rw [hb] at h
      simp only [cond_true, Option.some.injEq] at h
      have h1 := Nat.eq_of_beq_eq_true hb
      obtain ⟨a1, a2, a3⟩ := a
      simp only at h1 h
      rw [← h, ← h1]
      exact List.mem_cons_self
    | false =>
      rw [hb] at h
      exact List.mem_cons_of_mem _ (ih h)
/-- a method's code is its bytes' -/
def ds_Cd (own : String) (zr lw : Bool) (bytes : ByteArray) (cd : ds_Code) : Prop := ∀ q ∈ cd, ∃ raw, decode bytes q.1 = .ok (raw, q.2.2) ∧ ds_len raw q.2.2 = true ∧ ds_res own zr lw q.1 raw = q.2.1
theorem ds_Cd_of {own : String} {zr lw : Bool} {bytes : ByteArray} {cd : ds_Code} (h : ds_ck own zr lw bytes cd = true) : ds_Cd own zr lw bytes cd := by
  intro q hq
  have h1 := List.all_eq_true.mp h q hq
  try dsimp only at h1
  split at h1
  · rename_i raw len hdec
    simp only [Bool.and_eq_true, decide_eq_true_eq] at h1
    obtain ⟨⟨h2, h3⟩, h4⟩ := h1
    subst h2
    exact ⟨raw, hdec, h3, h4⟩
  · cases h1
section RUN
variable {p : Program} {l : Launch} {e : Env} {R : Room} {s : State} {m : MethodId} {args : Array Value} {below : List Frame} {meth : Method} {c : Code} {cells slots : Nat} {Q : State → Prop}
variable {D : va_G} {A : Nat → Prop} {ad adV : Nat → Nat} {cy : Nat → ClassId} {nL : Nat} {own : String} {Ts : List Cond} {bytes : ByteArray} {zr lw : Bool}
variable {o : ds_Out} {cl : Nat → List Value → ds_St → Option ds_Out} {rm : Room} {cd : ds_Code} {cu : ds_Cuts}
theorem ds_run_W (hcd : ds_Cd own zr lw bytes cd) (X : ds_Cx p s m args c D A ad cy nL own Ts bytes) (hA : ∀ q : Nat, s.heap.size ≤ q → A q) (hAm : ds_Amb s) (hT : ds_Tx ad adV A s s.heap)
    (hcl : ∀ j as z1 o1, j < ds_mt.length → cl j as z1 = some o1 → ds_Con l D ad adV cy rm j as z1 o1) (hR : ds_Rm R rm cells slots) (hE : ds_End p l e R s m args below meth c cells slots Q D A ad cy nL bytes zr lw (fun i => ∃ pc len, (pc, i, len) ∈ cd) o) (hHT : ds_HT p l e R s m args below meth c cells slots Q A ad nL own bytes) (hHX : ds_HX s A ad lw cl) :
    ∀ (n pc : Nat) (lv : ds_Lv) (st : List Value) (z : ds_St) (H : Heap) (locs : List Loc) (ls : Array Slot), ds_run cd cu cl n pc lv st z = some o → va_P D vwCl (ds_ws cy ad z) H → va_S A s.heap H locs → ds_LV ad ls nL lv → W p l e R s m args below meth c H locs cells slots Q (F0 m pc ls (st.map (ds_v ad))) := by
  intro n
  induction n with
  | zero => intro pc lv st z H locs ls h; cases h
  | succ n ih =>
    intro pc lv st z H locs ls h hP hS hl
    rw [ds_run] at h
    cases hf : ds_find cd pc with
    | none => rw [hf] at h; cases h
    | some q =>
      rw [hf] at h
      obtain ⟨ins, len⟩ := q
      dsimp only at h
      have hmem := ds_find_mem hf
      obtain ⟨raw, hd, hln, hr⟩ := hcd _ hmem
      dsimp only at hd hln hr
      rw [← hr] at h
      exact ds_step X hA hAm hT hcl hR hE hHT hHX hd hln ⟨pc, len, by rw [hr]; exact hmem⟩ h (fun pc1 lv1 st1 z1 H1 locs1 ls1 h1 hP1 hS1 hl1 => ih _ _ _ _ _ _ _ h1 hP1 hS1 (hl1.msk cu pc1)) hP hS hl
theorem ds_Rw_W (hcd : ds_Cd own zr lw bytes cd) (X : ds_Cx p s m args c D A ad cy nL own Ts bytes) (hA : ∀ q : Nat, s.heap.size ≤ q → A q) (hAm : ds_Amb s) (hT : ds_Tx ad adV A s s.heap)
    (hcl : ∀ j as z1 o1, j < ds_mt.length → cl j as z1 = some o1 → ds_Con l D ad adV cy rm j as z1 o1) (hR : ds_Rm R rm cells slots) (hE : ds_End p l e R s m args below meth c cells slots Q D A ad cy nL bytes zr lw (fun i => ∃ pc len, (pc, i, len) ∈ cd) o) (hHT : ds_HT p l e R s m args below meth c cells slots Q A ad nL own bytes) (hHX : ds_HX s A ad lw cl)
    {pc : Nat} {lv : ds_Lv} {st : List Value} {z : ds_St} {H : Heap} {locs : List Loc} {ls : Array Slot} (h : ds_Rw cd cu cl pc lv st z = some o) (hP : va_P D vwCl (ds_ws cy ad z) H) (hS : va_S A s.heap H locs) (hl : ds_LV ad ls nL lv) : W p l e R s m args below meth c H locs cells slots Q (F0 m pc ls (st.map (ds_v ad))) := by
  obtain ⟨n, hn⟩ := ds_Rw_iff.mp h
  exact ds_run_W hcd X hA hAm hT hcl hR hE hHT hHX n pc lv st z H locs ls hn hP hS hl
end RUN
/-- the locals with which a method begins -/
def ds_ent : List Value → ds_Lv
  | [] => []
  | v :: vs => match v with
    | .long x => some (.long x) :: none :: ds_ent vs
    | w => some w :: ds_ent vs
def ds_argok : List Value → Bool
  | [] => true
  | v :: vs => match v with
    | .double _ => false
    | _ => ds_argok vs
/-- what is thrown is no answer -/
def ds_nn (o : Option ds_Out) : Option ds_Out := match o with
  | some (some .null, _) => none
  | x => x
/-- a call: method j, by these arguments, from z, no deeper than d calls -/
noncomputable def ds_call : Nat → Nat → List Value → ds_St → Option ds_Out
  | 0, _, _, _ => none
  | d + 1, j, as, z => match ds_mt[j]? with
    | some en => ds_nn (ds_b (ds_argok as && Nat.ble (ds_ent as).length en.2.2.1) (ds_Rw en.2.2.2.2.1 en.2.2.2.2.2 (ds_call d) 0 (ds_ent as ++ List.replicate (en.2.2.1 - (ds_ent as).length) none) [] z))
    | none => none
def ds_rm (d : Nat) : Room := { frames := 2 * d + 12, cells := 0, slots := 0, locals := 60 * d + 600 }
theorem ds_ent_at : ∀ {as : List Value} {ad : Nat → Nat} {i j : Nat} {v : Value}, ds_argok as = true → (ds_ent as)[j]? = some (some v) → (i + j, ds_v ad v) ∈ lv_args i (as.map (ds_v ad)) ∧ ∀ b, v ≠ .double b := by
  intro as
  induction as with
  | nil => intro ad i j v _ h; simp [ds_ent] at h
  | cons a r ih =>
    intro ad i j v ho h
    have key : ∀ w : Value, w.category = 1 → (∀ b, w ≠ .double b) → ds_argok r = true → (some w :: ds_ent r)[j]? = some (some v) → (i + j, ds_v ad v) ∈ lv_args i (ds_v ad w :: r.map (ds_v ad)) ∧ ∀ b, v ≠ .double b := by
      intro w hw hnd ho h
      simp only [lv_args, ds_v_cat, hw]
      cases j with
      | zero => simp at h; subst h; exact ⟨by simp, hnd⟩
      | succ j =>
        simp only [List.getElem?_cons_succ] at h
        have := ih (ad := ad) (i := i + 1) ho h
        refine ⟨List.mem_cons_of_mem _ ?_, this.2⟩
        have e1 : i + (j + 1) = i + 1 + j := by omega
        rw [e1]
        simpa using this.1
    cases a with
    | long x =>
      simp only [ds_ent, List.map_cons] at h ⊢
      simp only [ds_argok] at ho
      show _ ∈ lv_args i (Value.long x :: _) ∧ _
      simp only [lv_args, Value.category]
      cases j with
      | zero => simp at h; subst h; exact ⟨by simp [ds_v], fun b q => by cases q⟩
      | succ j =>
        simp only [List.getElem?_cons_succ] at h
        cases j with
        | zero => simp at h
        | succ j =>
          simp only [List.getElem?_cons_succ] at h
          have := ih (ad := ad) (i := i + 2) ho h
          refine ⟨List.mem_cons_of_mem _ ?_, this.2⟩
          have e1 : i + (j + 1 + 1) = i + 2 + j := by omega
          rw [e1]
          simpa using this.1
    | double b => simp [ds_argok] at ho
    | int x => exact key (.int x) rfl (fun b q => by cases q) ho h
    | float x => exact key (.float x) rfl (fun b q => by cases q) ho h
    | null => exact key .null rfl (fun b q => by cases q) ho h
    | ref x => exact key (.ref x) rfl (fun b q => by cases q) ho h
    | retAddr x => exact key (.retAddr x) rfl (fun b q => by cases q) ho h
theorem ds_ent_len : ∀ (as : List Value) (ad : Nat → Nat), ds_argok as = true → (lg_sl (as.map (ds_v ad))).length = (ds_ent as).length := by
  intro as
  induction as with
  | nil => intro ad _; rfl
  | cons a r ih =>
    intro ad ho
    cases a with
    | double b => simp [ds_argok] at ho
    | _ => simp only [ds_argok] at ho; have := ih ad ho; simp only [lg_sl, List.map_cons, List.flatMap_cons, List.length_append, ds_ent, ds_v] at this ⊢; simp [Value.category] at this ⊢; first | omega | (simp [lg_sl] at this ⊢; omega)
