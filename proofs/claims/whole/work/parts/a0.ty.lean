/-! what a method answers is of its kind -/
def dt_Q (P : ds_Out → Prop) (a : Option ds_Out) : Prop := ∀ o, a = some o → P o
theorem dt_n {P : ds_Out → Prop} : dt_Q P none := fun o h => by cases h
theorem dt_b {P : ds_Out → Prop} {b : Bool} {a : Option ds_Out} (h : dt_Q P a) : dt_Q P (ds_b b a) := by
  cases b
  · exact dt_n
  · exact h
theorem dt_chk {P : ds_Out → Prop} {i : Int32} {n : Nat} {a : Option ds_Out} (h : dt_Q P a) : dt_Q P (ds_chk i n a) := by
  unfold ds_chk
  split
  · exact h
  · exact dt_n
theorem dt_isK {P : ds_Out → Prop} {p c : Nat} {a : Option ds_Out} (h : dt_Q P a) : dt_Q P (ds_isK p c a) := by
  unfold ds_isK
  split
  · exact h
  · exact dt_n
theorem dt_isA {P : ds_Out → Prop} {p : Nat} {a : Option ds_Out} (h : dt_Q P a) : dt_Q P (ds_isA p a) := by
  unfold ds_isA
  split
  · exact h
  · exact dt_n
theorem dt_isT {P : ds_Out → Prop} {p : Nat} {a : Option ds_Out} (h : dt_Q P a) : dt_Q P (ds_isT p a) := by
  unfold ds_isT
  split
  · exact h
  · exact dt_n
theorem dt_isB {P : ds_Out → Prop} {v : Int32} {a : Option ds_Out} (h : dt_Q P a) : dt_Q P (ds_isB v a) := by
  unfold ds_isB
  split
  · exact h
  · exact dt_n
theorem dt_nz {P : ds_Out → Prop} {v : Int32} {a : Option ds_Out} (h : dt_Q P a) : dt_Q P (ds_nz v a) := by
  unfold ds_nz
  split
  · exact dt_n
  · exact h
theorem dt_nzL {P : ds_Out → Prop} {v : Int64} {a : Option ds_Out} (h : dt_Q P a) : dt_Q P (ds_nzL v a) := by
  unfold ds_nzL
  split
  · exact dt_n
  · exact h
theorem dt_cV {P : ds_Out → Prop} {cl : Nat → List Value → ds_St → Option ds_Out} {j : Nat} {as : List Value} {z : ds_St} {f : ds_St → Option ds_Out} (h : ∀ z1, dt_Q P (f z1)) : dt_Q P (ds_cV cl j as z f) := by
  unfold ds_cV
  split
  · exact h _
  · exact dt_n
theorem dt_cI {P : ds_Out → Prop} {cl : Nat → List Value → ds_St → Option ds_Out} {j : Nat} {as : List Value} {z : ds_St} {f : Int32 → ds_St → Option ds_Out} (h : ∀ r z1, dt_Q P (f r z1)) : dt_Q P (ds_cI cl j as z f) := by
  unfold ds_cI
  split
  · exact h _ _
  · exact dt_n
theorem dt_cL {P : ds_Out → Prop} {cl : Nat → List Value → ds_St → Option ds_Out} {j : Nat} {as : List Value} {z : ds_St} {f : Int64 → ds_St → Option ds_Out} (h : ∀ r z1, dt_Q P (f r z1)) : dt_Q P (ds_cL cl j as z f) := by
  unfold ds_cL
  split
  · exact h _ _
  · exact dt_n
theorem dt_cR {P : ds_Out → Prop} {cl : Nat → List Value → ds_St → Option ds_Out} {j : Nat} {as : List Value} {z : ds_St} {f : Nat → ds_St → Option ds_Out} (h : ∀ r z1, dt_Q P (f r z1)) : dt_Q P (ds_cR cl j as z f) := by
  unfold ds_cR
  split
  · exact h _ _
  · exact dt_n
theorem dt_bI {P : ds_Out → Prop} {st : List Value} {f : Int32 → Int32 → List Value → Option ds_Out} (h : ∀ x y r, dt_Q P (f x y r)) : dt_Q P (ds_bI st f) := by
  unfold ds_bI
  split
  · exact h _ _ _
  · exact dt_n
theorem dt_bL {P : ds_Out → Prop} {st : List Value} {f : Int64 → Int64 → List Value → Option ds_Out} (h : ∀ x y r, dt_Q P (f x y r)) : dt_Q P (ds_bL st f) := by
  unfold ds_bL
  split
  · exact h _ _ _
  · exact dt_n
theorem dt_uI {P : ds_Out → Prop} {st : List Value} {f : Int32 → List Value → Option ds_Out} (h : ∀ x r, dt_Q P (f x r)) : dt_Q P (ds_uI st f) := by
  unfold ds_uI
  split
  · exact h _ _
  · exact dt_n
theorem dt_uL {P : ds_Out → Prop} {st : List Value} {f : Int64 → List Value → Option ds_Out} (h : ∀ x r, dt_Q P (f x r)) : dt_Q P (ds_uL st f) := by
  unfold ds_uL
  split
  · exact h _ _
  · exact dt_n
theorem dt_uR {P : ds_Out → Prop} {st : List Value} {f : Nat → List Value → Option ds_Out} (h : ∀ x r, dt_Q P (f x r)) : dt_Q P (ds_uR st f) := by
  unfold ds_uR
  split
  · exact h _ _
  · exact dt_n
theorem dt_br {P : ds_Out → Prop} {c : ClassFile.Cond} {x y : Int32} {a b : Option ds_Out} (ha : dt_Q P a) (hb : dt_Q P b) : dt_Q P (ds_br c x y a b) := by
  unfold ds_br
  split <;> (split <;> assumption)
theorem dt_sw {P : ds_Out → Prop} {x : Int32} {f : Int → Option ds_Out} {d : Int} (h : ∀ t, dt_Q P (f t)) : ∀ (l : List Int) (n : Nat), dt_Q P (ds_sw x f d n l) := by
  intro l
  induction l with
  | nil => intro n; exact h d
  | cons t ts ih =>
    intro n
    unfold ds_sw
    split
    · exact h t
    · exact ih _
/-- the kinds of an answer: 0 ints, else longs -/
def dt_ins (b : Bool) (i : Instr) : Bool := match i with
  | .lreturn => b
  | .areturn => false
  | .ireturn => !b
  | .dreturn => !b
  | .jsr _ => !b
  | _ => true
def dt_P (b : Bool) (o : ds_Out) : Prop := ∀ v, o.1 = some v → v ≠ .null → if b = true then ∃ r, v = .long r else ∃ r, v = .int r
theorem dt_x1 (b : Bool) {cl : Nat → List Value → ds_St → Option ds_Out} {ins : Instr} {len pc : Nat} {lv : ds_Lv} {st : List Value} {z : ds_St} {k : Nat → ds_Lv → List Value → ds_St → Option ds_Out} (hi : dt_ins b ins = true) (hk : ∀ pc lv st z, dt_Q (dt_P b) (k pc lv st z)) : dt_Q (dt_P b) (ds_x1 cl ins len pc lv st z k) := by
  have hI : b = false → ∀ x z, dt_Q (dt_P b) (some (some (.int x), z)) := fun e x z o h v hv _ => by
    cases h
    cases hv
    rw [e]
    exact ⟨x, rfl⟩
  have hL : b = true → ∀ x z, dt_Q (dt_P b) (some (some (.long x), z)) := fun e x z o h v hv _ => by
    cases h
    cases hv
    rw [e]
    exact ⟨x, rfl⟩
  have hN : ∀ z, dt_Q (dt_P b) (some (none, z)) := fun z o h v hv _ => by
    cases h
    cases hv
  have hNu : ∀ z, dt_Q (dt_P b) (some (some .null, z)) := fun z o h v hv hn => by
    cases h
    cases hv
    exact absurd rfl hn
  have nb : (!b) = true → b = false := fun h => by cases b <;> simp_all
  unfold ds_x1
  split
  all_goals first
    | exact dt_n
    | exact hk _ _ _ _
    | (repeat' first
        | exact hk _ _ _ _
        | exact dt_n
        | exact hI (nb hi) _ _
        | exact hL hi _ _
        | exact hN _
        | exact hNu _
        | exact dt_sw (fun t => hk _ _ _ _) _ _
        | apply dt_b
        | apply dt_chk
        | apply dt_isK
        | apply dt_isA
        | apply dt_isT
        | apply dt_isB
        | apply dt_nz
        | apply dt_nzL
        | apply dt_br
        | refine dt_cV fun _ => ?_
        | refine dt_cI fun _ _ => ?_
        | refine dt_cL fun _ _ => ?_
        | refine dt_cR fun _ _ => ?_
        | refine dt_bI fun _ _ _ => ?_
        | refine dt_bL fun _ _ _ => ?_
        | refine dt_uI fun _ _ => ?_
        | refine dt_uL fun _ _ => ?_
        | refine dt_uR fun _ _ => ?_
        | exact absurd hi (fun h => Bool.false_ne_true h)
        | unfold ds_gf
        | unfold ds_pf
        | unfold ds_ldI
        | unfold ds_stI
        | unfold ds_copy
        | unfold ds_inv
        | unfold ds_do
        | split)
theorem dt_run (b : Bool) {cd : ds_Code} {cu : ds_Cuts} {cl : Nat → List Value → ds_St → Option ds_Out} (hc : (cd.all fun q => dt_ins b q.2.1) = true) : ∀ n pc lv st z, dt_Q (dt_P b) (ds_run cd cu cl n pc lv st z) := by
  intro n
  induction n with
  | zero => intro pc lv st z; exact dt_n
  | succ n ih =>
    intro pc lv st z
    rw [ds_run]
    cases hf : ds_find cd pc with
    | none => exact dt_n
    | some q =>
      obtain ⟨ins, len⟩ := q
      have hm := List.all_eq_true.mp hc _ (ds_find_mem hf)
      exact dt_x1 b hm (fun pc1 lv1 st1 z1 => ih _ _ _ _)
theorem dt_nn {a : Option ds_Out} {v : Value} {z : ds_St} (h : ds_nn a = some (some v, z)) : a = some (some v, z) ∧ v ≠ .null := by
  unfold ds_nn at h
  split at h
  · cases h
  · rename_i hx
    refine ⟨h, fun e => ?_⟩
    subst e
    exact hx _ h
theorem dt_int {cd : ds_Code} {cu : ds_Cuts} {cl : Nat → List Value → ds_St → Option ds_Out} {pc : Nat} {lv : ds_Lv} {st : List Value} {z z1 : ds_St} {v : Value} (hc : (cd.all fun q => dt_ins false q.2.1) = true) (h : ds_nn (ds_Rw cd cu cl pc lv st z) = some (some v, z1)) : ∃ r, v = .int r := by
  obtain ⟨h1, h2⟩ := dt_nn h
  obtain ⟨n, hn⟩ := ds_Rw_iff.mp h1
  exact dt_run false hc n pc lv st z _ hn v rfl h2
theorem dt_long {cd : ds_Code} {cu : ds_Cuts} {cl : Nat → List Value → ds_St → Option ds_Out} {pc : Nat} {lv : ds_Lv} {st : List Value} {z z1 : ds_St} {v : Value} (hc : (cd.all fun q => dt_ins true q.2.1) = true) (h : ds_nn (ds_Rw cd cu cl pc lv st z) = some (some v, z1)) : ∃ r, v = .long r := by
  obtain ⟨h1, h2⟩ := dt_nn h
  obtain ⟨n, hn⟩ := ds_Rw_iff.mp h1
  exact dt_run true hc n pc lv st z _ hn v rfl h2
