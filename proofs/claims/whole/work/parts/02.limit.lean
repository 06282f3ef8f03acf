/-! the run without a bound on its steps -/
abbrev ds_KT : Type := Nat → ds_Lv → List Value → ds_St → Option ds_Out
/-- a step ends, or goes on at one place -/
def ds_Lin (F : ds_KT → Option ds_Out) : Prop := (∃ r, ∀ k, F k = r) ∨ ∃ a b c d, ∀ k : ds_KT, F k = k a b c d
theorem ds_lc (r : Option ds_Out) : ds_Lin (fun _ => r) := Or.inl ⟨r, fun _ => rfl⟩
theorem ds_la (a : Nat) (b : ds_Lv) (c : List Value) (d : ds_St) : ds_Lin (fun k => k a b c d) := Or.inr ⟨a, b, c, d, fun _ => rfl⟩
theorem ds_lif {c : Prop} {_ : Decidable c} {F G : ds_KT → Option ds_Out} (hF : ds_Lin F) (hG : ds_Lin G) : ds_Lin (fun k => if c then F k else G k) := by
  by_cases h : c
  · simp only [h, if_true]; exact hF
  · simp only [h, if_false]; exact hG
theorem ds_lcond {c : Bool} {F G : ds_KT → Option ds_Out} (hF : ds_Lin F) (hG : ds_Lin G) : ds_Lin (fun k => bif c then F k else G k) := by
  cases c
  · exact hG
  · exact hF
theorem ds_lb {b : Bool} {F : ds_KT → Option ds_Out} (hF : ds_Lin F) : ds_Lin (fun k => ds_b b (F k)) := by
  cases b
  · exact ds_lc none
  · exact hF
theorem ds_lisK {p c : Nat} {F : ds_KT → Option ds_Out} (hF : ds_Lin F) : ds_Lin (fun k => ds_isK p c (F k)) := by
  unfold ds_isK; split <;> first | exact ds_lc none | exact hF
theorem ds_lisA {p : Nat} {F : ds_KT → Option ds_Out} (hF : ds_Lin F) : ds_Lin (fun k => ds_isA p (F k)) := by
  unfold ds_isA; split <;> first | exact ds_lc none | exact hF
theorem ds_lisB {v : Int32} {F : ds_KT → Option ds_Out} (hF : ds_Lin F) : ds_Lin (fun k => ds_isB v (F k)) := by
  unfold ds_isB; split <;> first | exact ds_lc none | exact hF
theorem ds_lnz {v : Int32} {F : ds_KT → Option ds_Out} (hF : ds_Lin F) : ds_Lin (fun k => ds_nz v (F k)) := by
  unfold ds_nz; split <;> first | exact ds_lc none | exact hF
theorem ds_lnzL {v : Int64} {F : ds_KT → Option ds_Out} (hF : ds_Lin F) : ds_Lin (fun k => ds_nzL v (F k)) := by
  unfold ds_nzL; split <;> first | exact ds_lc none | exact hF
theorem ds_lisT {p : Nat} {F : ds_KT → Option ds_Out} (hF : ds_Lin F) : ds_Lin (fun k => ds_isT p (F k)) := by
  unfold ds_isT; split <;> first | exact ds_lc none | exact hF
theorem ds_lchk {i : Int32} {n : Nat} {F : ds_KT → Option ds_Out} (hF : ds_Lin F) : ds_Lin (fun k => ds_chk i n (F k)) := by
  unfold ds_chk; split <;> first | exact ds_lc none | exact hF
theorem ds_luI {st : List Value} {f : Int32 → List Value → ds_KT → Option ds_Out} (h : ∀ x r, ds_Lin (f x r)) : ds_Lin (fun k => ds_uI st fun x r => f x r k) := by
  rcases st with _ | ⟨v, st⟩
  · exact ds_lc none
  · cases v <;> first | exact ds_lc none | exact h _ _
theorem ds_luL {st : List Value} {f : Int64 → List Value → ds_KT → Option ds_Out} (h : ∀ x r, ds_Lin (f x r)) : ds_Lin (fun k => ds_uL st fun x r => f x r k) := by
  rcases st with _ | ⟨v, st⟩
  · exact ds_lc none
  · cases v <;> first | exact ds_lc none | exact h _ _
theorem ds_luR {st : List Value} {f : Nat → List Value → ds_KT → Option ds_Out} (h : ∀ x r, ds_Lin (f x r)) : ds_Lin (fun k => ds_uR st fun x r => f x r k) := by
  rcases st with _ | ⟨v, st⟩
  · exact ds_lc none
  · cases v <;> first | exact ds_lc none | exact h _ _
theorem ds_lbI {st : List Value} {f : Int32 → Int32 → List Value → ds_KT → Option ds_Out} (h : ∀ x y r, ds_Lin (f x y r)) : ds_Lin (fun k => ds_bI st fun x y r => f x y r k) := by
  rcases st with _ | ⟨v, _ | ⟨w, st⟩⟩
  · exact ds_lc none
  · cases v <;> exact ds_lc none
  · cases v <;> cases w <;> first | exact ds_lc none | exact h _ _ _
theorem ds_lbL {st : List Value} {f : Int64 → Int64 → List Value → ds_KT → Option ds_Out} (h : ∀ x y r, ds_Lin (f x y r)) : ds_Lin (fun k => ds_bL st fun x y r => f x y r k) := by
  rcases st with _ | ⟨v, _ | ⟨w, st⟩⟩
  · exact ds_lc none
  · cases v <;> exact ds_lc none
  · cases v <;> cases w <;> first | exact ds_lc none | exact h _ _ _
theorem ds_lbr {c : ClassFile.Cond} {x y : Int32} {F G : ds_KT → Option ds_Out} (hF : ds_Lin F) (hG : ds_Lin G) : ds_Lin (fun k => ds_br c x y (F k) (G k)) := by
  cases c <;> exact ds_lif hF hG
theorem ds_lgf {c k0 pc : Nat} {lv : ds_Lv} {st : List Value} {z : ds_St} : ds_Lin (fun k => ds_gf c k0 pc lv st z k) := by
  rcases st with _ | ⟨v, st⟩
  · exact ds_lc none
  · cases v with
    | ref p =>
      simp only [ds_gf]
      refine ds_lisK ?_
      split <;> first | exact ds_lc none | exact ds_la _ _ _ _
    | _ => exact ds_lc none
theorem ds_lpf {c k0 pc : Nat} {lv : ds_Lv} {st : List Value} {z : ds_St} : ds_Lin (fun k => ds_pf c k0 pc lv st z k) := by
  rcases st with _ | ⟨v, _ | ⟨w, st⟩⟩
  · exact ds_lc none
  · cases v <;> exact ds_lc none
  · cases v <;> cases w <;> first
      | exact ds_lc none
      | (simp only [ds_pf]; refine ds_lisK ?_; split <;> first | exact ds_lc none | exact ds_la _ _ _ _ | exact ds_lisB (ds_la _ _ _ _) | exact ds_lisK (ds_la _ _ _ _))
theorem ds_lld {kd pc : Nat} {lv : ds_Lv} {st : List Value} {z : ds_St} : ds_Lin (fun k => ds_ldI kd pc lv st z k) := by
  rcases st with _ | ⟨v, _ | ⟨w, st⟩⟩
  · exact ds_lc none
  · cases v <;> exact ds_lc none
  · cases v <;> cases w <;> first
      | exact ds_lc none
      | (simp only [ds_ldI]; exact ds_lisK (ds_lchk (ds_la _ _ _ _)))
theorem ds_lst {kd pc : Nat} {nr : Int32 → Int32} {lv : ds_Lv} {st : List Value} {z : ds_St} : ds_Lin (fun k => ds_stI kd nr pc lv st z k) := by
  rcases st with _ | ⟨v, _ | ⟨w, _ | ⟨u, st⟩⟩⟩
  · exact ds_lc none
  · cases v <;> exact ds_lc none
  · cases v <;> cases w <;> exact ds_lc none
  · cases v <;> cases w <;> cases u <;> first
      | exact ds_lc none
      | (simp only [ds_stI]; exact ds_lisK (ds_lchk (ds_la _ _ _ _)))
theorem ds_lcopy {pc : Nat} {lv : ds_Lv} {st : List Value} {z : ds_St} : ds_Lin (fun k => ds_copy pc lv st z k) := by
  by_cases h : ∃ n dp q sp p r, st = .int n :: .int dp :: .ref q :: .int sp :: .ref p :: r
  · obtain ⟨n, dp, q, sp, p, r, rfl⟩ := h
    simp only [ds_copy]
    refine ds_lb ?_
    split
    · exact ds_lisK (ds_la _ _ _ _)
    · exact ds_lisK (ds_lisK (ds_la _ _ _ _))
  · refine Or.inl ⟨none, fun k => ?_⟩
    unfold ds_copy
    split
    · rename_i n dp q sp p r
      exact absurd ⟨n, dp, q, sp, p, r, rfl⟩ h
    · rfl
theorem ds_ldo {cl : Nat → List Value → ds_St → Option ds_Out} {j rk pc : Nat} {as rest : List Value} {lv : ds_Lv} {z : ds_St} : ds_Lin (fun k => ds_do cl j rk as rest pc lv z k) := by
  unfold ds_do
  split
  · unfold ds_cV
    split <;> first | exact ds_lc none | exact ds_la _ _ _ _
  · unfold ds_cI
    split <;> first | exact ds_lc none | exact ds_la _ _ _ _
  · unfold ds_cL
    split <;> first | exact ds_lc none | exact ds_la _ _ _ _
  · unfold ds_cR
    split <;> first | exact ds_lc none | exact ds_la _ _ _ _
theorem ds_lcall {cl : Nat → List Value → ds_St → Option ds_Out} {j n rk rv pc : Nat} {lv : ds_Lv} {st : List Value} {z : ds_St} : ds_Lin (fun k => ds_inv cl j n rk rv pc lv st z k) := by
  simp only [ds_inv]
  refine ds_lb ?_
  split
  · exact ds_ldo
  · split <;> first | exact ds_lc none | exact ds_lisK ds_ldo
theorem ds_lsw {x : Int32} {d : Int} {f : Int → ds_KT → Option ds_Out} (h : ∀ t, ds_Lin (f t)) : ∀ (ts : List Int) (n : Nat), ds_Lin (fun k => ds_sw x (fun t => f t k) d n ts) := by
  intro ts
  induction ts with
  | nil => intro n; exact h d
  | cons t ts ih => intro n; exact ds_lif (h t) (ih (n + 1))
set_option maxHeartbeats 4000000 in
theorem ds_x1_lin (cl : Nat → List Value → ds_St → Option ds_Out) (ins : Instr) (len pc : Nat) (lv : ds_Lv) (st : List Value) (z : ds_St) : ds_Lin (fun k => ds_x1 cl ins len pc lv st z k) := by
  cases ins
  case iconst n => exact ds_la _ _ _ _
  case ldc2_w n => exact ds_la _ _ _ _
  case ldc n => exact ds_la _ _ _ _
  case iload i => simp only [ds_x1]; split <;> first | exact ds_lc none | exact ds_la _ _ _ _
  case lload i => simp only [ds_x1]; split <;> first | exact ds_lc none | exact ds_la _ _ _ _
  case aload i => simp only [ds_x1]; split <;> first | exact ds_lc none | exact ds_la _ _ _ _
  case istore i => exact ds_luI fun x r => ds_lb (ds_la _ _ _ _)
  case lstore i => exact ds_luL fun x r => ds_lb (ds_la _ _ _ _)
  case astore i => exact ds_luR fun x r => ds_lb (ds_la _ _ _ _)
  case iinc i n => simp only [ds_x1]; split <;> first | exact ds_lc none | exact ds_lb (ds_la _ _ _ _)
  case iadd => exact ds_lbI fun x y r => ds_la _ _ _ _
  case isub => exact ds_lbI fun x y r => ds_la _ _ _ _
  case imul => exact ds_lbI fun x y r => ds_la _ _ _ _
  case idiv => exact ds_lbI fun x y r => ds_lnz (ds_la _ _ _ _)
  case irem => exact ds_lbI fun x y r => ds_lnz (ds_la _ _ _ _)
  case iand => exact ds_lbI fun x y r => ds_la _ _ _ _
  case ior => exact ds_lbI fun x y r => ds_la _ _ _ _
  case ixor => exact ds_lbI fun x y r => ds_la _ _ _ _
  case ishl => exact ds_lbI fun x y r => ds_la _ _ _ _
  case ishr => exact ds_lbI fun x y r => ds_la _ _ _ _
  case iushr => exact ds_lbI fun x y r => ds_la _ _ _ _
  case ineg => exact ds_luI fun x r => ds_la _ _ _ _
  case i2l => exact ds_luI fun x r => ds_la _ _ _ _
  case i2b => exact ds_luI fun x r => ds_la _ _ _ _
  case l2i => exact ds_luL fun x r => ds_la _ _ _ _
  case ladd => exact ds_lbL fun x y r => ds_la _ _ _ _
  case lsub => exact ds_lbL fun x y r => ds_la _ _ _ _
  case lmul => exact ds_lbL fun x y r => ds_la _ _ _ _
  case ldiv => exact ds_lbL fun x y r => ds_lnzL (ds_la _ _ _ _)
  case lrem => exact ds_lbL fun x y r => ds_lnzL (ds_la _ _ _ _)
  case lcmp => exact ds_lbL fun x y r => ds_la _ _ _ _
  case pop => simp only [ds_x1]; split <;> first | exact ds_lc none | exact ds_la _ _ _ _
  case dup => simp only [ds_x1]; split <;> first | exact ds_lc none | exact ds_la _ _ _ _
  case dup2 => simp only [ds_x1]; split <;> first | exact ds_lc none | exact ds_la _ _ _ _
  case goto t => exact ds_la _ _ _ _
  case ifCond c t => exact ds_luI fun x r => ds_lbr (ds_la _ _ _ _) (ds_la _ _ _ _)
  case if_icmp c t => exact ds_lbI fun x y r => ds_lbr (ds_la _ _ _ _) (ds_la _ _ _ _)
  case tableswitch d lo hi offs =>
    exact ds_luI fun x r => ds_lsw (f := fun t k => k t.toNat lv r z) (fun t => ds_la _ _ _ _) _ _
  case getfield f => exact ds_lgf
  case putfield f => exact ds_lpf
  case iaload => exact ds_lld
  case baload => exact ds_lld
  case iastore => exact ds_lst
  case bastore => exact ds_lst
  case laload => simp only [ds_x1]; split <;> first | exact ds_lc none | exact ds_lisK (ds_lchk (ds_la _ _ _ _))
  case lastore => simp only [ds_x1]; split <;> first | exact ds_lc none | exact ds_lisK (ds_lchk (ds_la _ _ _ _))
  case arraylength => exact ds_luR fun p r => ds_lisA (ds_la _ _ _ _)
  case castore =>
    refine ds_luR fun p r => ds_lb ?_
    unfold ds_cI
    split <;> first | exact ds_lc none | exact ds_la _ _ _ _
  case caload =>
    simp only [ds_x1]
    split
    · refine ds_lb ?_
      unfold ds_cI
      split <;> first | exact ds_lc none | exact ds_la _ _ _ _
    · exact ds_lc none
  case instanceof n =>
    match n with
    | 0 => exact ds_luR fun p r => ds_lisT (ds_lb (ds_la _ _ _ _))
    | 1 => simp only [ds_x1]; split <;> first | exact ds_lc none | exact ds_lisT (ds_lb (ds_lchk (ds_la _ _ _ _)))
    | 2 => exact ds_lcopy
    | n + 3 => exact ds_lc none
  case invokeinterface j c => exact ds_lcall
  case ireturn => exact Or.inl ⟨_, fun _ => rfl⟩
  case dreturn => exact Or.inl ⟨_, fun _ => rfl⟩
  case lreturn => exact Or.inl ⟨_, fun _ => rfl⟩
  case areturn => exact Or.inl ⟨_, fun _ => rfl⟩
  case return_ => exact Or.inl ⟨_, fun _ => rfl⟩
  case new n => exact ds_lc _
  case jsr n => exact Or.inl ⟨_, fun _ => rfl⟩
  all_goals exact ds_lc none
theorem ds_x1_or (cl : Nat → List Value → ds_St → Option ds_Out) (ins : Instr) (len pc : Nat) (lv : ds_Lv) (st : List Value) (z : ds_St) : (∃ r, ∀ k : ds_KT, ds_x1 cl ins len pc lv st z k = r) ∨ ∃ a b c d, ∀ k : ds_KT, ds_x1 cl ins len pc lv st z k = k a b c d := ds_x1_lin cl ins len pc lv st z
section LIM
variable {cd : ds_Code} {cu : ds_Cuts} {cl : Nat → List Value → ds_St → Option ds_Out}
theorem ds_run_succ : ∀ (n : Nat) {pc : Nat} {lv : ds_Lv} {st : List Value} {z : ds_St} {o : ds_Out}, ds_run cd cu cl n pc lv st z = some o → ds_run cd cu cl (n + 1) pc lv st z = some o := by
  intro n
  induction n with
  | zero => intro pc lv st z o h; cases h
  | succ n ih =>
    intro pc lv st z o h
    rw [ds_run] at h ⊢
    cases hf : ds_find cd pc with
    | none => rw [hf] at h; cases h
    | some q =>
      rw [hf] at h
      obtain ⟨ins, len⟩ := q
      dsimp only at h ⊢
      rcases ds_x1_or cl ins len pc lv st z with ⟨r, hr⟩ | ⟨a, b, c, d, hr⟩
      · rw [hr] at h ⊢; exact h
      · rw [hr] at h ⊢; exact ih h
theorem ds_run_le {n m : Nat} (hnm : n ≤ m) {pc : Nat} {lv : ds_Lv} {st : List Value} {z : ds_St} {o : ds_Out} (h : ds_run cd cu cl n pc lv st z = some o) : ds_run cd cu cl m pc lv st z = some o := by
  induction hnm with
  | refl => exact h
  | step _ ih => exact ds_run_succ _ ih
end LIM
/-- what a run comes to, however long -/
noncomputable def ds_Rw (cd : ds_Code) (cu : ds_Cuts) (cl : Nat → List Value → ds_St → Option ds_Out) (pc : Nat) (lv : ds_Lv) (st : List Value) (z : ds_St) : Option ds_Out := by
  classical exact if h : ∃ n o, ds_run cd cu cl n pc lv st z = some o then some h.choose_spec.choose else none
section LIM2
variable {cd : ds_Code} {cu : ds_Cuts} {cl : Nat → List Value → ds_St → Option ds_Out}
theorem ds_Rw_iff {pc : Nat} {lv : ds_Lv} {st : List Value} {z : ds_St} {o : ds_Out} : ds_Rw cd cu cl pc lv st z = some o ↔ ∃ n, ds_run cd cu cl n pc lv st z = some o := by
  unfold ds_Rw
  constructor
  · intro h
    split at h
    · rename_i hx
      cases h
      exact ⟨_, hx.choose_spec.choose_spec⟩
    · cases h
  · rintro ⟨n, hn⟩
    have hx : ∃ n o, ds_run cd cu cl n pc lv st z = some o := ⟨n, o, hn⟩
    rw [dif_pos hx]
    have h1 := hx.choose_spec.choose_spec
    have h2 := ds_run_le (Nat.le_max_left hx.choose n) h1
    have h3 := ds_run_le (Nat.le_max_right hx.choose n) hn
    exact h2.symm.trans h3
theorem ds_Rw_none {pc : Nat} {lv : ds_Lv} {st : List Value} {z : ds_St} (h : ∀ n, ds_run cd cu cl n pc lv st z = none) : ds_Rw cd cu cl pc lv st z = none := by
  cases hr : ds_Rw cd cu cl pc lv st z with
  | none => rfl
  | some o =>
    obtain ⟨n, hn⟩ := ds_Rw_iff.mp hr
    rw [h n] at hn
    cases hn
theorem ds_opt_ext {a b : Option ds_Out} (h : ∀ o, a = some o ↔ b = some o) : a = b := by
  cases a with
  | none => cases b with
    | none => rfl
    | some y => exact absurd ((h y).mpr rfl) (by simp)
  | some x => exact ((h x).mp rfl).symm
/-- one step -/
theorem ds_Rw_step (pc : Nat) (lv : ds_Lv) (st : List Value) (z : ds_St) : ds_Rw cd cu cl pc lv st z = (match ds_find cd pc with
    | some (ins, len) => ds_x1 cl ins len pc lv st z fun pc1 lv1 st1 z1 => ds_Rw cd cu cl pc1 (ds_msk cu pc1 lv1) st1 z1
    | none => none) := by
  refine ds_opt_ext fun o => ?_
  rw [ds_Rw_iff]
  cases hf : ds_find cd pc with
  | none =>
    constructor
    · rintro ⟨n, hn⟩
      cases n with
      | zero => cases hn
      | succ n => rw [ds_run, hf] at hn; cases hn
    · intro h; cases h
  | some q =>
    obtain ⟨ins, len⟩ := q
    dsimp only
    rcases ds_x1_or cl ins len pc lv st z with ⟨r, hr⟩ | ⟨a, b, c, d, hr⟩
    · rw [hr]
      constructor
      · rintro ⟨n, hn⟩
        cases n with
        | zero => cases hn
        | succ n => rw [ds_run, hf] at hn; dsimp only at hn; rw [hr] at hn; exact hn
      · intro h
        refine ⟨1, ?_⟩
        rw [ds_run, hf]; dsimp only; rw [hr]; exact h
    · rw [hr]
      constructor
      · rintro ⟨n, hn⟩
        cases n with
        | zero => cases hn
        | succ n => rw [ds_run, hf] at hn; dsimp only at hn; rw [hr] at hn; exact ds_Rw_iff.mpr ⟨n, hn⟩
      · intro h
        obtain ⟨n, hn⟩ := ds_Rw_iff.mp h
        refine ⟨n + 1, ?_⟩
        rw [ds_run, hf]; dsimp only; rw [hr]; exact hn
/-- up to the next cuts -/
theorem ds_Rw_stp : ∀ (n : Nat) (pc : Nat) (lv : ds_Lv) (st : List Value) (z : ds_St), ds_Rw cd cu cl pc lv st z = ds_stp cd cu cl (ds_Rw cd cu cl) n pc lv st z := by
  intro n
  induction n with
  | zero => intro pc lv st z; rfl
  | succ n ih =>
    intro pc lv st z
    rw [ds_Rw_step, ds_stp]
    cases ds_find cd pc with
    | none => rfl
    | some q =>
      obtain ⟨ins, len⟩ := q
      dsimp only
      congr 1
      funext pc1 lv1 st1 z1
      unfold ds_msk
      cases ds_cutAt cu pc1 with
      | none => exact ih pc1 lv1 st1 z1
      | some bs => rfl
end LIM2
theorem ds_pif {c : Prop} {_ : Decidable c} {a a' b b' : Option ds_Out} (h1 : a = a') (h2 : b = b') : (if c then a else b) = (if c then a' else b') := by rw [h1, h2]
