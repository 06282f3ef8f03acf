/-! the step theorem, whole; the run; the contracts -/
section MAIN
variable (p : Program) (l : Launch) (e : Env) (R : Room) (s : State) (m : MethodId) (args : Array Value) (below : List Frame) (meth : Method) (c : Code) (cells slots : Nat) (Q : State → Prop)
variable (D : va_G) (A : Nat → Prop) (ad : Nat → Nat) (cy : Nat → ClassId) (nL : Nat) (own : String) (bytes : ByteArray) (zr lw : Bool)
/-- how a run ends; ok: the instructions that the method has -/
def ds_End (ok : Instr → Prop) (o : ds_Out) : Prop :=
  (∀ (pc : Nat) (ls : Array Slot) (x : Int32) (z : ds_St) (H : Heap) (locs : List Loc), decode bytes pc = .ok (.ireturn, 1) → ok .ireturn → zr = false → o = (some (.int x), z) → va_P D vwCl (ds_ws cy ad z) H → va_S A s.heap H locs → W p l e R s m args below meth c H locs cells slots Q (F0 m pc ls [.int x])) ∧
  (∀ (pc : Nat) (ls : Array Slot) (x : Int32) (z : ds_St) (H : Heap) (locs : List Loc), decode bytes pc = .ok (.ireturn, 1) → ok .dreturn → zr = true → (x = 0 ∨ x = 1) → o = (some (.int x), z) → va_P D vwCl (ds_ws cy ad z) H → va_S A s.heap H locs → W p l e R s m args below meth c H locs cells slots Q (F0 m pc ls [.int x])) ∧
  (∀ (pc : Nat) (ls : Array Slot) (x : Int64) (z : ds_St) (H : Heap) (locs : List Loc), decode bytes pc = .ok (.lreturn, 1) → ok .lreturn → o = (some (.long x), z) → va_P D vwCl (ds_ws cy ad z) H → va_S A s.heap H locs → W p l e R s m args below meth c H locs cells slots Q (F0 m pc ls [.long x])) ∧
  (∀ (pc : Nat) (ls : Array Slot) (x : Nat) (z : ds_St) (H : Heap) (locs : List Loc), decode bytes pc = .ok (.areturn, 1) → ok .areturn → o = (some (.ref x), z) → va_P D vwCl (ds_ws cy ad z) H → va_S A s.heap H locs → W p l e R s m args below meth c H locs cells slots Q (F0 m pc ls [.ref (ad x)])) ∧
  (∀ (pc : Nat) (ls : Array Slot) (z : ds_St) (H : Heap) (locs : List Loc), decode bytes pc = .ok (.return_, 1) → ok .return_ → o = (none, z) → va_P D vwCl (ds_ws cy ad z) H → va_S A s.heap H locs → W p l e R s m args below meth c H locs cells slots Q (F0 m pc ls [])) ∧
  (∀ (pc i : Nat) (lv : ds_Lv) (ls : Array Slot) (st : List Value) (z : ds_St) (H : Heap) (locs : List Loc), decode bytes pc = .ok (.new i, 3) → o = (some .null, z) → va_P D vwCl (ds_ws cy ad z) H → va_S A s.heap H locs → ds_LV ad ls nL lv → W p l e R s m args below meth c H locs cells slots Q (F0 m pc ls (st.map (ds_v ad)))) ∧
  (∀ (pc i : Nat) (n : Int) (lv : ds_Lv) (ls : Array Slot) (x : Int32) (r : ds_Lv) (z : ds_St) (H : Heap) (locs : List Loc), decode bytes pc = .ok (.iinc i n, 3) → lw = true → lv = some (.ref 200) :: some (.ref 0) :: some (.ref 90) :: some (.ref 111) :: some (.int x) :: r → o = (some (.int x), z) → va_P D vwCl (ds_ws cy ad z) H → va_S A s.heap H locs → ds_LV ad ls nL lv → W p l e R s m args below meth c H locs cells slots Q (F0 m pc ls []))
/-- a text's length and its signs -/
def ds_HT : Prop :=
  (∀ (i n pc : Nat) (ls : Array Slot) (rest : List Value) (H : Heap) (locs : List Loc), i < 34 → ds_f3 ds_ml own n = some (0, 0, 3) → decode bytes pc = .ok (.invokevirtual n, 3) → ls.size = nL → va_S A s.heap H locs → (rest.map fun v => v.category).sum ≤ 8 →
    W p l e R s m args below meth c H locs cells slots Q (F0 m (pc + 3) ls (.int (Int32.ofNat (ds_txt.getD i []).length) :: rest)) → W p l e R s m args below meth c H locs cells slots Q (F0 m pc ls (.ref (ad (300 + i)) :: rest))) ∧
  (∀ (i n pc : Nat) (x : Int32) (ls : Array Slot) (rest : List Value) (H : Heap) (locs : List Loc), i < 34 → vp_in x (ds_txt.getD i []).length → ds_f3 ds_ml own n = some (0, 0, 4) → decode bytes pc = .ok (.invokevirtual n, 3) → ls.size = nL → va_S A s.heap H locs → (rest.map fun v => v.category).sum ≤ 8 →
    W p l e R s m args below meth c H locs cells slots Q (F0 m (pc + 3) ls (.int (Int32.ofNat ((ds_txt.getD i []).getD x.toNatClampNeg 0)) :: rest)) → W p l e R s m args below meth c H locs cells slots Q (F0 m pc ls (.int x :: .ref (ad (300 + i)) :: rest)))
/-- the script -/
def ds_HX (cl : Nat → List Value → ds_St → Option ds_Out) : Prop := lw = true → ∃ (L : Nat) (xs : Nat → Int32), va_X (ad 200) L xs s s.heap ∧ ad 200 < s.heap.size ∧ ¬ A (ad 200) ∧
  (∀ z x z1, cl 9998 [] z = some (some (.int x), z1) → x = Int32.ofNat L) ∧ ∀ i z x z1, cl 9999 [.int i] z = some (some (.int x), z1) → vp_in i L ∧ x = xs i.toNatClampNeg
end MAIN
theorem ds_kl_in : ∀ w ∈ ds_kl.map (fun q => Cond.constant q.1 q.2.1 (ds_k q.2.2)), w ∈ lw_tbl ∧ goodWord w = true := by decide +kernel
theorem ds_Ll_in : ∀ w ∈ ds_Ll.map (fun q => Cond.constantLong q.1 q.2.1 (Int64.ofNat q.2.2)), w ∈ lw_tbl ∧ goodWord w = true := by decide +kernel
theorem ds_tl_ok : ∀ q ∈ ds_tl, q.2.2 < 34 ∧ ds_tl.getD q.2.2 ("", 0, 0) = q := by decide +kernel
theorem ds_cp_in : ∀ q ∈ ds_ml.filter (fun q => Nat.beq q.2.2.2.2 5), Cond.methodLink q.1 q.2.1 arraycopyName ∈ lw_tbl := by decide +kernel
theorem ds_cp_w : Cond.native arraycopyName ∈ lw_tbl ∧ Cond.static arraycopyName ∈ lw_tbl ∧ Cond.initialized "java/lang/System" ∈ lw_tbl := by decide +kernel
theorem ds_sw_out {x : Int32} {f : Int → Option ds_Out} {d : Int} : ∀ (ts : List Int) (n : Nat), n + ts.length < 2 ^ 31 → ((∃ i : Nat, ∃ t : Int, ts[i]? = some t ∧ x.toInt = ((n + i : Nat) : Int) ∧ ds_sw x f d n ts = f t) ∨ ((x.toInt < (n : Int) ∨ ((n + ts.length : Nat) : Int) ≤ x.toInt) ∧ ds_sw x f d n ts = f d)) := by
  intro ts
  induction ts with
  | nil => intro n hn; right; exact ⟨by simp only [List.length_nil]; omega, rfl⟩
  | cons t ts ih =>
    intro n hn
    by_cases hx : x = Int32.ofNat n
    · left
      refine ⟨0, t, rfl, ?_, by simp [ds_sw, hx]⟩
      have h1 := nI_toInt (n := n) (by simp at hn; omega)
      rw [hx]
      exact h1
    · have hne : x.toInt ≠ (n : Int) := by
        intro h
        have h1 := nI_toInt (n := n) (by simp at hn; omega)
        exact hx (Int32.toInt_inj.mp (h.trans h1.symm))
      have hs : ds_sw x f d n (t :: ts) = ds_sw x f d (n + 1) ts := by simp [ds_sw, hx]
      rcases ih (n + 1) (by simp at hn; omega) with ⟨i, t1, h1, h2, h3⟩ | ⟨h1, h2⟩
      · left
        exact ⟨i + 1, t1, by simpa using h1, by rw [h2]; congr 1; omega, by rw [hs, h3]⟩
      · right
        refine ⟨?_, by rw [hs, h2]⟩
        rcases h1 with h1 | h1
        · left; omega
        · right; simp only [List.length_cons]; omega
