/-! THE CLAIM OUT OF ONE WALK OF THE LAW'S BODY. Your part is whole_start (and what it stands on); all else here is the same for every law, but numbers. -/
def R_law : String := "DealtSeaLaw"
def lw_P (b : Addr) (xs : List Int32) (args : Array Value) (s : State) : Prop := args = #[.ref b] ∧ s.IntsAt b xs ∧ xs.length ≤ 3072 ∧ (Jvm.Cond.and given_1 narrow_1).before args s = true
def lw_Q (_ : Array Value) (s : State) (o : Outcome) (t : State) : Prop := o = .returned (some (.int 1)) ∧ Framed s o t [] 601024 7293033
def lw_Z (below : List Frame) (a : Array Value) (s : State) : State → Prop := fun t => ∃ o, t.status = .running ∧ Ended t below o ∧ lw_Q a s o t
/-- the law's own end, with 1 on the stack, nothing written that was there before, its room as the claim has it -/
theorem lw_ret {p : Program} {l : Launch} {e : Env} {s : State} {m : MethodId} {below : List Frame} {meth : Method} {c : Code} {b : Nat} (hx : p.tables.exec = Jvm.exec) (hb : c.code = code) (hr : meth.sig.returnType = ret) (hlocks : meth.locks = false) {pc : Nat} {H : Heap} {ls : Array Slot} (hdg : decode code pc = .ok (.ireturn, 1)) : W p l e room_1 s m #[Value.ref b] below meth c H [] 601024 7293033 (lw_Z below #[Value.ref b] s) (F0 m pc ls [.int 1]) := by
  intro T hT X
  obtain ⟨fs, hret, hrun, hended, hW, hframe⟩ := X.leave (v := some (.int 1)) (hlocks := hlocks) (fun h => by rw [hr] at h; cases h)
  have hmeth' : T.vm.method? m = some meth := X.method'
  refine ⟨T.setFrames fs, ?_, .returned (some (.int 1)), hrun, hended, rfl, ⟨_, rfl⟩, hW, hframe⟩
  jvm_step X.here [X.here.top, hx, hb, hdg, hmeth', hr, ret, narrow_b1]
  (try refine ⟨rfl, ?_⟩); (try refine ⟨rfl, ?_⟩)
  first | (intro acts; rw [hret _ acts rfl rfl rfl]) | rw [hret _ _ rfl rfl rfl]
  exact Steps.refl _
/-- what holds at the law's entry: the machine, the code, the tables' words (any of lw_tbl by 'hts w (by decide +kernel)'), the script of L ints xs at the cell b, what the Statement gives of the start (any of its parts by flat_of_before) -/
def lw_At (p : Program) (s : State) (m : MethodId) (meth : Method) (c : Code) (b L : Nat) (xs : Nat → Int32) : Prop :=
  p.tables.exec = Jvm.exec ∧ c.code = code ∧ meth.sig.returnType = ret ∧ c.maxLocals = 7 ∧ s.vm.findClass R_law = some m.cls ∧ (∀ w ∈ lw_tbl, w.before #[Value.ref b] s = true) ∧ va_X b L xs s s.heap ∧ b < s.heap.size ∧ meth.locks = false ∧ (Jvm.Cond.and given_1 narrow_1).before #[Value.ref b] s = true
/-! the law's end, and its loop but for the rounds of 49 -/
section FIN
variable {p : Program} {l : Launch} {e : Env} {s : State} {m : MethodId} {below : List Frame} {meth : Method} {c : Code} {cells slots : Nat} {b : Nat}
variable {D : va_G} {A : Nat → Prop} {ad adV : Nat → Nat} {cy : Nat → ClassId} {Ts : List Cond} {L : Nat} {xs : Nat → Int32}
theorem dw_fin (hr : meth.sig.returnType = ret) (hlocks : meth.locks = false) (X : ds_Cx p s m #[Value.ref b] c D A ad cy 7 "DealtSeaLaw" Ts code) (hA : ∀ q : Nat, s.heap.size ≤ q → A q) (hA2 : ∀ q : Nat, A q → s.heap.size ≤ q) (hAm : ds_Amb s) (hT : ds_Tx ad adV A s s.heap) (hX : va_X (ad 200) L xs s s.heap) (h200 : ad 200 < s.heap.size) (hn200 : ¬ A (ad 200)) (hL : L ≤ 3072) (hc : cells ≤ 601024) (hs : slots ≤ 7293033) {z : ds_St} {H : Heap} {locs : List Loc} {ls : Array Slot} {i : Nat} (hi : L < i + 6) (h4 : i ≤ 4000) (hP : va_P D vwCl (ds_ws cy ad z) H) (hS : va_S A s.heap H locs) (hl : ds_LV ad ls 7 (dw_lv (nI i))) : W p l e room_1 s m #[Value.ref b] below meth c H locs cells slots (lw_Z below #[Value.ref b] s) (F0 m 23 ls []) := by
  have hr0 := l_end L 0 i xs z hL hi h4
  have hR : ds_Rm room_1 (ds_rm 20) cells slots := ⟨rfl, rfl, by decide, by decide, hc, hs⟩
  refine ds_Rw_W2 (zr := true) (lw := true) (R := room_1) dw_CdE X hA hAm hT (dw_cls D ad adV cy L xs) hR ?_ (ds_HT_ok l ad adV p e room_1 s m _ below meth c cells slots _ D A cy 7 "DealtSeaLaw" Ts code X hT (by decide) (by decide) hc hs) (dw_HX hX h200 hn200) (st := []) hr0 hP hS hl
  refine ⟨?_, ?_, ?_, ?_, ?_, ?_, ?_⟩
  · intro pc ls x z1 H locs hd hok hz
    cases hz
  · intro pc ls x z1 H locs hd hok _ _ ho hP1 hS1
    have e1 : x = 1 := by
      cases ho
      rfl
    subst e1
    have hf : W p l e room_1 s m #[Value.ref b] below meth c H ([] ++ locs) cells slots (lw_Z below #[Value.ref b] s) (F0 m pc ls [.int 1]) := W.forget (fun q hq => hA2 _ (hS1.2.2 q hq)) (W.widen hc hs (lw_ret X.1 X.2.1 hr hlocks hd))
    exact hf
  · intro pc ls x z1 H locs hd hok ho
    cases ho
  · intro pc ls x z1 H locs hd hok ho
    cases ho
  · intro pc ls z1 H locs hd hok ho
    cases ho
  · intro pc i lv ls st z1 H locs hpc hd ho
    cases ho
  · intro pc i1 n lv ls1 x r z1 H1 locs1 hpc hd _ hlv ho hP1 hS1 hl1
    obtain ⟨ins, len, hm⟩ := hpc
    obtain ⟨raw, g1, g2, g3⟩ := dw_CdE _ hm
    dsimp only at g1 g2 g3
    rw [hd] at g1
    have e1 : raw = .iinc i1 n := (Prod.mk.inj (Except.ok.inj g1)).1.symm
    subst e1
    have e2 : ins = .jsr 0 := by rw [← g3]; rfl
    subst e2
    rw [ds_LawE_eq] at hm
    exact (Bool.false_ne_true (List.mem_filter.mp hm).2).elim
/-- what a round of 49 must do: it may cost k cells, n slots -/
def dw_Led (p : Program) (l : Launch) (e : Env) (s : State) (m : MethodId) (below : List Frame) (meth : Method) (c : Code) (b : Nat) (D : va_G) (A : Nat → Prop) (ad : Nat → Nat) (cy : Nat → ClassId) (L : Nat) (xs : Nat → Int32) (kc ks : Nat) : Prop :=
  ∀ (cells slots i : Nat) (z : ds_St) (H : Heap) (locs : List Loc) (ls : Array Slot), cells + kc ≤ 601024 → slots + ks ≤ 7293033 → i + 6 ≤ L → xs i &&& 63 = 49 → dk_Inv z → va_P D vwCl (ds_ws cy ad z) H → va_S A s.heap H locs → ds_LV ad ls 7 (dw_lv (nI i)) →
    (∀ z' H' locs' ls', dk_Inv z' → va_P D vwCl (ds_ws cy ad z') H' → va_S A s.heap H' locs' → ds_LV ad ls' 7 (dw_lv (nI (i + 6))) → W p l e room_1 s m #[Value.ref b] below meth c H' locs' (cells + kc) (slots + ks) (lw_Z below #[Value.ref b] s) (F0 m 23 ls' [])) →
    W p l e room_1 s m #[Value.ref b] below meth c H locs cells slots (lw_Z below #[Value.ref b] s) (F0 m 23 ls [])
theorem dw_loop {kc ks : Nat} (hkc : kc ≤ 1100) (hks : ks ≤ 14000) (hled : dw_Led p l e s m below meth c b D A ad cy L xs kc ks) (hr : meth.sig.returnType = ret) (hlocks : meth.locks = false) (X : ds_Cx p s m #[Value.ref b] c D A ad cy 7 "DealtSeaLaw" Ts code) (hA : ∀ q : Nat, s.heap.size ≤ q → A q) (hA2 : ∀ q : Nat, A q → s.heap.size ≤ q) (hAm : ds_Amb s) (hT : ds_Tx ad adV A s s.heap) (hX : va_X (ad 200) L xs s s.heap) (h200 : ad 200 < s.heap.size) (hn200 : ¬ A (ad 200)) (hL : L ≤ 3072) : ∀ (k i cells slots : Nat) (z : ds_St) (H : Heap) (locs : List Loc) (ls : Array Slot), L < i + 6 * (k + 1) → k ≤ 512 → i ≤ L → cells + kc * k ≤ 601024 → slots + ks * k ≤ 7293033 → dk_Inv z → va_P D vwCl (ds_ws cy ad z) H → va_S A s.heap H locs → ds_LV ad ls 7 (dw_lv (nI i)) → W p l e room_1 s m #[Value.ref b] below meth c H locs cells slots (lw_Z below #[Value.ref b] s) (F0 m 23 ls []) := by
  intro k
  induction k with
  | zero =>
    intro i cells slots z H locs ls hk _ hi hc hs hI hP hS hl
    exact dw_fin hr hlocks X hA hA2 hAm hT hX h200 hn200 hL (by omega) (by omega) (by omega) (by omega) hP hS hl
  | succ k ih =>
    intro i cells slots z H locs ls hk hk2 hi hc hs hI hP hS hl
    rw [Nat.mul_succ] at hc hs
    by_cases hend : L < i + 6
    · exact dw_fin hr hlocks X hA hA2 hAm hT hX h200 hn200 hL (by omega) (by omega) hend (by omega) hP hS hl
    · by_cases h49 : xs i &&& 63 = 49
      · exact hled cells slots i z H locs ls (by omega) (by omega) (by omega) h49 hI hP hS hl (fun z' H' locs' ls' hI' hP' hS' hl' => ih (i + 6) (cells + kc) (slots + ks) z' H' locs' ls' (by omega) (by omega) (by omega) (by omega) (by omega) hI' hP' hS' hl')
      · exact dw_round X hA hAm hT hX h200 hn200 hL (by omega) (by omega) (by omega) h49 hI hP hS hl (fun z' H' locs' ls' hI' hP' hS' hl' => ih (i + 6) cells slots z' H' locs' ls' (by omega) (by omega) (by omega) (by omega) (by omega) hI' hP' hS' hl')
end FIN
