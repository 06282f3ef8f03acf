/-! rows and calls -/
/-- the links to a nest mate's methods -/
def ds_Amb (U : State) : Prop := ∀ q ∈ ds_mln, va_Nw (.methodLinkNest q.1 q.2.1 (ds_yj q.2.2.1) "DealtSea") U
/-- the texts of the program -/
def ds_Tx1 (ad adV : Nat → Nat) (A : Nat → Prop) (U : State) (H : Heap) (i : Nat) : Prop :=
  vk_R (ds_tl.getD i ("", 0, 0)).1 (ds_tl.getD i ("", 0, 0)).2.1 (ds_tx.getD i "") (ad (300 + i)) U ∧ va_O "java/lang/String" (ad (300 + i)) A U H ∧ va_OF "java/lang/String" "coder" "B" (.int 0) (ad (300 + i)) A U H ∧ va_OF "java/lang/String" "value" "[B" (.ref (adV i)) (ad (300 + i)) A U H ∧
  va_T .byte (adV i) (ds_txt.getD i []).length (fun j => .int (Int32.ofNat ((ds_txt.getD i []).getD j 0))) A U H
def ds_Tx (ad adV : Nat → Nat) (A : Nat → Prop) (U : State) (H : Heap) : Prop := (∀ i, i < 34 → ds_Tx1 ad adV A U H i) ∧ va_Z "java/lang/String" "COMPACT_STRINGS" "Z" (.int 1) A U H ∧ va_Zq "jdk/internal/util/Preconditions" "SIOOBE_FORMATTER" "Ljava/util/function/BiFunction;" A U H
theorem ds_Amb.warm {s U : State} (hW : s.WarmedH U.vm) (h : ds_Amb s) : ds_Amb U := fun q hq => va_Nw.warmM hW (h q hq)
theorem ds_Amb.same {s U : State} (hv : s.vm = U.vm) (h : ds_Amb s) : ds_Amb U := fun q hq => va_Nw.same rfl hv (h q hq)
theorem ds_Tx.warm {ad adV : Nat → Nat} {A : Nat → Prop} {s U : State} {H : Heap} (hW : s.WarmedH U.vm) (h : ds_Tx ad adV A s H) : ds_Tx ad adV A U H :=
  ⟨fun i hi => ⟨vk_R.warm hW (h.1 i hi).1, va_O.moved hW.alike (h.1 i hi).2.1, va_OF.moved hW.alike (h.1 i hi).2.2.1, va_OF.moved hW.alike (h.1 i hi).2.2.2.1, va_T.moved hW.alike (h.1 i hi).2.2.2.2⟩, va_Z.moved hW.alike h.2.1, va_Zq.moved hW.alike h.2.2⟩
theorem ds_Tx.same {ad adV : Nat → Nat} {A : Nat → Prop} {s U : State} {H : Heap} (hv : s.vm = U.vm) (h : ds_Tx ad adV A s H) : ds_Tx ad adV A U H :=
  have ha : s.vm.Alike U.vm := hv ▸ Vm.Alike.refl s.vm
  ⟨fun i hi => ⟨vk_R.same hv.symm (h.1 i hi).1, va_O.moved ha (h.1 i hi).2.1, va_OF.moved ha (h.1 i hi).2.2.1, va_OF.moved ha (h.1 i hi).2.2.2.1, va_T.moved ha (h.1 i hi).2.2.2.2⟩, va_Z.moved ha h.2.1, va_Zq.moved ha h.2.2⟩
theorem ds_Tx.kept {ad adV : Nat → Nat} {A : Nat → Prop} {U : State} {H H1 : Heap} (h : ds_Tx ad adV A U H) (hq : ∀ a : Nat, a < H.size → ¬ A a → H1[a]? = H[a]?) : ds_Tx ad adV A U H1 :=
  ⟨fun i hi => ⟨(h.1 i hi).1, (h.1 i hi).2.1.kept hq, (h.1 i hi).2.2.1.kept hq, (h.1 i hi).2.2.2.1.kept hq, (h.1 i hi).2.2.2.2.kept hq⟩, h.2.1.kept hq, h.2.2.kept hq⟩
theorem ds_Tx.narrow {ad adV : Nat → Nat} {A B : Nat → Prop} {U : State} {H : Heap} (h : ds_Tx ad adV A U H) (hAB : ∀ q, B q → A q) : ds_Tx ad adV B U H :=
  ⟨fun i hi => ⟨(h.1 i hi).1, (h.1 i hi).2.1.narrow hAB, (h.1 i hi).2.2.1.narrow hAB, (h.1 i hi).2.2.2.1.narrow hAB, (h.1 i hi).2.2.2.2.narrow hAB⟩, h.2.1.narrow hAB, h.2.2.narrow hAB⟩
/-- a method's start, and its end -/
def ds_Pre (D : va_G) (ad adV : Nat → Nat) (cy : Nat → ClassId) (z : ds_St) (sz : Nat) (U : State) : Prop :=
  U.heap.size = sz ∧ va_P D vwCl (ds_ws cy ad z) U.heap ∧ va_K D vwCl (ds_tys cy) U ∧ va_D (fun _ => True) (ds_ws cy ad z) ∧ ds_Amb U ∧ ds_Tx ad adV (va_A (ds_ws cy ad z) sz) U U.heap
def ds_Post (D : va_G) (ad : Nat → Nat) (cy : Nat → ClassId) (o : ds_Out) (A : Nat → Prop) (st : State) (oc : Outcome) (t : State) : Prop :=
  oc = .returned (o.1.map (ds_v ad)) ∧ va_P D vwCl (ds_ws cy ad o.2) t.heap ∧ va_F A st t
def ds_WS : List Cond := lw_tbl.filter goodWord
def ds_cw (e : ds_MT) : Cond := Cond.code e.1 e.2.1 e.2.2.1 e.2.2.2.1
/-- a method's contract: from z by these arguments it comes to o -/
def ds_Con (l : Launch) (D : va_G) (ad adV : Nat → Nat) (cy : Nat → ClassId) (rm : Room) (j : Nat) (as : List Value) (z : ds_St) (o : ds_Out) : Prop :=
  ∃ e, ds_mt[j]? = some e ∧ ∀ sz : Nat, Met l e.1 (ds_cw e :: ds_WS) rm (va_Pc (as.map (ds_v ad)) (ds_Pre D ad adV cy z sz)) (fun _ st oc t => ds_Post D ad cy o (va_A (ds_ws cy ad z) sz) st oc t) 0 0 (va_A (ds_ws cy ad z) sz)
theorem ds_Pre_blind {D : va_G} {ad adV : Nat → Nat} {cy : Nat → ClassId} {z : ds_St} {sz : Nat} {as : List Value} : FrameBlind (va_Pc as (ds_Pre D ad adV cy z sz)) := by
  intro a U g mk q
  obtain ⟨q0, q1, qP, qK, qD, qA, qT⟩ := q
  exact ⟨q0, q1, qP, va_K.moved (u := U) (U := U.calling g mk a) (Vm.Alike.refl U.vm) qK, qD, ds_Amb.same rfl qA, ds_Tx.same rfl qT⟩
theorem ds_do_of {cl : Nat → List Value → ds_St → Option ds_Out} {j rk pc : Nat} {as rest : List Value} {lv : ds_Lv} {z : ds_St} {k : ds_KT} {o : ds_Out} (h : ds_do cl j rk as rest pc lv z k = some o) : ∃ o1, cl j as z = some o1 ∧ k pc lv (o1.1.toList ++ rest) o1.2 = some o := by
  unfold ds_do at h
  split at h
  · unfold ds_cV at h
    split at h
    · rename_i z1 hc; exact ⟨_, hc, h⟩
    · cases h
  · unfold ds_cI at h
    split at h
    · rename_i r z1 hc; exact ⟨_, hc, h⟩
    · cases h
  · unfold ds_cL at h
    split at h
    · rename_i r z1 hc; exact ⟨_, hc, h⟩
    · cases h
  · unfold ds_cR at h
    split at h
    · rename_i r z1 hc; exact ⟨_, hc, h⟩
    · cases h
section CALLS
variable {p : Program} {l : Launch} {e : Env} {R : Room} {s : State} {m : MethodId} {args : Array Value} {below : List Frame} {meth : Method} {c : Code} {cells slots : Nat} {Q : State → Prop}
variable {D : va_G} {A : Nat → Prop} {ad adV : Nat → Nat} {cy : Nat → ClassId} {nL : Nat} {own : String} {Ts : List Cond} {bytes : ByteArray}
variable {k : ds_KT} {o : ds_Out} {pc : Nat} {lv : ds_Lv} {st : List Value} {z : ds_St} {H : Heap} {locs : List Loc} {ls : Array Slot}
/-- behind a call -/
theorem ds_call_go {rest st0 : List Value} {o1 : ds_Out} {A1 : Nat → Prop} (hr : va_Run p l e R s m args below meth c H locs cells slots 0 0 (F0 m pc ls st0) rest (fun st oc t => ds_Post D ad cy o1 A1 st oc t) A1) (hS : va_S A s.heap H locs) (hA : ∀ q, A1 q → A q)
    (kk : ∀ (H1 : Heap) (locs1 : List Loc), va_P D vwCl (ds_ws cy ad o1.2) H1 → va_S A s.heap H1 locs1 → W p l e R s m args below meth c H1 locs1 cells slots Q (F0 m (pc + 3) ls ((o1.1.map (ds_v ad)).toList ++ rest))) : W p l e R s m args below meth c H locs cells slots Q (F0 m pc ls st0) := by
  intro T hT X
  obtain ⟨v, st₀, t, T', L, h0, X', hL, e1, e2, ⟨hv, hp, hz, hk⟩, hst⟩ := hr T hT X
  cases hv
  rw [h0] at hz hk
  have hS1 : va_S A s.heap T'.heap (locs ++ L) := ⟨Nat.le_trans hS.1 (by rw [e1]; exact hz), fun q h1 h2 => by rw [e1, hk q (Nat.lt_of_lt_of_le h1 hS.1) (fun zz => h2 (hA q zz))]; exact hS.2.1 q h1 h2, fun q hq => by
      rcases List.mem_append.mp hq with h | h
      · exact hS.2.2 q h
      · exact hA _ (hL q h)⟩
  obtain ⟨t2, a1, b1⟩ := kk T'.heap (locs ++ L) (by rw [e1]; exact hp) hS1 T' rfl X'
  exact ⟨t2, hst t2 a1, b1⟩
theorem ds_A_sub (hD : va_D A (ds_ws cy ad z)) (hA : ∀ q : Nat, s.heap.size ≤ q → A q) (hS : va_S A s.heap H locs) : ∀ q, va_A (ds_ws cy ad z) H.size q → A q := by
  intro q h
  rcases h with ⟨i, x, h⟩ | h
  · exact hD.2 i _ h
  · exact hA q (Nat.le_trans hS.1 h)
/-- the callee's start, out of the caller's state -/
theorem ds_Pre_of (hK : va_K D vwCl (ds_tys cy) s) (hD : va_D A (ds_ws cy ad z)) (hA : ∀ q : Nat, s.heap.size ≤ q → A q) (hAm : ds_Amb s) (hT : ds_Tx ad adV A s s.heap) (hP : va_P D vwCl (ds_ws cy ad z) H) (hS : va_S A s.heap H locs) :
    ∀ U : State, U.heap = H → s.WarmedH U.vm → ds_Pre D ad adV cy z H.size U := by
  intro U hU hW
  refine ⟨by rw [hU], by rw [hU]; exact hP, va_K.moved hW.alike hK, hD.weaken (fun _ _ _ _ => trivial), hAm.warm hW, ?_⟩
  rw [hU]
  exact ((hT.kept hS.2.1).warm hW).narrow (ds_A_sub hD hA hS)
theorem ds_code_good (e : ds_MT) : goodWord (ds_cw e) = true := rfl
theorem ds_WS_in {w : Cond} (h : w ∈ lw_tbl) (hg : goodWord w = true) : w ∈ ds_WS := List.mem_filter.mpr ⟨h, hg⟩
theorem ds_goodIn (hin : ∀ w ∈ lw_tbl, goodWord w = true → w ∈ Ts) {e : ds_MT} (he : e ∈ ds_mt) : GoodIn Ts (ds_cw e :: ds_WS) := by
  intro w hw
  rcases List.mem_cons.mp hw with rfl | hw
  · exact ⟨hin _ (ds_mc_in e he) rfl, good_of_word rfl⟩
  · obtain ⟨h1, h2⟩ := List.mem_filter.mp hw
    exact ⟨hin w h1 h2, good_of_word h2⟩
end CALLS
/-- as Met.ofW, of a method whose class has natives in the table but not this one (Math) -/
theorem ds_ofW {l : Launch} {y : MethodName} {ws ws' : List Cond} {rm : Room} {Pc : Array Value → State → Prop} {Qc : Array Value → State → Outcome → State → Prop} {mc ms : Nat} {free : Addr → Prop} {cc : ByteArray} {maxL : Nat} {ret : Option FieldType}
    (hy : plainFor y = true) (hw : ws = Cond.code y cc maxL ret :: ws')
    (body : ∀ p e s m args below meth c s₁, BodyLoose p l y (headSpec ws rm) cc maxL ret e s m args below meth c s₁ → c.maxLocals = maxL → Pc args s →
      W p l e (headSpec ws rm).room s m args below meth c s.heap [] 0 0 (MQ below Qc args s mc ms free) (entryFrame m args maxL)) : Met l y ws rm Pc Qc mc ms free := by
  refine MetFree.of_bodySF (code := cc) (maxLocals := maxL) (ret := ret) hy ?_ ?_
  · intro args s m h hn
    obtain ⟨meth, c, h1, h2, h3, h4, h5, h6, -, -⟩ := Cond.code_spec hn (atoms_spec (ws := ws) h _ (by rw [hw]; exact List.mem_cons_self))
    exact ⟨meth, c, h1, h2, h3, h4, h5, h6⟩
  · intro p e s m args below meth c s₁ B hml hP _
    have hh0 : s₁.heap = s.heap := by rw [B.state]; rfl
    obtain ⟨t, a1, o, b1, b2, b3⟩ := body p e s m args below meth c s₁ B hml hP s₁ hh0 (Stand.of_body B)
    exact ⟨t, o, a1, b1, b2, ⟨b3.1, b3.2⟩⟩
theorem ds_mt_small : ∀ e ∈ ds_mt, e.2.2.1 ≤ 30 := by decide +kernel
theorem ds_mt_plain : ∀ e ∈ ds_mt, e.1.cls ≠ "java/lang/invoke/MethodHandle" ∧ e.1.cls ≠ "java/lang/invoke/VarHandle" ∧ plainFor e.1 = true := by decide +kernel
theorem ds_mlv_ok : ∀ q ∈ ds_mlv, q.2.2.1 < ds_mt.length ∧ q.2.2.2.1 / 64 < 10 ∧ (ds_yj q.2.2.1).cls = ds_cnm.getD (q.2.2.2.1 / 64) "" ∧ (parseMethodDescriptor (ds_yj q.2.2.1).desc).map (fun d => d.parameters.length + 1) = some (q.2.2.2.1 % 16) := by decide +kernel
theorem ds_mls_ok : ∀ q ∈ ds_mls, q.2.2.1 < ds_mt.length ∧ q.2.2.2.1 / 64 = 99 ∧ (parseMethodDescriptor (ds_yj q.2.2.1).desc).map (fun d => d.parameters.length) = some (q.2.2.2.1 % 16) := by decide +kernel
theorem ds_mln_ok : ∀ q ∈ ds_mln, q.2.2.1 < ds_mt.length ∧ q.2.2.2.1 / 64 = 99 ∧ (parseMethodDescriptor (ds_yj q.2.2.1).desc).map (fun d => d.parameters.length) = some (q.2.2.2.1 % 16) := by decide +kernel
theorem ds_cnm_ok : ∀ i, i < 10 → (vwCl.getD i ("", TX0, 0)).1 = ds_cnm.getD i "" := by decide +kernel
