/-! DealtSea.led where it throws -/
def dz_rmB : Room := { frames := 60, cells := 1, slots := 6, locals := 2000 }
def dz_XC (D : va_G) (ad : Nat → Nat) (cy : Nat → ClassId) (z : ds_St) (A : Nat → Prop) : String → State → State → Prop := fun E st t => E = dz_E ∧ va_P D vwCl (ds_ws cy ad z) t.heap ∧ va_F A st t
theorem dz_d49 : decode prog_1_method_51_code 49 = .ok (.new 355, 3) := by decide +kernel
theorem dz_d52 : decode prog_1_method_51_code 52 = .ok (.dup, 1) := by decide +kernel
theorem dz_d53 : decode prog_1_method_51_code 53 = .ok (.invokespecial 357, 3) := by decide +kernel
theorem dz_d56 : decode prog_1_method_51_code 56 = .ok (.athrow, 1) := by decide +kernel
section ENTRY
variable {p : Program} {l : Launch} {e : Env} {R : Room} {s : State} {m : MethodId} {args : Array Value} {below : List Frame} {meth : Method} {c : Code} {cells slots : Nat} {Q : State → Prop} {ad : Nat → Nat} {H : Heap} {locs : List Loc}
/-- the locals with which a method begins -/
theorem dz_entry (as : List Value) (maxL : Nat) (ho : ds_argok as = true) (hle : (ds_ent as).length ≤ maxL) (k : ∀ ls, ds_LV ad ls maxL (ds_ent as ++ List.replicate (maxL - (ds_ent as).length) none) → W p l e R s m args below meth c H locs cells slots Q (F0 m 0 ls [])) : W p l e R s m args below meth c H locs cells slots Q (entryFrame m (as.map (ds_v ad)).toArray maxL) := by
  have hlen := ds_ent_len as ad ho
  have hl0 := lv_entry (as.map (ds_v ad)) (n := maxL) (by rw [hlen]; exact hle)
  rw [lg_entry_eq]
  generalize (lg_sl (as.map (ds_v ad)) ++ List.replicate (maxL - (lg_sl (as.map (ds_v ad))).length) Slot.unset).toArray = ls at hl0 ⊢
  have hat : ∀ (j : Nat) (v : Value), (ds_ent as ++ List.replicate (maxL - (ds_ent as).length) none)[j]? = some (some v) → (ds_ent as)[j]? = some (some v) := by
    intro j v hv
    rcases Nat.lt_or_ge j (ds_ent as).length with h1 | h1
    · rw [List.getElem?_append_left h1] at hv; exact hv
    · rw [List.getElem?_append_right h1] at hv
      have := List.eq_of_mem_replicate (List.mem_of_getElem? hv)
      cases this
  refine k ls ⟨⟨hl0.1, hl0.2.1, fun q hq => hl0.2.2 q ?_⟩, by simp; omega, fun j b hb => ?_⟩
  · obtain ⟨j, v, h1, rfl⟩ := ds_al_mem.mp hq
    exact (ds_ent_at (ad := ad) (i := 0) ho (hat j v h1)).1
  · exact (ds_ent_at (ad := ad) (i := 0) ho (hat j _ hb)).2 b rfl
end ENTRY
section STPR
variable {cd : ds_Code} {cu : ds_Cuts} {cl : Nat → List Value → ds_St → Option ds_Out}
/-- a run of so many steps, up to the next cuts -/
theorem dz_stp_run (N : Nat) : ∀ (j n pc : Nat) (lv : ds_Lv) (st : List Value) (z : ds_St) (o : ds_Out), n ≤ N + 1 → (n ≤ N ∨ 0 < j) → ds_run cd cu cl n pc lv st z = some o → ds_stp cd cu cl (ds_run cd cu cl N) j pc lv st z = some o := by
  intro j
  induction j with
  | zero =>
    intro n pc lv st z o _ hn h
    rcases hn with hn | hn
    · exact ds_run_le hn h
    · omega
  | succ j ih =>
    intro n pc lv st z o hn _ h
    cases n with
    | zero => cases h
    | succ n =>
      rw [ds_run] at h
      rw [ds_stp]
      cases hf : ds_find cd pc with
      | none => rw [hf] at h; cases h
      | some q =>
        rw [hf] at h
        obtain ⟨ins, len⟩ := q
        dsimp only at h ⊢
        rcases ds_x1_or cl ins len pc lv st z with ⟨r, hr⟩ | ⟨a, b, c, d, hr⟩
        · rw [hr] at h ⊢; exact h
        · rw [hr] at h ⊢
          unfold ds_msk at h
          cases hcut : ds_cutAt cu a with
          | some bs =>
            rw [hcut] at h
            exact ds_run_le (by omega) h
          | none =>
            rw [hcut] at h
            exact ih n a b c d o (by omega) (Or.inl (by omega)) h
end STPR
/-- the code of led but its throw -/
def dz_c9 : ds_Code := [(0, .iconst 0, 1), (1, .istore 2, 1), (2, .iconst 0, 1), (3, .istore 3, 1), (4, .iload 3, 1), (5, .aload 0, 1), (6, .getfield 513, 3), (9, .getfield 452, 3), (12, .if_icmp .ge 49, 3), (15, .aload 0, 1), (16, .getfield 514, 3), (19, .iload 3, 1), (20, .invokeinterface j_Deck_placeOf 146, 3), (23, .aload 0, 1), (24, .getfield 513, 3), (27, .invokeinterface j_Told_room 465, 3), (30, .if_icmp .lt 43, 3), (33, .iload 2, 1), (34, .iload 1, 1), (35, .if_icmp .ne 40, 3), (38, .iload 3, 1), (39, .ireturn, 1), (40, .iinc 2 1, 3), (43, .iinc 3 1, 3), (46, .goto 4, 3)]
def dz_u9 : ds_Cuts := [(4, [true, true, true, true]), (49, [true, true, true, true])]
theorem dz_k9 : ds_ck "DealtSea" false false prog_1_method_51_code dz_c9 = true := by decide +kernel
theorem dz_Cd9 : ds_Cd "DealtSea" false false prog_1_method_51_code dz_c9 := ds_Cd_of dz_k9
theorem dz_no9 : (dz_c9.all fun q => match q.2.1 with | .new _ => false | _ => true) = true := rfl
theorem dz_none {pc i : Nat} (h : ∃ ins len, (pc, ins, len) ∈ dz_c9) (hd : decode prog_1_method_51_code pc = .ok (.new i, 3)) : False := by
  obtain ⟨ins, len, hm⟩ := h
  obtain ⟨raw, h1, h2, h3⟩ := dz_Cd9 _ hm
  dsimp only at h1 h2 h3
  rw [hd] at h1
  have e1 : raw = .new i := (Prod.mk.inj (Except.ok.inj h1)).1.symm
  subst e1
  have e2 : ins = .new 0 := by rw [← h3]; rfl
  subst e2
  have h6 := List.all_eq_true.mp dz_no9 _ hm
  cases h6
def dz_l4 (x1 x2 x3 : Int32) : ds_Lv := [some (.ref 0), some (.int x1), some (.int x2), some (.int x3)]
set_option maxRecDepth 20000 in
theorem dz_led_o (cl : Nat → List Value → ds_St → Option ds_Out) (K : ds_KT) (x1 x2 x3 : Int32) (z : ds_St) : ds_stp ds_c_Sea_led ds_u_Sea_led cl K 400 4 (dz_l4 x1 x2 x3) [] z =
  ds_isK (z.2.2 0) 7 (if (z.1 (z.2.2 0) 4) ≤ x3 then some (some .null, z) else (ds_cI cl j_Deck_placeOf [.ref 61, .int x3] z fun r1 z1 => ds_isK (z1.2.2 0) 7 ((ds_cI cl j_Told_room [.ref (z1.2.2 0)] z1 fun r2 z2 => if r1 < r2 then K 4 (dz_l4 x1 x2 (x3 + 1)) [] z2 else if ¬ x2 = x1 then K 4 (dz_l4 x1 (x2 + 1) (x3 + 1)) [] z2 else some (some (.int x3), z2))))) := rfl
set_option maxRecDepth 20000 in
theorem dz_led_n (cl : Nat → List Value → ds_St → Option ds_Out) (K : ds_KT) (x1 x2 x3 : Int32) (z : ds_St) : ds_stp dz_c9 dz_u9 cl K 400 4 (dz_l4 x1 x2 x3) [] z =
  ds_isK (z.2.2 0) 7 (if (z.1 (z.2.2 0) 4) ≤ x3 then K 49 (dz_l4 x1 x2 x3) [] z else (ds_cI cl j_Deck_placeOf [.ref 61, .int x3] z fun r1 z1 => ds_isK (z1.2.2 0) 7 ((ds_cI cl j_Told_room [.ref (z1.2.2 0)] z1 fun r2 z2 => if r1 < r2 then K 4 (dz_l4 x1 x2 (x3 + 1)) [] z2 else if ¬ x2 = x1 then K 4 (dz_l4 x1 (x2 + 1) (x3 + 1)) [] z2 else some (some (.int x3), z2))))) := rfl
set_option maxRecDepth 20000 in
theorem dz_led_0 (cl : Nat → List Value → ds_St → Option ds_Out) (K : ds_KT) (x1 : Int32) (z : ds_St) : ds_stp dz_c9 dz_u9 cl K 400 0 [some (.ref 0), some (.int x1), none, none] [] z = K 4 (dz_l4 x1 0 0) [] z := rfl
/-- at 49 it throws, at 4 it goes on -/
noncomputable def dz_K (cl : Nat → List Value → ds_St → Option ds_Out) (N : Nat) (x1 : Int32) : ds_KT := fun pc lv st z =>
  @ite _ (pc = 49 ∧ st = []) (Classical.propDecidable _) (some (some .null, z)) (@ite _ (pc = 4 ∧ st = [] ∧ ∃ a b, lv = dz_l4 x1 a b) (Classical.propDecidable _) (ds_run ds_c_Sea_led ds_u_Sea_led cl N 4 lv [] z) none)
theorem dz_K_49 (cl : Nat → List Value → ds_St → Option ds_Out) (N : Nat) (x1 : Int32) (lv : ds_Lv) (z : ds_St) : dz_K cl N x1 49 lv [] z = some (some .null, z) := by
  unfold dz_K
  rw [if_pos ⟨rfl, rfl⟩]
theorem dz_K_4 (cl : Nat → List Value → ds_St → Option ds_Out) (N : Nat) (x1 a b : Int32) (z : ds_St) : dz_K cl N x1 4 (dz_l4 x1 a b) [] z = ds_run ds_c_Sea_led ds_u_Sea_led cl N 4 (dz_l4 x1 a b) [] z := by
  unfold dz_K
  rw [if_neg (fun h => absurd h.1 (by decide)), if_pos ⟨rfl, rfl, a, b, rfl⟩]
theorem dz_K_of {cl : Nat → List Value → ds_St → Option ds_Out} {N : Nat} {x1 : Int32} {pc : Nat} {lv : ds_Lv} {st : List Value} {z : ds_St} {o : ds_Out} (h : dz_K cl N x1 pc lv st z = some o) : (pc = 49 ∧ st = [] ∧ (some .null, z) = o) ∨ (pc = 4 ∧ st = [] ∧ ∃ a b, lv = dz_l4 x1 a b ∧ ds_run ds_c_Sea_led ds_u_Sea_led cl N 4 (dz_l4 x1 a b) [] z = some o) := by
  unfold dz_K at h
  split at h
  · rename_i hc
    exact Or.inl ⟨hc.1, hc.2, Option.some.inj h⟩
  · split at h
    · rename_i hc
      obtain ⟨h1, h2, a, b, rfl⟩ := hc
      exact Or.inr ⟨h1, h2, a, b, rfl, h⟩
    · cases h
theorem dz_eq (cl : Nat → List Value → ds_St → Option ds_Out) (N : Nat) (x1 x2 x3 : Int32) (z : ds_St) : ds_stp dz_c9 dz_u9 cl (dz_K cl N x1) 400 4 (dz_l4 x1 x2 x3) [] z = ds_stp ds_c_Sea_led ds_u_Sea_led cl (ds_run ds_c_Sea_led ds_u_Sea_led cl N) 400 4 (dz_l4 x1 x2 x3) [] z := by
  rw [dz_led_n, dz_led_o]
  simp only [dz_K_49, dz_K_4]
section LEDB
variable {p : Program} {l : Launch} {e : Env} {s : State} {m : MethodId} {args : Array Value} {below : List Frame} {meth : Method} {c : Code} {Qc : Array Value → State → Outcome → State → Prop}
variable {D : va_G} {A : Nat → Prop} {ad adV : Nat → Nat} {cy : Nat → ClassId} {Ts : List Cond}
set_option maxRecDepth 100000 in
theorem dz_w49 (X : ds_Cx p s m args c D A ad cy 4 "DealtSea" Ts prog_1_method_51_code) (hlt : l.stackTraces = false) (hTh : dz_Th A s s.heap) (hlocks : meth.locks = false) (htab : ∀ x ∈ c.exceptionTable.toList, False) {z : ds_St} {H : Heap} {locs : List Loc} {ls : Array Slot} {lv : ds_Lv} (hP : va_P D vwCl (ds_ws cy ad z) H) (hS : va_S A s.heap H locs) (hl : ds_LV ad ls 4 lv) :
    W p l e dz_rmB s m args below meth c H locs 0 0 (vx_MQ below Qc (dz_XC D ad cy z A) args s 1 6 A) (F0 m 49 ls []) := by
  obtain ⟨hx, hb, hml, hown, hts, hin, hK, hD⟩ := X
  have hw : ∀ w ∈ lw_tbl, goodWord w = true → w.before args s = true := fun w h1 h2 => hts w (hin w h1 h2)
  refine vx_throw0 (cc := prog_1_method_51_code) (pc := 49) hx hb hlt (own := "DealtSea") (cls := dz_E) (names := ["java/lang/RuntimeException", "java/lang/Exception"]) (ik := 355) (ic := 357) (mc := 1) (ms := 6) (A := A) hown (by decide +kernel) (by decide +kernel) (hw _ dz_w355 rfl) (hw _ dz_wini rfl) (fun w h => ?_) dz_hgood hTh.2.1 hTh.2.2 hS (hl.1.1.trans hml.symm) dz_d49 dz_d52 dz_d53 dz_d56 (fun x hx => (htab x hx).elim) (by decide) (by decide) (by decide) (by decide) hlocks (fun t hal hsz hq => ⟨rfl, ?_, ?_⟩) hS.2.2 (by decide) (by decide)
  · rcases dz_nb_of w h with hg | hg
    · exact hw w (dz_in w h) hg
    · exact va_Nw.use (dz_nb_on w hg) (hTh.1 w hg)
  · exact hP.kept (fun k q hk => hq q.1 (hP k q hk).lt)
  · exact ⟨Nat.le_trans hS.1 hsz, fun q h1 h2 => by rw [hq q (Nat.lt_of_lt_of_le h1 hS.1)]; exact hS.2.1 q h1 h2⟩
theorem dz_go (X : ds_Cx p s m args c D A ad cy 4 "DealtSea" Ts prog_1_method_51_code) (hA : ∀ q : Nat, s.heap.size ≤ q → A q) (hAm : ds_Amb s) (hT : ds_Tx ad adV A s s.heap) (hlt : l.stackTraces = false) (hTh : dz_Th A s s.heap) (hlocks : meth.locks = false) (htab : ∀ x ∈ c.exceptionTable.toList, False) {N : Nat} {x1 : Int32} {z0 : ds_St}
    (ih : ∀ (a b : Int32) (z : ds_St) (H : Heap) (locs : List Loc) (ls : Array Slot), ds_run ds_c_Sea_led ds_u_Sea_led (ds_call 19) N 4 (dz_l4 x1 a b) [] z = some (some .null, z0) → va_P D vwCl (ds_ws cy ad z) H → va_S A s.heap H locs → ds_LV ad ls 4 (dz_l4 x1 a b) → W p l e dz_rmB s m args below meth c H locs 0 0 (vx_MQ below Qc (dz_XC D ad cy z0 A) args s 1 6 A) (F0 m 4 ls []))
    {pc : Nat} {lv : ds_Lv} {z : ds_St} {H : Heap} {locs : List Loc} {ls : Array Slot} (h : ds_stp dz_c9 dz_u9 (ds_call 19) (dz_K (ds_call 19) N x1) 400 pc lv [] z = some (some .null, z0)) (hP : va_P D vwCl (ds_ws cy ad z) H) (hS : va_S A s.heap H locs) (hl : ds_LV ad ls 4 lv) :
    W p l e dz_rmB s m args below meth c H locs 0 0 (vx_MQ below Qc (dz_XC D ad cy z0 A) args s 1 6 A) (F0 m pc ls []) := by
  have hR : ds_Rm dz_rmB (ds_rm 19) 0 0 := ⟨rfl, rfl, by decide, by decide, by decide, by decide⟩
  refine ds_stp_W (zr := false) (lw := false) (R := dz_rmB) dz_Cd9 X hA hAm hT (fun j as z1 o1 _ h1 => ds_con l D ad adV cy (ds_HT_ok l ad adV) 19 j as z1 o1 h1) hR ?_ (ds_HT_ok l ad adV p e dz_rmB s m args below meth c 0 0 _ D A cy 4 "DealtSea" Ts prog_1_method_51_code X hT (by decide) (by decide) (by decide) (by decide)) (fun q => by cases q) (fun pc lv st z1 H1 locs1 ls1 hk hP1 hS1 hl1 => ?_) 400 pc lv [] z H locs ls h hP hS hl
  · refine ⟨?_, ?_, ?_, ?_, ?_, ?_, ?_⟩
    · intro pc ls x z1 H locs hd hok _ ho
      cases ho
    · intro pc ls x z1 H locs hd hok _ _ ho
      cases ho
    · intro pc ls x z1 H locs hd hok ho
      cases ho
    · intro pc ls x z1 H locs hd hok ho
      cases ho
    · intro pc ls z1 H locs hd hok ho
      cases ho
    · intro pc i lv ls st z1 H locs hpc hd ho
      exact (dz_none hpc hd).elim
    · intro pc i1 n lv ls1 x r z1 H1 locs1 hpc hd hlw
      cases hlw
  · rcases dz_K_of hk with ⟨e1, e2, e3⟩ | ⟨e1, e2, a, b, e3, e4⟩
    · subst e1
      subst e2
      have e5 : z1 = z0 := (Prod.mk.inj e3).2
      subst e5
      exact dz_w49 X hlt hTh hlocks htab hP1 hS1 hl1
    · subst e1
      subst e2
      subst e3
      exact ih a b z1 H1 locs1 ls1 e4 hP1 hS1 hl1
theorem dz_w4 (X : ds_Cx p s m args c D A ad cy 4 "DealtSea" Ts prog_1_method_51_code) (hA : ∀ q : Nat, s.heap.size ≤ q → A q) (hAm : ds_Amb s) (hT : ds_Tx ad adV A s s.heap) (hlt : l.stackTraces = false) (hTh : dz_Th A s s.heap) (hlocks : meth.locks = false) (htab : ∀ x ∈ c.exceptionTable.toList, False) {x1 : Int32} {z0 : ds_St} : ∀ (n : Nat) (a b : Int32) (z : ds_St) (H : Heap) (locs : List Loc) (ls : Array Slot), ds_run ds_c_Sea_led ds_u_Sea_led (ds_call 19) n 4 (dz_l4 x1 a b) [] z = some (some .null, z0) → va_P D vwCl (ds_ws cy ad z) H → va_S A s.heap H locs → ds_LV ad ls 4 (dz_l4 x1 a b) → W p l e dz_rmB s m args below meth c H locs 0 0 (vx_MQ below Qc (dz_XC D ad cy z0 A) args s 1 6 A) (F0 m 4 ls []) := by
  intro n
  induction n with
  | zero => intro a b z H locs ls h; cases h
  | succ N ih =>
    intro a b z H locs ls h hP hS hl
    have h1 := dz_stp_run N 400 (N + 1) 4 (dz_l4 x1 a b) [] z _ (Nat.le_refl _) (Or.inr (by decide)) h
    rw [← dz_eq] at h1
    exact dz_go X hA hAm hT hlt hTh hlocks htab ih h1 hP hS hl
theorem dz_w0 (X : ds_Cx p s m args c D A ad cy 4 "DealtSea" Ts prog_1_method_51_code) (hA : ∀ q : Nat, s.heap.size ≤ q → A q) (hAm : ds_Amb s) (hT : ds_Tx ad adV A s s.heap) (hlt : l.stackTraces = false) (hTh : dz_Th A s s.heap) (hlocks : meth.locks = false) (htab : ∀ x ∈ c.exceptionTable.toList, False) {x1 : Int32} {z0 z : ds_St} {H : Heap} {locs : List Loc} {ls : Array Slot} (h : ds_Rw ds_c_Sea_led ds_u_Sea_led (ds_call 19) 0 [some (.ref 0), some (.int x1), none, none] [] z = some (some .null, z0)) (hP : va_P D vwCl (ds_ws cy ad z) H) (hS : va_S A s.heap H locs) (hl : ds_LV ad ls 4 [some (.ref 0), some (.int x1), none, none]) : W p l e dz_rmB s m args below meth c H locs 0 0 (vx_MQ below Qc (dz_XC D ad cy z0 A) args s 1 6 A) (F0 m 0 ls []) := by
  rw [b_Sea_led_0] at h
  obtain ⟨n, hn⟩ := ds_Rw_iff.mp h
  refine dz_go X hA hAm hT hlt hTh hlocks htab (N := n) (x1 := x1) (dz_w4 X hA hAm hT hlt hTh hlocks htab n) ?_ hP hS hl
  rw [dz_led_0, dz_K_4]
  exact hn
end LEDB
/-- the contract of led where it throws -/
theorem dz_sea (l : Launch) (hlt : l.stackTraces = false) (D : va_G) (ad adV : Nat → Nat) (cy : Nat → ClassId) (x : Int32) (z : ds_St) (h : ds_Rw ds_c_Sea_led ds_u_Sea_led (ds_call 19) 0 [some (.ref 0), some (.int x), none, none] [] z = some (some .null, z)) (sz : Nat) :
    vx_Met l y_Sea_led (ds_cw ds_m_Sea_led :: ds_WS) dz_rmB (va_Pc (([.ref 0, .int x] : List Value).map (ds_v ad)) (dz_Pre D ad adV cy z sz)) (fun _ _ _ _ => False) (dz_XC D ad cy z (va_A (ds_ws cy ad z) sz)) 1 6 (va_A (ds_ws cy ad z) sz) := by
  refine vx_ofW (cc := prog_1_method_51_code) (maxL := 4) (ret := some .int) (by decide +kernel) rfl ?_
  intro p e s m args below meth c s₁ B hml htab hv
  obtain ⟨rfl, ⟨hsz, hP, hK, hD0, hAm, hT⟩, hTh⟩ := hv
  have hx := B.exec
  have hb := B.bytes
  have hts := atoms_spec (ws := ds_cw ds_m_Sea_led :: ds_WS) B.pre
  have hown : s.vm.findClass "DealtSea" = some m.cls := findClass_of_methodNamed B.named
  have hlocks := B.notSynchronized
  subst hsz
  have hD := hD0.self (sz := s.heap.size)
  have hA : ∀ q : Nat, s.heap.size ≤ q → va_A (ds_ws cy ad z) s.heap.size q := fun q h => Or.inr h
  have hS : va_S (va_A (ds_ws cy ad z) s.heap.size) s.heap s.heap [] := va_S.rf
  have hin : ∀ w ∈ lw_tbl, goodWord w = true → w ∈ ds_cw ds_m_Sea_led :: ds_WS := ds_self
  have X : ds_Cx p s m (([.ref 0, .int x] : List Value).map (ds_v ad)).toArray c D (va_A (ds_ws cy ad z) s.heap.size) ad cy 4 "DealtSea" (ds_cw ds_m_Sea_led :: ds_WS) prog_1_method_51_code := ⟨hx, hb, hml, hown, hts, hin, hK, fun z1 => ds_D_any hD z1⟩
  show W p l e dz_rmB s m (([.ref 0, .int x] : List Value).map (ds_v ad)).toArray below meth c s.heap [] 0 0 _ (entryFrame m (([.ref 0, .int x] : List Value).map (ds_v ad)).toArray 4)
  exact dz_entry [.ref 0, .int x] 4 rfl (Nat.le_of_ble_eq_true rfl) (fun ls hl => dz_w0 X hA hAm hT hlt hTh hlocks htab h hP hS hl)
