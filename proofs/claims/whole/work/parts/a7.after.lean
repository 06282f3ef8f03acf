/-! a round of 49: what follows led's answer -/
def ds_c_LawL : ds_Code := [(1750, .istore 5, 2), (1752, .aload 2, 1), (1753, .aload 0, 1), (1754, .iload 4, 2), (1756, .iconst 1, 1), (1757, .iadd, 1), (1758, .caload, 1), (1759, .invokeinterface j_Mod_led 594, 3), (1762, .istore 6, 2), (1764, .aload 2, 1), (1765, .invokeinterface j_Mod_thrown 593, 3), (1768, .iload 5, 2), (1770, .if_icmp .eq 1775, 3), (1775, .iload 5, 2), (1777, .ifCond .ne 1792, 3), (1780, .aload 3, 1), (1781, .iconst 0, 1), (1782, .laload, 1), (1783, .iload 6, 2), (1785, .i2l, 1), (1786, .lcmp, 1), (1787, .ifCond .eq 1792, 3), (1792, .goto 1833, 3), (1833, .jsr 0, 3)]
theorem ds_kLL : ds_ck "DealtSeaLaw" true true code ds_c_LawL = true := by decide +kernel
theorem dw_CdL : ds_Cd "DealtSeaLaw" true true code ds_c_LawL := ds_Cd_of ds_kLL
theorem s_thrown (d : Nat) (z : ds_St) : ds_call (d + 1) j_Mod_thrown [.ref 90] z = some (some (.int (z.1 90 0)), z) := by
  rw [c_Mod_thrown, b_Mod_thrown_0]
  rfl
set_option maxRecDepth 20000 in
theorem b_LawL_1750 (cl : Nat → List Value → ds_St → Option ds_Out) (x4 r : Int32) (z : ds_St) : ds_Rw ds_c_LawL [] cl 1750 [some (.ref 200), some (.ref 0), some (.ref 90), some (.ref 111), some (.int x4), none, none] [.int r] z =
  (ds_cI cl 9999 [.int (x4 + 1)] z fun r1 _ => (ds_cI cl j_Mod_led [.ref 90, .int r1] z fun r2 z2 => (ds_cI cl j_Mod_thrown [.ref 90] z2 fun r3 z3 => if r3 = r then (if ¬ r = 0 then some (some (.int x4), z3) else (if lg_cmp (z3.2.1 111 0) r2.toInt64 = 0 then some (some (.int x4), z3) else none)) else none))) :=
  (ds_Rw_stp 400 1750 [some (.ref 200), some (.ref 0), some (.ref 90), some (.ref 111), some (.int x4), none, none] [.int r] z).trans rfl
theorem dw_jL : (ds_c_LawL.all fun q => match q.2.1 with | .jsr _ => Nat.beq q.1 1833 | .dreturn => false | _ => true) = true := rfl
section AFTER
variable {p : Program} {l : Launch} {e : Env} {s : State} {m : MethodId} {args : Array Value} {below : List Frame} {meth : Method} {c : Code} {cells slots : Nat} {Q : State → Prop}
variable {D : va_G} {A : Nat → Prop} {ad adV : Nat → Nat} {cy : Nat → ClassId} {Ts : List Cond} {L : Nat} {xs : Nat → Int32}
theorem dw_after (X : ds_Cx p s m args c D A ad cy 7 "DealtSeaLaw" Ts code) (hA : ∀ q : Nat, s.heap.size ≤ q → A q) (hAm : ds_Amb s) (hT : ds_Tx ad adV A s s.heap) (hX : va_X (ad 200) L xs s s.heap) (h200 : ad 200 < s.heap.size) (hn200 : ¬ A (ad 200)) (hc : cells ≤ 601024) (hs : slots ≤ 7293033) {z z' : ds_St} {H : Heap} {locs : List Loc} {ls : Array Slot} {i : Nat} {r : Int32}
    (hr : ds_Rw ds_c_LawL [] (dw_cl L xs 0) 1750 (dw_lv (nI i)) [.int r] z = some (some (.int (nI i)), z')) (hI' : dk_Inv z') (hP : va_P D vwCl (ds_ws cy ad z) H) (hS : va_S A s.heap H locs) (hl : ds_LV ad ls 7 (dw_lv (nI i)))
    (k : ∀ z' H' locs' ls', dk_Inv z' → va_P D vwCl (ds_ws cy ad z') H' → va_S A s.heap H' locs' → ds_LV ad ls' 7 (dw_lv (nI (i + 6))) → W p l e room_1 s m args below meth c H' locs' cells slots Q (F0 m 23 ls' [])) : W p l e room_1 s m args below meth c H locs cells slots Q (F0 m 1750 ls [.int r]) := by
  have hR : ds_Rm room_1 (ds_rm 20) cells slots := ⟨rfl, rfl, by decide, by decide, hc, hs⟩
  refine ds_Rw_W2 (zr := true) (lw := true) (R := room_1) dw_CdL X hA hAm hT (dw_cls D ad adV cy L xs) hR ?_ (ds_HT_ok l ad adV p e room_1 s m args below meth c cells slots Q D A cy 7 "DealtSeaLaw" Ts code X hT (by decide) (by decide) hc hs) (dw_HX hX h200 hn200) (st := [.int r]) hr hP hS hl
  refine ⟨?_, ?_, ?_, ?_, ?_, ?_, ?_⟩
  · intro pc ls x z1 H locs hd hok hz
    cases hz
  · intro pc ls x z1 H locs hd hok
    obtain ⟨pc1, len1, hm⟩ := hok
    exact (Bool.false_ne_true (List.all_eq_true.mp dw_jL _ hm)).elim
  · intro pc ls x z1 H locs hd hok ho
    cases ho
  · intro pc ls x z1 H locs hd hok ho
    cases ho
  · intro pc ls z1 H locs hd hok ho
    cases ho
  · intro pc i lv ls st z1 H locs hpc hd ho
    cases ho
  · intro pc i1 n lv ls1 x r z1 H1 locs1 hpc hd _ hlv ho hP1 hS1 hl1
    obtain ⟨ins, len, hm⟩ := hpc
    obtain ⟨raw, g1, g2, g3⟩ := dw_CdL _ hm
    dsimp only at g1 g2 g3
    rw [hd] at g1
    have e1 : raw = .iinc i1 n := (Prod.mk.inj (Except.ok.inj g1)).1.symm
    subst e1
    have e2 : ins = .jsr 0 := by rw [← g3]; rfl
    subst e2
    have e : pc = 1833 := Nat.eq_of_beq_eq_true (List.all_eq_true.mp dw_jL _ hm)
    subst e
    subst hlv
    cases ho
    refine dw_back X hl1 (fun ls' hl' => k z' H1 locs1 ls' hI' hP1 hS1 ?_)
    rw [nI_add] at hl'
    exact hl'
end AFTER
