/-! a round of 49: up to the call of led -/
def ds_c_LawB : ds_Code := [(23, .iload 4, 2), (25, .aload 0, 1), (26, .castore, 1), (27, .iconst 6, 2), (29, .isub, 1), (30, .if_icmp .gt 1839, 3), (33, .aload 0, 1), (34, .iload 4, 2), (36, .caload, 1), (37, .iconst 63, 2), (39, .iand, 1), (40, .tableswitch 1833 0 51 #[264, 337, 362, 375, 388, 425, 450, 475, 512, 525, 538, 551, 576, 613, 626, 639, 676, 701, 738, 763, 776, 801, 838, 851, 876, 913, 991, 1057, 1094, 1131, 1180, 1217, 1266, 1315, 1328, 1341, 1354, 1367, 1428, 1465, 1502, 1539, 1576, 1625, 1650, 1675, 1688, 1701, 1714, 1739, 1795, 1820], 224), (1739, .aload 1, 1), (1740, .aload 0, 1), (1741, .iload 4, 2), (1743, .iconst 1, 1), (1744, .iadd, 1), (1745, .caload, 1), (1746, .aload 3, 1)]
theorem ds_kLB : ds_ck "DealtSeaLaw" true true code ds_c_LawB = true := by decide +kernel
theorem dw_CdB : ds_Cd "DealtSeaLaw" true true code ds_c_LawB := ds_Cd_of ds_kLB
section STP
variable {p : Program} {l : Launch} {e : Env} {R : Room} {s : State} {m : MethodId} {args : Array Value} {below : List Frame} {meth : Method} {c : Code} {cells slots : Nat} {Q : State → Prop}
variable {D : va_G} {A : Nat → Prop} {ad adV : Nat → Nat} {cy : Nat → ClassId} {nL : Nat} {own : String} {Ts : List Cond} {bytes : ByteArray} {zr lw : Bool}
variable {o : ds_Out} {cl : Nat → List Value → ds_St → Option ds_Out} {rm : Room} {cd : ds_Code} {cu : ds_Cuts} {K : Nat → ds_Lv → List Value → ds_St → Option ds_Out}
theorem ds_stp_W (hcd : ds_Cd own zr lw bytes cd) (X : ds_Cx p s m args c D A ad cy nL own Ts bytes) (hA : ∀ q : Nat, s.heap.size ≤ q → A q) (hAm : ds_Amb s) (hT : ds_Tx ad adV A s s.heap)
    (hcl : ∀ j as z1 o1, j < ds_mt.length → cl j as z1 = some o1 → ds_Con l D ad adV cy rm j as z1 o1) (hR : ds_Rm R rm cells slots) (hE : ds_End2 p l e R s m args below meth c cells slots Q D A ad cy nL bytes zr lw (fun pc => ∃ i len, (pc, i, len) ∈ cd) (fun i => ∃ pc len, (pc, i, len) ∈ cd) o) (hHT : ds_HT p l e R s m args below meth c cells slots Q A ad nL own bytes) (hHX : ds_HX s A ad lw cl)
    (hKW : ∀ (pc : Nat) (lv : ds_Lv) (st : List Value) (z : ds_St) (H : Heap) (locs : List Loc) (ls : Array Slot), K pc lv st z = some o → va_P D vwCl (ds_ws cy ad z) H → va_S A s.heap H locs → ds_LV ad ls nL lv → W p l e R s m args below meth c H locs cells slots Q (F0 m pc ls (st.map (ds_v ad)))) :
    ∀ (n pc : Nat) (lv : ds_Lv) (st : List Value) (z : ds_St) (H : Heap) (locs : List Loc) (ls : Array Slot), ds_stp cd cu cl K n pc lv st z = some o → va_P D vwCl (ds_ws cy ad z) H → va_S A s.heap H locs → ds_LV ad ls nL lv → W p l e R s m args below meth c H locs cells slots Q (F0 m pc ls (st.map (ds_v ad))) := by
  intro n
  induction n with
  | zero => intro pc lv st z H locs ls h hP hS hl; exact hKW _ _ _ _ _ _ _ h hP hS hl
  | succ n ih =>
    intro pc lv st z H locs ls h hP hS hl
    rw [ds_stp] at h
    cases hf : ds_find cd pc with
    | none => rw [hf] at h; cases h
    | some q =>
      rw [hf] at h
      obtain ⟨ins, len⟩ := q
      dsimp only at h
      have hmem := ds_find_mem hf
      obtain ⟨raw, hd, hln, hr⟩ := hcd _ hmem
      dsimp only at hd hln hr
      rw [← hr] at h
      refine ds_step2 ⟨ins, len, hmem⟩ X hA hAm hT hcl hR hE hHT hHX hd hln ⟨pc, len, by rw [hr]; exact hmem⟩ h (fun pc1 lv1 st1 z1 H1 locs1 ls1 h1 hP1 hS1 hl1 => ?_) hP hS hl
      have hm := hl1.msk cu pc1
      unfold ds_msk at hm
      cases hcut : ds_cutAt cu pc1 with
      | some bs =>
        rw [hcut] at h1 hm
        exact hKW _ _ _ _ _ _ _ h1 hP1 hS1 hm
      | none =>
        rw [hcut] at h1
        exact ih _ _ _ _ _ _ _ h1 hP1 hS1 hl1
end STP
noncomputable def dw_K (lv0 : ds_Lv) (st0 : List Value) (z0 : ds_St) : Nat → ds_Lv → List Value → ds_St → Option ds_Out := fun pc lv st z => @ite _ (pc = 1747 ∧ lv = lv0 ∧ st = st0 ∧ z = z0) (Classical.propDecidable _) (some (some (.float 0), z0)) none
theorem dw_K_at (lv0 : ds_Lv) (st0 : List Value) (z0 : ds_St) : dw_K lv0 st0 z0 1747 lv0 st0 z0 = some (some (.float 0), z0) := by
  unfold dw_K
  rw [if_pos ⟨rfl, rfl, rfl, rfl⟩]
theorem dw_K_of {lv0 lv : ds_Lv} {st0 st : List Value} {z0 z : ds_St} {pc : Nat} {o : ds_Out} (h : dw_K lv0 st0 z0 pc lv st z = some o) : pc = 1747 ∧ lv = lv0 ∧ st = st0 ∧ z = z0 := by
  unfold dw_K at h
  split at h
  · assumption
  · cases h
set_option maxRecDepth 20000 in
theorem b_LawB (cl : Nat → List Value → ds_St → Option ds_Out) (K : Nat → ds_Lv → List Value → ds_St → Option ds_Out) (x4 : Int32) (z : ds_St) : ds_stp ds_c_LawB [(1747, [true, true, true, true, true, true, true])] cl K 60 23 (dw_lv x4) [] z =
  (ds_cI cl 9998 [] z fun r1 _ => if (r1 - 6) < x4 then none else (ds_cI cl 9999 [.int x4] z fun r2 _ => ds_sw (r2 &&& 63) (fun t => if t = 1739 then (ds_cI cl 9999 [.int (x4 + 1)] z fun r _ => K 1747 (dw_lv x4) [.ref 111, .int r, .ref 0] z) else none) 1833 0 [264, 337, 362, 375, 388, 425, 450, 475, 512, 525, 538, 551, 576, 613, 626, 639, 676, 701, 738, 763, 776, 801, 838, 851, 876, 913, 991, 1057, 1094, 1131, 1180, 1217, 1266, 1315, 1328, 1341, 1354, 1367, 1428, 1465, 1502, 1539, 1576, 1625, 1650, 1675, 1688, 1701, 1714, 1739, 1795, 1820])) := rfl
