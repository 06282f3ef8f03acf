/-! the step theorem -/
section STEP
variable (p : Program) (l : Launch) (e : Env) (R : Room) (s : State) (m : MethodId) (args : Array Value) (below : List Frame) (meth : Method) (c : Code) (cells slots : Nat) (Q : State → Prop)
variable (D : va_G) (A : Nat → Prop) (ad : Nat → Nat) (cy : Nat → ClassId) (nL : Nat) (own : String) (Ts : List Cond) (bytes : ByteArray)
/-- where the run goes on, the machine comes to Q -/
def ds_Go (k : ds_KT) (o : ds_Out) : Prop := ∀ (pc : Nat) (lv : ds_Lv) (st : List Value) (z : ds_St) (H : Heap) (locs : List Loc) (ls : Array Slot), k pc lv st z = some o → va_P D vwCl (ds_ws cy ad z) H → va_S A s.heap H locs → ds_LV ad ls nL lv →
  W p l e R s m args below meth c H locs cells slots Q (F0 m pc ls (st.map (ds_v ad)))
/-- what holds all along a method -/
def ds_Cx : Prop := p.tables.exec = Jvm.exec ∧ c.code = bytes ∧ c.maxLocals = nL ∧ s.vm.findClass own = some m.cls ∧ (∀ w ∈ Ts, w.before args s = true) ∧ (∀ w ∈ lw_tbl, goodWord w = true → w ∈ Ts) ∧ va_K D vwCl (ds_tys cy) s ∧ ∀ z, va_D A (ds_ws cy ad z)
end STEP
section STEP2
variable {p : Program} {l : Launch} {e : Env} {R : Room} {s : State} {m : MethodId} {args : Array Value} {below : List Frame} {meth : Method} {c : Code} {cells slots : Nat} {Q : State → Prop}
variable {D : va_G} {A : Nat → Prop} {ad : Nat → Nat} {cy : Nat → ClassId} {nL : Nat} {own : String} {Ts : List Cond} {bytes : ByteArray}
variable {k : ds_KT} {o : ds_Out} {pc : Nat} {lv : ds_Lv} {st : List Value} {z : ds_St} {H : Heap} {locs : List Loc} {ls : Array Slot}
theorem ds_isK_of {q c0 : Nat} {a : Option ds_Out} (h : ds_isK q c0 a = some o) : ds_K q = c0 ∧ a = some o := by
  unfold ds_isK at h
  split at h
  · rename_i hb; exact ⟨Nat.eq_of_beq_eq_true hb, h⟩
  · cases h
theorem ds_chk_of {i : Int32} {n : Nat} {a : Option ds_Out} (h : ds_chk i n a = some o) : vp_in i n ∧ a = some o := by
  unfold ds_chk at h
  split at h
  · rename_i hb
    refine ⟨?_, h⟩
    unfold ds_in at hb
    simp only [Bool.and_eq_true, Bool.not_eq_true', decide_eq_false_iff_not, decide_eq_true_eq] at hb
    exact fun hh => hh.elim hb.1 (fun h2 => absurd hb.2 (Nat.not_lt.mpr h2))
  · cases h
theorem ds_b_of {b : Bool} {a : Option ds_Out} (h : ds_b b a = some o) : b = true ∧ a = some o := by
  unfold ds_b at h
  cases b
  · cases h
  · exact ⟨rfl, h⟩
theorem ds_isA_of {q : Nat} {a : Option ds_Out} (h : ds_isA q a = some o) : (ds_K q = 10 ∨ ds_K q = 11 ∨ ds_K q = 12) ∧ a = some o := by
  unfold ds_isA at h
  split at h
  · rename_i hb
    simp only [Bool.or_eq_true] at hb
    exact ⟨hb.imp Nat.eq_of_beq_eq_true (fun q => q.imp Nat.eq_of_beq_eq_true Nat.eq_of_beq_eq_true), h⟩
  · cases h
theorem ds_isB_of {v : Int32} {a : Option ds_Out} (h : ds_isB v a = some o) : (v = 0 ∨ v = 1) ∧ a = some o := by
  unfold ds_isB at h
  split at h
  · rename_i hb
    simp only [Bool.or_eq_true, decide_eq_true_eq] at hb
    exact ⟨hb, h⟩
  · cases h
theorem ds_nz_of {v : Int32} {a : Option ds_Out} (h : ds_nz v a = some o) : ¬ v = 0 ∧ a = some o := by
  unfold ds_nz at h
  split at h
  · cases h
  · rename_i hb; exact ⟨by simpa using hb, h⟩
theorem ds_nzL_of {v : Int64} {a : Option ds_Out} (h : ds_nzL v a = some o) : ¬ v = 0 ∧ a = some o := by
  unfold ds_nzL at h
  split at h
  · cases h
  · rename_i hb; exact ⟨by simpa using hb, h⟩
theorem ds_uI_of {f : Int32 → List Value → Option ds_Out} (h : ds_uI st f = some o) : ∃ x r, st = .int x :: r ∧ f x r = some o := by
  unfold ds_uI at h
  split at h
  · exact ⟨_, _, rfl, h⟩
  · cases h
theorem ds_uL_of {f : Int64 → List Value → Option ds_Out} (h : ds_uL st f = some o) : ∃ x r, st = .long x :: r ∧ f x r = some o := by
  unfold ds_uL at h
  split at h
  · exact ⟨_, _, rfl, h⟩
  · cases h
theorem ds_uR_of {f : Nat → List Value → Option ds_Out} (h : ds_uR st f = some o) : ∃ x r, st = .ref x :: r ∧ f x r = some o := by
  unfold ds_uR at h
  split at h
  · exact ⟨_, _, rfl, h⟩
  · cases h
theorem ds_bI_of {f : Int32 → Int32 → List Value → Option ds_Out} (h : ds_bI st f = some o) : ∃ x y r, st = .int y :: .int x :: r ∧ f x y r = some o := by
  unfold ds_bI at h
  split at h
  · exact ⟨_, _, _, rfl, h⟩
  · cases h
theorem ds_bL_of {f : Int64 → Int64 → List Value → Option ds_Out} (h : ds_bL st f = some o) : ∃ x y r, st = .long y :: .long x :: r ∧ f x y r = some o := by
  unfold ds_bL at h
  split at h
  · exact ⟨_, _, _, rfl, h⟩
  · cases h
/-- an object's cell -/
theorem ds_obj_at {q c0 : Nat} (hc : ds_K q = c0) (h10 : c0 < 10) : ∃ i : Nat, ds_pls[i]? = some q ∧ (ds_ws cy ad z)[i]? = some (ad q, .inr (c0, (List.range (ds_nf c0)).map (ds_fv ad z q c0))) := by
  obtain ⟨i, hi⟩ := ds_pls_at (q := q) (by omega)
  refine ⟨i, hi, ?_⟩
  rw [ds_ws_at cy ad z hi]
  unfold ds_cell
  rw [if_neg (by omega), if_neg (by omega), if_neg (by omega), hc]
theorem ds_rowI_at {q : Nat} (hc : ds_K q = 11) : ∃ i : Nat, ds_pls[i]? = some q ∧ (ds_ws cy ad z)[i]? = some (ad q, .inl (cy 11, ds_N q, .inl (z.1 q))) := by
  obtain ⟨i, hi⟩ := ds_pls_at (q := q) (by omega)
  refine ⟨i, hi, ?_⟩
  rw [ds_ws_at cy ad z hi]
  unfold ds_cell
  rw [if_neg (by omega), if_pos hc]
theorem ds_rowB_at {q : Nat} (hc : ds_K q = 10) : ∃ i : Nat, ds_pls[i]? = some q ∧ (ds_ws cy ad z)[i]? = some (ad q, .inl (cy 10, ds_N q, .inl (z.1 q))) := by
  obtain ⟨i, hi⟩ := ds_pls_at (q := q) (by omega)
  refine ⟨i, hi, ?_⟩
  rw [ds_ws_at cy ad z hi]
  unfold ds_cell
  rw [if_pos hc]
theorem ds_rowL_at {q : Nat} (hc : ds_K q = 12) : ∃ i : Nat, ds_pls[i]? = some q ∧ (ds_ws cy ad z)[i]? = some (ad q, .inl (cy 12, ds_N q, .inr (.inl (z.2.1 q)))) := by
  obtain ⟨i, hi⟩ := ds_pls_at (q := q) (by omega)
  refine ⟨i, hi, ?_⟩
  rw [ds_ws_at cy ad z hi]
  unfold ds_cell
  rw [if_neg (by omega), if_neg (by omega), if_pos hc]
set_option maxHeartbeats 4000000 in
theorem ds_s_get (X : ds_Cx p s m args c D A ad cy nL own Ts bytes) {i f : Nat} (hf : ds_f3 ds_fl own i = some f) (hd : decode bytes pc = .ok (.getfield i, 3)) (h : ds_gf (f / 64) (f % 64) (pc + 3) lv st z k = some o)
    (hG : ds_Go p l e R s m args below meth c cells slots Q D A ad cy nL k o) (hP : va_P D vwCl (ds_ws cy ad z) H) (hS : va_S A s.heap H locs) (hl : ds_LV ad ls nL lv) : W p l e R s m args below meth c H locs cells slots Q (F0 m pc ls (st.map (ds_v ad))) := by
  obtain ⟨hx, hb, hml, hown, hts, hin, hK, hD⟩ := X
  obtain ⟨h10, hk0⟩ := ds_fl_small _ (ds_f3_mem hf)
  obtain ⟨hw, hg⟩ := ds_fl_word hf
  dsimp only at h10 hk0
  unfold ds_gf at h
  split at h
  · rename_i q r
    obtain ⟨hq, h⟩ := ds_isK_of h
    obtain ⟨C, T, N, ty0, hcl, hN, hty, hnm, hu, hC, hft⟩ := ds_Kd_all h10
    obtain ⟨j, hj, he⟩ := ds_obj_at (cy := cy) (ad := ad) (z := z) hq h10
    have hT : ds_Tk f = T (f % 64) := by unfold ds_Tk; rw [hcl]
    rw [hT] at hw hg
    have hlink := hts _ (hin _ hw hg)
    have hkN : f % 64 < N := by rw [hN]; exact hk0
    have hv : ((List.range (ds_nf (f / 64))).map (ds_fv ad z q (f / 64)))[f % 64]? = some (ds_fv ad z q (f / 64) (f % 64)) := by
      rw [List.getElem?_map, List.getElem?_range hk0]; rfl
    refine va_get (D := D) (ci := f / 64) (v := ds_fv ad z q (f / 64) (f % 64)) (C := C) (T := T) (N := N) hx hb hts (fun w h9 => hin w (hu w h9).1 (hu w h9).2) hown hK hP j he hcl (f % 64) hkN hlink (fun _ h9 => h9) hv hd ?_
    split at h
    · rename_i hf0
      have := hG _ _ _ _ H locs ls h hP hS hl
      simp only [ds_fv, hf0]
      exact this
    · rename_i hf0
      have := hG _ _ _ _ H locs ls h hP hS hl
      simp only [ds_fv, hf0]
      exact this
    · rename_i hf0
      have := hG _ _ _ _ H locs ls h hP hS hl
      simp only [ds_fv, hf0]
      exact this
    · rename_i hf0
      have := hG _ _ _ _ H locs ls h hP hS hl
      simp only [ds_fv, hf0]
      exact this
    · cases h
  · cases h
theorem ds_fv_setI {q c0 f : Nat} {v : Int32} (hf : ds_FT c0 f = 1 ∨ ds_FT c0 f = 3) : ((List.range (ds_nf c0)).map (ds_fv ad z q c0)).set f (.int v) = (List.range (ds_nf c0)).map (ds_fv ad (ds_setI z q f v) q c0) := by
  apply List.ext_getElem?
  intro i
  by_cases hi : i = f
  · subst hi
    rw [List.getElem?_set_self', List.getElem?_map, List.getElem?_map]
    cases hr : (List.range (ds_nf c0))[i]? with
    | none => rfl
    | some r =>
      have hri : r = i := by
        have := List.getElem?_eq_some_iff.mp hr
        obtain ⟨h1, h2⟩ := this
        rw [List.getElem_range] at h2
        exact h2.symm
      subst hri
      rcases hf with hf | hf <;> simp [ds_fv, hf, ds_setI, upd]
  · rw [List.getElem?_set_ne (fun e => hi e.symm), List.getElem?_map, List.getElem?_map]
    cases hr : (List.range (ds_nf c0))[i]? with
    | none => rfl
    | some r =>
      have hri : r = i := by
        obtain ⟨h1, h2⟩ := List.getElem?_eq_some_iff.mp hr
        rw [List.getElem_range] at h2
        exact h2.symm
      subst hri
      simp only [Option.map_some, Option.some.injEq]
      unfold ds_fv
      split
      · rfl
      · rfl
      · simp [ds_setI, upd, hi]
theorem ds_fv_setL {q c0 f : Nat} {v : Int64} (hf : ds_FT c0 f = 2) : ((List.range (ds_nf c0)).map (ds_fv ad z q c0)).set f (.long v) = (List.range (ds_nf c0)).map (ds_fv ad (ds_setL z q f v) q c0) := by
  apply List.ext_getElem?
  intro i
  by_cases hi : i = f
  · subst hi
    rw [List.getElem?_set_self', List.getElem?_map, List.getElem?_map]
    cases hr : (List.range (ds_nf c0))[i]? with
    | none => rfl
    | some r =>
      have hri : r = i := by
        obtain ⟨h1, h2⟩ := List.getElem?_eq_some_iff.mp hr
        rw [List.getElem_range] at h2
        exact h2.symm
      subst hri
      simp [ds_fv, hf, ds_setL, vp_updL]
  · rw [List.getElem?_set_ne (fun e => hi e.symm), List.getElem?_map, List.getElem?_map]
    cases hr : (List.range (ds_nf c0))[i]? with
    | none => rfl
    | some r =>
      have hri : r = i := by
        obtain ⟨h1, h2⟩ := List.getElem?_eq_some_iff.mp hr
        rw [List.getElem_range] at h2
        exact h2.symm
      subst hri
      simp only [Option.map_some, Option.some.injEq]
      unfold ds_fv
      split
      · rfl
      · simp [ds_setL, vp_updL, hi]
      · rfl
theorem ds_fv_setS {q c0 f j v : Nat} (hf : ds_FT c0 f = 0) (hj : ds_code q f = j) (hj4 : j < 4) : ((List.range (ds_nf c0)).map (ds_fv ad z q c0)).set f (.ref (ad v)) = (List.range (ds_nf c0)).map (ds_fv ad (ds_setS z j v) q c0) := by
  apply List.ext_getElem?
  intro i
  by_cases hi : i = f
  · subst hi
    rw [List.getElem?_set_self', List.getElem?_map, List.getElem?_map]
    cases hr : (List.range (ds_nf c0))[i]? with
    | none => rfl
    | some r =>
      have hri : r = i := by
        obtain ⟨h1, h2⟩ := List.getElem?_eq_some_iff.mp hr
        rw [List.getElem_range] at h2
        exact h2.symm
      subst hri
      simp only [Option.map_some, Option.some.injEq]
      unfold ds_fv
      rw [hf]
      have : ds_R (ds_setS z j v) q r = v := by
        unfold ds_R
        show ds_Rr _ (ds_code q r) = v
        rw [hj]
        match j, hj4 with
        | 0, _ => simp [ds_Rr, ds_setS]
        | 1, _ => simp [ds_Rr, ds_setS]
        | 2, _ => simp [ds_Rr, ds_setS]
        | 3, _ => simp [ds_Rr, ds_setS]
        | n + 4, h => exact absurd h (by omega)
      rw [this]
      rfl
  · rw [List.getElem?_set_ne (fun e => hi e.symm), List.getElem?_map, List.getElem?_map]
    cases hr : (List.range (ds_nf c0))[i]? with
    | none => rfl
    | some r =>
      have hri : r = i := by
        obtain ⟨h1, h2⟩ := List.getElem?_eq_some_iff.mp hr
        rw [List.getElem_range] at h2
        exact h2.symm
      subst hri
      simp only [Option.map_some, Option.some.injEq]
      unfold ds_fv
      rw [ds_R_S]
      · rfl
      · intro e2
        have h1 := ds_home_of (q := q) (k := r) (by rw [e2]; exact hj4)
        have h2 := ds_home_of (q := q) (k := f) (by rw [hj]; exact hj4)
        rw [e2, ← hj, ← h2] at h1
        exact hi (congrArg Prod.snd h1)
theorem ds_narrow_ref (ty : FieldType) (a : Nat) : narrow ty (.ref a) = .ref a := by cases ty <;> rfl
theorem ds_fits_ref {ty : FieldType} (h : fits ty (.ref 0) = true) (a : Nat) : fits ty (.ref a) = true := by
  cases ty <;> first | rfl | (simp [fits] at h)
theorem ds_nb {v : Int32} (h : v = 0 ∨ v = 1) : narrow .boolean (.int v) = .int v ∧ fits .boolean (.int v) = true := by
  rcases h with rfl | rfl <;> exact ⟨by decide +kernel, by decide +kernel⟩
set_option maxHeartbeats 4000000 in
theorem ds_s_put (X : ds_Cx p s m args c D A ad cy nL own Ts bytes) {i f : Nat} (hf : ds_f3 ds_fl own i = some f) (hfin : (ds_Tk f).2.2.2 = false) (hd : decode bytes pc = .ok (.putfield i, 3)) (h : ds_pf (f / 64) (f % 64) (pc + 3) lv st z k = some o)
    (hG : ds_Go p l e R s m args below meth c cells slots Q D A ad cy nL k o) (hP : va_P D vwCl (ds_ws cy ad z) H) (hS : va_S A s.heap H locs) (hl : ds_LV ad ls nL lv) : W p l e R s m args below meth c H locs cells slots Q (F0 m pc ls (st.map (ds_v ad))) := by
  obtain ⟨hx, hb, hml, hown, hts, hin, hK, hD⟩ := X
  obtain ⟨h10, hk0⟩ := ds_fl_small _ (ds_f3_mem hf)
  obtain ⟨hw, hg⟩ := ds_fl_word hf
  dsimp only at h10 hk0
  obtain ⟨C, T, N, ty0, hcl, hN, hty, hnm, hu, hC, hft⟩ := ds_Kd_all h10
  have hT : ds_Tk f = T (f % 64) := by unfold ds_Tk; rw [hcl]
  rw [hT] at hw hg hfin
  have hlink := hts _ (hin _ hw hg)
  have hkN : f % 64 < N := by rw [hN]; exact hk0
  have hlen : ∀ q, f % 64 < ((List.range (ds_nf (f / 64))).map (ds_fv ad z q (f / 64))).length := fun q => by rw [List.length_map, List.length_range]; exact hk0
  obtain ⟨ft1, ft2, ft3, ft0⟩ := hft _ hkN
  unfold ds_pf at h
  split at h
  · rename_i v q r
    obtain ⟨hq, h⟩ := ds_isK_of h
    obtain ⟨j, hj, he⟩ := ds_obj_at (cy := cy) (ad := ad) (z := z) hq h10
    have go : ∀ ty, ty0 (f % 64) = ty → (ds_FT (f / 64) (f % 64) = 1 ∨ ds_FT (f / 64) (f % 64) = 3) → narrow ty (.int v) = .int v → fits ty (.int v) = true → k (pc + 3) lv r (ds_setI z q (f % 64) v) = some o → W p l e R s m args below meth c H locs cells slots Q (F0 m pc ls (((.int v : Value) :: .ref q :: r).map (ds_v ad))) := by
      intro ty h1 h2 h3 h4 h5
      refine va_put (D := D) (ci := f / 64) (v := .int v) (ty := ty) (C := C) (T := T) (N := N) hx hb hts (fun w h9 => hin w (hu w h9).1 (hu w h9).2) ty0 hty hnm hown hK hP (hD z) hS j he hcl (f % 64) hkN hlink (fun _ h9 => h9) hfin (by rw [hty _ hkN, h1]) h3 h4 (hlen q) hd (fun H1 locs1 hP1 _ hS1 => ?_)
      rw [ds_fv_setI h2] at hP1
      have hcell : ds_cell cy ad (ds_setI z q (f % 64) v) q = .inr (f / 64, (List.range (ds_nf (f / 64))).map (ds_fv ad (ds_setI z q (f % 64) v) q (f / 64))) := by
        unfold ds_cell
        rw [if_neg (by omega), if_neg (by omega), if_neg (by omega), hq]
      rw [← hcell, ds_ws_set cy ad z _ hj (ds_cell_I cy ad z q (f % 64) v)] at hP1
      exact hG _ _ _ _ _ _ _ h5 hP1 hS1 hl
    split at h
    · rename_i h1
      exact go _ (ft1 h1) (Or.inl h1) rfl rfl h
    · rename_i h1
      obtain ⟨hv, h⟩ := ds_isB_of h
      exact go _ (ft3 h1) (Or.inr h1) (ds_nb hv).1 (ds_nb hv).2 h
    · cases h
  · rename_i v q r
    obtain ⟨hq, h⟩ := ds_isK_of h
    obtain ⟨j, hj, he⟩ := ds_obj_at (cy := cy) (ad := ad) (z := z) hq h10
    split at h
    · rename_i h1
      refine va_put (D := D) (ci := f / 64) (v := .long v) (ty := .long) (C := C) (T := T) (N := N) hx hb hts (fun w h9 => hin w (hu w h9).1 (hu w h9).2) ty0 hty hnm hown hK hP (hD z) hS j he hcl (f % 64) hkN hlink (fun _ h9 => h9) hfin (by rw [hty _ hkN, ft2 h1]) rfl rfl (hlen q) hd (fun H1 locs1 hP1 _ hS1 => ?_)
      rw [ds_fv_setL h1] at hP1
      have hcell : ds_cell cy ad (ds_setL z q (f % 64) v) q = .inr (f / 64, (List.range (ds_nf (f / 64))).map (ds_fv ad (ds_setL z q (f % 64) v) q (f / 64))) := by
        unfold ds_cell
        rw [if_neg (by omega), if_neg (by omega), if_neg (by omega), hq]
      rw [← hcell, ds_ws_set cy ad z _ hj (ds_cell_L cy ad z q (f % 64) v)] at hP1
      exact hG _ _ _ _ _ _ _ h hP1 hS1 hl
    · cases h
  · rename_i v q r
    obtain ⟨hq, h⟩ := ds_isK_of h
    obtain ⟨j, hj, he⟩ := ds_obj_at (cy := cy) (ad := ad) (z := z) hq h10
    have hf0 : ds_code q (f % 64) < 4 → ds_FT (f / 64) (f % 64) = 0 := by
      intro h4
      have h2 := ds_home_of h4
      rw [← hq]
      generalize ds_code q (f % 64) = y at h2 h4
      match y, h4 with
      | 0, _ => simp [ds_home] at h2; rw [h2.1, h2.2]; rfl
      | 1, _ => simp [ds_home] at h2; rw [h2.1, h2.2]; rfl
      | 2, _ => simp [ds_home] at h2; rw [h2.1, h2.2]; rfl
      | 3, _ => simp [ds_home] at h2; rw [h2.1, h2.2]; rfl
      | n + 4, h => exact absurd h (by omega)
    have go : ∀ y, ds_code q (f % 64) = y → y < 4 → k (pc + 3) lv r (ds_setS z y v) = some o → W p l e R s m args below meth c H locs cells slots Q (F0 m pc ls (((.ref v : Value) :: .ref q :: r).map (ds_v ad))) := by
      intro y h1 h2 h5
      have hz := hf0 (by rw [h1]; exact h2)
      have hfit := ft0 hz
      refine va_put (D := D) (ci := f / 64) (v := .ref (ad v)) (ty := ty0 (f % 64)) (C := C) (T := T) (N := N) hx hb hts (fun w h9 => hin w (hu w h9).1 (hu w h9).2) ty0 hty hnm hown hK hP (hD z) hS j he hcl (f % 64) hkN hlink (fun _ h9 => h9) hfin (hty _ hkN) (ds_narrow_ref _ _) (ds_fits_ref hfit.2 _) (hlen q) hd (fun H1 locs1 hP1 _ hS1 => ?_)
      rw [ds_fv_setS hz h1 h2] at hP1
      have hcell : ds_cell cy ad (ds_setS z y v) q = .inr (f / 64, (List.range (ds_nf (f / 64))).map (ds_fv ad (ds_setS z y v) q (f / 64))) := by
        unfold ds_cell
        rw [if_neg (by omega), if_neg (by omega), if_neg (by omega), hq]
      have hother := ds_cell_S cy ad z q (f % 64) v (by rw [h1]; exact h2)
      rw [h1] at hother
      rw [← hcell, ds_ws_set cy ad z _ hj hother] at hP1
      exact hG _ _ _ _ _ _ _ h5 hP1 hS1 hl
    split at h
    · rename_i h1
      exact go 0 h1 (by omega) (ds_isK_of h).2
    · rename_i h1
      exact go 1 h1 (by omega) (ds_isK_of h).2
    · rename_i h1
      exact go 2 h1 (by omega) (ds_isK_of h).2
    · rename_i h1
      exact go 3 h1 (by omega) (ds_isK_of h).2
    · cases h
  · cases h
end STEP2
