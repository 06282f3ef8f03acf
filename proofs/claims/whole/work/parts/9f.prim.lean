theorem s_mnext (d : Nat) (z : ds_St) (B : Nat → Nat) (n e : Nat) (he : e ≤ n) (hb : dr_bM z B n) (h5 : z.1 90 5 = nI e) : ∃ z', ds_call (d + 2) j_Mod_next [.ref 90] z = some (none, z') ∧ dr_tM z' B n e ∧ dr_g1 z z' := by
  have n9 := hb.2.2.1
  have sp := dr_mspaces d B n z hb (n - e) e rfl he
  obtain ⟨a1, a2⟩ := dr_at_ok B he
  have nsp := (dr_rn_end (P := dr_sp) (B := B) (n - e) e rfl he).2.1
  let z1 := ds_rowI z 90 (upd (z.1 90) 4 (nI (dr_at B n e)))
  have z1e : ds_setI z 90 4 (nI (dr_at B n e)) = z1 := ds_setI_row _ _ _ _
  have f1 : dr_g1 z z1 := dr_g1_fld _ (dr_g1_refl z) (by decide) (by decide)
  have g4 : z1.1 90 4 = nI (dr_at B n e) := by
    show (ds_rowI z 90 (upd (z.1 90) 4 (nI (dr_at B n e)))).1 90 4 = _
    rw [ds_rowI_self, pk_us]
  clear_value z1
  let z2 := ds_rowI (ds_rowI z1 90 (upd (z1.1 90) 8 (nI 0))) 90 (upd ((ds_rowI z1 90 (upd (z1.1 90) 8 (nI 0))).1 90) 7 (nI 0))
  have z2e : ds_setI (ds_setI z1 90 8 (nI 0)) 90 7 (nI 0) = z2 := by rw [ds_setI_row, ds_setI_row]
  have f2 : dr_g1 z z2 := dr_g1_fld _ (dr_g1_fld _ f1 (by decide) (by decide)) (by decide) (by decide)
  have h4 : z2.1 90 4 = nI (dr_at B n e) := by
    show (ds_rowI (ds_rowI z1 90 (upd (z1.1 90) 8 (nI 0))) 90 (upd ((ds_rowI z1 90 (upd (z1.1 90) 8 (nI 0))).1 90) 7 (nI 0))).1 90 4 = _
    rw [ds_rowI_self, pk_un (by decide), ds_rowI_self, pk_un (by decide)]; exact g4
  have h8 : z2.1 90 8 = nI 0 := by
    show (ds_rowI (ds_rowI z1 90 (upd (z1.1 90) 8 (nI 0))) 90 (upd ((ds_rowI z1 90 (upd (z1.1 90) 8 (nI 0))).1 90) 7 (nI 0))).1 90 8 = _
    rw [ds_rowI_self, pk_un (by decide), ds_rowI_self, pk_us]
  have h7 : z2.1 90 7 = nI 0 := by
    show (ds_rowI (ds_rowI z1 90 (upd (z1.1 90) 8 (nI 0))) 90 (upd ((ds_rowI z1 90 (upd (z1.1 90) 8 (nI 0))).1 90) 7 (nI 0))).1 90 7 = _
    rw [ds_rowI_self, pk_us]
  clear_value z2
  have hb1 := dr_bM_g1 hb f1
  have hb2 := dr_bM_g1 hb f2
  have start : ds_call (d + 2) j_Mod_next [.ref 90] z = ds_nn (ds_Rw ds_c_Mod_next ds_u_Mod_next (ds_call (d + 1)) 5 [some (.ref 90), some (.int (nI ((dr_at B n e)))), none, none] [] z) := by
    rw [c_Mod_next, b_Mod_next_0, h5, sp]
  unfold dr_tM dr_kd dr_nx dr_wl dr_wh dr_dl
  have ea : e + (dr_rn dr_sp B n e).length = dr_at B n e := rfl
  rw [ea] at nsp
  generalize dr_at B n e = p at *
  rw [start, b_Mod_next_5]
  by_cases q1 : n ≤ p
  · have lk := s_mlook0 d p z B n hb q1 (by omega)
    have lk1 := s_mlook0 d p z1 B n hb1 q1 (by omega)
    have m32 : ¬ ds_m1 = nI 32 := by rw [ds_m1_eq (by decide)]; exact id
    let y := ds_rowI (ds_rowI z2 90 (upd (z2.1 90) 6 (nI 0))) 90 (upd ((ds_rowI z2 90 (upd (z2.1 90) 6 (nI 0))).1 90) 5 (nI p))
    have ye : ds_setI (ds_setI z2 90 6 (nI 0)) 90 5 (nI p) = y := by rw [ds_setI_row, ds_setI_row]
    refine ⟨y, ?_, ⟨?_, ?_, ?_, fun h => ?_, fun h => ?_⟩, dr_g1_fld _ (dr_g1_fld _ f2 (by decide) (by decide)) (by decide) (by decide)⟩
    · simp only [ds_cI_t lk, dl_32, m32, not_false_eq_true, if_true, z1e, ds_cI_t lk1, ↓dl_m1, not_true_eq_false, if_false, dl_0, z2e, ye, ds_nn]
    · show (ds_rowI (ds_rowI z2 90 (upd (z2.1 90) 6 (nI 0))) 90 (upd ((ds_rowI z2 90 (upd (z2.1 90) 6 (nI 0))).1 90) 5 (nI p))).1 90 4 = _
      rw [ds_rowI_self, pk_un (by decide), ds_rowI_self, pk_un (by decide)]; exact h4
    · show (ds_rowI (ds_rowI z2 90 (upd (z2.1 90) 6 (nI 0))) 90 (upd ((ds_rowI z2 90 (upd (z2.1 90) 6 (nI 0))).1 90) 5 (nI p))).1 90 5 = _
      rw [if_pos q1, ds_rowI_self, pk_us]
    · show (ds_rowI (ds_rowI z2 90 (upd (z2.1 90) 6 (nI 0))) 90 (upd ((ds_rowI z2 90 (upd (z2.1 90) 6 (nI 0))).1 90) 5 (nI p))).1 90 6 = _
      rw [if_pos q1, ds_rowI_self, pk_un (by decide), ds_rowI_self, pk_us]
      rfl
    · rw [if_pos q1] at h; omega
    · rw [if_pos q1] at h; omega
  · have lk := s_mlook d p z B n hb (by omega)
    have lk1 := s_mlook d p z1 B n hb1 (by omega)
    have b2 := hb2.2.2.2.2 p (by omega)
    have il := s_isSmall d (B p) z2 b2
    have id_ := s_mDigit d (B p) z2 b2
    have n32 : ¬ B p = 32 := by
      have := nsp (by omega)
      unfold dr_sp at this
      simpa using this
    have nm32 : ¬ nI (B p) = nI 32 := by rw [nI_eq (by omega) (by decide)]; exact n32
    have nm1 : ¬ nI (B p) = ds_m1 := by rw [ds_eq_m1 (by omega)]; exact id
    simp only [ds_cI_t lk, dl_32, nm32, not_false_eq_true, if_true, z1e, ds_cI_t lk1, ↓dl_m1, nm1, dl_0, z2e, ds_cI_t il, if_neg q1]
    cases ql : dr_lt (B p)
    · simp only [↓reduceIte, Bool.false_eq_true, ds_bo0, ds_cI_t id_]
      cases qd : dr_dg (B p)
      · simp only [↓reduceIte, Bool.false_eq_true]
        have g : ∀ k, ∃ y, ds_setI (ds_setI z2 90 5 (nI (p + 1))) 90 6 (nI k) = y ∧ y.1 90 4 = nI p ∧ y.1 90 5 = nI (p + 1) ∧ y.1 90 6 = nI k ∧ dr_g1 z y := by
          intro k
          refine ⟨ds_rowI (ds_rowI z2 90 (upd (z2.1 90) 5 (nI (p + 1)))) 90 (upd ((ds_rowI z2 90 (upd (z2.1 90) 5 (nI (p + 1)))).1 90) 6 (nI k)), by rw [ds_setI_row, ds_setI_row], ?_, ?_, ?_, dr_g1_fld _ (dr_g1_fld _ f2 (by decide) (by decide)) (by decide) (by decide)⟩
          · rw [ds_rowI_self, pk_un (by decide), ds_rowI_self, pk_un (by decide)]; exact h4
          · rw [ds_rowI_self, pk_un (by decide), ds_rowI_self, pk_us]
          · rw [ds_rowI_self, pk_us]
        by_cases q59 : B p = 59
        · obtain ⟨y, y1, y2, y3, y4, y5⟩ := g 59
          simp only [if_pos q59]
          refine ⟨y, ?_, ⟨y2, y3, y4, fun h => by omega, fun h => by omega⟩, y5⟩
          have e59 : nI (B p) = nI 59 := by rw [q59]
          simp only [e59, dl_59, not_true_eq_false, if_false, dl_1, nI_add, y1, ds_nn]
        · obtain ⟨y, y1, y2, y3, y4, y5⟩ := g 1
          simp only [if_neg q59]
          refine ⟨y, ?_, ⟨y2, y3, y4, fun h => by omega, fun h => by omega⟩, y5⟩
          have e59 : ¬ nI (B p) = nI 59 := by rw [nI_eq (by omega) (by decide)]; exact q59
          simp only [e59, dl_59, not_false_eq_true, if_true, dl_1, nI_add, y1, ds_nn]
      · simp only [↓reduceIte, Bool.true_eq_false]
        obtain ⟨y, w1, w2, w3, w4, w5, w6⟩ := dr_mdigs d B n (n - p) p 0 0 z2 rfl (by omega) hb2 h7 (by omega)
        rw [Nat.zero_add] at w4 w5
        refine ⟨y, ?_, ⟨w2.trans h4, w3, ?_, fun h => ?_, fun h => ?_⟩, dr_g1_trans f2 w6⟩
        · rw [w1]
          rfl
        · rw [w4]
          split <;> rfl
        · split at h <;> omega
        · apply w5
          split at h <;> omega
    · simp only [↓reduceIte, Bool.true_eq_false, ds_bo0]
      obtain ⟨y, w1, w2, w3, w4, w5, w6, w7⟩ := dr_mword d B n (n - p) p 0 z2 rfl (by omega) hb2 h8 (by omega)
      rw [Nat.zero_add] at w4 w5
      refine ⟨y, ?_, ⟨w2.trans h4, w3, ?_, fun h => ⟨w4, fun k hk => ?_⟩, fun h => ?_⟩, dr_g1_trans f2 w7⟩
      · rw [w1]
        rfl
      · rw [w5]
        split <;> rfl
      · have l8 : (dr_rn dr_lt B n p).length ≤ 8 := by
          split at h
          · assumption
          · omega
        rw [w6 k (by omega), if_pos (by omega), Nat.sub_zero]
      · split at h <;> omega
/-! words as numbers -/
def dr_rc : List Nat → Nat
  | [] => 0
  | x :: r => dr_c1 (dr_rc r) x
theorem dr_cod_app (l : List Nat) : ∀ a x, dr_cod a (l ++ [x]) = dr_c1 (dr_cod a l) x := by
  intro a x
  unfold dr_cod
  rw [List.foldl_append, List.foldl_cons, List.foldl_nil]
theorem dr_cod_rc : ∀ r, dr_cod 0 r.reverse = dr_rc r := by
  intro r
  induction r with
  | nil => rfl
  | cons x r ih =>
    rw [List.reverse_cons, dr_cod_app, ih]
    simp only [dr_rc]
theorem dr_rc_inj : ∀ r r' : List Nat, (∀ x, x ∈ r → 97 ≤ x ∧ x ≤ 122) → (∀ x, x ∈ r' → 97 ≤ x ∧ x ≤ 122) → dr_rc r = dr_rc r' → r = r' := by
  intro r
  induction r with
  | nil =>
    intro r' _ h' e
    cases r' with
    | nil => rfl
    | cons y r' =>
      have := h' y (List.mem_cons_self ..)
      simp only [dr_rc, dr_c1] at e
      omega
  | cons x r ih =>
    intro r' h h' e
    have hx := h x (List.mem_cons_self ..)
    cases r' with
    | nil =>
      simp only [dr_rc, dr_c1] at e
      omega
    | cons y r' =>
      have hy := h' y (List.mem_cons_self ..)
      simp only [dr_rc, dr_c1] at e
      have e1 : x = y := by omega
      have e2 : dr_rc r = dr_rc r' := by omega
      rw [e1, ih r' (fun a ha => h a (List.mem_cons_of_mem _ ha)) (fun a ha => h' a (List.mem_cons_of_mem _ ha)) e2]
theorem dr_rc_lt : ∀ r : List Nat, (∀ x, x ∈ r → 97 ≤ x ∧ x ≤ 122) → dr_rc r < 32 ^ r.length := by
  intro r
  induction r with
  | nil => intro _; exact Nat.one_pos
  | cons x r ih =>
    intro h
    have hx := h x (List.mem_cons_self ..)
    have i := ih (fun a ha => h a (List.mem_cons_of_mem _ ha))
    simp only [dr_rc, dr_c1, List.length_cons, Nat.pow_succ]
    omega
theorem dr_cod_inj {l l' : List Nat} (h : dr_wd l) (h' : dr_wd l') (e : dr_cod 0 l = dr_cod 0 l') : l = l' := by
  have r1 := dr_cod_rc l.reverse
  have r2 := dr_cod_rc l'.reverse
  rw [List.reverse_reverse] at r1 r2
  have := dr_rc_inj l.reverse l'.reverse (fun x hx => h.2.2 x (List.mem_reverse.mp hx)) (fun x hx => h'.2.2 x (List.mem_reverse.mp hx)) (by rw [← r1, ← r2, e])
  have := congrArg List.reverse this
  rwa [List.reverse_reverse, List.reverse_reverse] at this
theorem dr_cod_lt {l : List Nat} (h : dr_wd l) : dr_cod 0 l < 2 ^ 63 := by
  have r1 := dr_cod_rc l.reverse
  rw [List.reverse_reverse] at r1
  have := dr_rc_lt l.reverse (fun x hx => h.2.2 x (List.mem_reverse.mp hx))
  rw [List.length_reverse] at this
  have p : 32 ^ l.length ≤ 32 ^ 8 := Nat.pow_le_pow_right (by decide) h.2.1
  have q : 32 ^ 8 = 2 ^ 40 := by decide
  rw [r1]
  omega
theorem dr_lN_eq {l l' : List Nat} (h : dr_wd l) (h' : dr_wd l') : (lN (dr_cod 0 l) = lN (dr_cod 0 l')) = (l = l') := by
  apply propext
  rw [pk_lEQ (dr_cod_lt h) (dr_cod_lt h')]
  exact ⟨fun e => dr_cod_inj h h' e, fun e => by rw [e]⟩
/-! the class's choice -/
def dr_ch (W : Int64) : List Nat → Nat → Nat → Int32
  | [], num, sp => if lN sp = W then nI num else ds_m1
  | c :: cs, num, sp => if c = 32 then (if lN sp = W then nI num else dr_ch W cs (num + 1) 0) else dr_ch W cs num (dr_c1 sp c)
theorem ds_isT_t {x : Nat} {a : Option ds_Out} (h : 300 ≤ x) (h2 : x < 334) : ds_isT x a = a := by
  unfold ds_isT
  have h1 : Nat.ble 300 x = true := Nat.ble_eq_true_of_le h
  have h3 : Nat.blt (x - 300) 34 = true := Nat.ble_eq_true_of_le (by omega)
  rw [h1, h3]
  rfl
theorem s_choice_loop (d x : Nat) (W : Int64) (z : ds_St) (h1 : 300 ≤ x) (h2 : x < 334) (hl : (ds_sl x).length < 100) (hc : ∀ c, c ∈ ds_sl x → c = 32 ∨ (97 ≤ c ∧ c ≤ 122)) : ∀ cs i num sp, (ds_sl x).drop i = cs → i + cs.length = (ds_sl x).length → num ≤ i → ds_Rw ds_c_Sea_choice ds_u_Sea_choice (ds_call (d + 1)) 8 [some (.ref x), some (.long W), none, some (.int (nI num)), some (.long (lN sp)), none, some (.int (nI i)), none] [] z = some (some (.int (dr_ch W cs num sp)), z) := by
  have eL : Int32.ofNat (ds_sl x).length = nI (ds_sl x).length := rfl
  intro cs
  induction cs with
  | nil =>
    intro i num sp hd hi hn
    have il : i = (ds_sl x).length := by simpa using hi
    rw [b_Sea_choice_8, ds_isT_t h1 h2, eL, ← il]
    simp (disch := first | assumption | omega) only [nI_ltI, Nat.lt_irrefl, if_false, ds_isT_t h1 h2, nI_leI, Nat.le_refl, if_true]
    rw [b_Sea_choice_37, if_pos rfl, dl_0]
    simp only [dr_ch, lgc_eq]
    by_cases q : lN sp = W
    · rw [if_neg (fun h => h q), if_pos q]
    · rw [if_pos q, if_neg q, b_Sea_choice_8, ds_isT_t h1 h2, eL, ← il, dl_1, nI_add, if_pos (by rw [nI_ltI (by omega) (by omega)]; omega)]
      rfl
  | cons c cs ih =>
    intro i num sp hd hi hn
    rw [List.length_cons] at hi
    have hg : (ds_sl x).getD i 0 = c := by
      have : (ds_sl x).getD i 0 = ((ds_sl x).drop i).getD 0 0 := by
        rw [List.getD_eq_getElem?_getD, List.getD_eq_getElem?_getD, List.getElem?_drop, Nat.add_zero]
      rw [this, hd]
      rfl
    have hm : c ∈ ds_sl x := by
      have : c ∈ (ds_sl x).drop i := by rw [hd]; exact List.mem_cons_self ..
      exact List.mem_of_mem_drop this
    have hd2 : (ds_sl x).drop (i + 1) = cs := by
      rw [← List.tail_drop, hd]
      rfl
    rw [b_Sea_choice_8, ds_isT_t h1 h2, eL, if_neg (by rw [nI_ltI (by omega) (by omega)]; omega), ds_isT_t h1 h2, if_neg (by rw [nI_leI (by omega) (by omega)]; omega), ds_isT_t h1 h2, ds_chkN (by omega) (by omega), nI_clamp (by omega), hg]
    have ec : Int32.ofNat c = nI c := rfl
    rw [ec]
    have ih' := fun num sp => ih (i + 1) num sp hd2 (by omega)
    simp only [dr_ch]
    rcases hc c hm with q | q
    · rw [if_pos q, b_Sea_choice_37, q, if_pos (show nI 32 = (32 : Int32) from rfl), dl_0, dl_1, nI_add, nI_add]
      simp only [lgc_eq]
      by_cases w : lN sp = W
      · rw [if_neg (fun h => h w), if_pos w]
      · rw [if_pos w, if_neg w]
        exact ih' (num + 1) 0 (by omega)
    · have sp' := s_spell d sp c z q.1 q.2
      have n32 : ¬ nI c = (32 : Int32) := by
        show ¬ nI c = nI 32
        rw [nI_eq (by omega) (by decide)]
        omega
      rw [if_neg (by omega), b_Sea_choice_37, if_neg n32]
      simp only [ds_cL, sp', dl_1, nI_add]
      exact ih' num (dr_c1 sp c) (by omega)
theorem s_choice (d x : Nat) (W : Int64) (z : ds_St) (h1 : 300 ≤ x) (h2 : x < 334) (hl : (ds_sl x).length < 100) (hc : ∀ c, c ∈ ds_sl x → c = 32 ∨ (97 ≤ c ∧ c ≤ 122)) : ds_call (d + 2) j_Sea_choice [.ref x, .long W] z = some (some (.int (dr_ch W (ds_sl x) 0 0)), z) := by
  have g := s_choice_loop d x W z h1 h2 hl hc (ds_sl x) 0 0 0 rfl (by omega) (Nat.le_refl _)
  rw [c_Sea_choice, b_Sea_choice_0]
  exact (congrArg ds_nn g).trans rfl
theorem dr_ch_app {W : Int64} : ∀ (w r : List Nat) (num sp : Nat), (∀ c, c ∈ w → c ≠ 32) → dr_ch W (w ++ r) num sp = dr_ch W r num (dr_cod sp w) := by
  intro w
  induction w with
  | nil => intro r num sp _; rfl
  | cons c w ih =>
    intro r num sp h
    rw [List.cons_append, dr_cod_c]
    simp only [dr_ch]
    rw [if_neg (h c (List.mem_cons_self ..))]
    exact ih r num _ (fun a ha => h a (List.mem_cons_of_mem _ ha))
def dr_ix : List (List Nat) → List Nat → Nat → Int32
  | [], _, _ => ds_m1
  | w :: ws, l, k => if w = l then nI k else dr_ix ws l (k + 1)
/-- words parted by blanks -/
def dr_join : List (List Nat) → List Nat
  | [] => []
  | [w] => w
  | w :: v :: ws => w ++ (32 :: dr_join (v :: ws))
theorem dr_ch_ix {l : List Nat} (hl : dr_wd l) : ∀ ws k, ws ≠ [] → (∀ w, w ∈ ws → dr_wd w) → dr_ch (lN (dr_cod 0 l)) (dr_join ws) k 0 = dr_ix ws l k := by
  intro ws
  induction ws with
  | nil => intro k h; exact absurd rfl h
  | cons w ws ih =>
    intro k _ hw
    have w0 := hw w (List.mem_cons_self ..)
    have n32 : ∀ c, c ∈ w → c ≠ 32 := fun c hc => by have := w0.2.2 c hc; omega
    cases ws with
    | nil =>
      have e := dr_ch_app (W := lN (dr_cod 0 l)) w [] k 0 n32
      rw [List.append_nil] at e
      show dr_ch (lN (dr_cod 0 l)) w k 0 = _
      rw [e]
      simp only [dr_ch, dr_ix]
      simp only [dr_lN_eq w0 hl]
    | cons v ws =>
      show dr_ch (lN (dr_cod 0 l)) (w ++ (32 :: dr_join (v :: ws))) k 0 = _
      rw [dr_ch_app w _ k 0 n32]
      have ih' := ih (k + 1) (List.cons_ne_nil _ _) (fun a ha => hw a (List.mem_cons_of_mem _ ha))
      have e1 : dr_ch (lN (dr_cod 0 l)) (32 :: dr_join (v :: ws)) k (dr_cod 0 w) = if lN (dr_cod 0 w) = lN (dr_cod 0 l) then nI k else dr_ch (lN (dr_cod 0 l)) (dr_join (v :: ws)) (k + 1) 0 := by
        simp only [dr_ch, if_true]
      have e2 : dr_ix (w :: v :: ws) l k = if w = l then nI k else dr_ix (v :: ws) l (k + 1) := rfl
      rw [e1, e2, ih']
      simp only [dr_lN_eq w0 hl]
def dr_wdb (l : List Nat) : Bool := !(l.isEmpty) && decide (l.length ≤ 8) && l.all (fun x => decide (97 ≤ x) && decide (x ≤ 122))
theorem dr_wdb_ok {l : List Nat} (h : dr_wdb l = true) : dr_wd l := by
  unfold dr_wdb at h
  rw [Bool.and_eq_true, Bool.and_eq_true, List.all_eq_true] at h
  refine ⟨fun e => ?_, by simpa using h.1.2, fun x hx => by simpa using h.2 x hx⟩
  rw [e] at h
  exact absurd h.1.1 (by decide)
/-- the words of a text of the class -/
def dr_ws (x : Nat) : List (List Nat) := if x = 300 then [ds_sl 310, ds_sl 321, ds_sl 322, ds_sl 323, ds_sl 324] else if x = 301 then [ds_sl 311] else if x = 302 then [ds_sl 312] else if x = 303 then [ds_sl 313] else if x = 304 then [ds_sl 314, ds_sl 315, ds_sl 316, ds_sl 317] else if x = 305 then [ds_sl 318, ds_sl 319] else if x = 306 then [ds_sl 325, ds_sl 326, ds_sl 327] else if x = 307 then [ds_sl 328] else if x = 308 then [ds_sl 329] else [ds_sl 330, ds_sl 331, ds_sl 332, ds_sl 333]
theorem dr_ws_ok : ∀ k, k < 10 → ((dr_join (dr_ws (300 + k)) == ds_sl (300 + k)) && !(dr_ws (300 + k)).isEmpty && (dr_ws (300 + k)).all dr_wdb && decide ((ds_sl (300 + k)).length < 100) && (ds_sl (300 + k)).all (fun c => decide (c = 32) || (decide (97 ≤ c) && decide (c ≤ 122)))) = true := by decide +kernel
theorem s_cho (d x : Nat) (l : List Nat) (z : ds_St) (h1 : 300 ≤ x) (h2 : x < 310) (hl : dr_wd l) : ds_call (d + 2) j_Sea_choice [.ref x, .long (lN (dr_cod 0 l))] z = some (some (.int (dr_ix (dr_ws x) l 0)), z) := by
  have h := dr_ws_ok (x - 300) (by omega)
  rw [show 300 + (x - 300) = x by omega] at h
  simp only [Bool.and_eq_true, beq_iff_eq, decide_eq_true_eq, List.all_eq_true] at h
  obtain ⟨⟨⟨⟨e1, e2⟩, e3⟩, e4⟩, e5⟩ := h
  rw [s_choice d x _ z h1 (by omega) e4 (fun c hc => by have := e5 c hc; simpa using this), ← e1, dr_ch_ix hl _ 0 (fun q => by rw [q] at e2; exact absurd e2 (by decide)) (fun w hw => dr_wdb_ok (e3 w hw))]
