/-! breadth first, by numbers. A state: the queue, whence (0 unseen, 1 the start, else the state before and 2), by which move, how many are queued -/
abbrev dk_BS : Type := (Nat → Nat) × (Nat → Nat) × (Nat → Nat) × Nat
def dk_up (f : Nat → Nat) (k v j : Nat) : Nat := if j = k then v else f j
theorem dk_up_s (f : Nat → Nat) (k v : Nat) : dk_up f k v k = v := if_pos rfl
theorem dk_up_n {f : Nat → Nat} {k v j : Nat} (h : j ≠ k) : dk_up f k v j = f j := if_neg h
def dk_vs (N : Nat → Nat → Nat) (s m : Nat) (B : dk_BS) : dk_BS := if B.2.1 (N s m) = 0 then (dk_up B.1 B.2.2.2 (N s m), dk_up B.2.1 (N s m) (s + 2), dk_up B.2.2.1 (N s m) m, B.2.2.2 + 1) else B
def dk_vr (N : Nat → Nat → Nat) (s : Nat) : Nat → dk_BS → dk_BS
  | 0, B => B
  | m + 1, B => dk_vs N s m (dk_vr N s m B)
def dk_B0 (st : Nat) : dk_BS := (fun _ => st, fun s => if s = st then 1 else 0, fun _ => 0, 1)
def dk_bf (N : Nat → Nat → Nat) (M st : Nat) : Nat → dk_BS
  | 0 => dk_B0 st
  | h + 1 => if h < (dk_bf N M st h).2.2.2 then dk_vr N ((dk_bf N M st h).1 h) M (dk_bf N M st h) else dk_bf N M st h
def dk_W (V : Nat → Prop) (st : Nat) (B : dk_BS) : Prop := 0 < B.2.2.2 ∧ B.1 0 = st ∧ B.2.1 st = 1 ∧ (∀ i, i < B.2.2.2 → V (B.1 i) ∧ B.2.1 (B.1 i) ≠ 0) ∧ (∀ s, B.2.1 s ≠ 0 → ∃ i, i < B.2.2.2 ∧ B.1 i = s) ∧ (∀ i j, i < B.2.2.2 → j < B.2.2.2 → B.1 i = B.1 j → i = j) ∧ (∀ i, 0 < i → i < B.2.2.2 → ∃ j, j < i ∧ B.2.1 (B.1 i) = B.1 j + 2)
def dk_E (B B' : dk_BS) : Prop := B.2.2.2 ≤ B'.2.2.2 ∧ (∀ i, i < B.2.2.2 → B'.1 i = B.1 i) ∧ (∀ s, B.2.1 s ≠ 0 → B'.2.1 s = B.2.1 s ∧ B'.2.2.1 s = B.2.2.1 s)
theorem dk_E_refl (B : dk_BS) : dk_E B B := ⟨Nat.le_refl _, fun _ _ => rfl, fun _ _ => ⟨rfl, rfl⟩⟩
theorem dk_E_trans {B B' B'' : dk_BS} (h : dk_E B B') (h2 : dk_E B' B'') : dk_E B B'' := ⟨Nat.le_trans h.1 h2.1, fun i hi => (h2.2.1 i (Nat.lt_of_lt_of_le hi h.1)).trans (h.2.1 i hi), fun s hs => by
  obtain ⟨a, b⟩ := h.2.2 s hs
  obtain ⟨c, e⟩ := h2.2.2 s (by rw [a]; exact hs)
  exact ⟨c.trans a, e.trans b⟩⟩
theorem dk_vs_E {V : Nat → Prop} {st : Nat} (N : Nat → Nat → Nat) (s m : Nat) (B : dk_BS) : dk_E B (dk_vs N s m B) := by
  unfold dk_vs
  by_cases h : B.2.1 (N s m) = 0
  · rw [if_pos h]
    refine ⟨Nat.le_succ _, fun i hi => dk_up_n (by omega), fun t ht => ?_⟩
    have : t ≠ N s m := fun e => ht (by rw [e]; exact h)
    exact ⟨dk_up_n this, dk_up_n this⟩
  · rw [if_neg h]
    exact dk_E_refl B
theorem dk_vr_E {V : Nat → Prop} {st : Nat} (N : Nat → Nat → Nat) (s : Nat) (B : dk_BS) : ∀ m, dk_E B (dk_vr N s m B) := by
  intro m
  induction m with
  | zero => exact dk_E_refl B
  | succ m ih => exact dk_E_trans ih (dk_vs_E (V := V) (st := st) N s m _)
theorem dk_vr_E2 {V : Nat → Prop} {st : Nat} (N : Nat → Nat → Nat) (s : Nat) (B : dk_BS) (m : Nat) : ∀ k, dk_E (dk_vr N s m B) (dk_vr N s (m + k) B) := by
  intro k
  induction k with
  | zero => exact dk_E_refl _
  | succ k ih => exact dk_E_trans ih (dk_vs_E (V := V) (st := st) N s (m + k) _)
theorem dk_bf_E1 {V : Nat → Prop} (N : Nat → Nat → Nat) (M st h : Nat) : dk_E (dk_bf N M st h) (dk_bf N M st (h + 1)) := by
  simp only [dk_bf]
  split
  · exact dk_vr_E (V := V) (st := st) N _ _ M
  · exact dk_E_refl _
theorem dk_bf_E {V : Nat → Prop} (N : Nat → Nat → Nat) (M st h : Nat) : ∀ k, dk_E (dk_bf N M st h) (dk_bf N M st (h + k)) := by
  intro k
  induction k with
  | zero => exact dk_E_refl _
  | succ k ih => exact dk_E_trans ih (dk_bf_E1 (V := V) N M st (h + k))
theorem dk_vs_W {V : Nat → Prop} {st : Nat} {N : Nat → Nat → Nat} {s m h : Nat} {B : dk_BS} (hW : dk_W V st B) (hh : h < B.2.2.2) (hs : B.1 h = s) (hN : V (N s m)) : dk_W V st (dk_vs N s m B) := by
  unfold dk_vs
  by_cases q : B.2.1 (N s m) = 0
  · rw [if_pos q]
    obtain ⟨w1, w2, w3, w4, w5, w6, w7⟩ := hW
    have hnew : ∀ i, i < B.2.2.2 → B.1 i ≠ N s m := fun i hi e => (w4 i hi).2 (by rw [e]; exact q)
    have hst : st ≠ N s m := fun e => by rw [← e, w3] at q; exact absurd q (by decide)
    refine ⟨Nat.succ_pos _, ?_, ?_, ?_, ?_, ?_, ?_⟩
    · show dk_up B.1 B.2.2.2 (N s m) 0 = st
      rw [dk_up_n (by omega)]; exact w2
    · show dk_up B.2.1 (N s m) (s + 2) st = 1
      rw [dk_up_n hst]; exact w3
    · intro i hi
      show V (dk_up B.1 B.2.2.2 (N s m) i) ∧ dk_up B.2.1 (N s m) (s + 2) (dk_up B.1 B.2.2.2 (N s m) i) ≠ 0
      have hi' : i < B.2.2.2 + 1 := hi
      by_cases e : i = B.2.2.2
      · rw [e, dk_up_s, dk_up_s]
        exact ⟨hN, by omega⟩
      · rw [dk_up_n e, dk_up_n (hnew i (by omega))]
        exact w4 i (by omega)
    · intro u hu
      have hu' : dk_up B.2.1 (N s m) (s + 2) u ≠ 0 := hu
      by_cases e : u = N s m
      · exact ⟨B.2.2.2, Nat.lt_succ_self _, by rw [e]; exact dk_up_s _ _ _⟩
      · rw [dk_up_n e] at hu'
        obtain ⟨i, i1, i2⟩ := w5 u hu'
        exact ⟨i, Nat.lt_succ_of_lt i1, by rw [← i2]; exact dk_up_n (by omega)⟩
    · intro i j hi hj e
      have hi' : i < B.2.2.2 + 1 := hi
      have hj' : j < B.2.2.2 + 1 := hj
      have e' : dk_up B.1 B.2.2.2 (N s m) i = dk_up B.1 B.2.2.2 (N s m) j := e
      by_cases a : i = B.2.2.2
      · by_cases b : j = B.2.2.2
        · omega
        · rw [a, dk_up_s, dk_up_n b] at e'
          exact absurd e'.symm (hnew j (by omega))
      · by_cases b : j = B.2.2.2
        · rw [b, dk_up_s, dk_up_n a] at e'
          exact absurd e' (hnew i (by omega))
        · rw [dk_up_n a, dk_up_n b] at e'
          exact w6 i j (by omega) (by omega) e'
    · intro i i0 hi
      have hi' : i < B.2.2.2 + 1 := hi
      show ∃ j, j < i ∧ dk_up B.2.1 (N s m) (s + 2) (dk_up B.1 B.2.2.2 (N s m) i) = dk_up B.1 B.2.2.2 (N s m) j + 2
      by_cases a : i = B.2.2.2
      · refine ⟨h, by omega, ?_⟩
        rw [a, dk_up_s, dk_up_s, dk_up_n (by omega), hs]
      · obtain ⟨j, j1, j2⟩ := w7 i i0 (by omega)
        refine ⟨j, j1, ?_⟩
        rw [dk_up_n a, dk_up_n (hnew i (by omega)), dk_up_n (show j ≠ B.2.2.2 by omega), j2]
  · rw [if_neg q]
    exact hW
theorem dk_vr_W {V : Nat → Prop} {st : Nat} {N : Nat → Nat → Nat} {s M h : Nat} {B : dk_BS} (hW : dk_W V st B) (hh : h < B.2.2.2) (hs : B.1 h = s) (hN : ∀ m, m < M → V (N s m)) : ∀ m, m ≤ M → dk_W V st (dk_vr N s m B) := by
  intro m
  induction m with
  | zero => intro _; exact hW
  | succ m ih =>
    intro hm
    have e := dk_vr_E (V := V) (st := st) N s B m
    exact dk_vs_W (h := h) (ih (by omega)) (Nat.lt_of_lt_of_le hh e.1) (by rw [e.2.1 h hh]; exact hs) (hN m (by omega))
theorem dk_B0_W {V : Nat → Prop} {st : Nat} (h : V st) : dk_W V st (dk_B0 st) := by
  refine ⟨Nat.one_pos, rfl, if_pos rfl, fun i _ => ⟨h, ?_⟩, fun s hs => ?_, fun i j hi hj _ => ?_, fun i h0 hi => ?_⟩
  · show (if st = st then 1 else 0) ≠ 0
    rw [if_pos rfl]; decide
  · have hs' : (if s = st then 1 else 0) ≠ 0 := hs
    by_cases e : s = st
    · exact ⟨0, Nat.one_pos, e.symm⟩
    · rw [if_neg e] at hs'
      exact absurd rfl hs'
  · have hi' : i < 1 := hi
    have hj' : j < 1 := hj
    omega
  · have hi' : i < 1 := hi
    omega
theorem dk_bf_W {V : Nat → Prop} {st M : Nat} {N : Nat → Nat → Nat} (h0 : V st) (hN : ∀ s m, V s → m < M → V (N s m)) : ∀ h, dk_W V st (dk_bf N M st h) := by
  intro h
  induction h with
  | zero => exact dk_B0_W h0
  | succ h ih =>
    simp only [dk_bf]
    split
    · rename_i hh
      exact dk_vr_W ih hh rfl (fun m hm => hN _ m ((ih.2.2.2.1 h hh).1) hm) M (Nat.le_refl _)
    · exact ih
theorem dk_W_le {V : Nat → Prop} {st n : Nat} {B : dk_BS} (hW : dk_W V st B) (hV : ∀ s, V s → s < n) : B.2.2.2 ≤ n := by
  obtain ⟨w1, w2, w3, w4, w5, w6, w7⟩ := hW
  rcases Nat.lt_or_ge n B.2.2.2 with h | h
  · exfalso
    have hin : dk_inj B.1 n n := ⟨fun p hp => hV _ (w4 p (by omega)).1, fun p q hp hq e => w6 p q (by omega) (by omega) e⟩
    obtain ⟨p, hp, e⟩ := dk_surj hin (hV _ (w4 n h).1)
    have := w6 p n (by omega) h e
    omega
  · exact h
/-- found at T, not found at all -/
def dk_pre (N : Nat → Nat → Nat) (M st : Nat) (G : Nat → Bool) (T : Nat) : Prop := ∀ h, h < T → h < (dk_bf N M st h).2.2.2 ∧ G ((dk_bf N M st h).1 h) = false
def dk_fd (N : Nat → Nat → Nat) (M st : Nat) (G : Nat → Bool) (T : Nat) : Prop := dk_pre N M st G T ∧ T < (dk_bf N M st T).2.2.2 ∧ G ((dk_bf N M st T).1 T) = true
def dk_nf (N : Nat → Nat → Nat) (M st : Nat) (G : Nat → Bool) (T : Nat) : Prop := dk_pre N M st G T ∧ (dk_bf N M st T).2.2.2 ≤ T
theorem dk_ends {V : Nat → Prop} {st M n : Nat} {N : Nat → Nat → Nat} (G : Nat → Bool) (h0 : V st) (hN : ∀ s m, V s → m < M → V (N s m)) (hV : ∀ s, V s → s < n) : ∃ T, dk_fd N M st G T ∨ dk_nf N M st G T := by
  have aux : ∀ k, (∃ T, dk_fd N M st G T ∨ dk_nf N M st G T) ∨ dk_pre N M st G k := by
    intro k
    induction k with
    | zero => exact .inr (fun h hh => by omega)
    | succ k ih =>
      rcases ih with ih | ih
      · exact .inl ih
      · rcases Nat.lt_or_ge k (dk_bf N M st k).2.2.2 with h | h
        · cases q : G ((dk_bf N M st k).1 k)
          · right
            intro h' hh
            rcases Nat.lt_or_ge h' k with a | a
            · exact ih h' a
            · have : h' = k := by omega
              subst this
              exact ⟨h, q⟩
          · exact .inl ⟨k, .inl ⟨ih, h, q⟩⟩
        · exact .inl ⟨k, .inr ⟨ih, h⟩⟩
  rcases aux (n + 1) with h | h
  · exact h
  · have h1 := (h n (by omega)).1
    have h2 := dk_W_le (dk_bf_W h0 hN n) hV
    omega
theorem dk_pre_q {V : Nat → Prop} {st M T : Nat} {N : Nat → Nat → Nat} {G : Nat → Bool} (h : dk_pre N M st G T) : ∀ i, i < T → G ((dk_bf N M st T).1 i) = false := by
  intro i hi
  obtain ⟨a, b⟩ := h i hi
  have e := dk_bf_E (V := V) N M st i (T - i)
  rw [show i + (T - i) = T by omega] at e
  rw [e.2.1 i a]
  exact b
/-! the way back -/
def dk_bk (f : Nat → Nat) : Nat → Nat → Nat
  | 0, g => g
  | k + 1, g => dk_bk f k (f g - 2)
theorem dk_bk_s (f : Nat → Nat) : ∀ k g, dk_bk f (k + 1) g = f (dk_bk f k g) - 2 := by
  intro k
  induction k with
  | zero => intro g; rfl
  | succ k ih =>
    intro g
    show dk_bk f (k + 1) (f g - 2) = f (dk_bk f k (f g - 2)) - 2
    exact ih _
theorem dk_way {V : Nat → Prop} {st : Nat} {B : dk_BS} (hW : dk_W V st B) : ∀ i, i < B.2.2.2 → ∃ L, L ≤ i ∧ B.2.1 (dk_bk B.2.1 L (B.1 i)) = 1 ∧ (∀ k, k < L → 2 ≤ B.2.1 (dk_bk B.2.1 k (B.1 i))) ∧ (∀ k, k ≤ L → ∃ j, j < B.2.2.2 ∧ B.1 j = dk_bk B.2.1 k (B.1 i)) := by
  obtain ⟨w1, w2, w3, w4, w5, w6, w7⟩ := hW
  intro i
  induction i using Nat.strongRecOn with
  | _ i ih =>
    intro hi
    rcases Nat.eq_zero_or_pos i with h | h
    · subst h
      refine ⟨0, Nat.le_refl _, ?_, fun k hk => by omega, fun k hk => ?_⟩
      · show B.2.1 (B.1 0) = 1
        rw [w2]; exact w3
      · have : k = 0 := by omega
        subst this
        exact ⟨0, w1, rfl⟩
    · obtain ⟨j, j1, j2⟩ := w7 i h hi
      obtain ⟨L, l1, l2, l3, l4⟩ := ih j j1 (by omega)
      have e : ∀ k, dk_bk B.2.1 (k + 1) (B.1 i) = dk_bk B.2.1 k (B.1 j) := by
        intro k
        show dk_bk B.2.1 k (B.2.1 (B.1 i) - 2) = _
        rw [j2, Nat.add_sub_cancel]
      refine ⟨L + 1, by omega, by rw [e]; exact l2, fun k hk => ?_, fun k hk => ?_⟩
      · cases k with
        | zero =>
          show 2 ≤ B.2.1 (B.1 i)
          rw [j2]; omega
        | succ k => rw [e]; exact l3 k (by omega)
      · cases k with
        | zero => exact ⟨i, hi, rfl⟩
        | succ k => rw [e]; exact l4 k (by omega)
theorem dk_bk_E {V : Nat → Prop} {st : Nat} {B B' : dk_BS} (hW : dk_W V st B) (hE : dk_E B B') {g : Nat} : ∀ k, (∀ l, l < k → 2 ≤ B.2.1 (dk_bk B.2.1 l g)) → B.2.1 g ≠ 0 → dk_bk B'.2.1 k g = dk_bk B.2.1 k g ∧ (k = 0 ∨ B.2.1 (dk_bk B.2.1 k g) ≠ 0) := by
  intro k
  induction k with
  | zero => intro _ _; exact ⟨rfl, .inl rfl⟩
  | succ k ih =>
    intro h hg
    obtain ⟨a, b⟩ := ih (fun l hl => h l (by omega)) hg
    have hk := h k (by omega)
    have s := hE.2.2 (dk_bk B.2.1 k g) (by omega)
    rw [dk_bk_s, dk_bk_s, a, s.1]
    refine ⟨rfl, .inr ?_⟩
    obtain ⟨i, i1, i2⟩ := hW.2.2.2.2.1 _ (show B.2.1 (dk_bk B.2.1 k g) ≠ 0 by omega)
    rcases Nat.eq_zero_or_pos i with q | q
    · subst q
      rw [hW.2.1] at i2
      rw [← i2, hW.2.2.1] at hk
      omega
    · obtain ⟨j, j1, j2⟩ := hW.2.2.2.2.2.2 i q i1
      rw [← i2, j2, Nat.add_sub_cancel]
      exact (hW.2.2.2.1 j (by omega)).2
