/-! the class reads lines -/
theorem dr_ne0 {x : Int32} {v : Nat} (h : x = nI v) (h1 : 1 ≤ v) (h6 : v ≤ 6) : ¬ x = nI 0 := by
  rw [h, nI_eq (by omega) (by decide)]
  omega
theorem dr_used_c {D D' : Nat → Nat → Nat} (h4 : D' 0 4 = D 0 4) (h5 : D' 0 5 = D 0 5) (s : Nat) : dr_used D' s = dr_used D s := by
  unfold dr_used
  rw [h4, h5]
theorem dr_nC_c {z : ds_St} {D D' : Nat → Nat → Nat} {Nm : Nat → List Nat} (h4 : D' 0 4 = D 0 4) (h5 : D' 0 5 = D 0 5) (h : dr_nC z D Nm) : dr_nC z D' Nm := by
  obtain ⟨ord, c1, c2, c3⟩ := h
  refine ⟨ord, ?_, fun i hi => ?_, fun s hs => ?_⟩
  · rw [h4, h5]; exact c1
  · rw [h4, h5] at hi
    rw [dr_used_c h4 h5]
    exact c2 i hi
  · rw [dr_used_c h4 h5] at hs
    rw [h4, h5]
    exact c3 s hs
theorem dr_S_sea {z0 z : ds_St} {t w h g s : Nat} {Nm : Nat → List Nat} {D : Nat → Nat → Nat} (hS : dr_S z0 t false Nm D D z) (a0 : z.1 t 0 = nI w) (a1 : z.1 t 1 = nI h) (a2 : z.1 t 2 = nI g) (a3 : z.1 t 3 = nI s) : dr_S z0 t true Nm (dr_D1 (dr_D1 (dr_D1 (dr_D1 D 0 0 w) 0 1 h) 0 2 g) 0 3 s) (dr_D1 (dr_D1 (dr_D1 (dr_D1 D 0 0 w) 0 1 h) 0 2 g) 0 3 s) z := by
  have e0 : dr_D1 (dr_D1 (dr_D1 (dr_D1 D 0 0 w) 0 1 h) 0 2 g) 0 3 s 0 0 = w := by simp [dr_D1]
  have e1 : dr_D1 (dr_D1 (dr_D1 (dr_D1 D 0 0 w) 0 1 h) 0 2 g) 0 3 s 0 1 = h := by simp [dr_D1]
  have e2 : dr_D1 (dr_D1 (dr_D1 (dr_D1 D 0 0 w) 0 1 h) 0 2 g) 0 3 s 0 2 = g := by simp [dr_D1]
  have e3 : dr_D1 (dr_D1 (dr_D1 (dr_D1 D 0 0 w) 0 1 h) 0 2 g) 0 3 s 0 3 = s := by simp [dr_D1]
  have e4 : dr_D1 (dr_D1 (dr_D1 (dr_D1 D 0 0 w) 0 1 h) 0 2 g) 0 3 s 0 4 = D 0 4 := by simp [dr_D1]
  have e5 : dr_D1 (dr_D1 (dr_D1 (dr_D1 D 0 0 w) 0 1 h) 0 2 g) 0 3 s 0 5 = D 0 5 := by simp [dr_D1]
  have e6 : dr_D1 (dr_D1 (dr_D1 (dr_D1 D 0 0 w) 0 1 h) 0 2 g) 0 3 s 0 6 = D 0 6 := by simp [dr_D1]
  have e7 : dr_D1 (dr_D1 (dr_D1 (dr_D1 D 0 0 w) 0 1 h) 0 2 g) 0 3 s 0 7 = D 0 7 := by simp [dr_D1]
  have er : ∀ r j, r ≠ 0 → dr_D1 (dr_D1 (dr_D1 (dr_D1 D 0 0 w) 0 1 h) 0 2 g) 0 3 s r j = D r j := by
    intro r j hr
    simp [dr_D1, hr]
  generalize dr_D1 (dr_D1 (dr_D1 (dr_D1 D 0 0 w) 0 1 h) 0 2 g) 0 3 s = D' at *
  obtain ⟨s1, ⟨_, b1, b2, b3, b4, b5⟩, s3, s4⟩ := hS
  refine ⟨s1, ⟨fun _ => ⟨by rw [e0]; exact a0, by rw [e1]; exact a1, by rw [e2]; exact a2, by rw [e3]; exact a3⟩, ⟨by rw [e4]; exact b1.1, by rw [e5]; exact b1.2.1, by rw [e6]; exact b1.2.2.1, by rw [e7]; exact b1.2.2.2⟩, fun i hi => ?_, fun i hi => ?_, fun i hi => ?_, fun i hi => ?_⟩, dr_nC_c e4 e5 s3, s4⟩
  · rw [e4] at hi
    rw [er 1 i (by decide), er 2 i (by decide), er 3 i (by decide), er 4 i (by decide)]
    exact b2 i hi
  · rw [e5] at hi
    rw [er 5 i (by decide)]
    exact b3 i hi
  · rw [e6] at hi
    rw [er 6 i (by decide), er 7 i (by decide)]
    exact b4 i hi
  · rw [e7] at hi
    rw [er 8 i (by decide), er 9 i (by decide)]
    exact b5 i hi
theorem s_oneX (d x : Nat) {z0 z : ds_St} {t v a : Nat} (h : dr_X z0 t v a z) : ds_call (d + 2) j_Reader_readOneOf [.ref 1, .ref x] z = some (some (.int ds_m1), z) := s_one_x d v x z h.1 h.2.1.1 h.2.1.2
theorem s_wholeX (d : Nat) (lo hi : Int32) {z0 z : ds_St} {t v a : Nat} (h : dr_X z0 t v a z) : ds_call (d + 2) j_Reader_readWhole [.ref 1, .int lo, .int hi] z = some (some (.int (z.1 1 8)), z) := s_whole_x d v lo hi z h.1 h.2.1.1 h.2.1.2
theorem dr_set_ne {z : ds_St} {t k f : Nat} {v x : Int32} (h : z.1 t f = x) (hk : f ≠ k) : (ds_setI z t k v).1 t f = x := by
  rw [ds_setI_row, ds_rowI_self, pk_un hk]
  exact h
theorem s_readSea (d t : Nat) (z0 z : ds_St) (B : Nat → Nat) (n e : Nat) (Nm : Nat → List Nat) (D : Nat → Nat → Nat) (hO : dr_O z B n e) (hS : dr_S z0 t false Nm D D z) (hc : D 0 4 + D 0 5 ≤ 22) (hw : D 0 6 ≤ 6) : ∃ z', ds_call (d + 5) j_Reader_readSea [.ref 1] z = some (none, z') ∧ dr_postC z0 t B n (dr_sea B n e Nm D) z' := by
  apply dr_wc (c_Reader_readSea _ _ _)
  rw [b_Reader_readSea_0]
  simp only [dl_0, dl_1, dl_2, dl_3, dl_4, dl_9, dl_11, dl_99, ↓dl_m1, ↓dl_m2]
  unfold dr_sea
  have ht := hS.1.2
  have hKt := ds_Kt ht
  obtain ⟨a1, b1⟩ := s_one d 301 _ B n _ hO (by decide) (by decide)
  cases h1 : dr_on B n e 301 with
  | none =>
    rw [dr_pOne_n h1]
    have X := dr_X_zb (v := 1) hO hS hc hw (by decide) (by decide)
    refine dr_wI (b1 h1) ?_
    refine dr_wI (s_wholeX (d + 2) (nI 2) (nI 4) X) ?_
    try rw [X.2.2.2.1.1]
    refine dr_wK hKt ?_
    refine dr_wI (s_oneX (d + 2) 302 (dr_X_set (k := 0) _ X (by decide))) ?_
    refine dr_wI (s_wholeX (d + 2) (nI 2) (nI 3) (dr_X_set (k := 0) _ X (by decide))) ?_
    try rw [X.2.2.2.1.1]
    try rw [(dr_X_set (k := 0) _ X (by decide)).2.2.2.1.1]
    refine dr_wK hKt ?_
    refine dr_wI (s_oneX (d + 2) 303 (dr_X_set (k := 1) _ (dr_X_set (k := 0) _ X (by decide)) (by decide))) ?_
    refine dr_wI (s_oneX (d + 2) 304 (dr_X_set (k := 1) _ (dr_X_set (k := 0) _ X (by decide)) (by decide))) ?_
    try rw [X.2.2.2.1.1]
    try rw [(dr_X_set (k := 0) _ X (by decide)).2.2.2.1.1]
    try rw [(dr_X_set (k := 1) _ (dr_X_set (k := 0) _ X (by decide)) (by decide)).2.2.2.1.1]
    refine dr_wK hKt ?_
    refine dr_wI (s_oneX (d + 2) 305 (dr_X_set (k := 2) _ (dr_X_set (k := 1) _ (dr_X_set (k := 0) _ X (by decide)) (by decide)) (by decide))) ?_
    try rw [X.2.2.2.1.1]
    try rw [(dr_X_set (k := 0) _ X (by decide)).2.2.2.1.1]
    try rw [(dr_X_set (k := 1) _ (dr_X_set (k := 0) _ X (by decide)) (by decide)).2.2.2.1.1]
    try rw [(dr_X_set (k := 2) _ (dr_X_set (k := 1) _ (dr_X_set (k := 0) _ X (by decide)) (by decide)) (by decide)).2.2.2.1.1]
    refine dr_wK hKt ?_
    exact dr_wR ⟨rfl, (dr_X_set (k := 3) _ (dr_X_set (k := 2) _ (dr_X_set (k := 1) _ (dr_X_set (k := 0) _ X (by decide)) (by decide)) (by decide)) (by decide))⟩
  | some i1 =>
    rw [dr_pOne_s h1]
    obtain ⟨z1, w1, O1, f1⟩ := a1 i1 h1
    have S1 := dr_S_f1 hS f1
    refine dr_wI w1 ?_
    obtain ⟨a2, b2⟩ := s_whole d 2 4 _ B n _ O1 (by decide) (by decide)
    by_cases h2 : dr_nu B n (dr_nx B n e) 2 4 = 0
    rotate_left
    · rw [dr_pNum_n h2]
      have u2 := (dr_nu_6 B n (dr_nx B n e) 2 4).resolve_left h2
      have X := dr_X_zb O1 S1 hc hw u2.1 u2.2
      refine dr_wI (b2 h2) ?_
      try rw [hS.1.1]
      try rw [S1.1.1]
      try rw [S1.1.1]
      try rw [X.2.2.2.1.1]
      refine dr_wK hKt ?_
      refine dr_wI (s_oneX (d + 2) 302 (dr_X_set (k := 0) _ X (by decide))) ?_
      refine dr_wI (s_wholeX (d + 2) (nI 2) (nI 3) (dr_X_set (k := 0) _ X (by decide))) ?_
      try rw [X.2.2.2.1.1]
      try rw [(dr_X_set (k := 0) _ X (by decide)).2.2.2.1.1]
      refine dr_wK hKt ?_
      refine dr_wI (s_oneX (d + 2) 303 (dr_X_set (k := 1) _ (dr_X_set (k := 0) _ X (by decide)) (by decide))) ?_
      refine dr_wI (s_oneX (d + 2) 304 (dr_X_set (k := 1) _ (dr_X_set (k := 0) _ X (by decide)) (by decide))) ?_
      try rw [X.2.2.2.1.1]
      try rw [(dr_X_set (k := 0) _ X (by decide)).2.2.2.1.1]
      try rw [(dr_X_set (k := 1) _ (dr_X_set (k := 0) _ X (by decide)) (by decide)).2.2.2.1.1]
      refine dr_wK hKt ?_
      refine dr_wI (s_oneX (d + 2) 305 (dr_X_set (k := 2) _ (dr_X_set (k := 1) _ (dr_X_set (k := 0) _ X (by decide)) (by decide)) (by decide))) ?_
      try rw [X.2.2.2.1.1]
      try rw [(dr_X_set (k := 0) _ X (by decide)).2.2.2.1.1]
      try rw [(dr_X_set (k := 1) _ (dr_X_set (k := 0) _ X (by decide)) (by decide)).2.2.2.1.1]
      try rw [(dr_X_set (k := 2) _ (dr_X_set (k := 1) _ (dr_X_set (k := 0) _ X (by decide)) (by decide)) (by decide)).2.2.2.1.1]
      refine dr_wK hKt ?_
      exact dr_wR ⟨rfl, (dr_X_set (k := 3) _ (dr_X_set (k := 2) _ (dr_X_set (k := 1) _ (dr_X_set (k := 0) _ X (by decide)) (by decide)) (by decide)) (by decide))⟩
    rw [dr_pNum_s h2]
    obtain ⟨z2, w2, O2, f2⟩ := a2 h2
    have S2 := dr_S_f1 S1 f2
    refine dr_wI w2 ?_
    try rw [hS.1.1]
    try rw [S1.1.1]
    try rw [S1.1.1]
    refine dr_wK hKt ?_
    have O2' := dr_O_set (k := 0) (nI (dr_wh B n (dr_nx B n e))) O2 ht
    have S2' := dr_S_set (k := 0) (nI (dr_wh B n (dr_nx B n e))) S2 (by decide)
    have t0_2' : (ds_setI z2 t 0 (nI (dr_wh B n (dr_nx B n e)))).1 t 0 = nI (dr_wh B n (dr_nx B n e)) := by rw [ds_setI_row, ds_rowI_self, pk_us]
    obtain ⟨a3, b3⟩ := s_one d 302 _ B n _ O2' (by decide) (by decide)
    cases h3 : dr_on B n (dr_nx B n (dr_nx B n e)) 302 with
    | none =>
      rw [dr_pOne_n h3]
      have X := dr_X_zb (v := 1) O2' S2' hc hw (by decide) (by decide)
      refine dr_wI (b3 h3) ?_
      refine dr_wI (s_wholeX (d + 2) (nI 2) (nI 3) X) ?_
      try rw [X.2.2.2.1.1]
      refine dr_wK hKt ?_
      refine dr_wI (s_oneX (d + 2) 303 (dr_X_set (k := 1) _ X (by decide))) ?_
      refine dr_wI (s_oneX (d + 2) 304 (dr_X_set (k := 1) _ X (by decide))) ?_
      try rw [X.2.2.2.1.1]
      try rw [(dr_X_set (k := 1) _ X (by decide)).2.2.2.1.1]
      refine dr_wK hKt ?_
      refine dr_wI (s_oneX (d + 2) 305 (dr_X_set (k := 2) _ (dr_X_set (k := 1) _ X (by decide)) (by decide))) ?_
      try rw [X.2.2.2.1.1]
      try rw [(dr_X_set (k := 1) _ X (by decide)).2.2.2.1.1]
      try rw [(dr_X_set (k := 2) _ (dr_X_set (k := 1) _ X (by decide)) (by decide)).2.2.2.1.1]
      refine dr_wK hKt ?_
      exact dr_wR ⟨rfl, (dr_X_set (k := 3) _ (dr_X_set (k := 2) _ (dr_X_set (k := 1) _ X (by decide)) (by decide)) (by decide))⟩
    | some i3 =>
      rw [dr_pOne_s h3]
      obtain ⟨z3, w3, O3, f3⟩ := a3 i3 h3
      have S3 := dr_S_f1 S2' f3
      refine dr_wI w3 ?_
      have t0_3 : z3.1 t 0 = _ := (congrFun (f3.1 t (by omega)) 0).trans t0_2'
      obtain ⟨a4, b4⟩ := s_whole d 2 3 _ B n _ O3 (by decide) (by decide)
      by_cases h4 : dr_nu B n (dr_nx B n (dr_nx B n (dr_nx B n e))) 2 3 = 0
      rotate_left
      · rw [dr_pNum_n h4]
        have u4 := (dr_nu_6 B n (dr_nx B n (dr_nx B n (dr_nx B n e))) 2 3).resolve_left h4
        have X := dr_X_zb O3 S3 hc hw u4.1 u4.2
        refine dr_wI (b4 h4) ?_
        try rw [hS.1.1]
        try rw [S1.1.1]
        try rw [S1.1.1]
        try rw [S2.1.1]
        try rw [S2'.1.1]
        try rw [S3.1.1]
        try rw [S3.1.1]
        try rw [X.2.2.2.1.1]
        refine dr_wK hKt ?_
        refine dr_wI (s_oneX (d + 2) 303 (dr_X_set (k := 1) _ X (by decide))) ?_
        refine dr_wI (s_oneX (d + 2) 304 (dr_X_set (k := 1) _ X (by decide))) ?_
        try rw [X.2.2.2.1.1]
        try rw [(dr_X_set (k := 1) _ X (by decide)).2.2.2.1.1]
        refine dr_wK hKt ?_
        refine dr_wI (s_oneX (d + 2) 305 (dr_X_set (k := 2) _ (dr_X_set (k := 1) _ X (by decide)) (by decide))) ?_
        try rw [X.2.2.2.1.1]
        try rw [(dr_X_set (k := 1) _ X (by decide)).2.2.2.1.1]
        try rw [(dr_X_set (k := 2) _ (dr_X_set (k := 1) _ X (by decide)) (by decide)).2.2.2.1.1]
        refine dr_wK hKt ?_
        exact dr_wR ⟨rfl, (dr_X_set (k := 3) _ (dr_X_set (k := 2) _ (dr_X_set (k := 1) _ X (by decide)) (by decide)) (by decide))⟩
      rw [dr_pNum_s h4]
      obtain ⟨z4, w4, O4, f4⟩ := a4 h4
      have S4 := dr_S_f1 S3 f4
      refine dr_wI w4 ?_
      have t0_4 : z4.1 t 0 = _ := (congrFun (f4.1 t (by omega)) 0).trans t0_3
      try rw [hS.1.1]
      try rw [S1.1.1]
      try rw [S1.1.1]
      try rw [S2.1.1]
      try rw [S2'.1.1]
      try rw [S3.1.1]
      try rw [S3.1.1]
      refine dr_wK hKt ?_
      have O4' := dr_O_set (k := 1) (nI (dr_wh B n (dr_nx B n (dr_nx B n (dr_nx B n e))))) O4 ht
      have S4' := dr_S_set (k := 1) (nI (dr_wh B n (dr_nx B n (dr_nx B n (dr_nx B n e))))) S4 (by decide)
      have t0_4' := dr_set_ne (k := 1) (v := nI (dr_wh B n (dr_nx B n (dr_nx B n (dr_nx B n e))))) t0_4 (by decide)
      have t1_4' : (ds_setI z4 t 1 (nI (dr_wh B n (dr_nx B n (dr_nx B n (dr_nx B n e)))))).1 t 1 = nI (dr_wh B n (dr_nx B n (dr_nx B n (dr_nx B n e)))) := by rw [ds_setI_row, ds_rowI_self, pk_us]
      obtain ⟨a5, b5⟩ := s_one d 303 _ B n _ O4' (by decide) (by decide)
      cases h5 : dr_on B n (dr_nx B n (dr_nx B n (dr_nx B n (dr_nx B n e)))) 303 with
      | none =>
        rw [dr_pOne_n h5]
        have X := dr_X_zb (v := 1) O4' S4' hc hw (by decide) (by decide)
        refine dr_wI (b5 h5) ?_
        refine dr_wI (s_oneX (d + 2) 304 X) ?_
        try rw [X.2.2.2.1.1]
        refine dr_wK hKt ?_
        refine dr_wI (s_oneX (d + 2) 305 (dr_X_set (k := 2) _ X (by decide))) ?_
        try rw [X.2.2.2.1.1]
        try rw [(dr_X_set (k := 2) _ X (by decide)).2.2.2.1.1]
        refine dr_wK hKt ?_
        exact dr_wR ⟨rfl, (dr_X_set (k := 3) _ (dr_X_set (k := 2) _ X (by decide)) (by decide))⟩
      | some i5 =>
        rw [dr_pOne_s h5]
        obtain ⟨z5, w5, O5, f5⟩ := a5 i5 h5
        have S5 := dr_S_f1 S4' f5
        refine dr_wI w5 ?_
        have t0_5 : z5.1 t 0 = _ := (congrFun (f5.1 t (by omega)) 0).trans t0_4'
        have t1_5 : z5.1 t 1 = _ := (congrFun (f5.1 t (by omega)) 1).trans t1_4'
        obtain ⟨a6, b6⟩ := s_one d 304 _ B n _ O5 (by decide) (by decide)
        cases h6 : dr_on B n (dr_nx B n (dr_nx B n (dr_nx B n (dr_nx B n (dr_nx B n e))))) 304 with
        | none =>
          rw [dr_pOne_n h6]
          have X := dr_X_zb (v := 1) O5 S5 hc hw (by decide) (by decide)
          refine dr_wI (b6 h6) ?_
          try rw [hS.1.1]
          try rw [S1.1.1]
          try rw [S1.1.1]
          try rw [S2.1.1]
          try rw [S2'.1.1]
          try rw [S3.1.1]
          try rw [S3.1.1]
          try rw [S4.1.1]
          try rw [S4'.1.1]
          try rw [S5.1.1]
          try rw [S5.1.1]
          try rw [X.2.2.2.1.1]
          refine dr_wK hKt ?_
          refine dr_wI (s_oneX (d + 2) 305 (dr_X_set (k := 2) _ X (by decide))) ?_
          try rw [X.2.2.2.1.1]
          try rw [(dr_X_set (k := 2) _ X (by decide)).2.2.2.1.1]
          refine dr_wK hKt ?_
          exact dr_wR ⟨rfl, (dr_X_set (k := 3) _ (dr_X_set (k := 2) _ X (by decide)) (by decide))⟩
        | some i6 =>
          rw [dr_pOne_s h6]
          obtain ⟨z6, w6, O6, f6⟩ := a6 i6 h6
          have S6 := dr_S_f1 S5 f6
          refine dr_wI w6 ?_
          have t0_6 : z6.1 t 0 = _ := (congrFun (f6.1 t (by omega)) 0).trans t0_5
          have t1_6 : z6.1 t 1 = _ := (congrFun (f6.1 t (by omega)) 1).trans t1_5
          try rw [hS.1.1]
          try rw [S1.1.1]
          try rw [S1.1.1]
          try rw [S2.1.1]
          try rw [S2'.1.1]
          try rw [S3.1.1]
          try rw [S3.1.1]
          try rw [S4.1.1]
          try rw [S4'.1.1]
          try rw [S5.1.1]
          try rw [S5.1.1]
          refine dr_wK hKt ?_
          have O6' := dr_O_set (k := 2) (nI i6) O6 ht
          have S6' := dr_S_set (k := 2) (nI i6) S6 (by decide)
          have t0_6' := dr_set_ne (k := 2) (v := nI i6) t0_6 (by decide)
          have t1_6' := dr_set_ne (k := 2) (v := nI i6) t1_6 (by decide)
          have t2_6' : (ds_setI z6 t 2 (nI i6)).1 t 2 = nI i6 := by rw [ds_setI_row, ds_rowI_self, pk_us]
          obtain ⟨a7, b7⟩ := s_one d 305 _ B n _ O6' (by decide) (by decide)
          cases h7 : dr_on B n (dr_nx B n (dr_nx B n (dr_nx B n (dr_nx B n (dr_nx B n (dr_nx B n e)))))) 305 with
          | none =>
            rw [dr_pOne_n h7]
            have X := dr_X_zb (v := 1) O6' S6' hc hw (by decide) (by decide)
            refine dr_wI (b7 h7) ?_
            try rw [hS.1.1]
            try rw [S1.1.1]
            try rw [S1.1.1]
            try rw [S2.1.1]
            try rw [S2'.1.1]
            try rw [S3.1.1]
            try rw [S3.1.1]
            try rw [S4.1.1]
            try rw [S4'.1.1]
            try rw [S5.1.1]
            try rw [S5.1.1]
            try rw [S6.1.1]
            try rw [S6'.1.1]
            try rw [X.2.2.2.1.1]
            refine dr_wK hKt ?_
            exact dr_wR ⟨rfl, (dr_X_set (k := 3) _ X (by decide))⟩
          | some i7 =>
            rw [dr_pOne_s h7]
            obtain ⟨z7, w7, O7, f7⟩ := a7 i7 h7
            have S7 := dr_S_f1 S6' f7
            refine dr_wI w7 ?_
            have t0_7 : z7.1 t 0 = _ := (congrFun (f7.1 t (by omega)) 0).trans t0_6'
            have t1_7 : z7.1 t 1 = _ := (congrFun (f7.1 t (by omega)) 1).trans t1_6'
            have t2_7 : z7.1 t 2 = _ := (congrFun (f7.1 t (by omega)) 2).trans t2_6'
            try rw [hS.1.1]
            try rw [S1.1.1]
            try rw [S1.1.1]
            try rw [S2.1.1]
            try rw [S2'.1.1]
            try rw [S3.1.1]
            try rw [S3.1.1]
            try rw [S4.1.1]
            try rw [S4'.1.1]
            try rw [S5.1.1]
            try rw [S5.1.1]
            try rw [S6.1.1]
            try rw [S6'.1.1]
            refine dr_wK hKt ?_
            have O7' := dr_O_set (k := 3) (nI i7) O7 ht
            have S7' := dr_S_set (k := 3) (nI i7) S7 (by decide)
            have t0_7' := dr_set_ne (k := 3) (v := nI i7) t0_7 (by decide)
            have t1_7' := dr_set_ne (k := 3) (v := nI i7) t1_7 (by decide)
            have t2_7' := dr_set_ne (k := 3) (v := nI i7) t2_7 (by decide)
            have t3_7' : (ds_setI z7 t 3 (nI i7)).1 t 3 = nI i7 := by rw [ds_setI_row, ds_rowI_self, pk_us]
            exact dr_wR ⟨rfl, O7', dr_S_sea S7' t0_7' t1_7' t2_7' t3_7'⟩
