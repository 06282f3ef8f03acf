/-! Told, at either place -/
theorem b_Told_addFamily_0 (t : Nat) (ht : t = 10 ∨ t = 30) (cl : Nat → List Value → ds_St → Option ds_Out) (x1 : Int32) (z : ds_St) : ds_Rw ds_c_Told_addFamily ds_u_Told_addFamily cl 0 [some (.ref t), some (.int x1)] [] z =
  (ds_cV cl j_Sea_put [.ref (t + 5), .int (z.1 t 9), .int x1] z fun z1 => some (none, (ds_setI z1 t 9 ((z1.1 t 9) + 1)))) := by
  rcases ht with rfl | rfl
  · exact b_Told_addFamily_0_10 cl x1 z
  · exact b_Told_addFamily_0_30 cl x1 z
theorem b_Told_addIsland_0 (t : Nat) (ht : t = 10 ∨ t = 30) (cl : Nat → List Value → ds_St → Option ds_Out) (x1 : Int32) (x2 : Int32) (x3 : Int32) (x4 : Int32) (z : ds_St) : ds_Rw ds_c_Told_addIsland ds_u_Told_addIsland cl 0 [some (.ref t), some (.int x1), some (.int x2), some (.int x3), some (.int x4)] [] z =
  (ds_cV cl j_Sea_put [.ref (t + 1), .int (z.1 t 4), .int x1] z fun z1 => (ds_cV cl j_Sea_put [.ref (t + 2), .int (z1.1 t 4), .int x2] z1 fun z2 => (ds_cV cl j_Sea_put [.ref (t + 3), .int (z2.1 t 4), .int x3] z2 fun z3 => (ds_cV cl j_Sea_put [.ref (t + 4), .int (z3.1 t 4), .int x4] z3 fun z4 => some (none, (ds_setI z4 t 4 ((z4.1 t 4) + 1))))))) := by
  rcases ht with rfl | rfl
  · exact b_Told_addIsland_0_10 cl x1 x2 x3 x4 z
  · exact b_Told_addIsland_0_30 cl x1 x2 x3 x4 z
theorem b_Told_addShows_0 (t : Nat) (ht : t = 10 ∨ t = 30) (cl : Nat → List Value → ds_St → Option ds_Out) (x1 : Int32) (x2 : Int32) (z : ds_St) : ds_Rw ds_c_Told_addShows ds_u_Told_addShows cl 0 [some (.ref t), some (.int x1), some (.int x2)] [] z =
  (ds_cV cl j_Sea_put [.ref (t + 8), .int (z.1 t 14), .int x1] z fun z1 => (ds_cV cl j_Sea_put [.ref (t + 9), .int (z1.1 t 14), .int x2] z1 fun z2 => some (none, (ds_setI z2 t 14 ((z2.1 t 14) + 1))))) := by
  rcases ht with rfl | rfl
  · exact b_Told_addShows_0_10 cl x1 x2 z
  · exact b_Told_addShows_0_30 cl x1 x2 z
theorem b_Told_addWish_0 (t : Nat) (ht : t = 10 ∨ t = 30) (cl : Nat → List Value → ds_St → Option ds_Out) (x1 : Int32) (x2 : Int32) (z : ds_St) : ds_Rw ds_c_Told_addWish ds_u_Told_addWish cl 0 [some (.ref t), some (.int x1), some (.int x2)] [] z =
  (ds_cV cl j_Sea_put [.ref (t + 6), .int (z.1 t 11), .int x1] z fun z1 => (ds_cV cl j_Sea_put [.ref (t + 7), .int (z1.1 t 11), .int x2] z1 fun z2 => some (none, (ds_setI z2 t 11 ((z2.1 t 11) + 1))))) := by
  rcases ht with rfl | rfl
  · exact b_Told_addWish_0_10 cl x1 x2 z
  · exact b_Told_addWish_0_30 cl x1 x2 z
theorem b_Told_areNear_0 (t : Nat) (ht : t = 10 ∨ t = 30) (cl : Nat → List Value → ds_St → Option ds_Out) (x1 : Int32) (x2 : Int32) (z : ds_St) : ds_Rw ds_c_Told_areNear ds_u_Told_areNear cl 0 [some (.ref t), some (.int x1), some (.int x2)] [] z =
  if x1 < 0 then some (some (.int 0), z) else if 12 ≤ x1 then some (some (.int 0), z) else if x2 < 0 then some (some (.int 0), z) else if 12 ≤ x2 then some (some (.int 0), z) else ds_chk x1 12 (if ¬ (((z.1 (t + 10) x1.toNatClampNeg) >>> (x2 &&& 31)) &&& 1) = 1 then some (some (.int 0), z) else some (some (.int 1), z)) := by
  rcases ht with rfl | rfl
  · exact b_Told_areNear_0_10 cl x1 x2 z
  · exact b_Told_areNear_0_30 cl x1 x2 z
theorem b_Told_forget_0 (t : Nat) (ht : t = 10 ∨ t = 30) (cl : Nat → List Value → ds_St → Option ds_Out)  (z : ds_St) : ds_Rw ds_c_Told_forget ds_u_Told_forget cl 0 [some (.ref t)] [] z =
  some (none, (ds_setI (ds_setI (ds_setI (ds_setI z t 4 0) t 9 0) t 11 0) t 14 0)) := by
  rcases ht with rfl | rfl
  · exact b_Told_forget_0_10 cl z
  · exact b_Told_forget_0_30 cl z
theorem b_Told_hasWish_0 (t : Nat) (ht : t = 10 ∨ t = 30) (cl : Nat → List Value → ds_St → Option ds_Out) (x1 : Int32) (x2 : Int32) (z : ds_St) : ds_Rw ds_c_Told_hasWish ds_u_Told_hasWish cl 0 [some (.ref t), some (.int x1), some (.int x2), none, none, none] [] z =
  ds_Rw ds_c_Told_hasWish ds_u_Told_hasWish cl 2 [some (.ref t), some (.int x1), some (.int x2), some (.int 0), none, none] [] z := by
  rcases ht with rfl | rfl
  · exact b_Told_hasWish_0_10 cl x1 x2 z
  · exact b_Told_hasWish_0_30 cl x1 x2 z
theorem b_Told_hasWish_2 (t : Nat) (ht : t = 10 ∨ t = 30) (cl : Nat → List Value → ds_St → Option ds_Out) (x1 : Int32) (x2 : Int32) (x3 : Int32) (z : ds_St) : ds_Rw ds_c_Told_hasWish ds_u_Told_hasWish cl 2 [some (.ref t), some (.int x1), some (.int x2), some (.int x3), none, none] [] z =
  if (z.1 t 11) ≤ x3 then some (some (.int 0), z) else (ds_cI cl j_Sea_look [.ref (t + 6), .int x3] z fun r1 z1 => (ds_cI cl j_Sea_look [.ref (t + 7), .int x3] z1 fun r2 z2 => if ¬ r1 = x1 then ds_Rw ds_c_Told_hasWish ds_u_Told_hasWish cl 42 [some (.ref t), some (.int x1), some (.int x2), some (.int x3), some (.int r1), some (.int r2)] [] z2 else if r2 = x2 then some (some (.int 1), z2) else ds_Rw ds_c_Told_hasWish ds_u_Told_hasWish cl 42 [some (.ref t), some (.int x1), some (.int x2), some (.int x3), some (.int r1), some (.int r2)] [] z2)) := by
  rcases ht with rfl | rfl
  · exact b_Told_hasWish_2_10 cl x1 x2 x3 z
  · exact b_Told_hasWish_2_30 cl x1 x2 x3 z
theorem b_Told_hasWish_42 (t : Nat) (ht : t = 10 ∨ t = 30) (cl : Nat → List Value → ds_St → Option ds_Out) (x1 : Int32) (x2 : Int32) (x3 : Int32) (x4 : Int32) (x5 : Int32) (z : ds_St) : ds_Rw ds_c_Told_hasWish ds_u_Told_hasWish cl 42 [some (.ref t), some (.int x1), some (.int x2), some (.int x3), some (.int x4), some (.int x5)] [] z =
  if ¬ x4 = x2 then ds_Rw ds_c_Told_hasWish ds_u_Told_hasWish cl 2 [some (.ref t), some (.int x1), some (.int x2), some (.int (x3 + 1)), none, none] [] z else if ¬ x5 = x1 then ds_Rw ds_c_Told_hasWish ds_u_Told_hasWish cl 2 [some (.ref t), some (.int x1), some (.int x2), some (.int (x3 + 1)), none, none] [] z else some (some (.int 1), z) := by
  rcases ht with rfl | rfl
  · exact b_Told_hasWish_42_10 cl x1 x2 x3 x4 x5 z
  · exact b_Told_hasWish_42_30 cl x1 x2 x3 x4 x5 z
theorem b_Told_isCorner_0 (t : Nat) (ht : t = 10 ∨ t = 30) (cl : Nat → List Value → ds_St → Option ds_Out) (x1 : Int32) (z : ds_St) : ds_Rw ds_c_Told_isCorner ds_u_Told_isCorner cl 0 [some (.ref t), some (.int x1)] [] z =
  if x1 = 0 then some (some (.int 1), z) else if x1 = ((z.1 t 0) - 1) then some (some (.int 1), z) else (ds_cI cl j_Told_room [.ref t] z fun r1 z1 => if x1 = (r1 - (z1.1 t 0)) then some (some (.int 1), z1) else (ds_cI cl j_Told_room [.ref t] z1 fun r2 z2 => if ¬ x1 = (r2 - 1) then some (some (.int 0), z2) else some (some (.int 1), z2))) := by
  rcases ht with rfl | rfl
  · exact b_Told_isCorner_0_10 cl x1 z
  · exact b_Told_isCorner_0_30 cl x1 z
theorem b_Told_isJoker_0 (t : Nat) (ht : t = 10 ∨ t = 30) (cl : Nat → List Value → ds_St → Option ds_Out) (x1 : Int32) (z : ds_St) : ds_Rw ds_c_Told_isJoker ds_u_Told_isJoker cl 0 [some (.ref t), some (.int x1)] [] z =
  (ds_cI cl j_Sea_look [.ref (t + 1), .int x1] z fun r1 z1 => if ¬ r1 = 2 then some (some (.int 0), z1) else some (some (.int 1), z1)) := by
  rcases ht with rfl | rfl
  · exact b_Told_isJoker_0_10 cl x1 z
  · exact b_Told_isJoker_0_30 cl x1 z
theorem b_Told_neighbours_0 (t : Nat) (ht : t = 10 ∨ t = 30) (cl : Nat → List Value → ds_St → Option ds_Out) (x1 : Int32) (x2 : Int32) (z : ds_St) : ds_Rw ds_c_Told_neighbours ds_u_Told_neighbours cl 0 [some (.ref t), some (.int x1), some (.int x2)] [] z =
  if (z.1 t 0) < 1 then some (some (.int 0), z) else if ¬ (z.1 t 3) = 1 then ds_Rw ds_c_Told_neighbours ds_u_Told_neighbours cl 34 [some (.ref t), some (.int x1), some (.int x2)] [] z else (ds_cI cl j_Told_isCorner [.ref t, .int x1] z fun r1 z1 => if ¬ r1 = 0 then some (some (.int 0), z1) else (ds_cI cl j_Told_isCorner [.ref t, .int x2] z1 fun r2 z2 => if r2 = 0 then ds_Rw ds_c_Told_neighbours ds_u_Told_neighbours cl 34 [some (.ref t), some (.int x1), some (.int x2)] [] z2 else some (some (.int 0), z2))) := by
  rcases ht with rfl | rfl
  · exact b_Told_neighbours_0_10 cl x1 x2 z
  · exact b_Told_neighbours_0_30 cl x1 x2 z
theorem b_Told_neighbours_34 (t : Nat) (ht : t = 10 ∨ t = 30) (cl : Nat → List Value → ds_St → Option ds_Out) (x1 : Int32) (x2 : Int32) (z : ds_St) : ds_Rw ds_c_Told_neighbours ds_u_Told_neighbours cl 34 [some (.ref t), some (.int x1), some (.int x2)] [] z =
  ds_nz (z.1 t 0) (ds_nz (z.1 t 0) ((ds_cI cl j_Math_abs [.int ((x1 - x1 / (z.1 t 0) * (z.1 t 0)) - (x2 - x2 / (z.1 t 0) * (z.1 t 0)))] z fun r1 z1 => ds_nz (z1.1 t 0) (ds_nz (z1.1 t 0) ((ds_cI cl j_Math_abs [.int ((x1 / (z1.1 t 0)) - (x2 / (z1.1 t 0)))] z1 fun r2 z2 => if ¬ (r1 + r2) = 1 then some (some (.int 0), z2) else some (some (.int 1), z2))))))) := by
  rcases ht with rfl | rfl
  · exact b_Told_neighbours_34_10 cl x1 x2 z
  · exact b_Told_neighbours_34_30 cl x1 x2 z
theorem b_Told_room_0 (t : Nat) (ht : t = 10 ∨ t = 30) (cl : Nat → List Value → ds_St → Option ds_Out)  (z : ds_St) : ds_Rw ds_c_Told_room ds_u_Told_room cl 0 [some (.ref t)] [] z =
  some (some (.int ((z.1 t 0) * (z.1 t 1))), z) := by
  rcases ht with rfl | rfl
  · exact b_Told_room_0_10 cl z
  · exact b_Told_room_0_30 cl z
theorem b_Told_settle_0 (t : Nat) (ht : t = 10 ∨ t = 30) (cl : Nat → List Value → ds_St → Option ds_Out)  (z : ds_St) : ds_Rw ds_c_Told_settle ds_u_Told_settle cl 0 [some (.ref t), none, none] [] z =
  (ds_cV cl j_Arrays_fill [.ref (t + 10), .int 0] z fun z1 => ds_Rw ds_c_Told_settle ds_u_Told_settle cl 10 [some (.ref t), some (.int 0), none] [] z1) := by
  rcases ht with rfl | rfl
  · exact b_Told_settle_0_10 cl z
  · exact b_Told_settle_0_30 cl z
theorem b_Told_settle_10 (t : Nat) (ht : t = 10 ∨ t = 30) (cl : Nat → List Value → ds_St → Option ds_Out) (x1 : Int32) (z : ds_St) : ds_Rw ds_c_Told_settle ds_u_Told_settle cl 10 [some (.ref t), some (.int x1), none] [] z =
  (ds_cI cl j_Told_room [.ref t] z fun r1 z1 => if r1 ≤ x1 then some (none, z1) else ds_Rw ds_c_Told_settle ds_u_Told_settle cl 20 [some (.ref t), some (.int x1), some (.int 0)] [] z1) := by
  rcases ht with rfl | rfl
  · exact b_Told_settle_10_10 cl x1 z
  · exact b_Told_settle_10_30 cl x1 z
theorem b_Told_settle_20 (t : Nat) (ht : t = 10 ∨ t = 30) (cl : Nat → List Value → ds_St → Option ds_Out) (x1 : Int32) (x2 : Int32) (z : ds_St) : ds_Rw ds_c_Told_settle ds_u_Told_settle cl 20 [some (.ref t), some (.int x1), some (.int x2)] [] z =
  (ds_cI cl j_Told_room [.ref t] z fun r1 z1 => if r1 ≤ x2 then ds_Rw ds_c_Told_settle ds_u_Told_settle cl 10 [some (.ref t), some (.int (x1 + 1)), none] [] z1 else (ds_cI cl j_Told_neighbours [.ref t, .int x1, .int x2] z1 fun r2 z2 => if r2 = 0 then ds_Rw ds_c_Told_settle ds_u_Told_settle cl 20 [some (.ref t), some (.int x1), some (.int (x2 + 1))] [] z2 else (ds_cI cl j_Sea_look [.ref (t + 10), .int x1] z2 fun r3 z3 => (ds_cV cl j_Sea_put [.ref (t + 10), .int x1, .int (r3 ||| (1 <<< (x2 &&& 31)))] z3 fun z4 => ds_Rw ds_c_Told_settle ds_u_Told_settle cl 20 [some (.ref t), some (.int x1), some (.int (x2 + 1))] [] z4)))) := by
  rcases ht with rfl | rfl
  · exact b_Told_settle_20_10 cl x1 x2 z
  · exact b_Told_settle_20_30 cl x1 x2 z
theorem b_Told_worth_0 (t : Nat) (ht : t = 10 ∨ t = 30) (cl : Nat → List Value → ds_St → Option ds_Out) (x1 : Int32) (x2 : Int32) (z : ds_St) : ds_Rw ds_c_Told_worth ds_u_Told_worth cl 0 [some (.ref t), some (.int x1), some (.int x2), none, none, none] [] z =
  (ds_cI cl j_Sea_look [.ref (t + 1), .int x1] z fun r1 z1 => (ds_cI cl j_Sea_look [.ref (t + 1), .int x2] z1 fun r2 z2 => if r1 = 2 then some (some (.int 0), z2) else if r2 = 2 then some (some (.int 0), z2) else (ds_cI cl j_Sea_look [.ref (t + 2), .int x1] z2 fun r3 z3 => (ds_cI cl j_Sea_look [.ref (t + 2), .int x2] z3 fun r4 z4 => if r3 = r4 then (ds_cI cl j_Sea_look [.ref (t + 2), .int x1] z4 fun r5 z5 => if ¬ r5 = (z5.1 t 2) then ds_Rw ds_c_Told_worth ds_u_Told_worth cl 71 [none, none, none, some (.int r1), some (.int r2), none] [.int 1] z5 else ds_Rw ds_c_Told_worth ds_u_Told_worth cl 71 [none, none, none, some (.int r1), some (.int r2), none] [.int 2] z5) else some (some (.int 0), z4))))) := by
  rcases ht with rfl | rfl
  · exact b_Told_worth_0_10 cl x1 x2 z
  · exact b_Told_worth_0_30 cl x1 x2 z
theorem b_Told_worth_71 (t : Nat) (ht : t = 10 ∨ t = 30) (cl : Nat → List Value → ds_St → Option ds_Out) (x3 : Int32) (x4 : Int32) (s0 : Int32) (z : ds_St) : ds_Rw ds_c_Told_worth ds_u_Told_worth cl 71 [none, none, none, some (.int x3), some (.int x4), none] [.int s0] z =
  if x3 = 1 then some (some (.int (s0 + 1)), z) else if ¬ x4 = 1 then some (some (.int s0), z) else some (some (.int (s0 + 1)), z) := b_Told_worth_71_10 cl x3 x4 s0 z
