set_option maxRecDepth 20000 in
theorem b_Sea_addPlan_0 (cl : Nat → List Value → ds_St → Option ds_Out) (x1 : Int32) (z : ds_St) : ds_Rw ds_c_Sea_addPlan ds_u_Sea_addPlan cl 0 [some (.ref 0), some (.int x1), none] [] z =
  ds_Rw ds_c_Sea_addPlan ds_u_Sea_addPlan cl 2 [some (.ref 0), some (.int x1), some (.int 0)] [] z :=
  (ds_Rw_stp 400 0 [some (.ref 0), some (.int x1), none] [] z).trans rfl
set_option maxRecDepth 20000 in
theorem b_Sea_addPlan_2 (cl : Nat → List Value → ds_St → Option ds_Out) (x1 : Int32) (x2 : Int32) (z : ds_St) : ds_Rw ds_c_Sea_addPlan ds_u_Sea_addPlan cl 2 [some (.ref 0), some (.int x1), some (.int x2)] [] z =
  if x1 ≤ x2 then some (none, z) else ds_isK (z.2.2 0) 7 ((ds_cI cl j_Sea_look [.ref (ds_R z (z.2.2 0) 10), .int x2] z fun r1 z1 => (ds_cV cl j_Deck_makeMove [.ref 64, .int r1] z1 fun z2 => ds_Rw ds_c_Sea_addPlan ds_u_Sea_addPlan cl 2 [some (.ref 0), some (.int x1), some (.int (x2 + 1))] [] z2))) :=
  (ds_Rw_stp 400 2 [some (.ref 0), some (.int x1), some (.int x2)] [] z).trans rfl
set_option maxRecDepth 20000 in
theorem b_Sea_again_0 (cl : Nat → List Value → ds_St → Option ds_Out)  (z : ds_St) : ds_Rw ds_c_Sea_again ds_u_Sea_again cl 0 [some (.ref 0), none] [] z =
  (ds_cI cl j_Sea_hasSea [.ref 0] z fun r1 z1 => if ¬ r1 = 0 then ds_isK (z1.2.2 0) 7 ((ds_cV cl j_Deck_order [.ref 64, .int (z1.1 (z1.2.2 0) 4)] z1 fun z2 => ds_Rw ds_c_Sea_again ds_u_Sea_again cl 29 [some (.ref 0), some (.int 1)] [] z2)) else (ds_cI cl j_Sea_refuse [.ref 0, .int 1] z1 fun r3 z3 => some (some (.int r3), z3))) :=
  (ds_Rw_stp 400 0 [some (.ref 0), none] [] z).trans rfl
set_option maxRecDepth 20000 in
theorem b_Sea_again_29 (cl : Nat → List Value → ds_St → Option ds_Out) (x1 : Int32) (z : ds_St) : ds_Rw ds_c_Sea_again ds_u_Sea_again cl 29 [some (.ref 0), some (.int x1)] [] z =
  if 1000 < x1 then (ds_cI cl j_Sea_answer [.ref 0, .int (-2)] z fun r1 z1 => some (some (.int r1), z1)) else ds_isK (z.2.2 0) 7 ((ds_cV cl j_Sea_addPlan [.ref 0, .int (z.1 (z.2.2 0) 9)] z fun z2 => (ds_cI cl j_Deck_isOrdered [.ref 64] z2 fun r3 z3 => if r3 = 0 then ds_Rw ds_c_Sea_again ds_u_Sea_again cl 29 [some (.ref 0), some (.int (x1 + 1))] [] z3 else (ds_cI cl j_Sea_answer [.ref 0, .int x1] z3 fun r4 z4 => some (some (.int r4), z4))))) :=
  (ds_Rw_stp 400 29 [some (.ref 0), some (.int x1)] [] z).trans rfl
set_option maxRecDepth 20000 in
theorem b_Sea_alike_0 (cl : Nat → List Value → ds_St → Option ds_Out) (x1 : Int32) (x2 : Int32) (z : ds_St) : ds_Rw ds_c_Sea_alike ds_u_Sea_alike cl 0 [some (.ref 0), some (.int x1), some (.int x2), none] [] z =
  (ds_cI cl j_Sea_isInDeck [.ref 0, .int x1] z fun r1 z1 => if ¬ r1 = 0 then if x2 < 0 then (ds_cI cl j_Sea_refuse [.ref 0, .int 2] z1 fun r2 z2 => some (some (.int r2), z2)) else if x2 ≤ 100 then (ds_cI cl j_Deck_placeOf [.ref 61, .int x1] z1 fun r3 z3 => (ds_cV cl j_Chances_begin [.ref 75, .int r3, .int (z3.1 61 2)] z3 fun z4 => ds_Rw ds_c_Sea_alike ds_u_Sea_alike cl 54 [some (.ref 0), none, some (.int x2), some (.int 0)] [] z4)) else (ds_cI cl j_Sea_refuse [.ref 0, .int 2] z1 fun r5 z5 => some (some (.int r5), z5)) else (ds_cI cl j_Sea_refuse [.ref 0, .int 1] z1 fun r6 z6 => some (some (.int r6), z6))) :=
  (ds_Rw_stp 400 0 [some (.ref 0), some (.int x1), some (.int x2), none] [] z).trans rfl
set_option maxRecDepth 20000 in
theorem b_Sea_alike_54 (cl : Nat → List Value → ds_St → Option ds_Out) (x2 : Int32) (x3 : Int32) (z : ds_St) : ds_Rw ds_c_Sea_alike ds_u_Sea_alike cl 54 [some (.ref 0), none, some (.int x2), some (.int x3)] [] z =
  if 8 < x3 then (ds_cI cl j_Sea_answer [.ref 0, .int (-2)] z fun r1 z1 => some (some (.int r1), z1)) else (ds_cL cl j_Chances_difference [.ref 75] z fun r2 z2 => if 0 < (lg_cmp (r2 * 100) ((z2.2.1 75 3) * x2.toInt64)) then (ds_cV cl j_Chances_goOn [.ref 75] z2 fun z3 => ds_Rw ds_c_Sea_alike ds_u_Sea_alike cl 54 [some (.ref 0), none, some (.int x2), some (.int (x3 + 1))] [] z3) else (ds_cI cl j_Sea_answer [.ref 0, .int x3] z2 fun r4 z4 => some (some (.int r4), z4))) :=
  (ds_Rw_stp 400 54 [some (.ref 0), none, some (.int x2), some (.int x3)] [] z).trans rfl
set_option maxRecDepth 20000 in
theorem b_Sea_answer_0 (cl : Nat → List Value → ds_St → Option ds_Out) (x1 : Int32) (z : ds_St) : ds_Rw ds_c_Sea_answer ds_u_Sea_answer cl 0 [some (.ref 0), some (.int x1)] [] z =
  some (some (.int x1), (ds_setI z 0 10 0)) :=
  (ds_Rw_stp 400 0 [some (.ref 0), some (.int x1)] [] z).trans rfl
set_option maxRecDepth 20000 in
theorem b_Sea_back_0 (cl : Nat → List Value → ds_St → Option ds_Out) (x1 : Int32) (z : ds_St) : ds_Rw ds_c_Sea_back ds_u_Sea_back cl 0 [some (.ref 0), some (.int x1)] [] z =
  if x1 < 0 then some (some (.int 0), (ds_setI z 0 10 1)) else if x1 < (z.1 82 3) then (ds_cV cl j_Shelf_readInto [.ref 82, .int x1, .ref 61] z fun z1 => (ds_cV cl j_Shelf_empty [.ref 80] z1 fun z2 => some (some (.int 1), (ds_setI z2 0 10 0)))) else some (some (.int 0), (ds_setI z 0 10 1)) :=
  (ds_Rw_stp 400 0 [some (.ref 0), some (.int x1)] [] z).trans rfl
set_option maxRecDepth 20000 in
theorem b_Sea_beside_0 (cl : Nat → List Value → ds_St → Option ds_Out) (x1 : Int32) (z : ds_St) : ds_Rw ds_c_Sea_beside ds_u_Sea_beside cl 0 [some (.ref 0), some (.int x1)] [] z =
  (ds_cI cl j_Sea_isIsland [.ref 0, .int x1] z fun r1 z1 => if r1 = 0 then (ds_cI cl j_Sea_refuse [.ref 0, .int 1] z1 fun r2 z2 => some (some (.int r2), z2)) else (ds_cR cl j_Sea_chartOf [.ref 0, .ref 61] z1 fun r3 z3 => ds_isK r3 1 ((ds_cI cl j_Chart_mates [.ref r3, .int x1] z3 fun r4 z4 => (ds_cI cl j_Sea_answer [.ref 0, .int r4] z4 fun r5 z5 => some (some (.int r5), z5)))))) :=
  (ds_Rw_stp 400 0 [some (.ref 0), some (.int x1)] [] z).trans rfl
set_option maxRecDepth 20000 in
theorem b_Sea_best_0 (cl : Nat → List Value → ds_St → Option ds_Out)  (z : ds_St) : ds_Rw ds_c_Sea_best ds_u_Sea_best cl 0 [some (.ref 0)] [] z =
  (ds_cI cl j_Sea_hasSea [.ref 0] z fun r1 z1 => if r1 = 0 then (ds_cI cl j_Sea_refuse [.ref 0, .int 1] z1 fun r2 z2 => some (some (.int r2), z2)) else (ds_cI cl j_Sea_bestMove [.ref 0] z1 fun r3 z3 => (ds_cI cl j_Sea_answer [.ref 0, .int r3] z3 fun r4 z4 => some (some (.int r4), z4)))) :=
  (ds_Rw_stp 400 0 [some (.ref 0)] [] z).trans rfl
set_option maxRecDepth 20000 in
theorem b_Sea_bestMove_0 (cl : Nat → List Value → ds_St → Option ds_Out)  (z : ds_St) : ds_Rw ds_c_Sea_bestMove ds_u_Sea_bestMove cl 0 [some (.ref 0), none, none, none, none] [] z =
  ds_Rw ds_c_Sea_bestMove ds_u_Sea_bestMove cl 6 [some (.ref 0), some (.int (-1)), some (.int 0), some (.int 0), none] [] z :=
  (ds_Rw_stp 400 0 [some (.ref 0), none, none, none, none] [] z).trans rfl
set_option maxRecDepth 20000 in
theorem b_Sea_bestMove_6 (cl : Nat → List Value → ds_St → Option ds_Out) (x1 : Int32) (x2 : Int32) (x3 : Int32) (z : ds_St) : ds_Rw ds_c_Sea_bestMove ds_u_Sea_bestMove cl 6 [some (.ref 0), some (.int x1), some (.int x2), some (.int x3), none] [] z =
  (ds_cI cl j_Sea_movesOf [.int (z.1 61 2)] z fun r1 z1 => if r1 ≤ x3 then some (some (.int x2), z1) else (ds_cI cl j_Sea_tradesBy [.ref 0, .int x3] z1 fun r2 z2 => if r2 ≤ x1 then ds_Rw ds_c_Sea_bestMove ds_u_Sea_bestMove cl 6 [some (.ref 0), some (.int x1), some (.int x2), some (.int (x3 + 1)), none] [] z2 else ds_Rw ds_c_Sea_bestMove ds_u_Sea_bestMove cl 6 [some (.ref 0), some (.int r2), some (.int x3), some (.int (x3 + 1)), none] [] z2)) :=
  (ds_Rw_stp 400 6 [some (.ref 0), some (.int x1), some (.int x2), some (.int x3), none] [] z).trans rfl
set_option maxRecDepth 20000 in
theorem b_Sea_bestTrades_0 (cl : Nat → List Value → ds_St → Option ds_Out)  (z : ds_St) : ds_Rw ds_c_Sea_bestTrades ds_u_Sea_bestTrades cl 0 [some (.ref 0)] [] z =
  (ds_cI cl j_Sea_hasSea [.ref 0] z fun r1 z1 => if r1 = 0 then (ds_cI cl j_Sea_refuse [.ref 0, .int 1] z1 fun r2 z2 => some (some (.int r2), z2)) else (ds_cI cl j_Sea_bestMove [.ref 0] z1 fun r3 z3 => (ds_cI cl j_Sea_tradesBy [.ref 0, .int r3] z3 fun r4 z4 => (ds_cI cl j_Sea_answer [.ref 0, .int r4] z4 fun r5 z5 => some (some (.int r5), z5))))) :=
  (ds_Rw_stp 400 0 [some (.ref 0)] [] z).trans rfl
set_option maxRecDepth 20000 in
theorem b_Sea_bestTwo_0 (cl : Nat → List Value → ds_St → Option ds_Out)  (z : ds_St) : ds_Rw ds_c_Sea_bestTwo ds_u_Sea_bestTwo cl 0 [some (.ref 0), none, none, none, none, none] [] z =
  (ds_cI cl j_Sea_hasSea [.ref 0] z fun r1 z1 => if ¬ r1 = 0 then ds_Rw ds_c_Sea_bestTwo ds_u_Sea_bestTwo cl 19 [some (.ref 0), some (.int (-1)), some (.int 0), some (.int 0), none, none] [] z1 else (ds_cI cl j_Sea_refuse [.ref 0, .int 1] z1 fun r2 z2 => some (some (.int r2), z2))) :=
  (ds_Rw_stp 400 0 [some (.ref 0), none, none, none, none, none] [] z).trans rfl
set_option maxRecDepth 20000 in
theorem b_Sea_bestTwo_19 (cl : Nat → List Value → ds_St → Option ds_Out) (x1 : Int32) (x2 : Int32) (x3 : Int32) (z : ds_St) : ds_Rw ds_c_Sea_bestTwo ds_u_Sea_bestTwo cl 19 [some (.ref 0), some (.int x1), some (.int x2), some (.int x3), none, none] [] z =
  (ds_cI cl j_Sea_movesOf [.int (z.1 61 2)] z fun r1 z1 => if r1 ≤ x3 then (ds_cI cl j_Sea_answer [.ref 0, .int x2] z1 fun r2 z2 => some (some (.int r2), z2)) else ds_Rw ds_c_Sea_bestTwo ds_u_Sea_bestTwo cl 36 [some (.ref 0), some (.int x1), some (.int x2), some (.int x3), some (.int 0), none] [] z1) :=
  (ds_Rw_stp 400 19 [some (.ref 0), some (.int x1), some (.int x2), some (.int x3), none, none] [] z).trans rfl
set_option maxRecDepth 20000 in
theorem b_Sea_bestTwo_36 (cl : Nat → List Value → ds_St → Option ds_Out) (x1 : Int32) (x2 : Int32) (x3 : Int32) (x4 : Int32) (z : ds_St) : ds_Rw ds_c_Sea_bestTwo ds_u_Sea_bestTwo cl 36 [some (.ref 0), some (.int x1), some (.int x2), some (.int x3), some (.int x4), none] [] z =
  (ds_cI cl j_Sea_movesOf [.int (z.1 61 2)] z fun r1 z1 => if r1 ≤ x4 then ds_Rw ds_c_Sea_bestTwo ds_u_Sea_bestTwo cl 19 [some (.ref 0), some (.int x1), some (.int x2), some (.int (x3 + 1)), none, none] [] z1 else (ds_cV cl j_Sea_makeTwo [.ref 0, .int x3, .int x4] z1 fun z2 => (ds_cR cl j_Sea_chartOf [.ref 0, .ref 64] z2 fun r3 z3 => ds_isK r3 1 ((ds_cI cl j_Chart_allTrades [.ref r3] z3 fun r4 z4 => if r4 ≤ x1 then ds_Rw ds_c_Sea_bestTwo ds_u_Sea_bestTwo cl 36 [some (.ref 0), some (.int x1), some (.int x2), some (.int x3), some (.int (x4 + 1)), none] [] z4 else ds_Rw ds_c_Sea_bestTwo ds_u_Sea_bestTwo cl 36 [some (.ref 0), some (.int r4), some (.int ((100 * x3) + x4)), some (.int x3), some (.int (x4 + 1)), none] [] z4))))) :=
  (ds_Rw_stp 400 36 [some (.ref 0), some (.int x1), some (.int x2), some (.int x3), some (.int x4), none] [] z).trans rfl
set_option maxRecDepth 20000 in
theorem b_Sea_can_0 (cl : Nat → List Value → ds_St → Option ds_Out) (x1 : Int32) (x2 : Int32) (z : ds_St) : ds_Rw ds_c_Sea_can ds_u_Sea_can cl 0 [some (.ref 0), some (.int x1), some (.int x2), none, none] [] z =
  (ds_cI cl j_Sea_isInDeck [.ref 0, .int x1] z fun r1 z1 => if ¬ r1 = 0 then if x2 < 0 then (ds_cI cl j_Sea_refuse [.ref 0, .int 2] z1 fun r2 z2 => some (some (.int r2), z2)) else if x2 ≤ 12 then (ds_cI cl j_Deck_placeOf [.ref 61, .int x1] z1 fun r3 z3 => ds_Rw ds_c_Sea_can ds_u_Sea_can cl 44 [some (.ref 0), none, some (.int x2), some (.int (1 <<< (r3 &&& 31))), some (.int 0)] [] z3) else (ds_cI cl j_Sea_refuse [.ref 0, .int 2] z1 fun r4 z4 => some (some (.int r4), z4)) else (ds_cI cl j_Sea_refuse [.ref 0, .int 1] z1 fun r5 z5 => some (some (.int r5), z5))) :=
  (ds_Rw_stp 400 0 [some (.ref 0), some (.int x1), some (.int x2), none, none] [] z).trans rfl
set_option maxRecDepth 20000 in
theorem b_Sea_can_44 (cl : Nat → List Value → ds_St → Option ds_Out) (x2 : Int32) (x3 : Int32) (x4 : Int32) (z : ds_St) : ds_Rw ds_c_Sea_can ds_u_Sea_can cl 44 [some (.ref 0), none, some (.int x2), some (.int x3), some (.int x4)] [] z =
  if x2 ≤ x4 then (ds_cI cl j_Sea_answer [.ref 0, .int x3] z fun r1 z1 => some (some (.int r1), z1)) else (ds_cI cl j_Sea_placesNext [.ref 0, .int x3] z fun r2 z2 => ds_Rw ds_c_Sea_can ds_u_Sea_can cl 44 [some (.ref 0), none, some (.int x2), some (.int r2), some (.int (x4 + 1))] [] z2) :=
  (ds_Rw_stp 400 44 [some (.ref 0), none, some (.int x2), some (.int x3), some (.int x4)] [] z).trans rfl
set_option maxRecDepth 20000 in
theorem b_Sea_card_0 (cl : Nat → List Value → ds_St → Option ds_Out) (x1 : Int32) (z : ds_St) : ds_Rw ds_c_Sea_card ds_u_Sea_card cl 0 [some (.ref 0), some (.int x1)] [] z =
  (ds_cI cl j_Sea_isPlace [.ref 0, .int x1] z fun r1 z1 => if r1 = 0 then (ds_cI cl j_Sea_refuse [.ref 0, .int 1] z1 fun r2 z2 => some (some (.int r2), z2)) else (ds_cI cl j_Deck_cardAt [.ref 61, .int x1] z1 fun r3 z3 => (ds_cI cl j_Sea_answer [.ref 0, .int r3] z3 fun r4 z4 => some (some (.int r4), z4)))) :=
  (ds_Rw_stp 400 0 [some (.ref 0), some (.int x1)] [] z).trans rfl
set_option maxRecDepth 20000 in
theorem b_Sea_chartOf_0 (cl : Nat → List Value → ds_St → Option ds_Out) (x1 : Nat) (z : ds_St) : ds_Rw ds_c_Sea_chartOf ds_u_Sea_chartOf cl 0 [some (.ref 0), some (.ref x1)] [] z =
  (ds_cV cl j_Chart_show [.ref 67, .ref (z.2.2 0), .ref x1] z fun z1 => some (some (.ref 67), z1)) :=
  (ds_Rw_stp 400 0 [some (.ref 0), some (.ref x1)] [] z).trans rfl
set_option maxRecDepth 20000 in
theorem b_Sea_choice_0 (cl : Nat → List Value → ds_St → Option ds_Out) (x0 : Nat) (x1 : Int64) (z : ds_St) : ds_Rw ds_c_Sea_choice ds_u_Sea_choice cl 0 [some (.ref x0), some (.long x1), none, none, none, none, none, none] [] z =
  ds_Rw ds_c_Sea_choice ds_u_Sea_choice cl 8 [some (.ref x0), some (.long x1), none, some (.int 0), some (.long 0), none, some (.int 0), none] [] z :=
  (ds_Rw_stp 400 0 [some (.ref x0), some (.long x1), none, none, none, none, none, none] [] z).trans rfl
set_option maxRecDepth 20000 in
theorem b_Sea_choice_8 (cl : Nat → List Value → ds_St → Option ds_Out) (x0 : Nat) (x1 : Int64) (x3 : Int32) (x4 : Int64) (x6 : Int32) (z : ds_St) : ds_Rw ds_c_Sea_choice ds_u_Sea_choice cl 8 [some (.ref x0), some (.long x1), none, some (.int x3), some (.long x4), none, some (.int x6), none] [] z =
  ds_isT x0 (if (Int32.ofNat (ds_sl x0).length) < x6 then some (some (.int (-1)), z) else ds_isT x0 (if (Int32.ofNat (ds_sl x0).length) ≤ x6 then ds_Rw ds_c_Sea_choice ds_u_Sea_choice cl 37 [some (.ref x0), some (.long x1), none, some (.int x3), some (.long x4), none, some (.int x6), none] [.int 32] z else ds_isT x0 (ds_chk x6 (ds_sl x0).length (ds_Rw ds_c_Sea_choice ds_u_Sea_choice cl 37 [some (.ref x0), some (.long x1), none, some (.int x3), some (.long x4), none, some (.int x6), none] [.int (Int32.ofNat ((ds_sl x0).getD x6.toNatClampNeg 0))] z)))) :=
  (ds_Rw_stp 400 8 [some (.ref x0), some (.long x1), none, some (.int x3), some (.long x4), none, some (.int x6), none] [] z).trans rfl
set_option maxRecDepth 20000 in
theorem b_Sea_choice_37 (cl : Nat → List Value → ds_St → Option ds_Out) (x0 : Nat) (x1 : Int64) (x3 : Int32) (x4 : Int64) (x6 : Int32) (s0 : Int32) (z : ds_St) : ds_Rw ds_c_Sea_choice ds_u_Sea_choice cl 37 [some (.ref x0), some (.long x1), none, some (.int x3), some (.long x4), none, some (.int x6), none] [.int s0] z =
  if s0 = 32 then if ¬ (lg_cmp x4 x1) = 0 then ds_Rw ds_c_Sea_choice ds_u_Sea_choice cl 8 [some (.ref x0), some (.long x1), none, some (.int (x3 + 1)), some (.long 0), none, some (.int (x6 + 1)), none] [] z else some (some (.int x3), z) else (ds_cL cl j_Sea_spell [.long x4, .int s0] z fun r1 z1 => ds_Rw ds_c_Sea_choice ds_u_Sea_choice cl 8 [some (.ref x0), some (.long x1), none, some (.int x3), some (.long r1), none, some (.int (x6 + 1)), none] [] z1) :=
  (ds_Rw_stp 400 37 [some (.ref x0), some (.long x1), none, some (.int x3), some (.long x4), none, some (.int x6), none] [.int s0] z).trans rfl
set_option maxRecDepth 20000 in
theorem b_Sea_crowd_0 (cl : Nat → List Value → ds_St → Option ds_Out)  (z : ds_St) : ds_Rw ds_c_Sea_crowd ds_u_Sea_crowd cl 0 [some (.ref 0)] [] z =
  (ds_cI cl j_Sea_hasSea [.ref 0] z fun r1 z1 => if r1 = 0 then (ds_cI cl j_Sea_refuse [.ref 0, .int 1] z1 fun r2 z2 => some (some (.int r2), z2)) else (ds_cR cl j_Sea_chartOf [.ref 0, .ref 61] z1 fun r3 z3 => ds_isK r3 1 ((ds_cI cl j_Chart_mostPeople [.ref r3] z3 fun r4 z4 => (ds_cI cl j_Sea_answer [.ref 0, .int r4] z4 fun r5 z5 => some (some (.int r5), z5)))))) :=
  (ds_Rw_stp 400 0 [some (.ref 0)] [] z).trans rfl
set_option maxRecDepth 20000 in
theorem b_Sea_cycle_0 (cl : Nat → List Value → ds_St → Option ds_Out) (x1 : Int32) (z : ds_St) : ds_Rw ds_c_Sea_cycle ds_u_Sea_cycle cl 0 [some (.ref 0), some (.int x1), none] [] z =
  (ds_cI cl j_Sea_isMove [.ref 0, .int x1] z fun r1 z1 => if ¬ r1 = 0 then (ds_cV cl j_Deck_order [.ref 64, .int (z1.1 61 2)] z1 fun z2 => ds_Rw ds_c_Sea_cycle ds_u_Sea_cycle cl 30 [some (.ref 0), some (.int x1), some (.int 1)] [] z2) else (ds_cI cl j_Sea_refuse [.ref 0, .int 1] z1 fun r3 z3 => some (some (.int r3), z3))) :=
  (ds_Rw_stp 400 0 [some (.ref 0), some (.int x1), none] [] z).trans rfl
set_option maxRecDepth 20000 in
theorem b_Sea_cycle_30 (cl : Nat → List Value → ds_St → Option ds_Out) (x1 : Int32) (x2 : Int32) (z : ds_St) : ds_Rw ds_c_Sea_cycle ds_u_Sea_cycle cl 30 [some (.ref 0), some (.int x1), some (.int x2)] [] z =
  if 1000 < x2 then (ds_cI cl j_Sea_answer [.ref 0, .int (-2)] z fun r1 z1 => some (some (.int r1), z1)) else (ds_cV cl j_Deck_makeMove [.ref 64, .int x1] z fun z2 => (ds_cI cl j_Deck_isOrdered [.ref 64] z2 fun r3 z3 => if r3 = 0 then ds_Rw ds_c_Sea_cycle ds_u_Sea_cycle cl 30 [some (.ref 0), some (.int x1), some (.int (x2 + 1))] [] z3 else (ds_cI cl j_Sea_answer [.ref 0, .int x2] z3 fun r4 z4 => some (some (.int r4), z4)))) :=
  (ds_Rw_stp 400 30 [some (.ref 0), some (.int x1), some (.int x2)] [] z).trans rfl
set_option maxRecDepth 20000 in
theorem b_Sea_deal_0 (cl : Nat → List Value → ds_St → Option ds_Out) (x1 : Int32) (z : ds_St) : ds_Rw ds_c_Sea_deal ds_u_Sea_deal cl 0 [some (.ref 0), some (.int x1)] [] z =
  (ds_cI cl j_Sea_isMove [.ref 0, .int x1] z fun r1 z1 => if ¬ r1 = 0 then (ds_cV cl j_Shelf_pushOver [.ref 80, .ref 61] z1 fun z2 => (ds_cV cl j_Deck_makeMove [.ref 61, .int x1] z2 fun z3 => (ds_cR cl j_Sea_chartOf [.ref 0, .ref 61] z3 fun r4 z4 => ds_isK r4 1 ((ds_cI cl j_Chart_allTrades [.ref r4] z4 fun r5 z5 => (ds_cI cl j_Sea_answer [.ref 0, .int r5] z5 fun r6 z6 => some (some (.int r6), z6))))))) else (ds_cI cl j_Sea_refuse [.ref 0, .int 1] z1 fun r7 z7 => some (some (.int r7), z7))) :=
  (ds_Rw_stp 400 0 [some (.ref 0), some (.int x1)] [] z).trans rfl
set_option maxRecDepth 20000 in
theorem b_Sea_decade_0 (cl : Nat → List Value → ds_St → Option ds_Out) (x1 : Int32) (x2 : Int32) (z : ds_St) : ds_Rw ds_c_Sea_decade ds_u_Sea_decade cl 0 [some (.ref 0), some (.int x1), some (.int x2)] [] z =
  (ds_cI cl j_Sea_hasSea [.ref 0] z fun r1 z1 => if ¬ r1 = 0 then (ds_cI cl j_Sea_isDecade [.int x1, .int x2] z1 fun r2 z2 => if r2 = 0 then (ds_cI cl j_Sea_refuse [.ref 0, .int 2] z2 fun r3 z3 => some (some (.int r3), z3)) else (ds_cI cl j_Sea_sumYears [.ref 0, .int 0, .int (-1), .int x1, .int x2] z2 fun r4 z4 => (ds_cI cl j_Sea_answer [.ref 0, .int r4] z4 fun r5 z5 => some (some (.int r5), z5)))) else (ds_cI cl j_Sea_refuse [.ref 0, .int 1] z1 fun r6 z6 => some (some (.int r6), z6))) :=
  (ds_Rw_stp 400 0 [some (.ref 0), some (.int x1), some (.int x2)] [] z).trans rfl
set_option maxRecDepth 20000 in
theorem b_Sea_decadeOf_0 (cl : Nat → List Value → ds_St → Option ds_Out) (x1 : Int32) (x2 : Int32) (x3 : Int32) (z : ds_St) : ds_Rw ds_c_Sea_decadeOf ds_u_Sea_decadeOf cl 0 [some (.ref 0), some (.int x1), some (.int x2), some (.int x3)] [] z =
  (ds_cI cl j_Sea_isIsland [.ref 0, .int x1] z fun r1 z1 => if ¬ r1 = 0 then (ds_cI cl j_Sea_isDecade [.int x2, .int x3] z1 fun r2 z2 => if r2 = 0 then (ds_cI cl j_Sea_refuse [.ref 0, .int 2] z2 fun r3 z3 => some (some (.int r3), z3)) else (ds_cI cl j_Sea_sumYears [.ref 0, .int 2, .int x1, .int x2, .int x3] z2 fun r4 z4 => (ds_cI cl j_Sea_answer [.ref 0, .int r4] z4 fun r5 z5 => some (some (.int r5), z5)))) else (ds_cI cl j_Sea_refuse [.ref 0, .int 1] z1 fun r6 z6 => some (some (.int r6), z6))) :=
  (ds_Rw_stp 400 0 [some (.ref 0), some (.int x1), some (.int x2), some (.int x3)] [] z).trans rfl
set_option maxRecDepth 20000 in
theorem b_Sea_decadeWishes_0 (cl : Nat → List Value → ds_St → Option ds_Out) (x1 : Int32) (x2 : Int32) (z : ds_St) : ds_Rw ds_c_Sea_decadeWishes ds_u_Sea_decadeWishes cl 0 [some (.ref 0), some (.int x1), some (.int x2)] [] z =
  (ds_cI cl j_Sea_hasSea [.ref 0] z fun r1 z1 => if ¬ r1 = 0 then (ds_cI cl j_Sea_isDecade [.int x1, .int x2] z1 fun r2 z2 => if r2 = 0 then (ds_cI cl j_Sea_refuse [.ref 0, .int 2] z2 fun r3 z3 => some (some (.int r3), z3)) else (ds_cI cl j_Sea_sumYears [.ref 0, .int 1, .int (-1), .int x1, .int x2] z2 fun r4 z4 => (ds_cI cl j_Sea_answer [.ref 0, .int r4] z4 fun r5 z5 => some (some (.int r5), z5)))) else (ds_cI cl j_Sea_refuse [.ref 0, .int 1] z1 fun r6 z6 => some (some (.int r6), z6))) :=
  (ds_Rw_stp 400 0 [some (.ref 0), some (.int x1), some (.int x2)] [] z).trans rfl
set_option maxRecDepth 20000 in
theorem b_Sea_exchange_0 (cl : Nat → List Value → ds_St → Option ds_Out)  (z : ds_St) : ds_Rw ds_c_Sea_exchange ds_u_Sea_exchange cl 0 [some (.ref 0), none, none, none, none, none] [] z =
  (ds_cI cl j_Sea_hasSea [.ref 0] z fun r1 z1 => if ¬ r1 = 0 then ds_Rw ds_c_Sea_exchange ds_u_Sea_exchange cl 19 [some (.ref 0), some (.int (-1)), some (.int 0), some (.int 0), none, none] [] z1 else (ds_cI cl j_Sea_refuse [.ref 0, .int 1] z1 fun r2 z2 => some (some (.int r2), z2))) :=
  (ds_Rw_stp 400 0 [some (.ref 0), none, none, none, none, none] [] z).trans rfl
set_option maxRecDepth 20000 in
theorem b_Sea_exchange_19 (cl : Nat → List Value → ds_St → Option ds_Out) (x1 : Int32) (x2 : Int32) (x3 : Int32) (z : ds_St) : ds_Rw ds_c_Sea_exchange ds_u_Sea_exchange cl 19 [some (.ref 0), some (.int x1), some (.int x2), some (.int x3), none, none] [] z =
  if (z.1 61 2) ≤ x3 then (ds_cI cl j_Sea_answer [.ref 0, .int x2] z fun r1 z1 => some (some (.int r1), z1)) else ds_Rw ds_c_Sea_exchange ds_u_Sea_exchange cl 35 [some (.ref 0), some (.int x1), some (.int x2), some (.int x3), some (.int (x3 + 1)), none] [] z :=
  (ds_Rw_stp 400 19 [some (.ref 0), some (.int x1), some (.int x2), some (.int x3), none, none] [] z).trans rfl
set_option maxRecDepth 20000 in
theorem b_Sea_exchange_35 (cl : Nat → List Value → ds_St → Option ds_Out) (x1 : Int32) (x2 : Int32) (x3 : Int32) (x4 : Int32) (z : ds_St) : ds_Rw ds_c_Sea_exchange ds_u_Sea_exchange cl 35 [some (.ref 0), some (.int x1), some (.int x2), some (.int x3), some (.int x4), none] [] z =
  if (z.1 61 2) ≤ x4 then ds_Rw ds_c_Sea_exchange ds_u_Sea_exchange cl 19 [some (.ref 0), some (.int x1), some (.int x2), some (.int (x3 + 1)), none, none] [] z else (ds_cV cl j_Deck_take [.ref 64, .ref 61] z fun z1 => (ds_cV cl j_Deck_swap [.ref 64, .int x3, .int x4] z1 fun z2 => (ds_cR cl j_Sea_chartOf [.ref 0, .ref 64] z2 fun r3 z3 => ds_isK r3 1 ((ds_cI cl j_Chart_allTrades [.ref r3] z3 fun r4 z4 => if r4 ≤ x1 then ds_Rw ds_c_Sea_exchange ds_u_Sea_exchange cl 35 [some (.ref 0), some (.int x1), some (.int x2), some (.int x3), some (.int (x4 + 1)), none] [] z4 else ds_Rw ds_c_Sea_exchange ds_u_Sea_exchange cl 35 [some (.ref 0), some (.int r4), some (.int ((100 * x3) + x4)), some (.int x3), some (.int (x4 + 1)), none] [] z4))))) :=
  (ds_Rw_stp 400 35 [some (.ref 0), some (.int x1), some (.int x2), some (.int x3), some (.int x4), none] [] z).trans rfl
set_option maxRecDepth 20000 in
theorem b_Sea_fault_0 (cl : Nat → List Value → ds_St → Option ds_Out)  (z : ds_St) : ds_Rw ds_c_Sea_fault ds_u_Sea_fault cl 0 [some (.ref 0)] [] z =
  some (some (.int (z.1 0 11)), z) :=
  (ds_Rw_stp 400 0 [some (.ref 0)] [] z).trans rfl
set_option maxRecDepth 20000 in
theorem b_Sea_feed_0 (cl : Nat → List Value → ds_St → Option ds_Out) (x1 : Int32) (x2 : Int32) (x3 : Int32) (x4 : Int32) (x5 : Int32) (z : ds_St) : ds_Rw ds_c_Sea_feed ds_u_Sea_feed cl 0 [some (.ref 0), some (.int x1), some (.int x2), some (.int x3), some (.int x4), some (.int x5)] [] z =
  if ((z.1 1 1) + 20) ≤ 900 then (ds_cV cl j_Reader_lengthen [.ref 1, .int x1] z fun z1 => (ds_cV cl j_Reader_lengthen [.ref 1, .int x2] z1 fun z2 => (ds_cV cl j_Reader_lengthen [.ref 1, .int x3] z2 fun z3 => (ds_cV cl j_Reader_lengthen [.ref 1, .int x4] z3 fun z4 => (ds_cV cl j_Reader_lengthen [.ref 1, .int x5] z4 fun z5 => some (some (.int (z5.1 1 1)), z5)))))) else some (some (.int (-1)), z) :=
  (ds_Rw_stp 400 0 [some (.ref 0), some (.int x1), some (.int x2), some (.int x3), some (.int x4), some (.int x5)] [] z).trans rfl
set_option maxRecDepth 20000 in
theorem b_Sea_fewest_0 (cl : Nat → List Value → ds_St → Option ds_Out) (x1 : Int32) (x2 : Int32) (z : ds_St) : ds_Rw ds_c_Sea_fewest ds_u_Sea_fewest cl 0 [some (.ref 0), some (.int x1), some (.int x2)] [] z =
  (ds_cI cl j_Sea_isInDeck [.ref 0, .int x1] z fun r1 z1 => if r1 = 0 then (ds_cI cl j_Sea_refuse [.ref 0, .int 1] z1 fun r2 z2 => some (some (.int r2), z2)) else (ds_cI cl j_Sea_isPlace [.ref 0, .int x2] z1 fun r3 z3 => if ¬ r3 = 0 then (ds_cI cl j_Deck_placeOf [.ref 61, .int x1] z3 fun r4 z4 => (ds_cV cl j_Search_bringTo [.ref 70, .int x2, .int r4, .int (z4.1 61 2)] z4 fun z5 => (ds_cI cl j_Search_length [.ref 70] z5 fun r6 z6 => (ds_cI cl j_Sea_answer [.ref 0, .int r6] z6 fun r7 z7 => some (some (.int r7), z7))))) else (ds_cI cl j_Sea_refuse [.ref 0, .int 1] z3 fun r8 z8 => some (some (.int r8), z8)))) :=
  (ds_Rw_stp 400 0 [some (.ref 0), some (.int x1), some (.int x2)] [] z).trans rfl
set_option maxRecDepth 20000 in
theorem b_Sea_fitAt_0 (cl : Nat → List Value → ds_St → Option ds_Out) (x1 : Int32) (x2 : Int32) (z : ds_St) : ds_Rw ds_c_Sea_fitAt ds_u_Sea_fitAt cl 0 [some (.ref 0), some (.int x1), some (.int x2), none, none] [] z =
  (ds_cI cl j_Sea_hasSea [.ref 0] z fun r1 z1 => if ¬ r1 = 0 then if x1 < 0 then (ds_cI cl j_Sea_refuse [.ref 0, .int 2] z1 fun r2 z2 => some (some (.int r2), z2)) else if x1 ≤ 3 then if x2 < 0 then (ds_cI cl j_Sea_refuse [.ref 0, .int 1] z1 fun r3 z3 => some (some (.int r3), z3)) else if x2 < x1 then ds_isK (z1.2.2 0) 7 ((ds_cV cl j_Sea_makePlan [.ref 0, .int (z1.1 (z1.2.2 0) 9)] z1 fun z4 => (ds_cI cl j_Sea_rowsOfMoves [.ref 0, .int x1] z4 fun r5 z5 => ds_Rw ds_c_Sea_fitAt ds_u_Sea_fitAt cl 63 [some (.ref 0), some (.int x1), some (.int x2), some (.int r5), some (.int 0)] [] z5))) else (ds_cI cl j_Sea_refuse [.ref 0, .int 1] z1 fun r6 z6 => some (some (.int r6), z6)) else (ds_cI cl j_Sea_refuse [.ref 0, .int 2] z1 fun r7 z7 => some (some (.int r7), z7)) else (ds_cI cl j_Sea_refuse [.ref 0, .int 1] z1 fun r8 z8 => some (some (.int r8), z8))) :=
  (ds_Rw_stp 400 0 [some (.ref 0), some (.int x1), some (.int x2), none, none] [] z).trans rfl
set_option maxRecDepth 20000 in
theorem b_Sea_fitAt_63 (cl : Nat → List Value → ds_St → Option ds_Out) (x1 : Int32) (x2 : Int32) (x3 : Int32) (x4 : Int32) (z : ds_St) : ds_Rw ds_c_Sea_fitAt ds_u_Sea_fitAt cl 63 [some (.ref 0), some (.int x1), some (.int x2), some (.int x3), some (.int x4)] [] z =
  if x3 ≤ x4 then (ds_cI cl j_Sea_answer [.ref 0, .int (-2)] z fun r1 z1 => some (some (.int r1), z1)) else (ds_cI cl j_Sea_rowFits [.ref 0, .int x4, .int x1] z fun r2 z2 => if r2 = 0 then ds_Rw ds_c_Sea_fitAt ds_u_Sea_fitAt cl 63 [some (.ref 0), some (.int x1), some (.int x2), some (.int x3), some (.int (x4 + 1))] [] z2 else (ds_cI cl j_Sea_moveOfRow [.ref 0, .int x4, .int ((x1 - 1) - x2)] z2 fun r3 z3 => (ds_cI cl j_Sea_answer [.ref 0, .int r3] z3 fun r4 z4 => some (some (.int r4), z4)))) :=
  (ds_Rw_stp 400 63 [some (.ref 0), some (.int x1), some (.int x2), some (.int x3), some (.int x4)] [] z).trans rfl
set_option maxRecDepth 20000 in
theorem b_Sea_fits_0 (cl : Nat → List Value → ds_St → Option ds_Out) (x1 : Int32) (z : ds_St) : ds_Rw ds_c_Sea_fits ds_u_Sea_fits cl 0 [some (.ref 0), some (.int x1), none, none, none] [] z =
  (ds_cI cl j_Sea_hasSea [.ref 0] z fun r1 z1 => if ¬ r1 = 0 then if x1 < 0 then (ds_cI cl j_Sea_refuse [.ref 0, .int 2] z1 fun r2 z2 => some (some (.int r2), z2)) else if x1 ≤ 3 then ds_isK (z1.2.2 0) 7 ((ds_cV cl j_Sea_makePlan [.ref 0, .int (z1.1 (z1.2.2 0) 9)] z1 fun z3 => (ds_cI cl j_Sea_rowsOfMoves [.ref 0, .int x1] z3 fun r4 z4 => ds_Rw ds_c_Sea_fits ds_u_Sea_fits cl 50 [some (.ref 0), some (.int x1), some (.int r4), some (.int 0), some (.int 0)] [] z4))) else (ds_cI cl j_Sea_refuse [.ref 0, .int 2] z1 fun r5 z5 => some (some (.int r5), z5)) else (ds_cI cl j_Sea_refuse [.ref 0, .int 1] z1 fun r6 z6 => some (some (.int r6), z6))) :=
  (ds_Rw_stp 400 0 [some (.ref 0), some (.int x1), none, none, none] [] z).trans rfl
set_option maxRecDepth 20000 in
theorem b_Sea_fits_50 (cl : Nat → List Value → ds_St → Option ds_Out) (x1 : Int32) (x2 : Int32) (x3 : Int32) (x4 : Int32) (z : ds_St) : ds_Rw ds_c_Sea_fits ds_u_Sea_fits cl 50 [some (.ref 0), some (.int x1), some (.int x2), some (.int x3), some (.int x4)] [] z =
  if x2 ≤ x4 then (ds_cI cl j_Sea_answer [.ref 0, .int x3] z fun r1 z1 => some (some (.int r1), z1)) else (ds_cI cl j_Sea_rowFits [.ref 0, .int x4, .int x1] z fun r2 z2 => if r2 = 0 then ds_Rw ds_c_Sea_fits ds_u_Sea_fits cl 50 [some (.ref 0), some (.int x1), some (.int x2), some (.int x3), some (.int (x4 + 1))] [] z2 else ds_Rw ds_c_Sea_fits ds_u_Sea_fits cl 50 [some (.ref 0), some (.int x1), some (.int x2), some (.int (x3 + 1)), some (.int (x4 + 1))] [] z2) :=
  (ds_Rw_stp 400 50 [some (.ref 0), some (.int x1), some (.int x2), some (.int x3), some (.int x4)] [] z).trans rfl
set_option maxRecDepth 20000 in
theorem b_Sea_foundMove_0 (cl : Nat → List Value → ds_St → Option ds_Out) (x1 : Int32) (z : ds_St) : ds_Rw ds_c_Sea_foundMove ds_u_Sea_foundMove cl 0 [some (.ref 0), some (.int x1)] [] z =
  if x1 < 0 then (ds_cI cl j_Sea_refuse [.ref 0, .int 1] z fun r1 z1 => some (some (.int r1), z1)) else (ds_cI cl j_Search_length [.ref 70] z fun r2 z2 => if r2 ≤ x1 then (ds_cI cl j_Sea_refuse [.ref 0, .int 1] z2 fun r3 z3 => some (some (.int r3), z3)) else (ds_cI cl j_Search_moveOf [.ref 70, .int x1] z2 fun r4 z4 => (ds_cI cl j_Sea_answer [.ref 0, .int r4] z4 fun r5 z5 => some (some (.int r5), z5)))) :=
  (ds_Rw_stp 400 0 [some (.ref 0), some (.int x1)] [] z).trans rfl
set_option maxRecDepth 20000 in
theorem b_Sea_gain_0 (cl : Nat → List Value → ds_St → Option ds_Out) (x1 : Int32) (x2 : Int32) (x3 : Int32) (x4 : Int32) (z : ds_St) : ds_Rw ds_c_Sea_gain ds_u_Sea_gain cl 0 [some (.ref 0), some (.int x1), some (.int x2), some (.int x3), some (.int x4)] [] z =
  (ds_cI cl j_Sea_isGood [.int x1] z fun r1 z1 => if r1 = 0 then some (some (.int (-1000)), (ds_setI z1 0 10 1)) else (ds_cI cl j_Sea_isGood [.int x2] z1 fun r2 z2 => if r2 = 0 then some (some (.int (-1000)), (ds_setI z2 0 10 1)) else (ds_cI cl j_Sea_isMove [.ref 0, .int x3] z2 fun r3 z3 => if r3 = 0 then some (some (.int (-1000)), (ds_setI z3 0 10 1)) else (ds_cI cl j_Sea_isMove [.ref 0, .int x4] z3 fun r4 z4 => if ¬ r4 = 0 then (ds_cI cl j_Sea_gainBy [.ref 0, .int x1, .int x2, .int x3, .int x4] z4 fun r5 z5 => (ds_cI cl j_Sea_answer [.ref 0, .int r5] z5 fun r6 z6 => some (some (.int r6), z6))) else some (some (.int (-1000)), (ds_setI z4 0 10 1)))))) :=
  (ds_Rw_stp 400 0 [some (.ref 0), some (.int x1), some (.int x2), some (.int x3), some (.int x4)] [] z).trans rfl
set_option maxRecDepth 20000 in
theorem b_Sea_gainBy_0 (cl : Nat → List Value → ds_St → Option ds_Out) (x1 : Int32) (x2 : Int32) (x3 : Int32) (x4 : Int32) (z : ds_St) : ds_Rw ds_c_Sea_gainBy ds_u_Sea_gainBy cl 0 [some (.ref 0), some (.int x1), some (.int x2), some (.int x3), some (.int x4)] [] z =
  (ds_cV cl j_Sea_makeTwo [.ref 0, .int x3, .int x4] z fun z1 => (ds_cR cl j_Sea_chartOf [.ref 0, .ref 64] z1 fun r2 z2 => ds_isK r2 1 ((ds_cI cl j_Chart_tradesOf [.ref r2, .int x1] z2 fun r3 z3 => (ds_cR cl j_Sea_chartOf [.ref 0, .ref 64] z3 fun r4 z4 => ds_isK r4 1 ((ds_cI cl j_Chart_tradesOf [.ref r4, .int x2] z4 fun r5 z5 => some (some (.int (r3 - r5)), z5)))))))) :=
  (ds_Rw_stp 400 0 [some (.ref 0), some (.int x1), some (.int x2), some (.int x3), some (.int x4)] [] z).trans rfl
set_option maxRecDepth 20000 in
theorem b_Sea_goesTo_0 (cl : Nat → List Value → ds_St → Option ds_Out) (x0 : Int32) (x1 : Int32) (x2 : Int32) (z : ds_St) : ds_Rw ds_c_Sea_goesTo ds_u_Sea_goesTo cl 0 [some (.int x0), some (.int x1), some (.int x2), none] [] z =
  if ¬ x0 = 0 then if ¬ x0 = 1 then if x0 = 2 then some (some (.int ((x2 - 1) - x1)), z) else if 1 ≤ x2 then (ds_cI cl j_Math_floorMod [.int (x1 - (x0 - 2)), .int x2] z fun r1 z1 => some (some (.int r1), z1)) else some (some (.int ((x2 - 1) - x1)), z) else if (x2 / 2) ≤ x1 then some (some (.int (2 * (x1 - (x2 / 2)))), z) else some (some (.int ((2 * x1) + 1)), z) else if ((x2 + 1) / 2) ≤ x1 then some (some (.int ((2 * (x1 - ((x2 + 1) / 2))) + 1)), z) else some (some (.int (2 * x1)), z) :=
  (ds_Rw_stp 400 0 [some (.int x0), some (.int x1), some (.int x2), none] [] z).trans rfl
set_option maxRecDepth 20000 in
theorem b_Sea_greatestDivisor_0 (cl : Nat → List Value → ds_St → Option ds_Out) (x0 : Int64) (x2 : Int64) (z : ds_St) : ds_Rw ds_c_Sea_greatestDivisor ds_u_Sea_greatestDivisor cl 0 [some (.long x0), none, some (.long x2), none, none, none, none, none, none, none, none] [] z =
  ds_Rw ds_c_Sea_greatestDivisor ds_u_Sea_greatestDivisor cl 9 [none, none, none, none, some (.long x2), none, some (.long x0), none, some (.int 0), none, none] [] z :=
  (ds_Rw_stp 400 0 [some (.long x0), none, some (.long x2), none, none, none, none, none, none, none, none] [] z).trans rfl
set_option maxRecDepth 20000 in
theorem b_Sea_greatestDivisor_9 (cl : Nat → List Value → ds_St → Option ds_Out) (x4 : Int64) (x6 : Int64) (x8 : Int32) (z : ds_St) : ds_Rw ds_c_Sea_greatestDivisor ds_u_Sea_greatestDivisor cl 9 [none, none, none, none, some (.long x4), none, some (.long x6), none, some (.int x8), none, none] [] z =
  if 200 ≤ x8 then some (some (.long x4), z) else if (lg_cmp x6 0) = 0 then some (some (.long x4), z) else ds_nzL x6 (ds_Rw ds_c_Sea_greatestDivisor ds_u_Sea_greatestDivisor cl 9 [none, none, none, none, some (.long x6), none, some (.long (x4 - x4 / x6 * x6)), none, some (.int (x8 + 1)), none, none] [] z) :=
  (ds_Rw_stp 400 9 [none, none, none, none, some (.long x4), none, some (.long x6), none, some (.int x8), none, none] [] z).trans rfl
set_option maxRecDepth 20000 in
theorem b_Sea_hasSea_0 (cl : Nat → List Value → ds_St → Option ds_Out)  (z : ds_St) : ds_Rw ds_c_Sea_hasSea ds_u_Sea_hasSea cl 0 [some (.ref 0)] [] z =
  ds_isK (z.2.2 0) 7 (if (z.1 (z.2.2 0) 4) ≤ 0 then some (some (.int 0), z) else some (some (.int 1), z)) :=
  (ds_Rw_stp 400 0 [some (.ref 0)] [] z).trans rfl
set_option maxRecDepth 20000 in
theorem b_Sea_image_0 (cl : Nat → List Value → ds_St → Option ds_Out)  (z : ds_St) : ds_Rw ds_c_Sea_image ds_u_Sea_image cl 0 [some (.ref 0)] [] z =
  (ds_cI cl j_Sea_hasSea [.ref 0] z fun r1 z1 => if ¬ r1 = 0 then if (z1.1 82 3) < 3 then (ds_cV cl j_Shelf_pushOver [.ref 82, .ref 61] z1 fun z2 => (ds_cI cl j_Sea_answer [.ref 0, .int ((z2.1 82 3) - 1)] z2 fun r3 z3 => some (some (.int r3), z3))) else (ds_cI cl j_Sea_refuse [.ref 0, .int 3] z1 fun r4 z4 => some (some (.int r4), z4)) else (ds_cI cl j_Sea_refuse [.ref 0, .int 1] z1 fun r5 z5 => some (some (.int r5), z5))) :=
  (ds_Rw_stp 400 0 [some (.ref 0)] [] z).trans rfl
set_option maxRecDepth 20000 in
theorem b_Sea_inSea_0 (cl : Nat → List Value → ds_St → Option ds_Out) (x1 : Int32) (x2 : Int32) (x3 : Int32) (z : ds_St) : ds_Rw ds_c_Sea_inSea ds_u_Sea_inSea cl 0 [some (.ref 0), some (.int x1), some (.int x2), some (.int x3)] [] z =
  (ds_cI cl j_Sea_isInDeck [.ref 0, .int x1] z fun r1 z1 => if ¬ r1 = 0 then if x2 < 0 then (ds_cI cl j_Sea_refuse [.ref 0, .int 2] z1 fun r2 z2 => some (some (.long r2.toInt64), z2)) else if x2 ≤ 8 then (ds_cV cl j_Sea_reckonChances [.ref 0, .int x1, .int x2] z1 fun z3 => ds_isK (z3.2.2 0) 7 ((ds_cI cl j_Told_room [.ref (z3.2.2 0)] (ds_setI z3 0 10 0) fun r4 z4 => (ds_cL cl j_Chances_rowsAhead [.ref 75, .int r4] z4 fun r5 z5 => (ds_cL cl j_Sea_lowestTerms [.long r5, .long (z5.2.1 75 3), .int x3] z5 fun r6 z6 => some (some (.long r6), z6)))))) else (ds_cI cl j_Sea_refuse [.ref 0, .int 2] z1 fun r7 z7 => some (some (.long r7.toInt64), z7)) else (ds_cI cl j_Sea_refuse [.ref 0, .int 1] z1 fun r8 z8 => some (some (.long r8.toInt64), z8))) :=
  (ds_Rw_stp 400 0 [some (.ref 0), some (.int x1), some (.int x2), some (.int x3)] [] z).trans rfl
set_option maxRecDepth 20000 in
theorem b_Sea_isDecade_0 (cl : Nat → List Value → ds_St → Option ds_Out) (x0 : Int32) (x1 : Int32) (z : ds_St) : ds_Rw ds_c_Sea_isDecade ds_u_Sea_isDecade cl 0 [some (.int x0), some (.int x1)] [] z =
  if x0 < 0 then some (some (.int 0), z) else if 65536 < x0 then some (some (.int 0), z) else if x1 < 0 then some (some (.int 0), z) else if 50 < x1 then some (some (.int 0), z) else some (some (.int 1), z) :=
  (ds_Rw_stp 400 0 [some (.int x0), some (.int x1)] [] z).trans rfl
set_option maxRecDepth 20000 in
theorem b_Sea_isGood_0 (cl : Nat → List Value → ds_St → Option ds_Out) (x0 : Int32) (z : ds_St) : ds_Rw ds_c_Sea_isGood ds_u_Sea_isGood cl 0 [some (.int x0)] [] z =
  if x0 < 0 then some (some (.int 0), z) else if 4 ≤ x0 then some (some (.int 0), z) else some (some (.int 1), z) :=
  (ds_Rw_stp 400 0 [some (.int x0)] [] z).trans rfl
set_option maxRecDepth 20000 in
theorem b_Sea_isInDeck_0 (cl : Nat → List Value → ds_St → Option ds_Out) (x1 : Int32) (z : ds_St) : ds_Rw ds_c_Sea_isInDeck ds_u_Sea_isInDeck cl 0 [some (.ref 0), some (.int x1)] [] z =
  (ds_cI cl j_Sea_isIsland [.ref 0, .int x1] z fun r1 z1 => if r1 = 0 then some (some (.int 0), z1) else if x1 = (z1.1 61 3) then some (some (.int 0), z1) else some (some (.int 1), z1)) :=
  (ds_Rw_stp 400 0 [some (.ref 0), some (.int x1)] [] z).trans rfl
set_option maxRecDepth 20000 in
theorem b_Sea_isIsland_0 (cl : Nat → List Value → ds_St → Option ds_Out) (x1 : Int32) (z : ds_St) : ds_Rw ds_c_Sea_isIsland ds_u_Sea_isIsland cl 0 [some (.ref 0), some (.int x1)] [] z =
  if x1 < 0 then some (some (.int 0), z) else ds_isK (z.2.2 0) 7 (if (z.1 (z.2.2 0) 4) ≤ x1 then some (some (.int 0), z) else some (some (.int 1), z)) :=
  (ds_Rw_stp 400 0 [some (.ref 0), some (.int x1)] [] z).trans rfl
set_option maxRecDepth 20000 in
theorem b_Sea_isMove_0 (cl : Nat → List Value → ds_St → Option ds_Out) (x1 : Int32) (z : ds_St) : ds_Rw ds_c_Sea_isMove ds_u_Sea_isMove cl 0 [some (.ref 0), some (.int x1)] [] z =
  if x1 < 0 then some (some (.int 0), z) else (ds_cI cl j_Sea_movesOf [.int (z.1 61 2)] z fun r1 z1 => if r1 ≤ x1 then some (some (.int 0), z1) else some (some (.int 1), z1)) :=
  (ds_Rw_stp 400 0 [some (.ref 0), some (.int x1)] [] z).trans rfl
set_option maxRecDepth 20000 in
theorem b_Sea_isPlace_0 (cl : Nat → List Value → ds_St → Option ds_Out) (x1 : Int32) (z : ds_St) : ds_Rw ds_c_Sea_isPlace ds_u_Sea_isPlace cl 0 [some (.ref 0), some (.int x1)] [] z =
  if x1 < 0 then some (some (.int 0), z) else if (z.1 61 2) ≤ x1 then some (some (.int 0), z) else some (some (.int 1), z) :=
  (ds_Rw_stp 400 0 [some (.ref 0), some (.int x1)] [] z).trans rfl
set_option maxRecDepth 20000 in
theorem b_Sea_island_0 (cl : Nat → List Value → ds_St → Option ds_Out) (x1 : Int32) (x2 : Int32) (z : ds_St) : ds_Rw ds_c_Sea_island ds_u_Sea_island cl 0 [some (.ref 0), some (.int x1), some (.int x2)] [] z =
  (ds_cI cl j_Sea_isIsland [.ref 0, .int x1] z fun r1 z1 => if ¬ r1 = 0 then if x2 = 0 then ds_Rw ds_c_Sea_island ds_u_Sea_island cl 48 [some (.ref 0), some (.int x1), none] [] z1 else if x2 = 1 then ds_Rw ds_c_Sea_island ds_u_Sea_island cl 64 [some (.ref 0), some (.int x1), none] [] z1 else if x2 = 2 then ds_Rw ds_c_Sea_island ds_u_Sea_island cl 80 [some (.ref 0), some (.int x1), none] [] z1 else if x2 = 3 then ds_Rw ds_c_Sea_island ds_u_Sea_island cl 96 [some (.ref 0), some (.int x1), none] [] z1 else if x2 = 4 then ds_Rw ds_c_Sea_island ds_u_Sea_island cl 112 [some (.ref 0), some (.int x1), none] [] z1 else (ds_cI cl j_Sea_refuse [.ref 0, .int 1] z1 fun r2 z2 => some (some (.int r2), z2)) else (ds_cI cl j_Sea_refuse [.ref 0, .int 1] z1 fun r3 z3 => some (some (.int r3), z3))) :=
  (ds_Rw_stp 400 0 [some (.ref 0), some (.int x1), some (.int x2)] [] z).trans rfl
set_option maxRecDepth 20000 in
theorem b_Sea_island_48 (cl : Nat → List Value → ds_St → Option ds_Out) (x1 : Int32) (z : ds_St) : ds_Rw ds_c_Sea_island ds_u_Sea_island cl 48 [some (.ref 0), some (.int x1), none] [] z =
  ds_isK (z.2.2 0) 7 ((ds_cI cl j_Sea_look [.ref (ds_R z (z.2.2 0) 5), .int x1] z fun r1 z1 => (ds_cI cl j_Sea_answer [.ref 0, .int r1] z1 fun r2 z2 => some (some (.int r2), z2)))) :=
  (ds_Rw_stp 400 48 [some (.ref 0), some (.int x1), none] [] z).trans rfl
set_option maxRecDepth 20000 in
theorem b_Sea_island_64 (cl : Nat → List Value → ds_St → Option ds_Out) (x1 : Int32) (z : ds_St) : ds_Rw ds_c_Sea_island ds_u_Sea_island cl 64 [some (.ref 0), some (.int x1), none] [] z =
  ds_isK (z.2.2 0) 7 ((ds_cI cl j_Sea_look [.ref (ds_R z (z.2.2 0) 6), .int x1] z fun r1 z1 => (ds_cI cl j_Sea_answer [.ref 0, .int r1] z1 fun r2 z2 => some (some (.int r2), z2)))) :=
  (ds_Rw_stp 400 64 [some (.ref 0), some (.int x1), none] [] z).trans rfl
set_option maxRecDepth 20000 in
theorem b_Sea_island_80 (cl : Nat → List Value → ds_St → Option ds_Out) (x1 : Int32) (z : ds_St) : ds_Rw ds_c_Sea_island ds_u_Sea_island cl 80 [some (.ref 0), some (.int x1), none] [] z =
  ds_isK (z.2.2 0) 7 ((ds_cI cl j_Sea_look [.ref (ds_R z (z.2.2 0) 7), .int x1] z fun r1 z1 => (ds_cI cl j_Sea_answer [.ref 0, .int r1] z1 fun r2 z2 => some (some (.int r2), z2)))) :=
  (ds_Rw_stp 400 80 [some (.ref 0), some (.int x1), none] [] z).trans rfl
set_option maxRecDepth 20000 in
theorem b_Sea_island_96 (cl : Nat → List Value → ds_St → Option ds_Out) (x1 : Int32) (z : ds_St) : ds_Rw ds_c_Sea_island ds_u_Sea_island cl 96 [some (.ref 0), some (.int x1), none] [] z =
  ds_isK (z.2.2 0) 7 ((ds_cI cl j_Sea_look [.ref (ds_R z (z.2.2 0) 8), .int x1] z fun r1 z1 => (ds_cI cl j_Sea_answer [.ref 0, .int r1] z1 fun r2 z2 => some (some (.int r2), z2)))) :=
  (ds_Rw_stp 400 96 [some (.ref 0), some (.int x1), none] [] z).trans rfl
set_option maxRecDepth 20000 in
theorem b_Sea_island_112 (cl : Nat → List Value → ds_St → Option ds_Out) (x1 : Int32) (z : ds_St) : ds_Rw ds_c_Sea_island ds_u_Sea_island cl 112 [some (.ref 0), some (.int x1), none] [] z =
  if ¬ x1 = (z.1 61 3) then (ds_cI cl j_Deck_placeOf [.ref 61, .int x1] z fun r1 z1 => (ds_cI cl j_Sea_answer [.ref 0, .int r1] z1 fun r2 z2 => some (some (.int r2), z2))) else (ds_cI cl j_Sea_answer [.ref 0, .int (-2)] z fun r3 z3 => some (some (.int r3), z3)) :=
  (ds_Rw_stp 400 112 [some (.ref 0), some (.int x1), none] [] z).trans rfl
set_option maxRecDepth 20000 in
theorem b_Sea_journey_0 (cl : Nat → List Value → ds_St → Option ds_Out) (x1 : Int32) (x2 : Int32) (z : ds_St) : ds_Rw ds_c_Sea_journey ds_u_Sea_journey cl 0 [some (.ref 0), some (.int x1), some (.int x2), none] [] z =
  (ds_cI cl j_Sea_isIsland [.ref 0, .int x1] z fun r1 z1 => if r1 = 0 then (ds_cI cl j_Sea_refuse [.ref 0, .int 1] z1 fun r2 z2 => some (some (.int r2), z2)) else (ds_cI cl j_Sea_isIsland [.ref 0, .int x2] z1 fun r3 z3 => if ¬ r3 = 0 then (ds_cR cl j_Sea_chartOf [.ref 0, .ref 61] z3 fun r4 z4 => ds_isK r4 1 ((ds_cI cl j_Chart_placeBit [.ref r4, .int x2] z4 fun r5 z5 => ds_isK r4 1 ((ds_cI cl j_Chart_bridges [.ref r4, .int x1, .int r5] z5 fun r6 z6 => (ds_cI cl j_Sea_answer [.ref 0, .int r6] z6 fun r7 z7 => some (some (.int r7), z7))))))) else (ds_cI cl j_Sea_refuse [.ref 0, .int 1] z3 fun r8 z8 => some (some (.int r8), z8)))) :=
  (ds_Rw_stp 400 0 [some (.ref 0), some (.int x1), some (.int x2), none] [] z).trans rfl
set_option maxRecDepth 20000 in
theorem b_Sea_judge_0 (cl : Nat → List Value → ds_St → Option ds_Out)  (z : ds_St) : ds_Rw ds_c_Sea_judge ds_u_Sea_judge cl 0 [some (.ref 0), none] [] z =
  (ds_cI cl j_Sea_hasSea [.ref 0] z fun r1 z1 => if ¬ r1 = 0 then ds_isK (z1.2.2 0) 7 ((ds_cV cl j_Sea_makePlan [.ref 0, .int (z1.1 (z1.2.2 0) 9)] z1 fun z2 => ds_Rw ds_c_Sea_judge ds_u_Sea_judge cl 26 [some (.ref 0), some (.int 0)] [] z2)) else (ds_cI cl j_Sea_refuse [.ref 0, .int 1] z1 fun r3 z3 => some (some (.int r3), z3))) :=
  (ds_Rw_stp 400 0 [some (.ref 0), none] [] z).trans rfl
set_option maxRecDepth 20000 in
theorem b_Sea_judge_26 (cl : Nat → List Value → ds_St → Option ds_Out) (x1 : Int32) (z : ds_St) : ds_Rw ds_c_Sea_judge ds_u_Sea_judge cl 26 [some (.ref 0), some (.int x1)] [] z =
  ds_isK (z.2.2 0) 7 (if (z.1 (z.2.2 0) 14) ≤ x1 then (ds_cI cl j_Sea_answer [.ref 0, .int (-2)] z fun r1 z1 => some (some (.int r1), z1)) else ds_isK (z.2.2 0) 7 ((ds_cI cl j_Sea_look [.ref (ds_R z (z.2.2 0) 15), .int x1] z fun r2 z2 => (ds_cI cl j_Deck_cardAt [.ref 64, .int r2] z2 fun r3 z3 => ds_isK (z3.2.2 0) 7 ((ds_cI cl j_Sea_look [.ref (ds_R z3 (z3.2.2 0) 16), .int x1] z3 fun r4 z4 => if r3 = r4 then ds_Rw ds_c_Sea_judge ds_u_Sea_judge cl 26 [some (.ref 0), some (.int (x1 + 1))] [] z4 else (ds_cI cl j_Sea_answer [.ref 0, .int x1] z4 fun r5 z5 => some (some (.int r5), z5)))))))) :=
  (ds_Rw_stp 400 26 [some (.ref 0), some (.int x1)] [] z).trans rfl
set_option maxRecDepth 20000 in
theorem b_Sea_lay_0 (cl : Nat → List Value → ds_St → Option ds_Out)  (z : ds_St) : ds_Rw ds_c_Sea_lay ds_u_Sea_lay cl 0 [some (.ref 0)] [] z =
  (ds_cI cl j_Sea_hasSea [.ref 0] z fun r1 z1 => if ¬ r1 = 0 then if ¬ (z1.1 61 3) = (-1) then (ds_cV cl j_Shelf_pushOver [.ref 80, .ref 61] z1 fun z2 => (ds_cV cl j_Deck_putUnder [.ref 61] z2 fun z3 => some (some (.int 1), (ds_setI z3 0 10 0)))) else some (some (.int 0), (ds_setI z1 0 10 6)) else some (some (.int 0), (ds_setI z1 0 10 1))) :=
  (ds_Rw_stp 400 0 [some (.ref 0)] [] z).trans rfl
set_option maxRecDepth 20000 in
theorem b_Sea_led_0 (cl : Nat → List Value → ds_St → Option ds_Out) (x1 : Int32) (z : ds_St) : ds_Rw ds_c_Sea_led ds_u_Sea_led cl 0 [some (.ref 0), some (.int x1), none, none] [] z =
  ds_Rw ds_c_Sea_led ds_u_Sea_led cl 4 [some (.ref 0), some (.int x1), some (.int 0), some (.int 0)] [] z :=
  (ds_Rw_stp 400 0 [some (.ref 0), some (.int x1), none, none] [] z).trans rfl
set_option maxRecDepth 20000 in
theorem b_Sea_led_4 (cl : Nat → List Value → ds_St → Option ds_Out) (x1 : Int32) (x2 : Int32) (x3 : Int32) (z : ds_St) : ds_Rw ds_c_Sea_led ds_u_Sea_led cl 4 [some (.ref 0), some (.int x1), some (.int x2), some (.int x3)] [] z =
  ds_isK (z.2.2 0) 7 (if (z.1 (z.2.2 0) 4) ≤ x3 then some (some .null, z) else (ds_cI cl j_Deck_placeOf [.ref 61, .int x3] z fun r1 z1 => ds_isK (z1.2.2 0) 7 ((ds_cI cl j_Told_room [.ref (z1.2.2 0)] z1 fun r2 z2 => if r1 < r2 then ds_Rw ds_c_Sea_led ds_u_Sea_led cl 4 [some (.ref 0), some (.int x1), some (.int x2), some (.int (x3 + 1))] [] z2 else if ¬ x2 = x1 then ds_Rw ds_c_Sea_led ds_u_Sea_led cl 4 [some (.ref 0), some (.int x1), some (.int (x2 + 1)), some (.int (x3 + 1))] [] z2 else some (some (.int x3), z2))))) :=
  (ds_Rw_stp 400 4 [some (.ref 0), some (.int x1), some (.int x2), some (.int x3)] [] z).trans rfl
set_option maxRecDepth 20000 in
theorem b_Sea_look_0 (cl : Nat → List Value → ds_St → Option ds_Out) (x0 : Nat) (x1 : Int32) (z : ds_St) : ds_Rw ds_c_Sea_look ds_u_Sea_look cl 0 [some (.ref x0), some (.int x1)] [] z =
  if x1 < 0 then some (some (.int (-1)), z) else ds_isA x0 (if (Int32.ofNat (ds_N x0)) ≤ x1 then some (some (.int (-1)), z) else ds_isK x0 11 (ds_chk x1 (ds_N x0) (some (some (.int (z.1 x0 x1.toNatClampNeg)), z)))) :=
  (ds_Rw_stp 400 0 [some (.ref x0), some (.int x1)] [] z).trans rfl
set_option maxRecDepth 20000 in
theorem b_Sea_lowestTerms_0 (cl : Nat → List Value → ds_St → Option ds_Out) (x0 : Int64) (x2 : Int64) (x4 : Int32) (z : ds_St) : ds_Rw ds_c_Sea_lowestTerms ds_u_Sea_lowestTerms cl 0 [some (.long x0), none, some (.long x2), none, some (.int x4), none, none] [] z =
  (ds_cL cl j_Sea_greatestDivisor [.long x0, .long x2] z fun r1 z1 => if 0 ≤ (lg_cmp r1 1) then if x4 = 0 then ds_nzL r1 (some (some (.long (x0 / r1)), z1)) else ds_nzL r1 (some (some (.long (x2 / r1)), z1)) else some (some (.long 0), z1)) :=
  (ds_Rw_stp 400 0 [some (.long x0), none, some (.long x2), none, some (.int x4), none, none] [] z).trans rfl
set_option maxRecDepth 20000 in
theorem b_Sea_makePlan_0 (cl : Nat → List Value → ds_St → Option ds_Out) (x1 : Int32) (z : ds_St) : ds_Rw ds_c_Sea_makePlan ds_u_Sea_makePlan cl 0 [some (.ref 0), some (.int x1)] [] z =
  ds_isK (z.2.2 0) 7 ((ds_cV cl j_Deck_order [.ref 64, .int (z.1 (z.2.2 0) 4)] z fun z1 => (ds_cV cl j_Sea_addPlan [.ref 0, .int x1] z1 fun z2 => some (none, z2)))) :=
  (ds_Rw_stp 400 0 [some (.ref 0), some (.int x1)] [] z).trans rfl
set_option maxRecDepth 20000 in
theorem b_Sea_makeTwo_0 (cl : Nat → List Value → ds_St → Option ds_Out) (x1 : Int32) (x2 : Int32) (z : ds_St) : ds_Rw ds_c_Sea_makeTwo ds_u_Sea_makeTwo cl 0 [some (.ref 0), some (.int x1), some (.int x2)] [] z =
  (ds_cV cl j_Deck_take [.ref 64, .ref 61] z fun z1 => (ds_cV cl j_Deck_makeMove [.ref 64, .int x1] z1 fun z2 => (ds_cV cl j_Deck_makeMove [.ref 64, .int x2] z2 fun z3 => some (none, z3)))) :=
  (ds_Rw_stp 400 0 [some (.ref 0), some (.int x1), some (.int x2)] [] z).trans rfl
set_option maxRecDepth 20000 in
theorem b_Sea_moveAt_0 (cl : Nat → List Value → ds_St → Option ds_Out) (x1 : Int32) (x2 : Int32) (x3 : Int32) (z : ds_St) : ds_Rw ds_c_Sea_moveAt ds_u_Sea_moveAt cl 0 [some (.ref 0), some (.int x1), some (.int x2), some (.int x3)] [] z =
  (ds_cI cl j_Sea_isInDeck [.ref 0, .int x1] z fun r1 z1 => if r1 = 0 then (ds_cI cl j_Sea_refuse [.ref 0, .int 1] z1 fun r2 z2 => some (some (.int r2), z2)) else (ds_cI cl j_Sea_isPlace [.ref 0, .int x2] z1 fun r3 z3 => if ¬ r3 = 0 then (ds_cI cl j_Deck_placeOf [.ref 61, .int x1] z3 fun r4 z4 => (ds_cV cl j_Search_bringTo [.ref 70, .int x2, .int r4, .int (z4.1 61 2)] z4 fun z5 => (ds_cI cl j_Sea_foundMove [.ref 0, .int x3] z5 fun r6 z6 => some (some (.int r6), z6)))) else (ds_cI cl j_Sea_refuse [.ref 0, .int 1] z3 fun r7 z7 => some (some (.int r7), z7)))) :=
  (ds_Rw_stp 400 0 [some (.ref 0), some (.int x1), some (.int x2), some (.int x3)] [] z).trans rfl
set_option maxRecDepth 20000 in
theorem b_Sea_moveOfRow_0 (cl : Nat → List Value → ds_St → Option ds_Out) (x1 : Int32) (x2 : Int32) (z : ds_St) : ds_Rw ds_c_Sea_moveOfRow ds_u_Sea_moveOfRow cl 0 [some (.ref 0), some (.int x1), some (.int x2), none, none, none] [] z =
  ds_isK (z.2.2 0) 7 ((ds_cI cl j_Sea_movesOf [.int (z.1 (z.2.2 0) 4)] z fun r1 z1 => if 1 ≤ r1 then ds_Rw ds_c_Sea_moveOfRow ds_u_Sea_moveOfRow cl 25 [none, none, some (.int x2), some (.int r1), some (.int x1), some (.int 0)] [] z1 else some (some (.int (-2)), z1))) :=
  (ds_Rw_stp 400 0 [some (.ref 0), some (.int x1), some (.int x2), none, none, none] [] z).trans rfl
set_option maxRecDepth 20000 in
theorem b_Sea_moveOfRow_25 (cl : Nat → List Value → ds_St → Option ds_Out) (x2 : Int32) (x3 : Int32) (x4 : Int32) (x5 : Int32) (z : ds_St) : ds_Rw ds_c_Sea_moveOfRow ds_u_Sea_moveOfRow cl 25 [none, none, some (.int x2), some (.int x3), some (.int x4), some (.int x5)] [] z =
  if x2 ≤ x5 then ds_nz x3 (some (some (.int (x4 - x4 / x3 * x3)), z)) else ds_nz x3 (ds_Rw ds_c_Sea_moveOfRow ds_u_Sea_moveOfRow cl 25 [none, none, some (.int x2), some (.int x3), some (.int (x4 / x3)), some (.int (x5 + 1))] [] z) :=
  (ds_Rw_stp 400 25 [none, none, some (.int x2), some (.int x3), some (.int x4), some (.int x5)] [] z).trans rfl
set_option maxRecDepth 20000 in
theorem b_Sea_movesOf_0 (cl : Nat → List Value → ds_St → Option ds_Out) (x0 : Int32) (z : ds_St) : ds_Rw ds_c_Sea_movesOf ds_u_Sea_movesOf cl 0 [some (.int x0)] [] z =
  if x0 ≤ 0 then some (some (.int 0), z) else some (some (.int (2 + x0)), z) :=
  (ds_Rw_stp 400 0 [some (.int x0)] [] z).trans rfl
set_option maxRecDepth 20000 in
theorem b_Sea_nearest_0 (cl : Nat → List Value → ds_St → Option ds_Out) (x1 : Int32) (x2 : Int32) (z : ds_St) : ds_Rw ds_c_Sea_nearest ds_u_Sea_nearest cl 0 [some (.ref 0), some (.int x1), some (.int x2), none] [] z =
  (ds_cI cl j_Sea_isIsland [.ref 0, .int x1] z fun r1 z1 => if r1 = 0 then (ds_cI cl j_Sea_refuse [.ref 0, .int 1] z1 fun r2 z2 => some (some (.int r2), z2)) else (ds_cI cl j_Sea_isGood [.int x2] z1 fun r3 z3 => if ¬ r3 = 0 then (ds_cR cl j_Sea_chartOf [.ref 0, .ref 61] z3 fun r4 z4 => ds_isK r4 1 ((ds_cI cl j_Chart_placesOfGood [.ref r4, .int x2] z4 fun r5 z5 => ds_isK r4 1 ((ds_cI cl j_Chart_placeBit [.ref r4, .int x1] z5 fun r6 z6 => ds_isK r4 1 ((ds_cI cl j_Chart_bridges [.ref r4, .int x1, .int (r5 &&& (r6 ^^^ (-1)))] z6 fun r7 z7 => (ds_cI cl j_Sea_answer [.ref 0, .int r7] z7 fun r8 z8 => some (some (.int r8), z8))))))))) else (ds_cI cl j_Sea_refuse [.ref 0, .int 1] z3 fun r9 z9 => some (some (.int r9), z9)))) :=
  (ds_Rw_stp 400 0 [some (.ref 0), some (.int x1), some (.int x2), none] [] z).trans rfl
set_option maxRecDepth 20000 in
theorem b_Sea_odds_0 (cl : Nat → List Value → ds_St → Option ds_Out) (x1 : Int32) (x2 : Int32) (x3 : Int32) (x4 : Int32) (z : ds_St) : ds_Rw ds_c_Sea_odds ds_u_Sea_odds cl 0 [some (.ref 0), some (.int x1), some (.int x2), some (.int x3), some (.int x4)] [] z =
  (ds_cI cl j_Sea_isInDeck [.ref 0, .int x1] z fun r1 z1 => if r1 = 0 then (ds_cI cl j_Sea_refuse [.ref 0, .int 1] z1 fun r2 z2 => some (some (.long r2.toInt64), z2)) else (ds_cI cl j_Sea_isPlace [.ref 0, .int x3] z1 fun r3 z3 => if ¬ r3 = 0 then if x2 < 0 then (ds_cI cl j_Sea_refuse [.ref 0, .int 2] z3 fun r4 z4 => some (some (.long r4.toInt64), z4)) else if x2 ≤ 8 then (ds_cV cl j_Sea_reckonChances [.ref 0, .int x1, .int x2] z3 fun z5 => (ds_cL cl j_Chances_rowsTo [.ref 75, .int x3] (ds_setI z5 0 10 0) fun r6 z6 => (ds_cL cl j_Sea_lowestTerms [.long r6, .long (z6.2.1 75 3), .int x4] z6 fun r7 z7 => some (some (.long r7), z7)))) else (ds_cI cl j_Sea_refuse [.ref 0, .int 2] z3 fun r8 z8 => some (some (.long r8.toInt64), z8)) else (ds_cI cl j_Sea_refuse [.ref 0, .int 1] z3 fun r9 z9 => some (some (.long r9.toInt64), z9)))) :=
  (ds_Rw_stp 400 0 [some (.ref 0), some (.int x1), some (.int x2), some (.int x3), some (.int x4)] [] z).trans rfl
set_option maxRecDepth 20000 in
theorem b_Sea_palm_0 (cl : Nat → List Value → ds_St → Option ds_Out) (x1 : Int32) (z : ds_St) : ds_Rw ds_c_Sea_palm ds_u_Sea_palm cl 0 [some (.ref 0), some (.int x1)] [] z =
  (ds_cI cl j_Sea_isPlace [.ref 0, .int x1] z fun r1 z1 => if ¬ r1 = 0 then if ¬ (z1.1 61 3) = (-1) then (ds_cI cl j_Sea_refuse [.ref 0, .int 5] z1 fun r2 z2 => some (some (.int r2), z2)) else if 2 < (z1.1 61 2) then (ds_cV cl j_Shelf_pushOver [.ref 80, .ref 61] z1 fun z3 => (ds_cV cl j_Deck_takeOut [.ref 61, .int x1] z3 fun z4 => (ds_cI cl j_Sea_answer [.ref 0, .int (z4.1 61 3)] z4 fun r5 z5 => some (some (.int r5), z5)))) else (ds_cI cl j_Sea_refuse [.ref 0, .int 5] z1 fun r6 z6 => some (some (.int r6), z6)) else (ds_cI cl j_Sea_refuse [.ref 0, .int 1] z1 fun r7 z7 => some (some (.int r7), z7))) :=
  (ds_Rw_stp 400 0 [some (.ref 0), some (.int x1)] [] z).trans rfl
set_option maxRecDepth 20000 in
theorem b_Sea_people_0 (cl : Nat → List Value → ds_St → Option ds_Out) (x1 : Int32) (z : ds_St) : ds_Rw ds_c_Sea_people ds_u_Sea_people cl 0 [some (.ref 0), some (.int x1), none] [] z =
  (ds_cI cl j_Sea_hasSea [.ref 0] z fun r1 z1 => if r1 = 0 then (ds_cI cl j_Sea_refuse [.ref 0, .int 1] z1 fun r2 z2 => some (some (.int r2), z2)) else (ds_cI cl j_Sea_isGood [.int x1] z1 fun r3 z3 => if ¬ r3 = 0 then (ds_cR cl j_Sea_chartOf [.ref 0, .ref 61] z3 fun r4 z4 => ds_isK r4 1 ((ds_cI cl j_Chart_placesOfGood [.ref r4, .int x1] z4 fun r5 z5 => ds_isK r4 1 ((ds_cI cl j_Chart_personsAt [.ref r4, .int r5] z5 fun r6 z6 => (ds_cI cl j_Sea_answer [.ref 0, .int r6] z6 fun r7 z7 => some (some (.int r7), z7))))))) else (ds_cI cl j_Sea_refuse [.ref 0, .int 1] z3 fun r8 z8 => some (some (.int r8), z8)))) :=
  (ds_Rw_stp 400 0 [some (.ref 0), some (.int x1), none] [] z).trans rfl
set_option maxRecDepth 20000 in
theorem b_Sea_placesNext_0 (cl : Nat → List Value → ds_St → Option ds_Out) (x1 : Int32) (z : ds_St) : ds_Rw ds_c_Sea_placesNext ds_u_Sea_placesNext cl 0 [some (.ref 0), some (.int x1), none, none, none] [] z =
  ds_Rw ds_c_Sea_placesNext ds_u_Sea_placesNext cl 4 [some (.ref 0), some (.int x1), some (.int 0), some (.int 0), none] [] z :=
  (ds_Rw_stp 400 0 [some (.ref 0), some (.int x1), none, none, none] [] z).trans rfl
set_option maxRecDepth 20000 in
theorem b_Sea_placesNext_4 (cl : Nat → List Value → ds_St → Option ds_Out) (x1 : Int32) (x2 : Int32) (x3 : Int32) (z : ds_St) : ds_Rw ds_c_Sea_placesNext ds_u_Sea_placesNext cl 4 [some (.ref 0), some (.int x1), some (.int x2), some (.int x3), none] [] z =
  if (z.1 61 2) ≤ x3 then some (some (.int x2), z) else if ¬ ((x1 >>> (x3 &&& 31)) &&& 1) = 1 then ds_Rw ds_c_Sea_placesNext ds_u_Sea_placesNext cl 4 [some (.ref 0), some (.int x1), some (.int x2), some (.int (x3 + 1)), none] [] z else ds_Rw ds_c_Sea_placesNext ds_u_Sea_placesNext cl 27 [some (.ref 0), some (.int x1), some (.int x2), some (.int x3), some (.int 0)] [] z :=
  (ds_Rw_stp 400 4 [some (.ref 0), some (.int x1), some (.int x2), some (.int x3), none] [] z).trans rfl
set_option maxRecDepth 20000 in
theorem b_Sea_placesNext_27 (cl : Nat → List Value → ds_St → Option ds_Out) (x1 : Int32) (x2 : Int32) (x3 : Int32) (x4 : Int32) (z : ds_St) : ds_Rw ds_c_Sea_placesNext ds_u_Sea_placesNext cl 27 [some (.ref 0), some (.int x1), some (.int x2), some (.int x3), some (.int x4)] [] z =
  (ds_cI cl j_Sea_movesOf [.int (z.1 61 2)] z fun r1 z1 => if r1 ≤ x4 then ds_Rw ds_c_Sea_placesNext ds_u_Sea_placesNext cl 4 [some (.ref 0), some (.int x1), some (.int x2), some (.int (x3 + 1)), none] [] z1 else (ds_cI cl j_Sea_goesTo [.int x4, .int x3, .int (z1.1 61 2)] z1 fun r2 z2 => ds_Rw ds_c_Sea_placesNext ds_u_Sea_placesNext cl 27 [some (.ref 0), some (.int x1), some (.int (x2 ||| (1 <<< (r2 &&& 31)))), some (.int x3), some (.int (x4 + 1))] [] z2)) :=
  (ds_Rw_stp 400 27 [some (.ref 0), some (.int x1), some (.int x2), some (.int x3), some (.int x4)] [] z).trans rfl
set_option maxRecDepth 20000 in
theorem b_Sea_planned_0 (cl : Nat → List Value → ds_St → Option ds_Out) (x1 : Int32) (x2 : Int32) (z : ds_St) : ds_Rw ds_c_Sea_planned ds_u_Sea_planned cl 0 [some (.ref 0), some (.int x1), some (.int x2)] [] z =
  if x1 < 0 then (ds_cI cl j_Sea_refuse [.ref 0, .int 1] z fun r1 z1 => some (some (.int r1), z1)) else ds_isK (z.2.2 0) 7 (if x1 < (z.1 (z.2.2 0) 4) then if x2 < 0 then (ds_cI cl j_Sea_refuse [.ref 0, .int 2] z fun r2 z2 => some (some (.int r2), z2)) else ds_isK (z.2.2 0) 7 (if x2 ≤ (z.1 (z.2.2 0) 9) then (ds_cV cl j_Sea_makePlan [.ref 0, .int x2] z fun z3 => (ds_cI cl j_Deck_cardAt [.ref 64, .int x1] z3 fun r4 z4 => (ds_cI cl j_Sea_answer [.ref 0, .int r4] z4 fun r5 z5 => some (some (.int r5), z5)))) else (ds_cI cl j_Sea_refuse [.ref 0, .int 2] z fun r6 z6 => some (some (.int r6), z6))) else (ds_cI cl j_Sea_refuse [.ref 0, .int 1] z fun r7 z7 => some (some (.int r7), z7))) :=
  (ds_Rw_stp 400 0 [some (.ref 0), some (.int x1), some (.int x2)] [] z).trans rfl
set_option maxRecDepth 20000 in
theorem b_Sea_plannedTrades_0 (cl : Nat → List Value → ds_St → Option ds_Out) (x1 : Int32) (z : ds_St) : ds_Rw ds_c_Sea_plannedTrades ds_u_Sea_plannedTrades cl 0 [some (.ref 0), some (.int x1)] [] z =
  (ds_cI cl j_Sea_hasSea [.ref 0] z fun r1 z1 => if ¬ r1 = 0 then if x1 < 0 then (ds_cI cl j_Sea_refuse [.ref 0, .int 2] z1 fun r2 z2 => some (some (.int r2), z2)) else ds_isK (z1.2.2 0) 7 (if x1 ≤ (z1.1 (z1.2.2 0) 9) then (ds_cV cl j_Sea_makePlan [.ref 0, .int x1] z1 fun z3 => (ds_cR cl j_Sea_chartOf [.ref 0, .ref 64] z3 fun r4 z4 => ds_isK r4 1 ((ds_cI cl j_Chart_allTrades [.ref r4] z4 fun r5 z5 => (ds_cI cl j_Sea_answer [.ref 0, .int r5] z5 fun r6 z6 => some (some (.int r6), z6)))))) else (ds_cI cl j_Sea_refuse [.ref 0, .int 2] z1 fun r7 z7 => some (some (.int r7), z7))) else (ds_cI cl j_Sea_refuse [.ref 0, .int 1] z1 fun r8 z8 => some (some (.int r8), z8))) :=
  (ds_Rw_stp 400 0 [some (.ref 0), some (.int x1)] [] z).trans rfl
set_option maxRecDepth 20000 in
theorem b_Sea_playGame_0 (cl : Nat → List Value → ds_St → Option ds_Out) (x1 : Int32) (x2 : Int32) (z : ds_St) : ds_Rw ds_c_Sea_playGame ds_u_Sea_playGame cl 0 [some (.ref 0), some (.int x1), some (.int x2), none, none] [] z =
  (ds_cI cl j_Sea_movesOf [.int (z.1 61 2)] z fun r1 z1 => ds_Rw ds_c_Sea_playGame ds_u_Sea_playGame cl 19 [some (.ref 0), some (.int x1), some (.int x2), some (.int 0), none] [] (ds_setI z1 78 1 r1)) :=
  (ds_Rw_stp 400 0 [some (.ref 0), some (.int x1), some (.int x2), none, none] [] z).trans rfl
set_option maxRecDepth 20000 in
theorem b_Sea_playGame_19 (cl : Nat → List Value → ds_St → Option ds_Out) (x1 : Int32) (x2 : Int32) (x3 : Int32) (z : ds_St) : ds_Rw ds_c_Sea_playGame ds_u_Sea_playGame cl 19 [some (.ref 0), some (.int x1), some (.int x2), some (.int x3), none] [] z =
  if (z.1 78 1) ≤ x3 then some (none, z) else ds_Rw ds_c_Sea_playGame ds_u_Sea_playGame cl 33 [some (.ref 0), some (.int x1), some (.int x2), some (.int x3), some (.int 0)] [] z :=
  (ds_Rw_stp 400 19 [some (.ref 0), some (.int x1), some (.int x2), some (.int x3), none] [] z).trans rfl
set_option maxRecDepth 20000 in
theorem b_Sea_playGame_33 (cl : Nat → List Value → ds_St → Option ds_Out) (x1 : Int32) (x2 : Int32) (x3 : Int32) (x4 : Int32) (z : ds_St) : ds_Rw ds_c_Sea_playGame ds_u_Sea_playGame cl 33 [some (.ref 0), some (.int x1), some (.int x2), some (.int x3), some (.int x4)] [] z =
  if (z.1 78 1) ≤ x4 then ds_Rw ds_c_Sea_playGame ds_u_Sea_playGame cl 19 [some (.ref 0), some (.int x1), some (.int x2), some (.int (x3 + 1)), none] [] z else (ds_cI cl j_Sea_gainBy [.ref 0, .int x1, .int x2, .int x3, .int x4] z fun r1 z1 => (ds_cV cl j_Game_setGain [.ref 78, .int x3, .int x4, .int r1] z1 fun z2 => ds_Rw ds_c_Sea_playGame ds_u_Sea_playGame cl 33 [some (.ref 0), some (.int x1), some (.int x2), some (.int x3), some (.int (x4 + 1))] [] z2)) :=
  (ds_Rw_stp 400 33 [some (.ref 0), some (.int x1), some (.int x2), some (.int x3), some (.int x4)] [] z).trans rfl
set_option maxRecDepth 20000 in
theorem b_Sea_put_0 (cl : Nat → List Value → ds_St → Option ds_Out) (x0 : Nat) (x1 : Int32) (x2 : Int32) (z : ds_St) : ds_Rw ds_c_Sea_put ds_u_Sea_put cl 0 [some (.ref x0), some (.int x1), some (.int x2)] [] z =
  if x1 < 0 then some (none, z) else ds_isA x0 (if (Int32.ofNat (ds_N x0)) ≤ x1 then some (none, z) else ds_isK x0 11 (ds_chk x1 (ds_N x0) (some (none, (ds_setI z x0 x1.toNatClampNeg x2))))) :=
  (ds_Rw_stp 400 0 [some (.ref x0), some (.int x1), some (.int x2)] [] z).trans rfl
set_option maxRecDepth 20000 in
theorem b_Sea_reckonChances_0 (cl : Nat → List Value → ds_St → Option ds_Out) (x1 : Int32) (x2 : Int32) (z : ds_St) : ds_Rw ds_c_Sea_reckonChances ds_u_Sea_reckonChances cl 0 [some (.ref 0), some (.int x1), some (.int x2), none] [] z =
  (ds_cI cl j_Deck_placeOf [.ref 61, .int x1] z fun r1 z1 => (ds_cV cl j_Chances_begin [.ref 75, .int r1, .int (z1.1 61 2)] z1 fun z2 => ds_Rw ds_c_Sea_reckonChances ds_u_Sea_reckonChances cl 24 [some (.ref 0), none, some (.int x2), some (.int 0)] [] z2)) :=
  (ds_Rw_stp 400 0 [some (.ref 0), some (.int x1), some (.int x2), none] [] z).trans rfl
set_option maxRecDepth 20000 in
theorem b_Sea_reckonChances_24 (cl : Nat → List Value → ds_St → Option ds_Out) (x2 : Int32) (x3 : Int32) (z : ds_St) : ds_Rw ds_c_Sea_reckonChances ds_u_Sea_reckonChances cl 24 [some (.ref 0), none, some (.int x2), some (.int x3)] [] z =
  if x2 ≤ x3 then some (none, z) else (ds_cV cl j_Chances_goOn [.ref 75] z fun z1 => ds_Rw ds_c_Sea_reckonChances ds_u_Sea_reckonChances cl 24 [some (.ref 0), none, some (.int x2), some (.int (x3 + 1))] [] z1) :=
  (ds_Rw_stp 400 24 [some (.ref 0), none, some (.int x2), some (.int x3)] [] z).trans rfl
set_option maxRecDepth 20000 in
theorem b_Sea_refuse_0 (cl : Nat → List Value → ds_St → Option ds_Out) (x1 : Int32) (z : ds_St) : ds_Rw ds_c_Sea_refuse ds_u_Sea_refuse cl 0 [some (.ref 0), some (.int x1)] [] z =
  some (some (.int (-1)), (ds_setI z 0 10 x1)) :=
  (ds_Rw_stp 400 0 [some (.ref 0), some (.int x1)] [] z).trans rfl
set_option maxRecDepth 20000 in
theorem b_Sea_rest_0 (cl : Nat → List Value → ds_St → Option ds_Out) (x1 : Int32) (x2 : Int32) (z : ds_St) : ds_Rw ds_c_Sea_rest ds_u_Sea_rest cl 0 [some (.ref 0), some (.int x1), some (.int x2)] [] z =
  (ds_cI cl j_Sea_hasSea [.ref 0] z fun r1 z1 => if r1 = 0 then (ds_cI cl j_Sea_refuse [.ref 0, .int 1] z1 fun r2 z2 => some (some (.int r2), z2)) else (ds_cI cl j_Sea_isGood [.int x1] z1 fun r3 z3 => if r3 = 0 then (ds_cI cl j_Sea_refuse [.ref 0, .int 1] z3 fun r4 z4 => some (some (.int r4), z4)) else (ds_cI cl j_Sea_isGood [.int x2] z3 fun r5 z5 => if ¬ r5 = 0 then (ds_cV cl j_Sea_playGame [.ref 0, .int x1, .int x2] z5 fun z6 => (ds_cI cl j_Game_firstRest [.ref 78] z6 fun r7 z7 => (ds_cI cl j_Sea_answer [.ref 0, .int r7] z7 fun r8 z8 => some (some (.int r8), z8)))) else (ds_cI cl j_Sea_refuse [.ref 0, .int 1] z5 fun r9 z9 => some (some (.int r9), z9))))) :=
  (ds_Rw_stp 400 0 [some (.ref 0), some (.int x1), some (.int x2)] [] z).trans rfl
set_option maxRecDepth 20000 in
theorem b_Sea_rests_0 (cl : Nat → List Value → ds_St → Option ds_Out) (x1 : Int32) (x2 : Int32) (z : ds_St) : ds_Rw ds_c_Sea_rests ds_u_Sea_rests cl 0 [some (.ref 0), some (.int x1), some (.int x2)] [] z =
  (ds_cI cl j_Sea_hasSea [.ref 0] z fun r1 z1 => if r1 = 0 then (ds_cI cl j_Sea_refuse [.ref 0, .int 1] z1 fun r2 z2 => some (some (.int r2), z2)) else (ds_cI cl j_Sea_isGood [.int x1] z1 fun r3 z3 => if r3 = 0 then (ds_cI cl j_Sea_refuse [.ref 0, .int 1] z3 fun r4 z4 => some (some (.int r4), z4)) else (ds_cI cl j_Sea_isGood [.int x2] z3 fun r5 z5 => if ¬ r5 = 0 then (ds_cV cl j_Sea_playGame [.ref 0, .int x1, .int x2] z5 fun z6 => (ds_cI cl j_Game_countRests [.ref 78] z6 fun r7 z7 => (ds_cI cl j_Sea_answer [.ref 0, .int r7] z7 fun r8 z8 => some (some (.int r8), z8)))) else (ds_cI cl j_Sea_refuse [.ref 0, .int 1] z5 fun r9 z9 => some (some (.int r9), z9))))) :=
  (ds_Rw_stp 400 0 [some (.ref 0), some (.int x1), some (.int x2)] [] z).trans rfl
set_option maxRecDepth 20000 in
theorem b_Sea_rowFits_0 (cl : Nat → List Value → ds_St → Option ds_Out) (x1 : Int32) (x2 : Int32) (z : ds_St) : ds_Rw ds_c_Sea_rowFits ds_u_Sea_rowFits cl 0 [some (.ref 0), some (.int x1), some (.int x2), none, none, none] [] z =
  ds_Rw ds_c_Sea_rowFits ds_u_Sea_rowFits cl 2 [some (.ref 0), some (.int x1), some (.int x2), some (.int 0), none, none] [] z :=
  (ds_Rw_stp 400 0 [some (.ref 0), some (.int x1), some (.int x2), none, none, none] [] z).trans rfl
set_option maxRecDepth 20000 in
theorem b_Sea_rowFits_2 (cl : Nat → List Value → ds_St → Option ds_Out) (x1 : Int32) (x2 : Int32) (x3 : Int32) (z : ds_St) : ds_Rw ds_c_Sea_rowFits ds_u_Sea_rowFits cl 2 [some (.ref 0), some (.int x1), some (.int x2), some (.int x3), none, none] [] z =
  ds_isK (z.2.2 0) 7 (if (z.1 (z.2.2 0) 14) ≤ x3 then some (some (.int 1), z) else ds_isK (z.2.2 0) 7 ((ds_cI cl j_Sea_look [.ref (ds_R z (z.2.2 0) 16), .int x3] z fun r1 z1 => (ds_cI cl j_Deck_placeOf [.ref 64, .int r1] z1 fun r2 z2 => ds_Rw ds_c_Sea_rowFits ds_u_Sea_rowFits cl 38 [some (.ref 0), some (.int x1), some (.int x2), some (.int x3), some (.int r2), some (.int (x2 - 1))] [] z2)))) :=
  (ds_Rw_stp 400 2 [some (.ref 0), some (.int x1), some (.int x2), some (.int x3), none, none] [] z).trans rfl
set_option maxRecDepth 20000 in
theorem b_Sea_rowFits_38 (cl : Nat → List Value → ds_St → Option ds_Out) (x1 : Int32) (x2 : Int32) (x3 : Int32) (x4 : Int32) (x5 : Int32) (z : ds_St) : ds_Rw ds_c_Sea_rowFits ds_u_Sea_rowFits cl 38 [some (.ref 0), some (.int x1), some (.int x2), some (.int x3), some (.int x4), some (.int x5)] [] z =
  if x5 < 0 then ds_isK (z.2.2 0) 7 ((ds_cI cl j_Sea_look [.ref (ds_R z (z.2.2 0) 15), .int x3] z fun r1 z1 => if x4 = r1 then ds_Rw ds_c_Sea_rowFits ds_u_Sea_rowFits cl 2 [some (.ref 0), some (.int x1), some (.int x2), some (.int (x3 + 1)), none, none] [] z1 else some (some (.int 0), z1))) else (ds_cI cl j_Sea_moveOfRow [.ref 0, .int x1, .int x5] z fun r2 z2 => ds_isK (z2.2.2 0) 7 ((ds_cI cl j_Sea_goesTo [.int r2, .int x4, .int (z2.1 (z2.2.2 0) 4)] z2 fun r3 z3 => ds_Rw ds_c_Sea_rowFits ds_u_Sea_rowFits cl 38 [some (.ref 0), some (.int x1), some (.int x2), some (.int x3), some (.int r3), some (.int (x5 + (-1)))] [] z3))) :=
  (ds_Rw_stp 400 38 [some (.ref 0), some (.int x1), some (.int x2), some (.int x3), some (.int x4), some (.int x5)] [] z).trans rfl
set_option maxRecDepth 20000 in
theorem b_Sea_rowsOfMoves_0 (cl : Nat → List Value → ds_St → Option ds_Out) (x1 : Int32) (z : ds_St) : ds_Rw ds_c_Sea_rowsOfMoves ds_u_Sea_rowsOfMoves cl 0 [some (.ref 0), some (.int x1), none, none] [] z =
  ds_Rw ds_c_Sea_rowsOfMoves ds_u_Sea_rowsOfMoves cl 4 [some (.ref 0), some (.int x1), some (.int 1), some (.int 0)] [] z :=
  (ds_Rw_stp 400 0 [some (.ref 0), some (.int x1), none, none] [] z).trans rfl
set_option maxRecDepth 20000 in
theorem b_Sea_rowsOfMoves_4 (cl : Nat → List Value → ds_St → Option ds_Out) (x1 : Int32) (x2 : Int32) (x3 : Int32) (z : ds_St) : ds_Rw ds_c_Sea_rowsOfMoves ds_u_Sea_rowsOfMoves cl 4 [some (.ref 0), some (.int x1), some (.int x2), some (.int x3)] [] z =
  if x1 ≤ x3 then some (some (.int x2), z) else ds_isK (z.2.2 0) 7 ((ds_cI cl j_Sea_movesOf [.int (z.1 (z.2.2 0) 4)] z fun r1 z1 => ds_Rw ds_c_Sea_rowsOfMoves ds_u_Sea_rowsOfMoves cl 4 [some (.ref 0), some (.int x1), some (.int (x2 * r1)), some (.int (x3 + 1))] [] z1)) :=
  (ds_Rw_stp 400 4 [some (.ref 0), some (.int x1), some (.int x2), some (.int x3)] [] z).trans rfl
set_option maxRecDepth 20000 in
theorem b_Sea_run_0 (cl : Nat → List Value → ds_St → Option ds_Out)  (z : ds_St) : ds_Rw ds_c_Sea_run ds_u_Sea_run cl 0 [some (.ref 0)] [] z =
  (ds_cI cl j_Sea_hasSea [.ref 0] z fun r1 z1 => if r1 = 0 then (ds_cI cl j_Sea_refuse [.ref 0, .int 1] z1 fun r2 z2 => some (some (.int r2), z2)) else (ds_cR cl j_Sea_chartOf [.ref 0, .ref 61] z1 fun r3 z3 => ds_isK r3 1 ((ds_cI cl j_Chart_longestRun [.ref r3] z3 fun r4 z4 => (ds_cI cl j_Sea_answer [.ref 0, .int r4] z4 fun r5 z5 => some (some (.int r5), z5)))))) :=
  (ds_Rw_stp 400 0 [some (.ref 0)] [] z).trans rfl
set_option maxRecDepth 20000 in
theorem b_Sea_runAt_0 (cl : Nat → List Value → ds_St → Option ds_Out) (x1 : Int32) (z : ds_St) : ds_Rw ds_c_Sea_runAt ds_u_Sea_runAt cl 0 [some (.ref 0), some (.int x1)] [] z =
  (ds_cI cl j_Sea_hasSea [.ref 0] z fun r1 z1 => if r1 = 0 then (ds_cI cl j_Sea_refuse [.ref 0, .int 1] z1 fun r2 z2 => some (some (.int r2), z2)) else if x1 < 0 then (ds_cI cl j_Sea_refuse [.ref 0, .int 1] z1 fun r3 z3 => some (some (.int r3), z3)) else (ds_cR cl j_Sea_chartOf [.ref 0, .ref 61] z1 fun r4 z4 => ds_isK r4 1 ((ds_cI cl j_Chart_longestRun [.ref r4] z4 fun r5 z5 => if x1 < r5 then (ds_cR cl j_Sea_chartOf [.ref 0, .ref 61] z5 fun r6 z6 => ds_isK r6 1 ((ds_cI cl j_Chart_runIsland [.ref r6, .int x1] z6 fun r7 z7 => (ds_cI cl j_Sea_answer [.ref 0, .int r7] z7 fun r8 z8 => some (some (.int r8), z8))))) else (ds_cI cl j_Sea_refuse [.ref 0, .int 1] z5 fun r9 z9 => some (some (.int r9), z9)))))) :=
  (ds_Rw_stp 400 0 [some (.ref 0), some (.int x1)] [] z).trans rfl
set_option maxRecDepth 20000 in
theorem b_Sea_sea_0 (cl : Nat → List Value → ds_St → Option ds_Out) (x1 : Int32) (z : ds_St) : ds_Rw ds_c_Sea_sea ds_u_Sea_sea cl 0 [some (.ref 0), some (.int x1)] [] z =
  if x1 < 0 then (ds_cI cl j_Sea_refuse [.ref 0, .int 2] z fun r1 z1 => some (some (.int r1), z1)) else if x1 ≤ (z.1 1 1) then (ds_cI cl j_Reader_readText [.ref 1, .int x1] z fun r2 z2 => if r2 = 0 then (ds_cR cl j_Reader_handOver [.ref 1, .ref (z2.2.2 0)] (ds_setI z2 0 11 r2) fun r3 z3 => ds_isK r3 7 (ds_isK r3 7 ((ds_cV cl j_Deck_order [.ref 61, .int (z3.1 r3 4)] (ds_setS z3 0 r3) fun z4 => (ds_cV cl j_Shelf_empty [.ref 80] z4 fun z5 => (ds_cV cl j_Shelf_empty [.ref 82] z5 fun z6 => ds_isK (z6.2.2 0) 7 ((ds_cI cl j_Sea_answer [.ref 0, .int (z6.1 (z6.2.2 0) 4)] z6 fun r7 z7 => some (some (.int r7), z7))))))))) else (ds_cI cl j_Reader_place [.ref 1] (ds_setI z2 0 11 r2) fun r8 z8 => (ds_cI cl j_Sea_refuse [.ref 0, .int 4] (ds_setI z8 0 12 r8) fun r9 z9 => some (some (.int r9), z9)))) else (ds_cI cl j_Sea_refuse [.ref 0, .int 2] z fun r10 z10 => some (some (.int r10), z10)) :=
  (ds_Rw_stp 400 0 [some (.ref 0), some (.int x1)] [] z).trans rfl
set_option maxRecDepth 20000 in
theorem b_Sea_size_0 (cl : Nat → List Value → ds_St → Option ds_Out) (x1 : Int32) (z : ds_St) : ds_Rw ds_c_Sea_size ds_u_Sea_size cl 0 [some (.ref 0), some (.int x1)] [] z =
  if x1 = 0 then ds_isK (z.2.2 0) 7 (some (some (.int (z.1 (z.2.2 0) 0)), z)) else if x1 = 1 then ds_isK (z.2.2 0) 7 (some (some (.int (z.1 (z.2.2 0) 1)), z)) else if x1 = 2 then ds_isK (z.2.2 0) 7 (some (some (.int (z.1 (z.2.2 0) 2)), z)) else if x1 = 3 then ds_isK (z.2.2 0) 7 (some (some (.int (z.1 (z.2.2 0) 3)), z)) else if x1 = 4 then ds_isK (z.2.2 0) 7 (some (some (.int (z.1 (z.2.2 0) 4)), z)) else if x1 = 5 then ds_isK (z.2.2 0) 7 (some (some (.int (z.1 (z.2.2 0) 9)), z)) else if x1 = 6 then ds_isK (z.2.2 0) 7 (some (some (.int (z.1 (z.2.2 0) 11)), z)) else if x1 = 7 then ds_isK (z.2.2 0) 7 (some (some (.int (z.1 (z.2.2 0) 14)), z)) else if x1 = 8 then some (some (.int (z.1 61 2)), z) else if x1 = 9 then (ds_cI cl j_Sea_movesOf [.int (z.1 61 2)] z fun r1 z1 => some (some (.int r1), z1)) else if x1 = 10 then some (some (.int (z.1 80 3)), z) else if x1 = 11 then some (some (.int (z.1 82 3)), z) else if x1 = 12 then some (some (.int (z.1 1 1)), z) else some (some (.int (-1)), z) :=
  (ds_Rw_stp 400 0 [some (.ref 0), some (.int x1)] [] z).trans rfl
set_option maxRecDepth 20000 in
theorem b_Sea_spell_0 (cl : Nat → List Value → ds_St → Option ds_Out) (x0 : Int64) (x2 : Int32) (z : ds_St) : ds_Rw ds_c_Sea_spell ds_u_Sea_spell cl 0 [some (.long x0), none, some (.int x2)] [] z =
  some (some (.long ((x0 * 32) + (((x2 - 97) + 1).toInt64))), z) :=
  (ds_Rw_stp 400 0 [some (.long x0), none, some (.int x2)] [] z).trans rfl
set_option maxRecDepth 20000 in
theorem b_Sea_sumYears_0 (cl : Nat → List Value → ds_St → Option ds_Out) (x1 : Int32) (x2 : Int32) (x3 : Int32) (x4 : Int32) (z : ds_St) : ds_Rw ds_c_Sea_sumYears ds_u_Sea_sumYears cl 0 [some (.ref 0), some (.int x1), some (.int x2), some (.int x3), some (.int x4), none, none, none, none, none] [] z =
  (ds_cV cl j_Deck_take [.ref 64, .ref 61] z fun z1 => (ds_cI cl j_Sea_movesOf [.int (z1.1 64 2)] z1 fun r2 z2 => ds_Rw ds_c_Sea_sumYears ds_u_Sea_sumYears cl 32 [some (.ref 0), some (.int x1), some (.int x2), none, some (.int x4), some (.int x3), some (.int 0), some (.int r2), some (.int 0), none] [] z2)) :=
  (ds_Rw_stp 400 0 [some (.ref 0), some (.int x1), some (.int x2), some (.int x3), some (.int x4), none, none, none, none, none] [] z).trans rfl
set_option maxRecDepth 20000 in
theorem b_Sea_sumYears_32 (cl : Nat → List Value → ds_St → Option ds_Out) (x1 : Int32) (x2 : Int32) (x4 : Int32) (x5 : Int32) (x6 : Int32) (x7 : Int32) (x8 : Int32) (z : ds_St) : ds_Rw ds_c_Sea_sumYears ds_u_Sea_sumYears cl 32 [some (.ref 0), some (.int x1), some (.int x2), none, some (.int x4), some (.int x5), some (.int x6), some (.int x7), some (.int x8), none] [] z =
  if x4 ≤ x8 then some (some (.int x6), z) else if x7 ≤ 0 then some (some (.int x6), z) else ds_Rw ds_c_Sea_sumYears ds_u_Sea_sumYears cl 47 [some (.ref 0), some (.int x1), some (.int x2), none, some (.int x4), some (.int x5), some (.int x6), some (.int x7), some (.int x8), some (.int 0)] [] z :=
  (ds_Rw_stp 400 32 [some (.ref 0), some (.int x1), some (.int x2), none, some (.int x4), some (.int x5), some (.int x6), some (.int x7), some (.int x8), none] [] z).trans rfl
set_option maxRecDepth 20000 in
theorem b_Sea_sumYears_47 (cl : Nat → List Value → ds_St → Option ds_Out) (x1 : Int32) (x2 : Int32) (x4 : Int32) (x5 : Int32) (x6 : Int32) (x7 : Int32) (x8 : Int32) (x9 : Int32) (z : ds_St) : ds_Rw ds_c_Sea_sumYears ds_u_Sea_sumYears cl 47 [some (.ref 0), some (.int x1), some (.int x2), none, some (.int x4), some (.int x5), some (.int x6), some (.int x7), some (.int x8), some (.int x9)] [] z =
  ds_isK (z.2.2 0) 7 (if (z.1 (z.2.2 0) 9) ≤ x9 then (ds_cI cl j_Sea_yearOf [.ref 0, .int x1, .int x2] z fun r1 z1 => ds_Rw ds_c_Sea_sumYears ds_u_Sea_sumYears cl 32 [some (.ref 0), some (.int x1), some (.int x2), none, some (.int x4), some (.int x5), some (.int (x6 + r1)), some (.int x7), some (.int (x8 + 1)), none] [] z1) else ds_nz x7 ((ds_cV cl j_Deck_makeMove [.ref 64, .int ((((75 * x5) + 74) - ((75 * x5) + 74) / 65537 * 65537) - (((75 * x5) + 74) - ((75 * x5) + 74) / 65537 * 65537) / x7 * x7)] z fun z2 => ds_Rw ds_c_Sea_sumYears ds_u_Sea_sumYears cl 47 [some (.ref 0), some (.int x1), some (.int x2), none, some (.int x4), some (.int (((75 * x5) + 74) - ((75 * x5) + 74) / 65537 * 65537)), some (.int x6), some (.int x7), some (.int x8), some (.int (x9 + 1))] [] z2))) :=
  (ds_Rw_stp 400 47 [some (.ref 0), some (.int x1), some (.int x2), none, some (.int x4), some (.int x5), some (.int x6), some (.int x7), some (.int x8), some (.int x9)] [] z).trans rfl
set_option maxRecDepth 20000 in
theorem b_Sea_three_0 (cl : Nat → List Value → ds_St → Option ds_Out) (x1 : Int32) (x2 : Int32) (x3 : Int32) (z : ds_St) : ds_Rw ds_c_Sea_three ds_u_Sea_three cl 0 [some (.ref 0), some (.int x1), some (.int x2), some (.int x3)] [] z =
  (ds_cI cl j_Sea_isInDeck [.ref 0, .int x1] z fun r1 z1 => if r1 = 0 then (ds_cI cl j_Sea_refuse [.ref 0, .int 1] z1 fun r2 z2 => some (some (.int r2), z2)) else (ds_cI cl j_Sea_isInDeck [.ref 0, .int x2] z1 fun r3 z3 => if r3 = 0 then (ds_cI cl j_Sea_refuse [.ref 0, .int 1] z3 fun r4 z4 => some (some (.int r4), z4)) else (ds_cI cl j_Sea_isInDeck [.ref 0, .int x3] z3 fun r5 z5 => if r5 = 0 then (ds_cI cl j_Sea_refuse [.ref 0, .int 1] z5 fun r6 z6 => some (some (.int r6), z6)) else if x1 = x2 then (ds_cI cl j_Sea_refuse [.ref 0, .int 1] z5 fun r7 z7 => some (some (.int r7), z7)) else if x1 = x3 then (ds_cI cl j_Sea_refuse [.ref 0, .int 1] z5 fun r8 z8 => some (some (.int r8), z8)) else if ¬ x2 = x3 then (ds_cI cl j_Deck_placeOf [.ref 61, .int x1] z5 fun r9 z9 => (ds_cI cl j_Deck_placeOf [.ref 61, .int x2] z9 fun r10 z10 => (ds_cI cl j_Deck_placeOf [.ref 61, .int x3] z10 fun r11 z11 => (ds_cV cl j_Search_bringThree [.ref 70, .ref (z5.2.2 0), .int r9, .int r10, .int r11, .int (z11.1 61 2)] z11 fun z12 => (ds_cI cl j_Search_length [.ref 70] z12 fun r13 z13 => (ds_cI cl j_Sea_answer [.ref 0, .int r13] z13 fun r14 z14 => some (some (.int r14), z14))))))) else (ds_cI cl j_Sea_refuse [.ref 0, .int 1] z5 fun r15 z15 => some (some (.int r15), z15))))) :=
  (ds_Rw_stp 400 0 [some (.ref 0), some (.int x1), some (.int x2), some (.int x3)] [] z).trans rfl
set_option maxRecDepth 20000 in
theorem b_Sea_together_0 (cl : Nat → List Value → ds_St → Option ds_Out) (x1 : Int32) (x2 : Int32) (z : ds_St) : ds_Rw ds_c_Sea_together ds_u_Sea_together cl 0 [some (.ref 0), some (.int x1), some (.int x2)] [] z =
  (ds_cI cl j_Sea_isInDeck [.ref 0, .int x1] z fun r1 z1 => if r1 = 0 then (ds_cI cl j_Sea_refuse [.ref 0, .int 1] z1 fun r2 z2 => some (some (.int r2), z2)) else (ds_cI cl j_Sea_isInDeck [.ref 0, .int x2] z1 fun r3 z3 => if r3 = 0 then (ds_cI cl j_Sea_refuse [.ref 0, .int 1] z3 fun r4 z4 => some (some (.int r4), z4)) else if ¬ x1 = x2 then (ds_cI cl j_Deck_placeOf [.ref 61, .int x1] z3 fun r5 z5 => (ds_cI cl j_Deck_placeOf [.ref 61, .int x2] z5 fun r6 z6 => (ds_cV cl j_Search_bringTogether [.ref 70, .ref (z3.2.2 0), .int r5, .int r6, .int (z6.1 61 2)] z6 fun z7 => (ds_cI cl j_Search_length [.ref 70] z7 fun r8 z8 => (ds_cI cl j_Sea_answer [.ref 0, .int r8] z8 fun r9 z9 => some (some (.int r9), z9)))))) else (ds_cI cl j_Sea_refuse [.ref 0, .int 1] z3 fun r10 z10 => some (some (.int r10), z10)))) :=
  (ds_Rw_stp 400 0 [some (.ref 0), some (.int x1), some (.int x2)] [] z).trans rfl
set_option maxRecDepth 20000 in
theorem b_Sea_togetherAt_0 (cl : Nat → List Value → ds_St → Option ds_Out) (x1 : Int32) (x2 : Int32) (x3 : Int32) (z : ds_St) : ds_Rw ds_c_Sea_togetherAt ds_u_Sea_togetherAt cl 0 [some (.ref 0), some (.int x1), some (.int x2), some (.int x3)] [] z =
  (ds_cI cl j_Sea_isInDeck [.ref 0, .int x1] z fun r1 z1 => if r1 = 0 then (ds_cI cl j_Sea_refuse [.ref 0, .int 1] z1 fun r2 z2 => some (some (.int r2), z2)) else (ds_cI cl j_Sea_isInDeck [.ref 0, .int x2] z1 fun r3 z3 => if r3 = 0 then (ds_cI cl j_Sea_refuse [.ref 0, .int 1] z3 fun r4 z4 => some (some (.int r4), z4)) else if ¬ x1 = x2 then (ds_cI cl j_Deck_placeOf [.ref 61, .int x1] z3 fun r5 z5 => (ds_cI cl j_Deck_placeOf [.ref 61, .int x2] z5 fun r6 z6 => (ds_cV cl j_Search_bringTogether [.ref 70, .ref (z3.2.2 0), .int r5, .int r6, .int (z6.1 61 2)] z6 fun z7 => (ds_cI cl j_Sea_foundMove [.ref 0, .int x3] z7 fun r8 z8 => some (some (.int r8), z8))))) else (ds_cI cl j_Sea_refuse [.ref 0, .int 1] z3 fun r9 z9 => some (some (.int r9), z9)))) :=
  (ds_Rw_stp 400 0 [some (.ref 0), some (.int x1), some (.int x2), some (.int x3)] [] z).trans rfl
set_option maxRecDepth 20000 in
theorem b_Sea_trade_0 (cl : Nat → List Value → ds_St → Option ds_Out) (x1 : Int32) (x2 : Int32) (z : ds_St) : ds_Rw ds_c_Sea_trade ds_u_Sea_trade cl 0 [some (.ref 0), some (.int x1), some (.int x2)] [] z =
  (ds_cI cl j_Sea_isIsland [.ref 0, .int x1] z fun r1 z1 => if r1 = 0 then (ds_cI cl j_Sea_refuse [.ref 0, .int 1] z1 fun r2 z2 => some (some (.int r2), z2)) else (ds_cI cl j_Sea_isIsland [.ref 0, .int x2] z1 fun r3 z3 => if r3 = 0 then (ds_cI cl j_Sea_refuse [.ref 0, .int 1] z3 fun r4 z4 => some (some (.int r4), z4)) else if ¬ x1 = x2 then (ds_cR cl j_Sea_chartOf [.ref 0, .ref 61] z3 fun r5 z5 => ds_isK r5 1 ((ds_cI cl j_Chart_touching [.ref r5, .int x1, .int x2] z5 fun r6 z6 => if r6 = 0 then (ds_cI cl j_Sea_answer [.ref 0, .int 0] z6 fun r7 z7 => some (some (.int r7), z7)) else ds_isK (z6.2.2 0) 7 ((ds_cI cl j_Told_worth [.ref (z6.2.2 0), .int x1, .int x2] z6 fun r8 z8 => (ds_cI cl j_Sea_answer [.ref 0, .int r8] z8 fun r9 z9 => some (some (.int r9), z9))))))) else (ds_cI cl j_Sea_refuse [.ref 0, .int 1] z3 fun r10 z10 => some (some (.int r10), z10)))) :=
  (ds_Rw_stp 400 0 [some (.ref 0), some (.int x1), some (.int x2)] [] z).trans rfl
set_option maxRecDepth 20000 in
theorem b_Sea_trades_0 (cl : Nat → List Value → ds_St → Option ds_Out)  (z : ds_St) : ds_Rw ds_c_Sea_trades ds_u_Sea_trades cl 0 [some (.ref 0)] [] z =
  (ds_cI cl j_Sea_hasSea [.ref 0] z fun r1 z1 => if r1 = 0 then (ds_cI cl j_Sea_refuse [.ref 0, .int 1] z1 fun r2 z2 => some (some (.int r2), z2)) else (ds_cR cl j_Sea_chartOf [.ref 0, .ref 61] z1 fun r3 z3 => ds_isK r3 1 ((ds_cI cl j_Chart_allTrades [.ref r3] z3 fun r4 z4 => (ds_cI cl j_Sea_answer [.ref 0, .int r4] z4 fun r5 z5 => some (some (.int r5), z5)))))) :=
  (ds_Rw_stp 400 0 [some (.ref 0)] [] z).trans rfl
set_option maxRecDepth 20000 in
theorem b_Sea_tradesBy_0 (cl : Nat → List Value → ds_St → Option ds_Out) (x1 : Int32) (z : ds_St) : ds_Rw ds_c_Sea_tradesBy ds_u_Sea_tradesBy cl 0 [some (.ref 0), some (.int x1)] [] z =
  (ds_cV cl j_Deck_take [.ref 64, .ref 61] z fun z1 => (ds_cV cl j_Deck_makeMove [.ref 64, .int x1] z1 fun z2 => (ds_cR cl j_Sea_chartOf [.ref 0, .ref 64] z2 fun r3 z3 => ds_isK r3 1 ((ds_cI cl j_Chart_allTrades [.ref r3] z3 fun r4 z4 => some (some (.int r4), z4)))))) :=
  (ds_Rw_stp 400 0 [some (.ref 0), some (.int x1)] [] z).trans rfl
set_option maxRecDepth 20000 in
theorem b_Sea_trouble_0 (cl : Nat → List Value → ds_St → Option ds_Out)  (z : ds_St) : ds_Rw ds_c_Sea_trouble ds_u_Sea_trouble cl 0 [some (.ref 0)] [] z =
  some (some (.int (z.1 0 10)), z) :=
  (ds_Rw_stp 400 0 [some (.ref 0)] [] z).trans rfl
set_option maxRecDepth 20000 in
theorem b_Sea_undo_0 (cl : Nat → List Value → ds_St → Option ds_Out)  (z : ds_St) : ds_Rw ds_c_Sea_undo ds_u_Sea_undo cl 0 [some (.ref 0)] [] z =
  if ¬ (z.1 80 3) = 0 then (ds_cV cl j_Shelf_popInto [.ref 80, .ref 61] z fun z1 => some (some (.int 1), (ds_setI z1 0 10 0))) else some (some (.int 0), (ds_setI z 0 10 6)) :=
  (ds_Rw_stp 400 0 [some (.ref 0)] [] z).trans rfl
set_option maxRecDepth 20000 in
theorem b_Sea_wars_0 (cl : Nat → List Value → ds_St → Option ds_Out)  (z : ds_St) : ds_Rw ds_c_Sea_wars ds_u_Sea_wars cl 0 [some (.ref 0)] [] z =
  (ds_cI cl j_Sea_hasSea [.ref 0] z fun r1 z1 => if r1 = 0 then (ds_cI cl j_Sea_refuse [.ref 0, .int 1] z1 fun r2 z2 => some (some (.int r2), z2)) else (ds_cR cl j_Sea_chartOf [.ref 0, .ref 61] z1 fun r3 z3 => ds_isK r3 1 ((ds_cI cl j_Chart_countWars [.ref r3] z3 fun r4 z4 => (ds_cI cl j_Sea_answer [.ref 0, .int r4] z4 fun r5 z5 => some (some (.int r5), z5)))))) :=
  (ds_Rw_stp 400 0 [some (.ref 0)] [] z).trans rfl
set_option maxRecDepth 20000 in
theorem b_Sea_where_0 (cl : Nat → List Value → ds_St → Option ds_Out)  (z : ds_St) : ds_Rw ds_c_Sea_where ds_u_Sea_where cl 0 [some (.ref 0)] [] z =
  if ¬ (z.1 0 10) = 4 then some (some (.int (-1)), z) else some (some (.int (z.1 0 12)), z) :=
  (ds_Rw_stp 400 0 [some (.ref 0)] [] z).trans rfl
set_option maxRecDepth 20000 in
theorem b_Sea_wishes_0 (cl : Nat → List Value → ds_St → Option ds_Out)  (z : ds_St) : ds_Rw ds_c_Sea_wishes ds_u_Sea_wishes cl 0 [some (.ref 0)] [] z =
  (ds_cI cl j_Sea_hasSea [.ref 0] z fun r1 z1 => if r1 = 0 then (ds_cI cl j_Sea_refuse [.ref 0, .int 1] z1 fun r2 z2 => some (some (.int r2), z2)) else (ds_cR cl j_Sea_chartOf [.ref 0, .ref 61] z1 fun r3 z3 => ds_isK r3 1 ((ds_cI cl j_Chart_countWishes [.ref r3] z3 fun r4 z4 => (ds_cI cl j_Sea_answer [.ref 0, .int r4] z4 fun r5 z5 => some (some (.int r5), z5)))))) :=
  (ds_Rw_stp 400 0 [some (.ref 0)] [] z).trans rfl
set_option maxRecDepth 20000 in
theorem b_Sea_yearOf_0 (cl : Nat → List Value → ds_St → Option ds_Out) (x1 : Int32) (x2 : Int32) (z : ds_St) : ds_Rw ds_c_Sea_yearOf ds_u_Sea_yearOf cl 0 [some (.ref 0), some (.int x1), some (.int x2), none] [] z =
  (ds_cR cl j_Sea_chartOf [.ref 0, .ref 64] z fun r1 z1 => if ¬ x1 = 0 then if ¬ x1 = 1 then ds_isK r1 1 ((ds_cI cl j_Chart_placeBit [.ref r1, .int x2] z1 fun r2 z2 => if r2 = 0 then some (some (.int 0), z2) else some (some (.int 1), z2))) else ds_isK r1 1 ((ds_cI cl j_Chart_countWishes [.ref r1] z1 fun r3 z3 => some (some (.int r3), z3))) else ds_isK r1 1 ((ds_cI cl j_Chart_allTrades [.ref r1] z1 fun r4 z4 => some (some (.int r4), z4)))) :=
  (ds_Rw_stp 400 0 [some (.ref 0), some (.int x1), some (.int x2), none] [] z).trans rfl
set_option maxRecDepth 20000 in
theorem b_Math_abs_0 (cl : Nat → List Value → ds_St → Option ds_Out) (x0 : Int32) (z : ds_St) : ds_Rw ds_c_Math_abs ds_u_Math_abs cl 0 [some (.int x0)] [] z =
  if 0 ≤ x0 then some (some (.int x0), z) else some (some (.int (-x0)), z) :=
  (ds_Rw_stp 400 0 [some (.int x0)] [] z).trans rfl
set_option maxRecDepth 20000 in
theorem b_Math_floorMod_0 (cl : Nat → List Value → ds_St → Option ds_Out) (x0 : Int32) (x1 : Int32) (z : ds_St) : ds_Rw ds_c_Math_floorMod ds_u_Math_floorMod cl 0 [some (.int x0), some (.int x1), none] [] z =
  ds_nz x1 (if 0 ≤ (x0 ^^^ x1) then some (some (.int (x0 - x0 / x1 * x1)), z) else if (x0 - x0 / x1 * x1) = 0 then some (some (.int (x0 - x0 / x1 * x1)), z) else some (some (.int ((x0 - x0 / x1 * x1) + x1)), z)) :=
  (ds_Rw_stp 400 0 [some (.int x0), some (.int x1), none] [] z).trans rfl
set_option maxRecDepth 20000 in
theorem b_Math_max_0 (cl : Nat → List Value → ds_St → Option ds_Out) (x0 : Int32) (x1 : Int32) (z : ds_St) : ds_Rw ds_c_Math_max ds_u_Math_max cl 0 [some (.int x0), some (.int x1)] [] z =
  if x0 < x1 then some (some (.int x1), z) else some (some (.int x0), z) :=
  (ds_Rw_stp 400 0 [some (.int x0), some (.int x1)] [] z).trans rfl
set_option maxRecDepth 20000 in
theorem b_Math_maxL_0 (cl : Nat → List Value → ds_St → Option ds_Out) (x0 : Int64) (x2 : Int64) (z : ds_St) : ds_Rw ds_c_Math_maxL ds_u_Math_maxL cl 0 [some (.long x0), none, some (.long x2), none] [] z =
  if (lg_cmp x0 x2) < 0 then some (some (.long x2), z) else some (some (.long x0), z) :=
  (ds_Rw_stp 400 0 [some (.long x0), none, some (.long x2), none] [] z).trans rfl
set_option maxRecDepth 20000 in
theorem b_Math_min_0 (cl : Nat → List Value → ds_St → Option ds_Out) (x0 : Int32) (x1 : Int32) (z : ds_St) : ds_Rw ds_c_Math_min ds_u_Math_min cl 0 [some (.int x0), some (.int x1)] [] z =
  if x1 < x0 then some (some (.int x1), z) else some (some (.int x0), z) :=
  (ds_Rw_stp 400 0 [some (.int x0), some (.int x1)] [] z).trans rfl
set_option maxRecDepth 20000 in
theorem b_Math_minL_0 (cl : Nat → List Value → ds_St → Option ds_Out) (x0 : Int64) (x2 : Int64) (z : ds_St) : ds_Rw ds_c_Math_minL ds_u_Math_minL cl 0 [some (.long x0), none, some (.long x2), none] [] z =
  if 0 < (lg_cmp x0 x2) then some (some (.long x2), z) else some (some (.long x0), z) :=
  (ds_Rw_stp 400 0 [some (.long x0), none, some (.long x2), none] [] z).trans rfl
set_option maxRecDepth 20000 in
theorem b_Integer_bitCount_0 (cl : Nat → List Value → ds_St → Option ds_Out) (x0 : Int32) (z : ds_St) : ds_Rw ds_c_Integer_bitCount ds_u_Integer_bitCount cl 0 [some (.int x0)] [] z =
  some (some (.int ((((((((x0 - (((x0.toUInt32 >>> ((1 : Int32).toUInt32 &&& Int32.toUInt32 31)).toInt32) &&& 1431655765)) &&& 858993459) + ((((x0 - (((x0.toUInt32 >>> ((1 : Int32).toUInt32 &&& Int32.toUInt32 31)).toInt32) &&& 1431655765)).toUInt32 >>> ((2 : Int32).toUInt32 &&& Int32.toUInt32 31)).toInt32) &&& 858993459)) + (((((x0 - (((x0.toUInt32 >>> ((1 : Int32).toUInt32 &&& Int32.toUInt32 31)).toInt32) &&& 1431655765)) &&& 858993459) + ((((x0 - (((x0.toUInt32 >>> ((1 : Int32).toUInt32 &&& Int32.toUInt32 31)).toInt32) &&& 1431655765)).toUInt32 >>> ((2 : Int32).toUInt32 &&& Int32.toUInt32 31)).toInt32) &&& 858993459)).toUInt32 >>> ((4 : Int32).toUInt32 &&& Int32.toUInt32 31)).toInt32)) &&& 252645135) + (((((((x0 - (((x0.toUInt32 >>> ((1 : Int32).toUInt32 &&& Int32.toUInt32 31)).toInt32) &&& 1431655765)) &&& 858993459) + ((((x0 - (((x0.toUInt32 >>> ((1 : Int32).toUInt32 &&& Int32.toUInt32 31)).toInt32) &&& 1431655765)).toUInt32 >>> ((2 : Int32).toUInt32 &&& Int32.toUInt32 31)).toInt32) &&& 858993459)) + (((((x0 - (((x0.toUInt32 >>> ((1 : Int32).toUInt32 &&& Int32.toUInt32 31)).toInt32) &&& 1431655765)) &&& 858993459) + ((((x0 - (((x0.toUInt32 >>> ((1 : Int32).toUInt32 &&& Int32.toUInt32 31)).toInt32) &&& 1431655765)).toUInt32 >>> ((2 : Int32).toUInt32 &&& Int32.toUInt32 31)).toInt32) &&& 858993459)).toUInt32 >>> ((4 : Int32).toUInt32 &&& Int32.toUInt32 31)).toInt32)) &&& 252645135).toUInt32 >>> ((8 : Int32).toUInt32 &&& Int32.toUInt32 31)).toInt32)) + ((((((((x0 - (((x0.toUInt32 >>> ((1 : Int32).toUInt32 &&& Int32.toUInt32 31)).toInt32) &&& 1431655765)) &&& 858993459) + ((((x0 - (((x0.toUInt32 >>> ((1 : Int32).toUInt32 &&& Int32.toUInt32 31)).toInt32) &&& 1431655765)).toUInt32 >>> ((2 : Int32).toUInt32 &&& Int32.toUInt32 31)).toInt32) &&& 858993459)) + (((((x0 - (((x0.toUInt32 >>> ((1 : Int32).toUInt32 &&& Int32.toUInt32 31)).toInt32) &&& 1431655765)) &&& 858993459) + ((((x0 - (((x0.toUInt32 >>> ((1 : Int32).toUInt32 &&& Int32.toUInt32 31)).toInt32) &&& 1431655765)).toUInt32 >>> ((2 : Int32).toUInt32 &&& Int32.toUInt32 31)).toInt32) &&& 858993459)).toUInt32 >>> ((4 : Int32).toUInt32 &&& Int32.toUInt32 31)).toInt32)) &&& 252645135) + (((((((x0 - (((x0.toUInt32 >>> ((1 : Int32).toUInt32 &&& Int32.toUInt32 31)).toInt32) &&& 1431655765)) &&& 858993459) + ((((x0 - (((x0.toUInt32 >>> ((1 : Int32).toUInt32 &&& Int32.toUInt32 31)).toInt32) &&& 1431655765)).toUInt32 >>> ((2 : Int32).toUInt32 &&& Int32.toUInt32 31)).toInt32) &&& 858993459)) + (((((x0 - (((x0.toUInt32 >>> ((1 : Int32).toUInt32 &&& Int32.toUInt32 31)).toInt32) &&& 1431655765)) &&& 858993459) + ((((x0 - (((x0.toUInt32 >>> ((1 : Int32).toUInt32 &&& Int32.toUInt32 31)).toInt32) &&& 1431655765)).toUInt32 >>> ((2 : Int32).toUInt32 &&& Int32.toUInt32 31)).toInt32) &&& 858993459)).toUInt32 >>> ((4 : Int32).toUInt32 &&& Int32.toUInt32 31)).toInt32)) &&& 252645135).toUInt32 >>> ((8 : Int32).toUInt32 &&& Int32.toUInt32 31)).toInt32)).toUInt32 >>> ((16 : Int32).toUInt32 &&& Int32.toUInt32 31)).toInt32)) &&& 63)), z) :=
  (ds_Rw_stp 400 0 [some (.int x0)] [] z).trans rfl
set_option maxRecDepth 20000 in
theorem b_Arrays_fill_0 (cl : Nat → List Value → ds_St → Option ds_Out) (x0 : Nat) (x1 : Int32) (z : ds_St) : ds_Rw ds_c_Arrays_fill ds_u_Arrays_fill cl 0 [some (.ref x0), some (.int x1), none, none] [] z =
  ds_isA x0 (ds_Rw ds_c_Arrays_fill ds_u_Arrays_fill cl 5 [some (.ref x0), some (.int x1), some (.int 0), some (.int (Int32.ofNat (ds_N x0)))] [] z) :=
  (ds_Rw_stp 400 0 [some (.ref x0), some (.int x1), none, none] [] z).trans rfl
set_option maxRecDepth 20000 in
theorem b_Arrays_fill_5 (cl : Nat → List Value → ds_St → Option ds_Out) (x0 : Nat) (x1 : Int32) (x2 : Int32) (x3 : Int32) (z : ds_St) : ds_Rw ds_c_Arrays_fill ds_u_Arrays_fill cl 5 [some (.ref x0), some (.int x1), some (.int x2), some (.int x3)] [] z =
  if x3 ≤ x2 then some (none, z) else ds_isK x0 11 (ds_chk x2 (ds_N x0) (ds_Rw ds_c_Arrays_fill ds_u_Arrays_fill cl 5 [some (.ref x0), some (.int x1), some (.int (x2 + 1)), some (.int x3)] [] (ds_setI z x0 x2.toNatClampNeg x1))) :=
  (ds_Rw_stp 400 5 [some (.ref x0), some (.int x1), some (.int x2), some (.int x3)] [] z).trans rfl
set_option maxRecDepth 20000 in
theorem b_Arrays_fillL_0 (cl : Nat → List Value → ds_St → Option ds_Out) (x0 : Nat) (x1 : Int64) (z : ds_St) : ds_Rw ds_c_Arrays_fillL ds_u_Arrays_fillL cl 0 [some (.ref x0), some (.long x1), none, none, none] [] z =
  ds_isA x0 (ds_Rw ds_c_Arrays_fillL ds_u_Arrays_fillL cl 6 [some (.ref x0), some (.long x1), none, some (.int 0), some (.int (Int32.ofNat (ds_N x0)))] [] z) :=
  (ds_Rw_stp 400 0 [some (.ref x0), some (.long x1), none, none, none] [] z).trans rfl
set_option maxRecDepth 20000 in
theorem b_Arrays_fillL_6 (cl : Nat → List Value → ds_St → Option ds_Out) (x0 : Nat) (x1 : Int64) (x3 : Int32) (x4 : Int32) (z : ds_St) : ds_Rw ds_c_Arrays_fillL ds_u_Arrays_fillL cl 6 [some (.ref x0), some (.long x1), none, some (.int x3), some (.int x4)] [] z =
  if x4 ≤ x3 then some (none, z) else ds_isK x0 12 (ds_chk x3 (ds_N x0) (ds_Rw ds_c_Arrays_fillL ds_u_Arrays_fillL cl 6 [some (.ref x0), some (.long x1), none, some (.int (x3 + 1)), some (.int x4)] [] (ds_setL z x0 x3.toNatClampNeg x1))) :=
  (ds_Rw_stp 400 6 [some (.ref x0), some (.long x1), none, some (.int x3), some (.int x4)] [] z).trans rfl
