set_option maxRecDepth 20000 in
theorem b_Chances_add_0 (cl : Nat → List Value → ds_St → Option ds_Out) (x1 : Int32) (x2 : Int64) (z : ds_St) : ds_Rw ds_c_Chances_add ds_u_Chances_add cl 0 [some (.ref 75), some (.int x1), some (.long x2), none] [] z =
  if x1 < 0 then some (none, z) else if 12 ≤ x1 then some (none, z) else ds_chk x1 12 (ds_chk x1 12 (some (none, (ds_setL z 76 x1.toNatClampNeg ((z.2.1 76 x1.toNatClampNeg) + x2))))) :=
  (ds_Rw_stp 400 0 [some (.ref 75), some (.int x1), some (.long x2), none] [] z).trans (Eq.trans (b := if x1 < 0 then (ds_stp ds_c_Chances_add ds_u_Chances_add cl (ds_Rw ds_c_Chances_add ds_u_Chances_add cl) 398 23 [some (.ref 75), some (.int x1), some (.long x2), none] [] z) else (ds_stp ds_c_Chances_add ds_u_Chances_add cl (ds_Rw ds_c_Chances_add ds_u_Chances_add cl) 398 4 [some (.ref 75), some (.int x1), some (.long x2), none] [] z)) rfl (ds_pif rfl (Eq.trans (b := if 12 ≤ x1 then (ds_stp ds_c_Chances_add ds_u_Chances_add cl (ds_Rw ds_c_Chances_add ds_u_Chances_add cl) 393 23 [some (.ref 75), some (.int x1), some (.long x2), none] [] z) else (ds_stp ds_c_Chances_add ds_u_Chances_add cl (ds_Rw ds_c_Chances_add ds_u_Chances_add cl) 393 13 [some (.ref 75), some (.int x1), some (.long x2), none] [] z)) rfl (ds_pif rfl (Eq.trans (b := ds_chk x1 12 (ds_stp ds_c_Chances_add ds_u_Chances_add cl (ds_Rw ds_c_Chances_add ds_u_Chances_add cl) 388 20 [some (.ref 75), some (.int x1), some (.long x2), none] [.long (z.2.1 76 x1.toNatClampNeg), .int x1, .ref 76] z)) rfl (congrArg (ds_chk x1 12) rfl))))))
set_option maxRecDepth 20000 in
theorem b_Chances_begin_0 (cl : Nat → List Value → ds_St → Option ds_Out) (x1 : Int32) (x2 : Int32) (z : ds_St) : ds_Rw ds_c_Chances_begin ds_u_Chances_begin cl 0 [some (.ref 75), some (.int x1), some (.int x2)] [] z =
  (ds_cI cl j_Math_min [.int x2, .int 12] z fun r1 z1 => (ds_cV cl j_Arrays_fillL [.ref 76, .long 0] (ds_setL (ds_setI z1 75 2 r1) 75 3 1) fun z2 => if x1 < 0 then some (none, z2) else if 12 ≤ x1 then some (none, z2) else ds_chk x1 12 (some (none, (ds_setL z2 76 x1.toNatClampNeg 1))))) :=
  (ds_Rw_stp 400 0 [some (.ref 75), some (.int x1), some (.int x2)] [] z).trans rfl
set_option maxRecDepth 20000 in
theorem b_Chances_difference_0 (cl : Nat → List Value → ds_St → Option ds_Out)  (z : ds_St) : ds_Rw ds_c_Chances_difference ds_u_Chances_difference cl 0 [some (.ref 75), none, none, none, none, none] [] z =
  (ds_cL cl j_Chances_rowsTo [.ref 75, .int 0] z fun r1 z1 => ds_Rw ds_c_Chances_difference ds_u_Chances_difference cl 11 [some (.ref 75), some (.long r1), none, some (.long r1), none, some (.int 1)] [] z1) :=
  (ds_Rw_stp 400 0 [some (.ref 75), none, none, none, none, none] [] z).trans rfl
set_option maxRecDepth 20000 in
theorem b_Chances_difference_11 (cl : Nat → List Value → ds_St → Option ds_Out) (x1 : Int64) (x3 : Int64) (x5 : Int32) (z : ds_St) : ds_Rw ds_c_Chances_difference ds_u_Chances_difference cl 11 [some (.ref 75), some (.long x1), none, some (.long x3), none, some (.int x5)] [] z =
  if (z.1 75 2) ≤ x5 then some (some (.long (x1 - x3)), z) else (ds_cL cl j_Chances_rowsTo [.ref 75, .int x5] z fun r1 z1 => (ds_cL cl j_Math_maxL [.long x1, .long r1] z1 fun r2 z2 => (ds_cL cl j_Chances_rowsTo [.ref 75, .int x5] z2 fun r3 z3 => (ds_cL cl j_Math_minL [.long x3, .long r3] z3 fun r4 z4 => ds_Rw ds_c_Chances_difference ds_u_Chances_difference cl 11 [some (.ref 75), some (.long r2), none, some (.long r4), none, some (.int (x5 + 1))] [] z4)))) :=
  (ds_Rw_stp 400 11 [some (.ref 75), some (.long x1), none, some (.long x3), none, some (.int x5)] [] z).trans rfl
set_option maxRecDepth 20000 in
theorem b_Chances_goOn_0 (cl : Nat → List Value → ds_St → Option ds_Out)  (z : ds_St) : ds_Rw ds_c_Chances_goOn ds_u_Chances_goOn cl 0 [some (.ref 75), none, none] [] z =
  (ds_cV cl j_Arrays_fillL [.ref 76, .long 0] (ds_rowL z 77 (va_cpy (z.2.1 76) (z.2.1 77) 0 0 12)) fun z1 => ds_Rw ds_c_Chances_goOn ds_u_Chances_goOn cl 25 [some (.ref 75), some (.int 0), none] [] z1) :=
  (ds_Rw_stp 400 0 [some (.ref 75), none, none] [] z).trans rfl
set_option maxRecDepth 20000 in
theorem b_Chances_goOn_25 (cl : Nat → List Value → ds_St → Option ds_Out) (x1 : Int32) (z : ds_St) : ds_Rw ds_c_Chances_goOn ds_u_Chances_goOn cl 25 [some (.ref 75), some (.int x1), none] [] z =
  if (z.1 75 2) ≤ x1 then ds_Rw ds_c_Chances_goOn ds_u_Chances_goOn cl 86 [some (.ref 75), none, none] [] z else if 12 ≤ x1 then ds_Rw ds_c_Chances_goOn ds_u_Chances_goOn cl 86 [some (.ref 75), none, none] [] z else ds_Rw ds_c_Chances_goOn ds_u_Chances_goOn cl 44 [some (.ref 75), some (.int x1), some (.int 0)] [] z :=
  (ds_Rw_stp 400 25 [some (.ref 75), some (.int x1), none] [] z).trans rfl
set_option maxRecDepth 20000 in
theorem b_Chances_goOn_44 (cl : Nat → List Value → ds_St → Option ds_Out) (x1 : Int32) (x2 : Int32) (z : ds_St) : ds_Rw ds_c_Chances_goOn ds_u_Chances_goOn cl 44 [some (.ref 75), some (.int x1), some (.int x2)] [] z =
  (ds_cI cl j_Sea_movesOf [.int (z.1 75 2)] z fun r1 z1 => if r1 ≤ x2 then ds_Rw ds_c_Chances_goOn ds_u_Chances_goOn cl 25 [some (.ref 75), some (.int (x1 + 1)), none] [] z1 else (ds_cI cl j_Sea_goesTo [.int x2, .int x1, .int (z1.1 75 2)] z1 fun r2 z2 => ds_chk x1 12 ((ds_cV cl j_Chances_add [.ref 75, .int r2, .long (z2.2.1 77 x1.toNatClampNeg)] z2 fun z3 => ds_Rw ds_c_Chances_goOn ds_u_Chances_goOn cl 44 [some (.ref 75), some (.int x1), some (.int (x2 + 1))] [] z3)))) :=
  (ds_Rw_stp 400 44 [some (.ref 75), some (.int x1), some (.int x2)] [] z).trans rfl
set_option maxRecDepth 20000 in
theorem b_Chances_goOn_86 (cl : Nat → List Value → ds_St → Option ds_Out)  (z : ds_St) : ds_Rw ds_c_Chances_goOn ds_u_Chances_goOn cl 86 [some (.ref 75), none, none] [] z =
  (ds_cI cl j_Sea_movesOf [.int (z.1 75 2)] z fun r1 z1 => some (none, (ds_setL z1 75 3 ((z.2.1 75 3) * r1.toInt64)))) :=
  (ds_Rw_stp 400 86 [some (.ref 75), none, none] [] z).trans rfl
set_option maxRecDepth 20000 in
theorem b_Chances_rowsAhead_0 (cl : Nat → List Value → ds_St → Option ds_Out) (x1 : Int32) (z : ds_St) : ds_Rw ds_c_Chances_rowsAhead ds_u_Chances_rowsAhead cl 0 [some (.ref 75), some (.int x1), none, none, none] [] z =
  ds_Rw ds_c_Chances_rowsAhead ds_u_Chances_rowsAhead cl 5 [some (.ref 75), some (.int x1), some (.long 0), none, some (.int 0)] [] z :=
  (ds_Rw_stp 400 0 [some (.ref 75), some (.int x1), none, none, none] [] z).trans rfl
set_option maxRecDepth 20000 in
theorem b_Chances_rowsAhead_5 (cl : Nat → List Value → ds_St → Option ds_Out) (x1 : Int32) (x2 : Int64) (x4 : Int32) (z : ds_St) : ds_Rw ds_c_Chances_rowsAhead ds_u_Chances_rowsAhead cl 5 [some (.ref 75), some (.int x1), some (.long x2), none, some (.int x4)] [] z =
  if x1 ≤ x4 then some (some (.long x2), z) else (ds_cL cl j_Chances_rowsTo [.ref 75, .int x4] z fun r1 z1 => ds_Rw ds_c_Chances_rowsAhead ds_u_Chances_rowsAhead cl 5 [some (.ref 75), some (.int x1), some (.long (x2 + r1)), none, some (.int (x4 + 1))] [] z1) :=
  (ds_Rw_stp 400 5 [some (.ref 75), some (.int x1), some (.long x2), none, some (.int x4)] [] z).trans rfl
set_option maxRecDepth 20000 in
theorem b_Chances_rowsTo_0 (cl : Nat → List Value → ds_St → Option ds_Out) (x1 : Int32) (z : ds_St) : ds_Rw ds_c_Chances_rowsTo ds_u_Chances_rowsTo cl 0 [some (.ref 75), some (.int x1)] [] z =
  if x1 < 0 then some (some (.long 0), z) else if 12 ≤ x1 then some (some (.long 0), z) else ds_chk x1 12 (some (some (.long (z.2.1 76 x1.toNatClampNeg)), z)) :=
  (ds_Rw_stp 400 0 [some (.ref 75), some (.int x1)] [] z).trans rfl
set_option maxRecDepth 20000 in
theorem b_Chart_allTrades_0 (cl : Nat → List Value → ds_St → Option ds_Out)  (z : ds_St) : ds_Rw ds_c_Chart_allTrades ds_u_Chart_allTrades cl 0 [some (.ref 67)] [] z =
  (ds_cI cl j_Chart_tradesOf [.ref 67, .int (-1)] z fun r1 z1 => some (some (.int r1), z1)) :=
  (ds_Rw_stp 400 0 [some (.ref 67)] [] z).trans rfl
set_option maxRecDepth 20000 in
theorem b_Chart_besidePlaces_0 (cl : Nat → List Value → ds_St → Option ds_Out) (x1 : Int32) (z : ds_St) : ds_Rw ds_c_Chart_besidePlaces ds_u_Chart_besidePlaces cl 0 [some (.ref 67), some (.int x1), none, none] [] z =
  ds_Rw ds_c_Chart_besidePlaces ds_u_Chart_besidePlaces cl 4 [some (.ref 67), some (.int x1), some (.int 0), some (.int 0)] [] z :=
  (ds_Rw_stp 400 0 [some (.ref 67), some (.int x1), none, none] [] z).trans rfl
set_option maxRecDepth 20000 in
theorem b_Chart_besidePlaces_4 (cl : Nat → List Value → ds_St → Option ds_Out) (x1 : Int32) (x2 : Int32) (x3 : Int32) (z : ds_St) : ds_Rw ds_c_Chart_besidePlaces ds_u_Chart_besidePlaces cl 4 [some (.ref 67), some (.int x1), some (.int x2), some (.int x3)] [] z =
  if (z.1 67 2) ≤ x3 then some (some (.int (x2 &&& ((1 <<< ((z.1 67 2) &&& 31)) - 1))), z) else if ¬ ((x1 >>> (x3 &&& 31)) &&& 1) = 1 then ds_Rw ds_c_Chart_besidePlaces ds_u_Chart_besidePlaces cl 4 [some (.ref 67), some (.int x1), some (.int x2), some (.int (x3 + 1))] [] z else ds_isK (z.2.2 2) 7 ((ds_cI cl j_Sea_look [.ref (ds_R z (z.2.2 2) 17), .int x3] z fun r1 z1 => ds_Rw ds_c_Chart_besidePlaces ds_u_Chart_besidePlaces cl 4 [some (.ref 67), some (.int x1), some (.int (x2 ||| r1)), some (.int (x3 + 1))] [] z1)) :=
  (ds_Rw_stp 400 4 [some (.ref 67), some (.int x1), some (.int x2), some (.int x3)] [] z).trans rfl
set_option maxRecDepth 20000 in
theorem b_Chart_bridges_0 (cl : Nat → List Value → ds_St → Option ds_Out) (x1 : Int32) (x2 : Int32) (z : ds_St) : ds_Rw ds_c_Chart_bridges ds_u_Chart_bridges cl 0 [some (.ref 67), some (.int x1), some (.int x2), none, none, none, none, none] [] z =
  (ds_cI cl j_Chart_placeBit [.ref 67, .int x1] z fun r1 z1 => (ds_cI cl j_Chart_placesWithoutJokers [.ref 67] z1 fun r2 z2 => ds_Rw ds_c_Chart_bridges ds_u_Chart_bridges cl 23 [some (.ref 67), none, some (.int x2), none, some (.int (r2 ||| r1)), some (.int r1), some (.int r1), some (.int 0)] [] z2)) :=
  (ds_Rw_stp 400 0 [some (.ref 67), some (.int x1), some (.int x2), none, none, none, none, none] [] z).trans rfl
set_option maxRecDepth 20000 in
theorem b_Chart_bridges_23 (cl : Nat → List Value → ds_St → Option ds_Out) (x2 : Int32) (x4 : Int32) (x5 : Int32) (x6 : Int32) (x7 : Int32) (z : ds_St) : ds_Rw ds_c_Chart_bridges ds_u_Chart_bridges cl 23 [some (.ref 67), none, some (.int x2), none, some (.int x4), some (.int x5), some (.int x6), some (.int x7)] [] z =
  if 12 < x7 then some (some (.int (-2)), z) else if (x5 &&& x2) = 0 then (ds_cI cl j_Chart_besidePlaces [.ref 67, .int (x5 &&& x4)] z fun r1 z1 => ds_Rw ds_c_Chart_bridges ds_u_Chart_bridges cl 23 [some (.ref 67), none, some (.int x2), none, some (.int x4), some (.int (r1 &&& (x6 ^^^ (-1)))), some (.int (x6 ||| (r1 &&& (x6 ^^^ (-1))))), some (.int (x7 + 1))] [] z1) else some (some (.int x7), z) :=
  (ds_Rw_stp 400 23 [some (.ref 67), none, some (.int x2), none, some (.int x4), some (.int x5), some (.int x6), some (.int x7)] [] z).trans rfl
set_option maxRecDepth 20000 in
theorem b_Chart_countWars_0 (cl : Nat → List Value → ds_St → Option ds_Out)  (z : ds_St) : ds_Rw ds_c_Chart_countWars ds_u_Chart_countWars cl 0 [some (.ref 67), none, none] [] z =
  ds_Rw ds_c_Chart_countWars ds_u_Chart_countWars cl 4 [some (.ref 67), some (.int 0), some (.int 0)] [] z :=
  (ds_Rw_stp 400 0 [some (.ref 67), none, none] [] z).trans rfl
set_option maxRecDepth 20000 in
theorem b_Chart_countWars_4 (cl : Nat → List Value → ds_St → Option ds_Out) (x1 : Int32) (x2 : Int32) (z : ds_St) : ds_Rw ds_c_Chart_countWars ds_u_Chart_countWars cl 4 [some (.ref 67), some (.int x1), some (.int x2)] [] z =
  if (z.1 67 2) ≤ x2 then some (some (.int x1), z) else (ds_cI cl j_Chart_isWar [.ref 67, .int x2, .int (x2 + 1)] z fun r1 z1 => if r1 = 0 then ds_Rw ds_c_Chart_countWars ds_u_Chart_countWars cl 26 [some (.ref 67), some (.int x1), some (.int x2)] [] z1 else ds_Rw ds_c_Chart_countWars ds_u_Chart_countWars cl 26 [some (.ref 67), some (.int (x1 + 1)), some (.int x2)] [] z1) :=
  (ds_Rw_stp 400 4 [some (.ref 67), some (.int x1), some (.int x2)] [] z).trans rfl
set_option maxRecDepth 20000 in
theorem b_Chart_countWars_26 (cl : Nat → List Value → ds_St → Option ds_Out) (x1 : Int32) (x2 : Int32) (z : ds_St) : ds_Rw ds_c_Chart_countWars ds_u_Chart_countWars cl 26 [some (.ref 67), some (.int x1), some (.int x2)] [] z =
  ds_isK (z.2.2 2) 7 ((ds_cI cl j_Chart_isWar [.ref 67, .int x2, .int (x2 + (z.1 (z.2.2 2) 0))] z fun r1 z1 => if r1 = 0 then ds_Rw ds_c_Chart_countWars ds_u_Chart_countWars cl 4 [some (.ref 67), some (.int x1), some (.int (x2 + 1))] [] z1 else ds_Rw ds_c_Chart_countWars ds_u_Chart_countWars cl 4 [some (.ref 67), some (.int (x1 + 1)), some (.int (x2 + 1))] [] z1)) :=
  (ds_Rw_stp 400 26 [some (.ref 67), some (.int x1), some (.int x2)] [] z).trans rfl
set_option maxRecDepth 20000 in
theorem b_Chart_countWishes_0 (cl : Nat → List Value → ds_St → Option ds_Out)  (z : ds_St) : ds_Rw ds_c_Chart_countWishes ds_u_Chart_countWishes cl 0 [some (.ref 67), none, none] [] z =
  ds_Rw ds_c_Chart_countWishes ds_u_Chart_countWishes cl 4 [some (.ref 67), some (.int 0), some (.int 0)] [] z :=
  (ds_Rw_stp 400 0 [some (.ref 67), none, none] [] z).trans rfl
set_option maxRecDepth 20000 in
theorem b_Chart_countWishes_4 (cl : Nat → List Value → ds_St → Option ds_Out) (x1 : Int32) (x2 : Int32) (z : ds_St) : ds_Rw ds_c_Chart_countWishes ds_u_Chart_countWishes cl 4 [some (.ref 67), some (.int x1), some (.int x2)] [] z =
  ds_isK (z.2.2 2) 7 (if (z.1 (z.2.2 2) 11) ≤ x2 then some (some (.int x1), z) else ds_isK (z.2.2 2) 7 ((ds_cI cl j_Sea_look [.ref (ds_R z (z.2.2 2) 12), .int x2] z fun r1 z1 => ds_isK (z1.2.2 2) 7 ((ds_cI cl j_Sea_look [.ref (ds_R z1 (z1.2.2 2) 13), .int x2] z1 fun r2 z2 => (ds_cI cl j_Chart_touching [.ref 67, .int r1, .int r2] z2 fun r3 z3 => if r3 = 0 then ds_Rw ds_c_Chart_countWishes ds_u_Chart_countWishes cl 4 [some (.ref 67), some (.int x1), some (.int (x2 + 1))] [] z3 else ds_Rw ds_c_Chart_countWishes ds_u_Chart_countWishes cl 4 [some (.ref 67), some (.int (x1 + 1)), some (.int (x2 + 1))] [] z3)))))) :=
  (ds_Rw_stp 400 4 [some (.ref 67), some (.int x1), some (.int x2)] [] z).trans rfl
set_option maxRecDepth 20000 in
theorem b_Chart_firstOfLength_0 (cl : Nat → List Value → ds_St → Option ds_Out) (x1 : Int32) (x2 : Int32) (z : ds_St) : ds_Rw ds_c_Chart_firstOfLength ds_u_Chart_firstOfLength cl 0 [some (.ref 67), some (.int x1), some (.int x2), none, none, none] [] z =
  if ¬ x2 = (-1) then (ds_cI cl j_Chart_mates [.ref 67, .int x2] z fun r1 z1 => ds_Rw ds_c_Chart_firstOfLength ds_u_Chart_firstOfLength cl 18 [some (.ref 67), some (.int x1), some (.int x2), some (.int r1), some (.int 0), none] [] z1) else ds_Rw ds_c_Chart_firstOfLength ds_u_Chart_firstOfLength cl 18 [some (.ref 67), some (.int x1), some (.int x2), some (.int 0), some (.int 0), none] [] z :=
  (ds_Rw_stp 400 0 [some (.ref 67), some (.int x1), some (.int x2), none, none, none] [] z).trans rfl
set_option maxRecDepth 20000 in
theorem b_Chart_firstOfLength_18 (cl : Nat → List Value → ds_St → Option ds_Out) (x1 : Int32) (x2 : Int32) (x3 : Int32) (x4 : Int32) (z : ds_St) : ds_Rw ds_c_Chart_firstOfLength ds_u_Chart_firstOfLength cl 18 [some (.ref 67), some (.int x1), some (.int x2), some (.int x3), some (.int x4), none] [] z =
  if 12 ≤ x4 then some (some (.int (-1)), z) else if ¬ ((x3 >>> (x4 &&& 31)) &&& 1) = 1 then ds_Rw ds_c_Chart_firstOfLength ds_u_Chart_firstOfLength cl 53 [some (.ref 67), some (.int x1), some (.int x2), some (.int x3), some (.int x4), none] [] z else (ds_cI cl j_Chart_rankAbove [.ref 67, .int x2] z fun r1 z1 => (ds_cI cl j_Chart_isOfRank [.ref 67, .int x4, .int r1] z1 fun r2 z2 => if r2 = 0 then ds_Rw ds_c_Chart_firstOfLength ds_u_Chart_firstOfLength cl 53 [some (.ref 67), some (.int x1), some (.int x2), some (.int x3), some (.int x4), none] [] z2 else ds_Rw ds_c_Chart_firstOfLength ds_u_Chart_firstOfLength cl 54 [some (.ref 67), some (.int x1), some (.int x2), some (.int x3), some (.int x4), none] [.int 1] z2)) :=
  (ds_Rw_stp 400 18 [some (.ref 67), some (.int x1), some (.int x2), some (.int x3), some (.int x4), none] [] z).trans rfl
set_option maxRecDepth 20000 in
theorem b_Chart_firstOfLength_53 (cl : Nat → List Value → ds_St → Option ds_Out) (x1 : Int32) (x2 : Int32) (x3 : Int32) (x4 : Int32) (z : ds_St) : ds_Rw ds_c_Chart_firstOfLength ds_u_Chart_firstOfLength cl 53 [some (.ref 67), some (.int x1), some (.int x2), some (.int x3), some (.int x4), none] [] z =
  ds_Rw ds_c_Chart_firstOfLength ds_u_Chart_firstOfLength cl 54 [some (.ref 67), some (.int x1), some (.int x2), some (.int x3), some (.int x4), none] [.int 0] z :=
  (ds_Rw_stp 400 53 [some (.ref 67), some (.int x1), some (.int x2), some (.int x3), some (.int x4), none] [] z).trans rfl
set_option maxRecDepth 20000 in
theorem b_Chart_firstOfLength_54 (cl : Nat → List Value → ds_St → Option ds_Out) (x1 : Int32) (x2 : Int32) (x3 : Int32) (x4 : Int32) (s0 : Int32) (z : ds_St) : ds_Rw ds_c_Chart_firstOfLength ds_u_Chart_firstOfLength cl 54 [some (.ref 67), some (.int x1), some (.int x2), some (.int x3), some (.int x4), none] [.int s0] z =
  (ds_cI cl j_Sea_look [.ref 69, .int x4] z fun r1 z1 => if ¬ r1 = x1 then ds_Rw ds_c_Chart_firstOfLength ds_u_Chart_firstOfLength cl 18 [some (.ref 67), some (.int x1), some (.int x2), some (.int x3), some (.int (x4 + 1)), none] [] z1 else if x2 = (-1) then some (some (.int x4), z1) else if s0 = 0 then ds_Rw ds_c_Chart_firstOfLength ds_u_Chart_firstOfLength cl 18 [some (.ref 67), some (.int x1), some (.int x2), some (.int x3), some (.int (x4 + 1)), none] [] z1 else some (some (.int x4), z1)) :=
  (ds_Rw_stp 400 54 [some (.ref 67), some (.int x1), some (.int x2), some (.int x3), some (.int x4), none] [.int s0] z).trans rfl
set_option maxRecDepth 20000 in
theorem b_Chart_isJokerAt_0 (cl : Nat → List Value → ds_St → Option ds_Out) (x1 : Int32) (z : ds_St) : ds_Rw ds_c_Chart_isJokerAt ds_u_Chart_isJokerAt cl 0 [some (.ref 67), some (.int x1)] [] z =
  (ds_cI cl j_Chart_islandAt [.ref 67, .int x1] z fun r1 z1 => ds_isK (z.2.2 2) 7 ((ds_cI cl j_Told_isJoker [.ref (z.2.2 2), .int r1] z1 fun r2 z2 => ds_isB r2 (some (some (.int r2), z2))))) :=
  (ds_Rw_stp 400 0 [some (.ref 67), some (.int x1)] [] z).trans rfl
set_option maxRecDepth 20000 in
theorem b_Chart_isOfRank_0 (cl : Nat → List Value → ds_St → Option ds_Out) (x1 : Int32) (x2 : Int32) (z : ds_St) : ds_Rw ds_c_Chart_isOfRank ds_u_Chart_isOfRank cl 0 [some (.ref 67), some (.int x1), some (.int x2)] [] z =
  ds_isK (z.2.2 2) 7 ((ds_cI cl j_Told_isJoker [.ref (z.2.2 2), .int x1] z fun r1 z1 => if ¬ r1 = 0 then some (some (.int 0), z1) else ds_isK (z1.2.2 2) 7 ((ds_cI cl j_Sea_look [.ref (ds_R z1 (z1.2.2 2) 7), .int x1] z1 fun r2 z2 => if ¬ r2 = x2 then some (some (.int 0), z2) else some (some (.int 1), z2))))) :=
  (ds_Rw_stp 400 0 [some (.ref 67), some (.int x1), some (.int x2)] [] z).trans rfl
set_option maxRecDepth 20000 in
theorem b_Chart_isWar_0 (cl : Nat → List Value → ds_St → Option ds_Out) (x1 : Int32) (x2 : Int32) (z : ds_St) : ds_Rw ds_c_Chart_isWar ds_u_Chart_isWar cl 0 [some (.ref 67), some (.int x1), some (.int x2)] [] z =
  if (z.1 67 2) ≤ x2 then some (some (.int 0), z) else ds_isK (z.2.2 2) 7 ((ds_cI cl j_Told_areNear [.ref (z.2.2 2), .int x1, .int x2] z fun r1 z1 => if r1 = 0 then some (some (.int 0), z1) else (ds_cI cl j_Chart_isJokerAt [.ref 67, .int x1] z1 fun r2 z2 => if ¬ r2 = 0 then some (some (.int 0), z2) else (ds_cI cl j_Chart_isJokerAt [.ref 67, .int x2] z2 fun r3 z3 => if r3 = 0 then ds_isK (z3.2.2 2) 7 ((ds_cI cl j_Chart_islandAt [.ref 67, .int x1] z3 fun r4 z4 => (ds_cI cl j_Sea_look [.ref (ds_R z3 (z3.2.2 2) 7), .int r4] z4 fun r5 z5 => ds_isK (z5.2.2 2) 7 ((ds_cI cl j_Chart_islandAt [.ref 67, .int x2] z5 fun r6 z6 => (ds_cI cl j_Sea_look [.ref (ds_R z5 (z5.2.2 2) 7), .int r6] z6 fun r7 z7 => (ds_cI cl j_Math_abs [.int (r5 - r7)] z7 fun r8 z8 => if r8 < 5 then some (some (.int 0), z8) else some (some (.int 1), z8)))))))) else some (some (.int 0), z3))))) :=
  (ds_Rw_stp 400 0 [some (.ref 67), some (.int x1), some (.int x2)] [] z).trans rfl
set_option maxRecDepth 20000 in
theorem b_Chart_islandAt_0 (cl : Nat → List Value → ds_St → Option ds_Out) (x1 : Int32) (z : ds_St) : ds_Rw ds_c_Chart_islandAt ds_u_Chart_islandAt cl 0 [some (.ref 67), some (.int x1)] [] z =
  if (z.1 67 2) ≤ x1 then some (some (.int (-1)), z) else (ds_cI cl j_Sea_look [.ref 68, .int x1] z fun r1 z1 => some (some (.int r1), z1)) :=
  (ds_Rw_stp 400 0 [some (.ref 67), some (.int x1)] [] z).trans rfl
set_option maxRecDepth 20000 in
theorem b_Chart_longestBehind_0 (cl : Nat → List Value → ds_St → Option ds_Out) (x1 : Int32) (z : ds_St) : ds_Rw ds_c_Chart_longestBehind ds_u_Chart_longestBehind cl 0 [some (.ref 67), some (.int x1), none, none, none] [] z =
  (ds_cI cl j_Chart_mates [.ref 67, .int x1] z fun r1 z1 => ds_Rw ds_c_Chart_longestBehind ds_u_Chart_longestBehind cl 11 [some (.ref 67), some (.int x1), some (.int r1), some (.int 0), some (.int 0)] [] z1) :=
  (ds_Rw_stp 400 0 [some (.ref 67), some (.int x1), none, none, none] [] z).trans rfl
set_option maxRecDepth 20000 in
theorem b_Chart_longestBehind_11 (cl : Nat → List Value → ds_St → Option ds_Out) (x1 : Int32) (x2 : Int32) (x3 : Int32) (x4 : Int32) (z : ds_St) : ds_Rw ds_c_Chart_longestBehind ds_u_Chart_longestBehind cl 11 [some (.ref 67), some (.int x1), some (.int x2), some (.int x3), some (.int x4)] [] z =
  if 12 ≤ x4 then some (some (.int x3), z) else if ¬ ((x2 >>> (x4 &&& 31)) &&& 1) = 1 then ds_Rw ds_c_Chart_longestBehind ds_u_Chart_longestBehind cl 11 [some (.ref 67), some (.int x1), some (.int x2), some (.int x3), some (.int (x4 + 1))] [] z else (ds_cI cl j_Chart_rankAbove [.ref 67, .int x1] z fun r1 z1 => (ds_cI cl j_Chart_isOfRank [.ref 67, .int x4, .int r1] z1 fun r2 z2 => if r2 = 0 then ds_Rw ds_c_Chart_longestBehind ds_u_Chart_longestBehind cl 11 [some (.ref 67), some (.int x1), some (.int x2), some (.int x3), some (.int (x4 + 1))] [] z2 else (ds_cI cl j_Sea_look [.ref 69, .int x4] z2 fun r3 z3 => (ds_cI cl j_Math_max [.int x3, .int r3] z3 fun r4 z4 => ds_Rw ds_c_Chart_longestBehind ds_u_Chart_longestBehind cl 11 [some (.ref 67), some (.int x1), some (.int x2), some (.int r4), some (.int (x4 + 1))] [] z4)))) :=
  (ds_Rw_stp 400 11 [some (.ref 67), some (.int x1), some (.int x2), some (.int x3), some (.int x4)] [] z).trans rfl
set_option maxRecDepth 20000 in
theorem b_Chart_longestRun_0 (cl : Nat → List Value → ds_St → Option ds_Out)  (z : ds_St) : ds_Rw ds_c_Chart_longestRun ds_u_Chart_longestRun cl 0 [some (.ref 67), none, none, none, none] [] z =
  (ds_cV cl j_Arrays_fill [.ref 69, .int 0] z fun z1 => ds_Rw ds_c_Chart_longestRun ds_u_Chart_longestRun cl 13 [some (.ref 67), some (.int 0), some (.int 9), none, none] [] z1) :=
  (ds_Rw_stp 400 0 [some (.ref 67), none, none, none, none] [] z).trans rfl
set_option maxRecDepth 20000 in
theorem b_Chart_longestRun_13 (cl : Nat → List Value → ds_St → Option ds_Out) (x1 : Int32) (x2 : Int32) (z : ds_St) : ds_Rw ds_c_Chart_longestRun ds_u_Chart_longestRun cl 13 [some (.ref 67), some (.int x1), some (.int x2), none, none] [] z =
  if x2 < 1 then some (some (.int x1), z) else ds_Rw ds_c_Chart_longestRun ds_u_Chart_longestRun cl 20 [some (.ref 67), some (.int x1), some (.int x2), some (.int 0), none] [] z :=
  (ds_Rw_stp 400 13 [some (.ref 67), some (.int x1), some (.int x2), none, none] [] z).trans rfl
set_option maxRecDepth 20000 in
theorem b_Chart_longestRun_20 (cl : Nat → List Value → ds_St → Option ds_Out) (x1 : Int32) (x2 : Int32) (x3 : Int32) (z : ds_St) : ds_Rw ds_c_Chart_longestRun ds_u_Chart_longestRun cl 20 [some (.ref 67), some (.int x1), some (.int x2), some (.int x3), none] [] z =
  if (z.1 67 2) ≤ x3 then ds_Rw ds_c_Chart_longestRun ds_u_Chart_longestRun cl 13 [some (.ref 67), some (.int x1), some (.int (x2 + (-1))), none, none] [] z else (ds_cI cl j_Chart_islandAt [.ref 67, .int x3] z fun r1 z1 => (ds_cI cl j_Chart_isOfRank [.ref 67, .int r1, .int x2] z1 fun r2 z2 => if r2 = 0 then ds_Rw ds_c_Chart_longestRun ds_u_Chart_longestRun cl 20 [some (.ref 67), some (.int x1), some (.int x2), some (.int (x3 + 1)), none] [] z2 else (ds_cI cl j_Chart_islandAt [.ref 67, .int x3] z2 fun r3 z3 => (ds_cI cl j_Chart_longestBehind [.ref 67, .int r3] z3 fun r4 z4 => (ds_cI cl j_Chart_islandAt [.ref 67, .int x3] z4 fun r5 z5 => (ds_cV cl j_Sea_put [.ref 69, .int r5, .int (1 + r4)] z5 fun z6 => (ds_cI cl j_Math_max [.int x1, .int (1 + r4)] z6 fun r7 z7 => ds_Rw ds_c_Chart_longestRun ds_u_Chart_longestRun cl 20 [some (.ref 67), some (.int r7), some (.int x2), some (.int (x3 + 1)), none] [] z7))))))) :=
  (ds_Rw_stp 400 20 [some (.ref 67), some (.int x1), some (.int x2), some (.int x3), none] [] z).trans rfl
set_option maxRecDepth 20000 in
theorem b_Chart_mates_0 (cl : Nat → List Value → ds_St → Option ds_Out) (x1 : Int32) (z : ds_St) : ds_Rw ds_c_Chart_mates ds_u_Chart_mates cl 0 [some (.ref 67), some (.int x1), none, none, none] [] z =
  (ds_cI cl j_Chart_placeBit [.ref 67, .int x1] z fun r1 z1 => (ds_cI cl j_Chart_besidePlaces [.ref 67, .int r1] z1 fun r2 z2 => ds_Rw ds_c_Chart_mates ds_u_Chart_mates cl 15 [some (.ref 67), none, some (.int r2), some (.int 0), some (.int 0)] [] z2)) :=
  (ds_Rw_stp 400 0 [some (.ref 67), some (.int x1), none, none, none] [] z).trans rfl
set_option maxRecDepth 20000 in
theorem b_Chart_mates_15 (cl : Nat → List Value → ds_St → Option ds_Out) (x2 : Int32) (x3 : Int32) (x4 : Int32) (z : ds_St) : ds_Rw ds_c_Chart_mates ds_u_Chart_mates cl 15 [some (.ref 67), none, some (.int x2), some (.int x3), some (.int x4)] [] z =
  if (z.1 67 2) ≤ x4 then some (some (.int x3), z) else if ¬ ((x2 >>> (x4 &&& 31)) &&& 1) = 1 then ds_Rw ds_c_Chart_mates ds_u_Chart_mates cl 15 [some (.ref 67), none, some (.int x2), some (.int x3), some (.int (x4 + 1))] [] z else (ds_cI cl j_Chart_islandAt [.ref 67, .int x4] z fun r1 z1 => ds_Rw ds_c_Chart_mates ds_u_Chart_mates cl 15 [some (.ref 67), none, some (.int x2), some (.int (x3 ||| (1 <<< (r1 &&& 31)))), some (.int (x4 + 1))] [] z1) :=
  (ds_Rw_stp 400 15 [some (.ref 67), none, some (.int x2), some (.int x3), some (.int x4)] [] z).trans rfl
set_option maxRecDepth 20000 in
theorem b_Chart_mostPeople_0 (cl : Nat → List Value → ds_St → Option ds_Out)  (z : ds_St) : ds_Rw ds_c_Chart_mostPeople ds_u_Chart_mostPeople cl 0 [some (.ref 67), none, none, none, none, none] [] z =
  (ds_cI cl j_Chart_placesWithoutJokers [.ref 67] z fun r1 z1 => ds_Rw ds_c_Chart_mostPeople ds_u_Chart_mostPeople cl 9 [some (.ref 67), some (.int r1), some (.int 0), some (.int 0), none, none] [] z1) :=
  (ds_Rw_stp 400 0 [some (.ref 67), none, none, none, none, none] [] z).trans rfl
set_option maxRecDepth 20000 in
theorem b_Chart_mostPeople_9 (cl : Nat → List Value → ds_St → Option ds_Out) (x1 : Int32) (x2 : Int32) (x3 : Int32) (z : ds_St) : ds_Rw ds_c_Chart_mostPeople ds_u_Chart_mostPeople cl 9 [some (.ref 67), some (.int x1), some (.int x2), some (.int x3), none, none] [] z =
  if (z.1 67 2) ≤ x3 then some (some (.int x2), z) else ds_Rw ds_c_Chart_mostPeople ds_u_Chart_mostPeople cl 27 [some (.ref 67), some (.int x1), some (.int x2), some (.int x3), some (.int ((1 <<< (x3 &&& 31)) &&& x1)), some (.int 0)] [] z :=
  (ds_Rw_stp 400 9 [some (.ref 67), some (.int x1), some (.int x2), some (.int x3), none, none] [] z).trans rfl
set_option maxRecDepth 20000 in
theorem b_Chart_mostPeople_27 (cl : Nat → List Value → ds_St → Option ds_Out) (x1 : Int32) (x2 : Int32) (x3 : Int32) (x4 : Int32) (x5 : Int32) (z : ds_St) : ds_Rw ds_c_Chart_mostPeople ds_u_Chart_mostPeople cl 27 [some (.ref 67), some (.int x1), some (.int x2), some (.int x3), some (.int x4), some (.int x5)] [] z =
  if 12 ≤ x5 then (ds_cI cl j_Chart_personsAt [.ref 67, .int x4] z fun r1 z1 => (ds_cI cl j_Math_max [.int x2, .int r1] z1 fun r2 z2 => ds_Rw ds_c_Chart_mostPeople ds_u_Chart_mostPeople cl 9 [some (.ref 67), some (.int x1), some (.int r2), some (.int (x3 + 1)), none, none] [] z2)) else (ds_cI cl j_Chart_besidePlaces [.ref 67, .int x4] z fun r3 z3 => ds_Rw ds_c_Chart_mostPeople ds_u_Chart_mostPeople cl 27 [some (.ref 67), some (.int x1), some (.int x2), some (.int x3), some (.int (x4 ||| (r3 &&& x1))), some (.int (x5 + 1))] [] z3) :=
  (ds_Rw_stp 400 27 [some (.ref 67), some (.int x1), some (.int x2), some (.int x3), some (.int x4), some (.int x5)] [] z).trans rfl
set_option maxRecDepth 20000 in
theorem b_Chart_personsAt_0 (cl : Nat → List Value → ds_St → Option ds_Out) (x1 : Int32) (z : ds_St) : ds_Rw ds_c_Chart_personsAt ds_u_Chart_personsAt cl 0 [some (.ref 67), some (.int x1), none, none] [] z =
  ds_Rw ds_c_Chart_personsAt ds_u_Chart_personsAt cl 4 [some (.ref 67), some (.int x1), some (.int 0), some (.int 0)] [] z :=
  (ds_Rw_stp 400 0 [some (.ref 67), some (.int x1), none, none] [] z).trans rfl
set_option maxRecDepth 20000 in
theorem b_Chart_personsAt_4 (cl : Nat → List Value → ds_St → Option ds_Out) (x1 : Int32) (x2 : Int32) (x3 : Int32) (z : ds_St) : ds_Rw ds_c_Chart_personsAt ds_u_Chart_personsAt cl 4 [some (.ref 67), some (.int x1), some (.int x2), some (.int x3)] [] z =
  if (z.1 67 2) ≤ x3 then some (some (.int x2), z) else if ¬ ((x1 >>> (x3 &&& 31)) &&& 1) = 1 then ds_Rw ds_c_Chart_personsAt ds_u_Chart_personsAt cl 4 [some (.ref 67), some (.int x1), some (.int x2), some (.int (x3 + 1))] [] z else ds_isK (z.2.2 2) 7 ((ds_cI cl j_Chart_islandAt [.ref 67, .int x3] z fun r1 z1 => (ds_cI cl j_Sea_look [.ref (ds_R z (z.2.2 2) 8), .int r1] z1 fun r2 z2 => ds_Rw ds_c_Chart_personsAt ds_u_Chart_personsAt cl 4 [some (.ref 67), some (.int x1), some (.int (x2 + r2)), some (.int (x3 + 1))] [] z2))) :=
  (ds_Rw_stp 400 4 [some (.ref 67), some (.int x1), some (.int x2), some (.int x3)] [] z).trans rfl
set_option maxRecDepth 20000 in
theorem b_Chart_placeBit_0 (cl : Nat → List Value → ds_St → Option ds_Out) (x1 : Int32) (z : ds_St) : ds_Rw ds_c_Chart_placeBit ds_u_Chart_placeBit cl 0 [some (.ref 67), some (.int x1), none] [] z =
  ds_Rw ds_c_Chart_placeBit ds_u_Chart_placeBit cl 2 [some (.ref 67), some (.int x1), some (.int 0)] [] z :=
  (ds_Rw_stp 400 0 [some (.ref 67), some (.int x1), none] [] z).trans rfl
set_option maxRecDepth 20000 in
theorem b_Chart_placeBit_2 (cl : Nat → List Value → ds_St → Option ds_Out) (x1 : Int32) (x2 : Int32) (z : ds_St) : ds_Rw ds_c_Chart_placeBit ds_u_Chart_placeBit cl 2 [some (.ref 67), some (.int x1), some (.int x2)] [] z =
  if (z.1 67 2) ≤ x2 then some (some (.int 0), z) else (ds_cI cl j_Sea_look [.ref 68, .int x2] z fun r1 z1 => if ¬ r1 = x1 then ds_Rw ds_c_Chart_placeBit ds_u_Chart_placeBit cl 2 [some (.ref 67), some (.int x1), some (.int (x2 + 1))] [] z1 else some (some (.int (1 <<< (x2 &&& 31))), z1)) :=
  (ds_Rw_stp 400 2 [some (.ref 67), some (.int x1), some (.int x2)] [] z).trans rfl
set_option maxRecDepth 20000 in
theorem b_Chart_placesOfGood_0 (cl : Nat → List Value → ds_St → Option ds_Out) (x1 : Int32) (z : ds_St) : ds_Rw ds_c_Chart_placesOfGood ds_u_Chart_placesOfGood cl 0 [some (.ref 67), some (.int x1), none, none] [] z =
  ds_Rw ds_c_Chart_placesOfGood ds_u_Chart_placesOfGood cl 4 [some (.ref 67), some (.int x1), some (.int 0), some (.int 0)] [] z :=
  (ds_Rw_stp 400 0 [some (.ref 67), some (.int x1), none, none] [] z).trans rfl
set_option maxRecDepth 20000 in
theorem b_Chart_placesOfGood_4 (cl : Nat → List Value → ds_St → Option ds_Out) (x1 : Int32) (x2 : Int32) (x3 : Int32) (z : ds_St) : ds_Rw ds_c_Chart_placesOfGood ds_u_Chart_placesOfGood cl 4 [some (.ref 67), some (.int x1), some (.int x2), some (.int x3)] [] z =
  if (z.1 67 2) ≤ x3 then some (some (.int x2), z) else ds_isK (z.2.2 2) 7 ((ds_cI cl j_Chart_islandAt [.ref 67, .int x3] z fun r1 z1 => (ds_cI cl j_Sea_look [.ref (ds_R z (z.2.2 2) 6), .int r1] z1 fun r2 z2 => if ¬ r2 = x1 then ds_Rw ds_c_Chart_placesOfGood ds_u_Chart_placesOfGood cl 4 [some (.ref 67), some (.int x1), some (.int x2), some (.int (x3 + 1))] [] z2 else ds_Rw ds_c_Chart_placesOfGood ds_u_Chart_placesOfGood cl 4 [some (.ref 67), some (.int x1), some (.int (x2 ||| (1 <<< (x3 &&& 31)))), some (.int (x3 + 1))] [] z2))) :=
  (ds_Rw_stp 400 4 [some (.ref 67), some (.int x1), some (.int x2), some (.int x3)] [] z).trans rfl
set_option maxRecDepth 20000 in
theorem b_Chart_placesWithoutJokers_0 (cl : Nat → List Value → ds_St → Option ds_Out)  (z : ds_St) : ds_Rw ds_c_Chart_placesWithoutJokers ds_u_Chart_placesWithoutJokers cl 0 [some (.ref 67), none, none] [] z =
  ds_Rw ds_c_Chart_placesWithoutJokers ds_u_Chart_placesWithoutJokers cl 4 [some (.ref 67), some (.int 0), some (.int 0)] [] z :=
  (ds_Rw_stp 400 0 [some (.ref 67), none, none] [] z).trans rfl
set_option maxRecDepth 20000 in
theorem b_Chart_placesWithoutJokers_4 (cl : Nat → List Value → ds_St → Option ds_Out) (x1 : Int32) (x2 : Int32) (z : ds_St) : ds_Rw ds_c_Chart_placesWithoutJokers ds_u_Chart_placesWithoutJokers cl 4 [some (.ref 67), some (.int x1), some (.int x2)] [] z =
  if (z.1 67 2) ≤ x2 then some (some (.int x1), z) else (ds_cI cl j_Chart_isJokerAt [.ref 67, .int x2] z fun r1 z1 => if ¬ r1 = 0 then ds_Rw ds_c_Chart_placesWithoutJokers ds_u_Chart_placesWithoutJokers cl 4 [some (.ref 67), some (.int x1), some (.int (x2 + 1))] [] z1 else ds_Rw ds_c_Chart_placesWithoutJokers ds_u_Chart_placesWithoutJokers cl 4 [some (.ref 67), some (.int (x1 ||| (1 <<< (x2 &&& 31)))), some (.int (x2 + 1))] [] z1) :=
  (ds_Rw_stp 400 4 [some (.ref 67), some (.int x1), some (.int x2)] [] z).trans rfl
set_option maxRecDepth 20000 in
theorem b_Chart_rankAbove_0 (cl : Nat → List Value → ds_St → Option ds_Out) (x1 : Int32) (z : ds_St) : ds_Rw ds_c_Chart_rankAbove ds_u_Chart_rankAbove cl 0 [some (.ref 67), some (.int x1)] [] z =
  ds_isK (z.2.2 2) 7 ((ds_cI cl j_Sea_look [.ref (ds_R z (z.2.2 2) 7), .int x1] z fun r1 z1 => some (some (.int (r1 + 1)), z1))) :=
  (ds_Rw_stp 400 0 [some (.ref 67), some (.int x1)] [] z).trans rfl
set_option maxRecDepth 20000 in
theorem b_Chart_runIsland_0 (cl : Nat → List Value → ds_St → Option ds_Out) (x1 : Int32) (z : ds_St) : ds_Rw ds_c_Chart_runIsland ds_u_Chart_runIsland cl 0 [some (.ref 67), some (.int x1), none, none, none] [] z =
  (ds_cI cl j_Chart_longestRun [.ref 67] z fun r1 z1 => (ds_cI cl j_Chart_firstOfLength [.ref 67, .int r1, .int (-1)] z1 fun r2 z2 => ds_Rw ds_c_Chart_runIsland ds_u_Chart_runIsland cl 15 [some (.ref 67), some (.int x1), some (.int r1), some (.int r2), some (.int 0)] [] z2)) :=
  (ds_Rw_stp 400 0 [some (.ref 67), some (.int x1), none, none, none] [] z).trans rfl
set_option maxRecDepth 20000 in
theorem b_Chart_runIsland_15 (cl : Nat → List Value → ds_St → Option ds_Out) (x1 : Int32) (x2 : Int32) (x3 : Int32) (x4 : Int32) (z : ds_St) : ds_Rw ds_c_Chart_runIsland ds_u_Chart_runIsland cl 15 [some (.ref 67), some (.int x1), some (.int x2), some (.int x3), some (.int x4)] [] z =
  if x1 ≤ x4 then some (some (.int x3), z) else (ds_cI cl j_Chart_firstOfLength [.ref 67, .int (x2 + (-1)), .int x3] z fun r1 z1 => ds_Rw ds_c_Chart_runIsland ds_u_Chart_runIsland cl 15 [some (.ref 67), some (.int x1), some (.int (x2 + (-1))), some (.int r1), some (.int (x4 + 1))] [] z1) :=
  (ds_Rw_stp 400 15 [some (.ref 67), some (.int x1), some (.int x2), some (.int x3), some (.int x4)] [] z).trans rfl
set_option maxRecDepth 20000 in
theorem b_Chart_show_0 (cl : Nat → List Value → ds_St → Option ds_Out) (x1 : Nat) (x2 : Nat) (z : ds_St) : ds_Rw ds_c_Chart_show ds_u_Chart_show cl 0 [some (.ref 67), some (.ref x1), some (.ref x2), none] [] z =
  ds_isK x1 7 (ds_isK x1 7 ((ds_cI cl j_Told_room [.ref x1] (ds_setS z 2 x1) fun r1 z1 => ds_isK x2 2 ((ds_cI cl j_Math_min [.int r1, .int (z1.1 x2 2)] z1 fun r2 z2 => ds_Rw ds_c_Chart_show ds_u_Chart_show cl 22 [some (.ref 67), none, some (.ref x2), some (.int 0)] [] (ds_setI z2 67 2 r2)))))) :=
  (ds_Rw_stp 400 0 [some (.ref 67), some (.ref x1), some (.ref x2), none] [] z).trans rfl
set_option maxRecDepth 20000 in
theorem b_Chart_show_22 (cl : Nat → List Value → ds_St → Option ds_Out) (x2 : Nat) (x3 : Int32) (z : ds_St) : ds_Rw ds_c_Chart_show ds_u_Chart_show cl 22 [some (.ref 67), none, some (.ref x2), some (.int x3)] [] z =
  if (z.1 67 2) ≤ x3 then some (none, z) else ds_isK x2 2 ((ds_cI cl j_Deck_cardAt [.ref x2, .int x3] z fun r1 z1 => (ds_cV cl j_Sea_put [.ref 68, .int x3, .int r1] z1 fun z2 => ds_Rw ds_c_Chart_show ds_u_Chart_show cl 22 [some (.ref 67), none, some (.ref x2), some (.int (x3 + 1))] [] z2))) :=
  (ds_Rw_stp 400 22 [some (.ref 67), none, some (.ref x2), some (.int x3)] [] z).trans rfl
set_option maxRecDepth 20000 in
theorem b_Chart_touching_0 (cl : Nat → List Value → ds_St → Option ds_Out) (x1 : Int32) (x2 : Int32) (z : ds_St) : ds_Rw ds_c_Chart_touching ds_u_Chart_touching cl 0 [some (.ref 67), some (.int x1), some (.int x2)] [] z =
  (ds_cI cl j_Chart_placeBit [.ref 67, .int x1] z fun r1 z1 => (ds_cI cl j_Chart_besidePlaces [.ref 67, .int r1] z1 fun r2 z2 => (ds_cI cl j_Chart_placeBit [.ref 67, .int x2] z2 fun r3 z3 => if (r2 &&& r3) = 0 then some (some (.int 0), z3) else some (some (.int 1), z3)))) :=
  (ds_Rw_stp 400 0 [some (.ref 67), some (.int x1), some (.int x2)] [] z).trans rfl
set_option maxRecDepth 20000 in
theorem b_Chart_tradeBetween_0 (cl : Nat → List Value → ds_St → Option ds_Out) (x1 : Int32) (x2 : Int32) (z : ds_St) : ds_Rw ds_c_Chart_tradeBetween ds_u_Chart_tradeBetween cl 0 [some (.ref 67), some (.int x1), some (.int x2)] [] z =
  if (z.1 67 2) ≤ x2 then some (some (.int 0), z) else ds_isK (z.2.2 2) 7 ((ds_cI cl j_Told_areNear [.ref (z.2.2 2), .int x1, .int x2] z fun r1 z1 => if ¬ r1 = 0 then (ds_cI cl j_Chart_islandAt [.ref 67, .int x1] z1 fun r2 z2 => (ds_cI cl j_Chart_islandAt [.ref 67, .int x2] z2 fun r3 z3 => ds_isK (z1.2.2 2) 7 ((ds_cI cl j_Told_worth [.ref (z1.2.2 2), .int r2, .int r3] z3 fun r4 z4 => some (some (.int r4), z4))))) else some (some (.int 0), z1))) :=
  (ds_Rw_stp 400 0 [some (.ref 67), some (.int x1), some (.int x2)] [] z).trans rfl
set_option maxRecDepth 20000 in
theorem b_Chart_tradesOf_0 (cl : Nat → List Value → ds_St → Option ds_Out) (x1 : Int32) (z : ds_St) : ds_Rw ds_c_Chart_tradesOf ds_u_Chart_tradesOf cl 0 [some (.ref 67), some (.int x1), none, none] [] z =
  ds_Rw ds_c_Chart_tradesOf ds_u_Chart_tradesOf cl 4 [some (.ref 67), some (.int x1), some (.int 0), some (.int 0)] [] z :=
  (ds_Rw_stp 400 0 [some (.ref 67), some (.int x1), none, none] [] z).trans rfl
set_option maxRecDepth 20000 in
theorem b_Chart_tradesOf_4 (cl : Nat → List Value → ds_St → Option ds_Out) (x1 : Int32) (x2 : Int32) (x3 : Int32) (z : ds_St) : ds_Rw ds_c_Chart_tradesOf ds_u_Chart_tradesOf cl 4 [some (.ref 67), some (.int x1), some (.int x2), some (.int x3)] [] z =
  if (z.1 67 2) ≤ x3 then some (some (.int x2), z) else if x1 = (-1) then ds_Rw ds_c_Chart_tradesOf ds_u_Chart_tradesOf cl 36 [some (.ref 67), some (.int x1), some (.int x2), some (.int x3)] [] z else ds_isK (z.2.2 2) 7 ((ds_cI cl j_Chart_islandAt [.ref 67, .int x3] z fun r1 z1 => (ds_cI cl j_Sea_look [.ref (ds_R z (z.2.2 2) 6), .int r1] z1 fun r2 z2 => if ¬ r2 = x1 then ds_Rw ds_c_Chart_tradesOf ds_u_Chart_tradesOf cl 4 [some (.ref 67), some (.int x1), some (.int x2), some (.int (x3 + 1))] [] z2 else ds_Rw ds_c_Chart_tradesOf ds_u_Chart_tradesOf cl 36 [some (.ref 67), some (.int x1), some (.int x2), some (.int x3)] [] z2))) :=
  (ds_Rw_stp 400 4 [some (.ref 67), some (.int x1), some (.int x2), some (.int x3)] [] z).trans rfl
set_option maxRecDepth 20000 in
theorem b_Chart_tradesOf_36 (cl : Nat → List Value → ds_St → Option ds_Out) (x1 : Int32) (x2 : Int32) (x3 : Int32) (z : ds_St) : ds_Rw ds_c_Chart_tradesOf ds_u_Chart_tradesOf cl 36 [some (.ref 67), some (.int x1), some (.int x2), some (.int x3)] [] z =
  (ds_cI cl j_Chart_tradeBetween [.ref 67, .int x3, .int (x3 + 1)] z fun r1 z1 => ds_isK (z1.2.2 2) 7 ((ds_cI cl j_Chart_tradeBetween [.ref 67, .int x3, .int (x3 + (z1.1 (z1.2.2 2) 0))] z1 fun r2 z2 => ds_Rw ds_c_Chart_tradesOf ds_u_Chart_tradesOf cl 4 [some (.ref 67), some (.int x1), some (.int (x2 + (r1 + r2))), some (.int (x3 + 1))] [] z2))) :=
  (ds_Rw_stp 400 36 [some (.ref 67), some (.int x1), some (.int x2), some (.int x3)] [] z).trans rfl
set_option maxRecDepth 20000 in
theorem b_Deck_cardAt_0_61 (cl : Nat → List Value → ds_St → Option ds_Out) (x1 : Int32) (z : ds_St) : ds_Rw ds_c_Deck_cardAt ds_u_Deck_cardAt cl 0 [some (.ref 61), some (.int x1)] [] z =
  if (z.1 61 2) ≤ x1 then some (some (.int (-1)), z) else (ds_cI cl j_Sea_look [.ref 62, .int x1] z fun r1 z1 => some (some (.int r1), z1)) :=
  (ds_Rw_stp 400 0 [some (.ref 61), some (.int x1)] [] z).trans rfl
set_option maxRecDepth 20000 in
theorem b_Deck_cardAt_0_64 (cl : Nat → List Value → ds_St → Option ds_Out) (x1 : Int32) (z : ds_St) : ds_Rw ds_c_Deck_cardAt ds_u_Deck_cardAt cl 0 [some (.ref 64), some (.int x1)] [] z =
  if (z.1 64 2) ≤ x1 then some (some (.int (-1)), z) else (ds_cI cl j_Sea_look [.ref 65, .int x1] z fun r1 z1 => some (some (.int r1), z1)) :=
  (ds_Rw_stp 400 0 [some (.ref 64), some (.int x1)] [] z).trans rfl
set_option maxRecDepth 20000 in
theorem b_Deck_isOrdered_0_61 (cl : Nat → List Value → ds_St → Option ds_Out)  (z : ds_St) : ds_Rw ds_c_Deck_isOrdered ds_u_Deck_isOrdered cl 0 [some (.ref 61), none] [] z =
  ds_Rw ds_c_Deck_isOrdered ds_u_Deck_isOrdered cl 2 [some (.ref 61), some (.int 0)] [] z :=
  (ds_Rw_stp 400 0 [some (.ref 61), none] [] z).trans rfl
set_option maxRecDepth 20000 in
theorem b_Deck_isOrdered_2_61 (cl : Nat → List Value → ds_St → Option ds_Out) (x1 : Int32) (z : ds_St) : ds_Rw ds_c_Deck_isOrdered ds_u_Deck_isOrdered cl 2 [some (.ref 61), some (.int x1)] [] z =
  if (z.1 61 2) ≤ x1 then some (some (.int 1), z) else (ds_cI cl j_Sea_look [.ref 62, .int x1] z fun r1 z1 => if r1 = x1 then ds_Rw ds_c_Deck_isOrdered ds_u_Deck_isOrdered cl 2 [some (.ref 61), some (.int (x1 + 1))] [] z1 else some (some (.int 0), z1)) :=
  (ds_Rw_stp 400 2 [some (.ref 61), some (.int x1)] [] z).trans rfl
set_option maxRecDepth 20000 in
theorem b_Deck_isOrdered_0_64 (cl : Nat → List Value → ds_St → Option ds_Out)  (z : ds_St) : ds_Rw ds_c_Deck_isOrdered ds_u_Deck_isOrdered cl 0 [some (.ref 64), none] [] z =
  ds_Rw ds_c_Deck_isOrdered ds_u_Deck_isOrdered cl 2 [some (.ref 64), some (.int 0)] [] z :=
  (ds_Rw_stp 400 0 [some (.ref 64), none] [] z).trans rfl
set_option maxRecDepth 20000 in
theorem b_Deck_isOrdered_2_64 (cl : Nat → List Value → ds_St → Option ds_Out) (x1 : Int32) (z : ds_St) : ds_Rw ds_c_Deck_isOrdered ds_u_Deck_isOrdered cl 2 [some (.ref 64), some (.int x1)] [] z =
  if (z.1 64 2) ≤ x1 then some (some (.int 1), z) else (ds_cI cl j_Sea_look [.ref 65, .int x1] z fun r1 z1 => if r1 = x1 then ds_Rw ds_c_Deck_isOrdered ds_u_Deck_isOrdered cl 2 [some (.ref 64), some (.int (x1 + 1))] [] z1 else some (some (.int 0), z1)) :=
  (ds_Rw_stp 400 2 [some (.ref 64), some (.int x1)] [] z).trans rfl
set_option maxRecDepth 20000 in
theorem b_Deck_makeMove_0_61 (cl : Nat → List Value → ds_St → Option ds_Out) (x1 : Int32) (z : ds_St) : ds_Rw ds_c_Deck_makeMove ds_u_Deck_makeMove cl 0 [some (.ref 61), some (.int x1), none] [] z =
  ds_Rw ds_c_Deck_makeMove ds_u_Deck_makeMove cl 17 [some (.ref 61), some (.int x1), some (.int 0)] [] (ds_rowI z 63 (va_cpy (z.1 62) (z.1 63) 0 0 12)) :=
  (ds_Rw_stp 400 0 [some (.ref 61), some (.int x1), none] [] z).trans rfl
set_option maxRecDepth 20000 in
theorem b_Deck_makeMove_17_61 (cl : Nat → List Value → ds_St → Option ds_Out) (x1 : Int32) (x2 : Int32) (z : ds_St) : ds_Rw ds_c_Deck_makeMove ds_u_Deck_makeMove cl 17 [some (.ref 61), some (.int x1), some (.int x2)] [] z =
  if (z.1 61 2) ≤ x2 then some (none, z) else (ds_cI cl j_Sea_goesTo [.int x1, .int x2, .int (z.1 61 2)] z fun r1 z1 => (ds_cI cl j_Sea_look [.ref 63, .int x2] z1 fun r2 z2 => (ds_cV cl j_Sea_put [.ref 62, .int r1, .int r2] z2 fun z3 => ds_Rw ds_c_Deck_makeMove ds_u_Deck_makeMove cl 17 [some (.ref 61), some (.int x1), some (.int (x2 + 1))] [] z3))) :=
  (ds_Rw_stp 400 17 [some (.ref 61), some (.int x1), some (.int x2)] [] z).trans rfl
set_option maxRecDepth 20000 in
theorem b_Deck_makeMove_0_64 (cl : Nat → List Value → ds_St → Option ds_Out) (x1 : Int32) (z : ds_St) : ds_Rw ds_c_Deck_makeMove ds_u_Deck_makeMove cl 0 [some (.ref 64), some (.int x1), none] [] z =
  ds_Rw ds_c_Deck_makeMove ds_u_Deck_makeMove cl 17 [some (.ref 64), some (.int x1), some (.int 0)] [] (ds_rowI z 66 (va_cpy (z.1 65) (z.1 66) 0 0 12)) :=
  (ds_Rw_stp 400 0 [some (.ref 64), some (.int x1), none] [] z).trans rfl
set_option maxRecDepth 20000 in
theorem b_Deck_makeMove_17_64 (cl : Nat → List Value → ds_St → Option ds_Out) (x1 : Int32) (x2 : Int32) (z : ds_St) : ds_Rw ds_c_Deck_makeMove ds_u_Deck_makeMove cl 17 [some (.ref 64), some (.int x1), some (.int x2)] [] z =
  if (z.1 64 2) ≤ x2 then some (none, z) else (ds_cI cl j_Sea_goesTo [.int x1, .int x2, .int (z.1 64 2)] z fun r1 z1 => (ds_cI cl j_Sea_look [.ref 66, .int x2] z1 fun r2 z2 => (ds_cV cl j_Sea_put [.ref 65, .int r1, .int r2] z2 fun z3 => ds_Rw ds_c_Deck_makeMove ds_u_Deck_makeMove cl 17 [some (.ref 64), some (.int x1), some (.int (x2 + 1))] [] z3))) :=
  (ds_Rw_stp 400 17 [some (.ref 64), some (.int x1), some (.int x2)] [] z).trans rfl
set_option maxRecDepth 20000 in
theorem b_Deck_order_0_61 (cl : Nat → List Value → ds_St → Option ds_Out) (x1 : Int32) (z : ds_St) : ds_Rw ds_c_Deck_order ds_u_Deck_order cl 0 [some (.ref 61), some (.int x1), none] [] z =
  ds_Rw ds_c_Deck_order ds_u_Deck_order cl 12 [some (.ref 61), none, some (.int 0)] [] (ds_setI (ds_setI z 61 2 x1) 61 3 (-1)) :=
  (ds_Rw_stp 400 0 [some (.ref 61), some (.int x1), none] [] z).trans rfl
set_option maxRecDepth 20000 in
theorem b_Deck_order_12_61 (cl : Nat → List Value → ds_St → Option ds_Out) (x2 : Int32) (z : ds_St) : ds_Rw ds_c_Deck_order ds_u_Deck_order cl 12 [some (.ref 61), none, some (.int x2)] [] z =
  if 12 ≤ x2 then some (none, z) else ds_chk x2 12 (ds_Rw ds_c_Deck_order ds_u_Deck_order cl 12 [some (.ref 61), none, some (.int (x2 + 1))] [] (ds_setI z 62 x2.toNatClampNeg x2)) :=
  (ds_Rw_stp 400 12 [some (.ref 61), none, some (.int x2)] [] z).trans rfl
set_option maxRecDepth 20000 in
theorem b_Deck_order_0_64 (cl : Nat → List Value → ds_St → Option ds_Out) (x1 : Int32) (z : ds_St) : ds_Rw ds_c_Deck_order ds_u_Deck_order cl 0 [some (.ref 64), some (.int x1), none] [] z =
  ds_Rw ds_c_Deck_order ds_u_Deck_order cl 12 [some (.ref 64), none, some (.int 0)] [] (ds_setI (ds_setI z 64 2 x1) 64 3 (-1)) :=
  (ds_Rw_stp 400 0 [some (.ref 64), some (.int x1), none] [] z).trans rfl
set_option maxRecDepth 20000 in
theorem b_Deck_order_12_64 (cl : Nat → List Value → ds_St → Option ds_Out) (x2 : Int32) (z : ds_St) : ds_Rw ds_c_Deck_order ds_u_Deck_order cl 12 [some (.ref 64), none, some (.int x2)] [] z =
  if 12 ≤ x2 then some (none, z) else ds_chk x2 12 (ds_Rw ds_c_Deck_order ds_u_Deck_order cl 12 [some (.ref 64), none, some (.int (x2 + 1))] [] (ds_setI z 65 x2.toNatClampNeg x2)) :=
  (ds_Rw_stp 400 12 [some (.ref 64), none, some (.int x2)] [] z).trans rfl
set_option maxRecDepth 20000 in
theorem b_Deck_placeOf_0_61 (cl : Nat → List Value → ds_St → Option ds_Out) (x1 : Int32) (z : ds_St) : ds_Rw ds_c_Deck_placeOf ds_u_Deck_placeOf cl 0 [some (.ref 61), some (.int x1), none] [] z =
  ds_Rw ds_c_Deck_placeOf ds_u_Deck_placeOf cl 2 [some (.ref 61), some (.int x1), some (.int 0)] [] z :=
  (ds_Rw_stp 400 0 [some (.ref 61), some (.int x1), none] [] z).trans rfl
set_option maxRecDepth 20000 in
theorem b_Deck_placeOf_2_61 (cl : Nat → List Value → ds_St → Option ds_Out) (x1 : Int32) (x2 : Int32) (z : ds_St) : ds_Rw ds_c_Deck_placeOf ds_u_Deck_placeOf cl 2 [some (.ref 61), some (.int x1), some (.int x2)] [] z =
  if (z.1 61 2) ≤ x2 then some (some (.int (-1)), z) else (ds_cI cl j_Sea_look [.ref 62, .int x2] z fun r1 z1 => if ¬ r1 = x1 then ds_Rw ds_c_Deck_placeOf ds_u_Deck_placeOf cl 2 [some (.ref 61), some (.int x1), some (.int (x2 + 1))] [] z1 else some (some (.int x2), z1)) :=
  (ds_Rw_stp 400 2 [some (.ref 61), some (.int x1), some (.int x2)] [] z).trans rfl
set_option maxRecDepth 20000 in
theorem b_Deck_placeOf_0_64 (cl : Nat → List Value → ds_St → Option ds_Out) (x1 : Int32) (z : ds_St) : ds_Rw ds_c_Deck_placeOf ds_u_Deck_placeOf cl 0 [some (.ref 64), some (.int x1), none] [] z =
  ds_Rw ds_c_Deck_placeOf ds_u_Deck_placeOf cl 2 [some (.ref 64), some (.int x1), some (.int 0)] [] z :=
  (ds_Rw_stp 400 0 [some (.ref 64), some (.int x1), none] [] z).trans rfl
set_option maxRecDepth 20000 in
theorem b_Deck_placeOf_2_64 (cl : Nat → List Value → ds_St → Option ds_Out) (x1 : Int32) (x2 : Int32) (z : ds_St) : ds_Rw ds_c_Deck_placeOf ds_u_Deck_placeOf cl 2 [some (.ref 64), some (.int x1), some (.int x2)] [] z =
  if (z.1 64 2) ≤ x2 then some (some (.int (-1)), z) else (ds_cI cl j_Sea_look [.ref 65, .int x2] z fun r1 z1 => if ¬ r1 = x1 then ds_Rw ds_c_Deck_placeOf ds_u_Deck_placeOf cl 2 [some (.ref 64), some (.int x1), some (.int (x2 + 1))] [] z1 else some (some (.int x2), z1)) :=
  (ds_Rw_stp 400 2 [some (.ref 64), some (.int x1), some (.int x2)] [] z).trans rfl
set_option maxRecDepth 20000 in
theorem b_Deck_putUnder_0_61 (cl : Nat → List Value → ds_St → Option ds_Out)  (z : ds_St) : ds_Rw ds_c_Deck_putUnder ds_u_Deck_putUnder cl 0 [some (.ref 61)] [] z =
  (ds_cV cl j_Sea_put [.ref 62, .int (z.1 61 2), .int (z.1 61 3)] z fun z1 => some (none, (ds_setI (ds_setI z1 61 2 ((z1.1 61 2) + 1)) 61 3 (-1)))) :=
  (ds_Rw_stp 400 0 [some (.ref 61)] [] z).trans rfl
set_option maxRecDepth 20000 in
theorem b_Deck_putUnder_0_64 (cl : Nat → List Value → ds_St → Option ds_Out)  (z : ds_St) : ds_Rw ds_c_Deck_putUnder ds_u_Deck_putUnder cl 0 [some (.ref 64)] [] z =
  (ds_cV cl j_Sea_put [.ref 65, .int (z.1 64 2), .int (z.1 64 3)] z fun z1 => some (none, (ds_setI (ds_setI z1 64 2 ((z1.1 64 2) + 1)) 64 3 (-1)))) :=
  (ds_Rw_stp 400 0 [some (.ref 64)] [] z).trans rfl
set_option maxRecDepth 20000 in
theorem b_Deck_readFrom_0_61 (cl : Nat → List Value → ds_St → Option ds_Out) (x1 : Nat) (x2 : Int32) (z : ds_St) : ds_Rw ds_c_Deck_readFrom ds_u_Deck_readFrom cl 0 [some (.ref 61), some (.ref x1), some (.int x2), none] [] z =
  ds_Rw ds_c_Deck_readFrom ds_u_Deck_readFrom cl 2 [some (.ref 61), some (.ref x1), some (.int x2), some (.int 0)] [] z :=
  (ds_Rw_stp 400 0 [some (.ref 61), some (.ref x1), some (.int x2), none] [] z).trans rfl
set_option maxRecDepth 20000 in
theorem b_Deck_readFrom_2_61 (cl : Nat → List Value → ds_St → Option ds_Out) (x1 : Nat) (x2 : Int32) (x3 : Int32) (z : ds_St) : ds_Rw ds_c_Deck_readFrom ds_u_Deck_readFrom cl 2 [some (.ref 61), some (.ref x1), some (.int x2), some (.int x3)] [] z =
  if 12 ≤ x3 then (ds_cI cl j_Sea_look [.ref x1, .int (x2 + 12)] z fun r1 z1 => (ds_cI cl j_Sea_look [.ref x1, .int ((x2 + 12) + 1)] (ds_setI z1 61 2 r1) fun r2 z2 => some (none, (ds_setI z2 61 3 r2)))) else (ds_cI cl j_Sea_look [.ref x1, .int (x2 + x3)] z fun r3 z3 => (ds_cV cl j_Sea_put [.ref 62, .int x3, .int r3] z3 fun z4 => ds_Rw ds_c_Deck_readFrom ds_u_Deck_readFrom cl 2 [some (.ref 61), some (.ref x1), some (.int x2), some (.int (x3 + 1))] [] z4)) :=
  (ds_Rw_stp 400 2 [some (.ref 61), some (.ref x1), some (.int x2), some (.int x3)] [] z).trans rfl
set_option maxRecDepth 20000 in
theorem b_Deck_readFrom_0_64 (cl : Nat → List Value → ds_St → Option ds_Out) (x1 : Nat) (x2 : Int32) (z : ds_St) : ds_Rw ds_c_Deck_readFrom ds_u_Deck_readFrom cl 0 [some (.ref 64), some (.ref x1), some (.int x2), none] [] z =
  ds_Rw ds_c_Deck_readFrom ds_u_Deck_readFrom cl 2 [some (.ref 64), some (.ref x1), some (.int x2), some (.int 0)] [] z :=
  (ds_Rw_stp 400 0 [some (.ref 64), some (.ref x1), some (.int x2), none] [] z).trans rfl
set_option maxRecDepth 20000 in
theorem b_Deck_readFrom_2_64 (cl : Nat → List Value → ds_St → Option ds_Out) (x1 : Nat) (x2 : Int32) (x3 : Int32) (z : ds_St) : ds_Rw ds_c_Deck_readFrom ds_u_Deck_readFrom cl 2 [some (.ref 64), some (.ref x1), some (.int x2), some (.int x3)] [] z =
  if 12 ≤ x3 then (ds_cI cl j_Sea_look [.ref x1, .int (x2 + 12)] z fun r1 z1 => (ds_cI cl j_Sea_look [.ref x1, .int ((x2 + 12) + 1)] (ds_setI z1 64 2 r1) fun r2 z2 => some (none, (ds_setI z2 64 3 r2)))) else (ds_cI cl j_Sea_look [.ref x1, .int (x2 + x3)] z fun r3 z3 => (ds_cV cl j_Sea_put [.ref 65, .int x3, .int r3] z3 fun z4 => ds_Rw ds_c_Deck_readFrom ds_u_Deck_readFrom cl 2 [some (.ref 64), some (.ref x1), some (.int x2), some (.int (x3 + 1))] [] z4)) :=
  (ds_Rw_stp 400 2 [some (.ref 64), some (.ref x1), some (.int x2), some (.int x3)] [] z).trans rfl
set_option maxRecDepth 20000 in
theorem b_Deck_swap_0_61 (cl : Nat → List Value → ds_St → Option ds_Out) (x1 : Int32) (x2 : Int32) (z : ds_St) : ds_Rw ds_c_Deck_swap ds_u_Deck_swap cl 0 [some (.ref 61), some (.int x1), some (.int x2), none] [] z =
  (ds_cI cl j_Sea_look [.ref 62, .int x1] z fun r1 z1 => (ds_cI cl j_Sea_look [.ref 62, .int x2] z1 fun r2 z2 => (ds_cV cl j_Sea_put [.ref 62, .int x1, .int r2] z2 fun z3 => (ds_cV cl j_Sea_put [.ref 62, .int x2, .int r1] z3 fun z4 => some (none, z4))))) :=
  (ds_Rw_stp 400 0 [some (.ref 61), some (.int x1), some (.int x2), none] [] z).trans rfl
set_option maxRecDepth 20000 in
theorem b_Deck_swap_0_64 (cl : Nat → List Value → ds_St → Option ds_Out) (x1 : Int32) (x2 : Int32) (z : ds_St) : ds_Rw ds_c_Deck_swap ds_u_Deck_swap cl 0 [some (.ref 64), some (.int x1), some (.int x2), none] [] z =
  (ds_cI cl j_Sea_look [.ref 65, .int x1] z fun r1 z1 => (ds_cI cl j_Sea_look [.ref 65, .int x2] z1 fun r2 z2 => (ds_cV cl j_Sea_put [.ref 65, .int x1, .int r2] z2 fun z3 => (ds_cV cl j_Sea_put [.ref 65, .int x2, .int r1] z3 fun z4 => some (none, z4))))) :=
  (ds_Rw_stp 400 0 [some (.ref 64), some (.int x1), some (.int x2), none] [] z).trans rfl
set_option maxRecDepth 20000 in
theorem b_Deck_take_0 (cl : Nat → List Value → ds_St → Option ds_Out)  (z : ds_St) : ds_Rw ds_c_Deck_take ds_u_Deck_take cl 0 [some (.ref 64), some (.ref 61)] [] z =
  some (none, (ds_setI (ds_setI (ds_rowI z 65 (va_cpy (z.1 62) (z.1 65) 0 0 12)) 64 2 (z.1 61 2)) 64 3 (z.1 61 3))) :=
  (ds_Rw_stp 400 0 [some (.ref 64), some (.ref 61)] [] z).trans rfl
set_option maxRecDepth 20000 in
theorem b_Deck_takeOut_0_61 (cl : Nat → List Value → ds_St → Option ds_Out) (x1 : Int32) (z : ds_St) : ds_Rw ds_c_Deck_takeOut ds_u_Deck_takeOut cl 0 [some (.ref 61), some (.int x1), none] [] z =
  (ds_cI cl j_Deck_cardAt [.ref 61, .int x1] z fun r1 z1 => ds_Rw ds_c_Deck_takeOut ds_u_Deck_takeOut cl 13 [some (.ref 61), none, some (.int (x1 + 1))] [] (ds_setI z1 61 3 r1)) :=
  (ds_Rw_stp 400 0 [some (.ref 61), some (.int x1), none] [] z).trans rfl
set_option maxRecDepth 20000 in
theorem b_Deck_takeOut_13_61 (cl : Nat → List Value → ds_St → Option ds_Out) (x2 : Int32) (z : ds_St) : ds_Rw ds_c_Deck_takeOut ds_u_Deck_takeOut cl 13 [some (.ref 61), none, some (.int x2)] [] z =
  if (z.1 61 2) ≤ x2 then some (none, (ds_setI z 61 2 ((z.1 61 2) - 1))) else (ds_cI cl j_Sea_look [.ref 62, .int x2] z fun r1 z1 => (ds_cV cl j_Sea_put [.ref 62, .int (x2 - 1), .int r1] z1 fun z2 => ds_Rw ds_c_Deck_takeOut ds_u_Deck_takeOut cl 13 [some (.ref 61), none, some (.int (x2 + 1))] [] z2)) :=
  (ds_Rw_stp 400 13 [some (.ref 61), none, some (.int x2)] [] z).trans rfl
set_option maxRecDepth 20000 in
theorem b_Deck_takeOut_0_64 (cl : Nat → List Value → ds_St → Option ds_Out) (x1 : Int32) (z : ds_St) : ds_Rw ds_c_Deck_takeOut ds_u_Deck_takeOut cl 0 [some (.ref 64), some (.int x1), none] [] z =
  (ds_cI cl j_Deck_cardAt [.ref 64, .int x1] z fun r1 z1 => ds_Rw ds_c_Deck_takeOut ds_u_Deck_takeOut cl 13 [some (.ref 64), none, some (.int (x1 + 1))] [] (ds_setI z1 64 3 r1)) :=
  (ds_Rw_stp 400 0 [some (.ref 64), some (.int x1), none] [] z).trans rfl
set_option maxRecDepth 20000 in
theorem b_Deck_takeOut_13_64 (cl : Nat → List Value → ds_St → Option ds_Out) (x2 : Int32) (z : ds_St) : ds_Rw ds_c_Deck_takeOut ds_u_Deck_takeOut cl 13 [some (.ref 64), none, some (.int x2)] [] z =
  if (z.1 64 2) ≤ x2 then some (none, (ds_setI z 64 2 ((z.1 64 2) - 1))) else (ds_cI cl j_Sea_look [.ref 65, .int x2] z fun r1 z1 => (ds_cV cl j_Sea_put [.ref 65, .int (x2 - 1), .int r1] z1 fun z2 => ds_Rw ds_c_Deck_takeOut ds_u_Deck_takeOut cl 13 [some (.ref 64), none, some (.int (x2 + 1))] [] z2)) :=
  (ds_Rw_stp 400 13 [some (.ref 64), none, some (.int x2)] [] z).trans rfl
set_option maxRecDepth 20000 in
theorem b_Deck_writeTo_0_61 (cl : Nat → List Value → ds_St → Option ds_Out) (x1 : Nat) (x2 : Int32) (z : ds_St) : ds_Rw ds_c_Deck_writeTo ds_u_Deck_writeTo cl 0 [some (.ref 61), some (.ref x1), some (.int x2), none] [] z =
  ds_Rw ds_c_Deck_writeTo ds_u_Deck_writeTo cl 2 [some (.ref 61), some (.ref x1), some (.int x2), some (.int 0)] [] z :=
  (ds_Rw_stp 400 0 [some (.ref 61), some (.ref x1), some (.int x2), none] [] z).trans rfl
set_option maxRecDepth 20000 in
theorem b_Deck_writeTo_2_61 (cl : Nat → List Value → ds_St → Option ds_Out) (x1 : Nat) (x2 : Int32) (x3 : Int32) (z : ds_St) : ds_Rw ds_c_Deck_writeTo ds_u_Deck_writeTo cl 2 [some (.ref 61), some (.ref x1), some (.int x2), some (.int x3)] [] z =
  if 12 ≤ x3 then (ds_cV cl j_Sea_put [.ref x1, .int (x2 + 12), .int (z.1 61 2)] z fun z1 => (ds_cV cl j_Sea_put [.ref x1, .int ((x2 + 12) + 1), .int (z1.1 61 3)] z1 fun z2 => some (none, z2))) else (ds_cI cl j_Sea_look [.ref 62, .int x3] z fun r3 z3 => (ds_cV cl j_Sea_put [.ref x1, .int (x2 + x3), .int r3] z3 fun z4 => ds_Rw ds_c_Deck_writeTo ds_u_Deck_writeTo cl 2 [some (.ref 61), some (.ref x1), some (.int x2), some (.int (x3 + 1))] [] z4)) :=
  (ds_Rw_stp 400 2 [some (.ref 61), some (.ref x1), some (.int x2), some (.int x3)] [] z).trans rfl
set_option maxRecDepth 20000 in
theorem b_Deck_writeTo_0_64 (cl : Nat → List Value → ds_St → Option ds_Out) (x1 : Nat) (x2 : Int32) (z : ds_St) : ds_Rw ds_c_Deck_writeTo ds_u_Deck_writeTo cl 0 [some (.ref 64), some (.ref x1), some (.int x2), none] [] z =
  ds_Rw ds_c_Deck_writeTo ds_u_Deck_writeTo cl 2 [some (.ref 64), some (.ref x1), some (.int x2), some (.int 0)] [] z :=
  (ds_Rw_stp 400 0 [some (.ref 64), some (.ref x1), some (.int x2), none] [] z).trans rfl
set_option maxRecDepth 20000 in
theorem b_Deck_writeTo_2_64 (cl : Nat → List Value → ds_St → Option ds_Out) (x1 : Nat) (x2 : Int32) (x3 : Int32) (z : ds_St) : ds_Rw ds_c_Deck_writeTo ds_u_Deck_writeTo cl 2 [some (.ref 64), some (.ref x1), some (.int x2), some (.int x3)] [] z =
  if 12 ≤ x3 then (ds_cV cl j_Sea_put [.ref x1, .int (x2 + 12), .int (z.1 64 2)] z fun z1 => (ds_cV cl j_Sea_put [.ref x1, .int ((x2 + 12) + 1), .int (z1.1 64 3)] z1 fun z2 => some (none, z2))) else (ds_cI cl j_Sea_look [.ref 65, .int x3] z fun r3 z3 => (ds_cV cl j_Sea_put [.ref x1, .int (x2 + x3), .int r3] z3 fun z4 => ds_Rw ds_c_Deck_writeTo ds_u_Deck_writeTo cl 2 [some (.ref 64), some (.ref x1), some (.int x2), some (.int (x3 + 1))] [] z4)) :=
  (ds_Rw_stp 400 2 [some (.ref 64), some (.ref x1), some (.int x2), some (.int x3)] [] z).trans rfl
set_option maxRecDepth 20000 in
theorem b_Game_countRests_0 (cl : Nat → List Value → ds_St → Option ds_Out)  (z : ds_St) : ds_Rw ds_c_Game_countRests ds_u_Game_countRests cl 0 [some (.ref 78), none, none, none] [] z =
  ds_Rw ds_c_Game_countRests ds_u_Game_countRests cl 4 [some (.ref 78), some (.int 0), some (.int 0), none] [] z :=
  (ds_Rw_stp 400 0 [some (.ref 78), none, none, none] [] z).trans rfl
set_option maxRecDepth 20000 in
theorem b_Game_countRests_4 (cl : Nat → List Value → ds_St → Option ds_Out) (x1 : Int32) (x2 : Int32) (z : ds_St) : ds_Rw ds_c_Game_countRests ds_u_Game_countRests cl 4 [some (.ref 78), some (.int x1), some (.int x2), none] [] z =
  if (z.1 78 1) ≤ x2 then some (some (.int x1), z) else ds_Rw ds_c_Game_countRests ds_u_Game_countRests cl 14 [some (.ref 78), some (.int x1), some (.int x2), some (.int 0)] [] z :=
  (ds_Rw_stp 400 4 [some (.ref 78), some (.int x1), some (.int x2), none] [] z).trans rfl
set_option maxRecDepth 20000 in
theorem b_Game_countRests_14 (cl : Nat → List Value → ds_St → Option ds_Out) (x1 : Int32) (x2 : Int32) (x3 : Int32) (z : ds_St) : ds_Rw ds_c_Game_countRests ds_u_Game_countRests cl 14 [some (.ref 78), some (.int x1), some (.int x2), some (.int x3)] [] z =
  if (z.1 78 1) ≤ x3 then ds_Rw ds_c_Game_countRests ds_u_Game_countRests cl 4 [some (.ref 78), some (.int x1), some (.int (x2 + 1)), none] [] z else (ds_cI cl j_Game_isRest [.ref 78, .int x2, .int x3] z fun r1 z1 => if r1 = 0 then ds_Rw ds_c_Game_countRests ds_u_Game_countRests cl 14 [some (.ref 78), some (.int x1), some (.int x2), some (.int (x3 + 1))] [] z1 else ds_Rw ds_c_Game_countRests ds_u_Game_countRests cl 14 [some (.ref 78), some (.int (x1 + 1)), some (.int x2), some (.int (x3 + 1))] [] z1) :=
  (ds_Rw_stp 400 14 [some (.ref 78), some (.int x1), some (.int x2), some (.int x3)] [] z).trans rfl
set_option maxRecDepth 20000 in
theorem b_Game_firstRest_0 (cl : Nat → List Value → ds_St → Option ds_Out)  (z : ds_St) : ds_Rw ds_c_Game_firstRest ds_u_Game_firstRest cl 0 [some (.ref 78), none, none] [] z =
  ds_Rw ds_c_Game_firstRest ds_u_Game_firstRest cl 2 [some (.ref 78), some (.int 0), none] [] z :=
  (ds_Rw_stp 400 0 [some (.ref 78), none, none] [] z).trans rfl
set_option maxRecDepth 20000 in
theorem b_Game_firstRest_2 (cl : Nat → List Value → ds_St → Option ds_Out) (x1 : Int32) (z : ds_St) : ds_Rw ds_c_Game_firstRest ds_u_Game_firstRest cl 2 [some (.ref 78), some (.int x1), none] [] z =
  if (z.1 78 1) ≤ x1 then some (some (.int (-2)), z) else ds_Rw ds_c_Game_firstRest ds_u_Game_firstRest cl 12 [some (.ref 78), some (.int x1), some (.int 0)] [] z :=
  (ds_Rw_stp 400 2 [some (.ref 78), some (.int x1), none] [] z).trans rfl
set_option maxRecDepth 20000 in
theorem b_Game_firstRest_12 (cl : Nat → List Value → ds_St → Option ds_Out) (x1 : Int32) (x2 : Int32) (z : ds_St) : ds_Rw ds_c_Game_firstRest ds_u_Game_firstRest cl 12 [some (.ref 78), some (.int x1), some (.int x2)] [] z =
  if (z.1 78 1) ≤ x2 then ds_Rw ds_c_Game_firstRest ds_u_Game_firstRest cl 2 [some (.ref 78), some (.int (x1 + 1)), none] [] z else (ds_cI cl j_Game_isRest [.ref 78, .int x1, .int x2] z fun r1 z1 => if r1 = 0 then ds_Rw ds_c_Game_firstRest ds_u_Game_firstRest cl 12 [some (.ref 78), some (.int x1), some (.int (x2 + 1))] [] z1 else some (some (.int ((100 * x1) + x2)), z1)) :=
  (ds_Rw_stp 400 12 [some (.ref 78), some (.int x1), some (.int x2)] [] z).trans rfl
set_option maxRecDepth 20000 in
theorem b_Game_gainOf_0 (cl : Nat → List Value → ds_St → Option ds_Out) (x1 : Int32) (x2 : Int32) (z : ds_St) : ds_Rw ds_c_Game_gainOf ds_u_Game_gainOf cl 0 [some (.ref 78), some (.int x1), some (.int x2)] [] z =
  (ds_cI cl j_Sea_look [.ref 79, .int ((x1 * 14) + x2)] z fun r1 z1 => some (some (.int r1), z1)) :=
  (ds_Rw_stp 400 0 [some (.ref 78), some (.int x1), some (.int x2)] [] z).trans rfl
set_option maxRecDepth 20000 in
theorem b_Game_isRest_0 (cl : Nat → List Value → ds_St → Option ds_Out) (x1 : Int32) (x2 : Int32) (z : ds_St) : ds_Rw ds_c_Game_isRest ds_u_Game_isRest cl 0 [some (.ref 78), some (.int x1), some (.int x2), none, none] [] z =
  (ds_cI cl j_Game_gainOf [.ref 78, .int x1, .int x2] z fun r1 z1 => ds_Rw ds_c_Game_isRest ds_u_Game_isRest cl 10 [some (.ref 78), some (.int x1), some (.int x2), some (.int r1), some (.int 0)] [] z1) :=
  (ds_Rw_stp 400 0 [some (.ref 78), some (.int x1), some (.int x2), none, none] [] z).trans rfl
set_option maxRecDepth 20000 in
theorem b_Game_isRest_10 (cl : Nat → List Value → ds_St → Option ds_Out) (x1 : Int32) (x2 : Int32) (x3 : Int32) (x4 : Int32) (z : ds_St) : ds_Rw ds_c_Game_isRest ds_u_Game_isRest cl 10 [some (.ref 78), some (.int x1), some (.int x2), some (.int x3), some (.int x4)] [] z =
  if (z.1 78 1) ≤ x4 then some (some (.int 1), z) else (ds_cI cl j_Game_gainOf [.ref 78, .int x4, .int x2] z fun r1 z1 => if x3 < r1 then some (some (.int 0), z1) else (ds_cI cl j_Game_gainOf [.ref 78, .int x1, .int x4] z1 fun r2 z2 => if x3 ≤ r2 then ds_Rw ds_c_Game_isRest ds_u_Game_isRest cl 10 [some (.ref 78), some (.int x1), some (.int x2), some (.int x3), some (.int (x4 + 1))] [] z2 else some (some (.int 0), z2))) :=
  (ds_Rw_stp 400 10 [some (.ref 78), some (.int x1), some (.int x2), some (.int x3), some (.int x4)] [] z).trans rfl
set_option maxRecDepth 20000 in
theorem b_Game_setGain_0 (cl : Nat → List Value → ds_St → Option ds_Out) (x1 : Int32) (x2 : Int32) (x3 : Int32) (z : ds_St) : ds_Rw ds_c_Game_setGain ds_u_Game_setGain cl 0 [some (.ref 78), some (.int x1), some (.int x2), some (.int x3)] [] z =
  (ds_cV cl j_Sea_put [.ref 79, .int ((x1 * 14) + x2), .int x3] z fun z1 => some (none, z1)) :=
  (ds_Rw_stp 400 0 [some (.ref 78), some (.int x1), some (.int x2), some (.int x3)] [] z).trans rfl
set_option maxRecDepth 20000 in
theorem b_Reader_advance_0 (cl : Nat → List Value → ds_St → Option ds_Out)  (z : ds_St) : ds_Rw ds_c_Reader_advance ds_u_Reader_advance cl 0 [some (.ref 1), none] [] z =
  if (z.1 1 9) = 0 then ds_Rw ds_c_Reader_advance ds_u_Reader_advance cl 8 [some (.ref 1), none] [] z else some (none, z) :=
  (ds_Rw_stp 400 0 [some (.ref 1), none] [] z).trans rfl
set_option maxRecDepth 20000 in
theorem b_Reader_advance_8 (cl : Nat → List Value → ds_St → Option ds_Out)  (z : ds_St) : ds_Rw ds_c_Reader_advance ds_u_Reader_advance cl 8 [some (.ref 1), none] [] z =
  if (z.1 1 3) ≤ (z.1 1 5) then ds_Rw ds_c_Reader_advance ds_u_Reader_advance cl 45 [some (.ref 1), none] [] z else (ds_cI cl j_Reader_byteAt [.ref 1, .int (z.1 1 5)] z fun r1 z1 => if ¬ r1 = 32 then ds_Rw ds_c_Reader_advance ds_u_Reader_advance cl 45 [some (.ref 1), none] [] z1 else ds_Rw ds_c_Reader_advance ds_u_Reader_advance cl 8 [some (.ref 1), none] [] (ds_setI z1 1 5 ((z1.1 1 5) + 1))) :=
  (ds_Rw_stp 400 8 [some (.ref 1), none] [] z).trans rfl
set_option maxRecDepth 20000 in
theorem b_Reader_advance_45 (cl : Nat → List Value → ds_St → Option ds_Out)  (z : ds_St) : ds_Rw ds_c_Reader_advance ds_u_Reader_advance cl 45 [some (.ref 1), none] [] z =
  (ds_cI cl j_Reader_byteAt [.ref 1, .int (z.1 1 5)] (ds_setI z 1 4 (z.1 1 5)) fun r1 z1 => if (z1.1 1 4) < (z1.1 1 3) then (ds_cI cl j_Reader_isLetter [.int r1] z1 fun r2 z2 => if r2 = 0 then (ds_cI cl j_Reader_isDigit [.int r1] z2 fun r3 z3 => if r3 = 0 then if ¬ r1 = 59 then ds_Rw ds_c_Reader_advance ds_u_Reader_advance cl 121 [some (.ref 1), none] [.int 4, .ref 1] z3 else ds_Rw ds_c_Reader_advance ds_u_Reader_advance cl 121 [some (.ref 1), none] [.int 3, .ref 1] z3 else (ds_cV cl j_Reader_takeWhole [.ref 1] z3 fun z4 => some (none, z4))) else (ds_cV cl j_Reader_takeWord [.ref 1] z2 fun z5 => some (none, z5))) else some (none, (ds_setI z1 1 6 0))) :=
  (ds_Rw_stp 400 45 [some (.ref 1), none] [] z).trans rfl
set_option maxRecDepth 20000 in
theorem b_Reader_advance_121 (cl : Nat → List Value → ds_St → Option ds_Out) (s0 : Int32) (s1 : Nat) (z : ds_St) : ds_Rw ds_c_Reader_advance ds_u_Reader_advance cl 121 [some (.ref 1), none] [.int s0, .ref s1] z =
  ds_isK s1 4 (some (none, (ds_setI (ds_setI z s1 6 s0) 1 5 (((ds_setI z s1 6 s0).1 1 5) + 1)))) :=
  (ds_Rw_stp 400 121 [some (.ref 1), none] [.int s0, .ref s1] z).trans rfl
set_option maxRecDepth 20000 in
theorem b_Reader_blame_0 (cl : Nat → List Value → ds_St → Option ds_Out) (x1 : Int32) (z : ds_St) : ds_Rw ds_c_Reader_blame ds_u_Reader_blame cl 0 [some (.ref 1), some (.int x1)] [] z =
  if ¬ (z.1 1 9) = 0 then some (none, z) else some (none, (ds_setI z 1 9 x1)) :=
  (ds_Rw_stp 400 0 [some (.ref 1), some (.int x1)] [] z).trans rfl
set_option maxRecDepth 20000 in
theorem b_Reader_byteAt_0 (cl : Nat → List Value → ds_St → Option ds_Out) (x1 : Int32) (z : ds_St) : ds_Rw ds_c_Reader_byteAt ds_u_Reader_byteAt cl 0 [some (.ref 1), some (.int x1)] [] z =
  if x1 < 0 then some (some (.int 0), z) else if (z.1 1 3) ≤ x1 then some (some (.int 0), z) else if 900 ≤ x1 then some (some (.int 0), z) else ds_chk x1 900 (some (some (.int (z.1 2 x1.toNatClampNeg)), z)) :=
  (ds_Rw_stp 400 0 [some (.ref 1), some (.int x1)] [] z).trans rfl
set_option maxRecDepth 20000 in
theorem b_Reader_checkLine_0 (cl : Nat → List Value → ds_St → Option ds_Out) (x1 : Int32) (x2 : Int32) (z : ds_St) : ds_Rw ds_c_Reader_checkLine ds_u_Reader_checkLine cl 0 [some (.ref 1), some (.int x1), some (.int x2)] [] z =
  if ¬ x1 = (-1) then if x2 = 0 then ds_Rw ds_c_Reader_checkLine ds_u_Reader_checkLine cl 30 [some (.ref 1), some (.int x1), some (.int x2)] [] z else if x1 = 0 then ds_Rw ds_c_Reader_checkLine ds_u_Reader_checkLine cl 30 [some (.ref 1), some (.int x1), some (.int x2)] [] z else (ds_cV cl j_Reader_blame [.ref 1, .int 6] z fun z1 => some (none, z1)) else (ds_cV cl j_Reader_blame [.ref 1, .int 1] z fun z2 => some (none, z2)) :=
  (ds_Rw_stp 400 0 [some (.ref 1), some (.int x1), some (.int x2)] [] z).trans rfl
set_option maxRecDepth 20000 in
theorem b_Reader_checkLine_30 (cl : Nat → List Value → ds_St → Option ds_Out) (x1 : Int32) (x2 : Int32) (z : ds_St) : ds_Rw ds_c_Reader_checkLine ds_u_Reader_checkLine cl 30 [some (.ref 1), some (.int x1), some (.int x2)] [] z =
  if ¬ x2 = 0 then ds_Rw ds_c_Reader_checkLine ds_u_Reader_checkLine cl 46 [some (.ref 1), some (.int x1), none] [] z else if ¬ x1 = 0 then ds_Rw ds_c_Reader_checkLine ds_u_Reader_checkLine cl 46 [some (.ref 1), some (.int x1), none] [] z else (ds_cV cl j_Reader_blame [.ref 1, .int 3] z fun z1 => some (none, z1)) :=
  (ds_Rw_stp 400 30 [some (.ref 1), some (.int x1), some (.int x2)] [] z).trans rfl
set_option maxRecDepth 20000 in
theorem b_Reader_checkLine_46 (cl : Nat → List Value → ds_St → Option ds_Out) (x1 : Int32) (z : ds_St) : ds_Rw ds_c_Reader_checkLine ds_u_Reader_checkLine cl 46 [some (.ref 1), some (.int x1), none] [] z =
  (ds_cI cl j_Reader_isFull [.ref 1, .int x1] z fun r1 z1 => if r1 = 0 then some (none, z1) else (ds_cV cl j_Reader_blame [.ref 1, .int 5] z1 fun z2 => some (none, z2))) :=
  (ds_Rw_stp 400 46 [some (.ref 1), some (.int x1), none] [] z).trans rfl
set_option maxRecDepth 20000 in
theorem b_Reader_goesOn_0 (cl : Nat → List Value → ds_St → Option ds_Out)  (z : ds_St) : ds_Rw ds_c_Reader_goesOn ds_u_Reader_goesOn cl 0 [some (.ref 1)] [] z =
  if ¬ (z.1 1 6) = 0 then if (z.1 1 6) = 3 then ds_Rw ds_c_Reader_goesOn ds_u_Reader_goesOn cl 22 [some (.ref 1)] [] z else (ds_cV cl j_Reader_blame [.ref 1, .int 1] z fun z1 => ds_Rw ds_c_Reader_goesOn ds_u_Reader_goesOn cl 22 [some (.ref 1)] [] z1) else some (some (.int 0), z) :=
  (ds_Rw_stp 400 0 [some (.ref 1)] [] z).trans rfl
set_option maxRecDepth 20000 in
theorem b_Reader_goesOn_22 (cl : Nat → List Value → ds_St → Option ds_Out)  (z : ds_St) : ds_Rw ds_c_Reader_goesOn ds_u_Reader_goesOn cl 22 [some (.ref 1)] [] z =
  (ds_cV cl j_Reader_advance [.ref 1] z fun z1 => if ¬ (z1.1 1 9) = 0 then some (some (.int 0), z1) else some (some (.int 1), z1)) :=
  (ds_Rw_stp 400 22 [some (.ref 1)] [] z).trans rfl
set_option maxRecDepth 20000 in
theorem b_Reader_handOver_0 (cl : Nat → List Value → ds_St → Option ds_Out) (x1 : Nat) (z : ds_St) : ds_Rw ds_c_Reader_handOver ds_u_Reader_handOver cl 0 [some (.ref 1), some (.ref x1), none] [] z =
  ds_isK x1 7 (some (some (.ref (z.2.2 1)), (ds_setS z 1 x1))) :=
  (ds_Rw_stp 400 0 [some (.ref 1), some (.ref x1), none] [] z).trans rfl
set_option maxRecDepth 20000 in
theorem b_Reader_isAtName_0 (cl : Nat → List Value → ds_St → Option ds_Out)  (z : ds_St) : ds_Rw ds_c_Reader_isAtName ds_u_Reader_isAtName cl 0 [some (.ref 1)] [] z =
  if ¬ (z.1 1 6) = 1 then some (some (.int 0), z) else (ds_cI cl j_Sea_choice [.ref 300, .long (z.2.1 1 7)] z fun r1 z1 => if ¬ r1 = (-1) then some (some (.int 0), z1) else some (some (.int 1), z1)) :=
  (ds_Rw_stp 400 0 [some (.ref 1)] [] z).trans rfl
set_option maxRecDepth 20000 in
theorem b_Reader_isDigit_0 (cl : Nat → List Value → ds_St → Option ds_Out) (x0 : Int32) (z : ds_St) : ds_Rw ds_c_Reader_isDigit ds_u_Reader_isDigit cl 0 [some (.int x0)] [] z =
  if x0 < 48 then some (some (.int 0), z) else if 57 < x0 then some (some (.int 0), z) else some (some (.int 1), z) :=
  (ds_Rw_stp 400 0 [some (.int x0)] [] z).trans rfl
set_option maxRecDepth 20000 in
theorem b_Reader_isFull_0 (cl : Nat → List Value → ds_St → Option ds_Out) (x1 : Int32) (z : ds_St) : ds_Rw ds_c_Reader_isFull ds_u_Reader_isFull cl 0 [some (.ref 1), some (.int x1)] [] z =
  if x1 = 1 then ds_Rw ds_c_Reader_isFull ds_u_Reader_isFull cl 32 [some (.ref 1), none] [] z else if x1 = 2 then ds_Rw ds_c_Reader_isFull ds_u_Reader_isFull cl 50 [some (.ref 1), none] [] z else if x1 = 3 then ds_Rw ds_c_Reader_isFull ds_u_Reader_isFull cl 68 [some (.ref 1), none] [] z else if x1 = 4 then ds_Rw ds_c_Reader_isFull ds_u_Reader_isFull cl 86 [some (.ref 1), none] [] z else some (some (.int 0), z) :=
  (ds_Rw_stp 400 0 [some (.ref 1), some (.int x1)] [] z).trans rfl
set_option maxRecDepth 20000 in
theorem b_Reader_isFull_32 (cl : Nat → List Value → ds_St → Option ds_Out)  (z : ds_St) : ds_Rw ds_c_Reader_isFull ds_u_Reader_isFull cl 32 [some (.ref 1), none] [] z =
  ds_isK (z.2.2 1) 7 (if (z.1 (z.2.2 1) 4) < 12 then some (some (.int 0), z) else some (some (.int 1), z)) :=
  (ds_Rw_stp 400 32 [some (.ref 1), none] [] z).trans rfl
set_option maxRecDepth 20000 in
theorem b_Reader_isFull_50 (cl : Nat → List Value → ds_St → Option ds_Out)  (z : ds_St) : ds_Rw ds_c_Reader_isFull ds_u_Reader_isFull cl 50 [some (.ref 1), none] [] z =
  ds_isK (z.2.2 1) 7 (if (z.1 (z.2.2 1) 9) < 10 then some (some (.int 0), z) else some (some (.int 1), z)) :=
  (ds_Rw_stp 400 50 [some (.ref 1), none] [] z).trans rfl
set_option maxRecDepth 20000 in
theorem b_Reader_isFull_68 (cl : Nat → List Value → ds_St → Option ds_Out)  (z : ds_St) : ds_Rw ds_c_Reader_isFull ds_u_Reader_isFull cl 68 [some (.ref 1), none] [] z =
  ds_isK (z.2.2 1) 7 (if (z.1 (z.2.2 1) 11) < 6 then some (some (.int 0), z) else some (some (.int 1), z)) :=
  (ds_Rw_stp 400 68 [some (.ref 1), none] [] z).trans rfl
set_option maxRecDepth 20000 in
theorem b_Reader_isFull_86 (cl : Nat → List Value → ds_St → Option ds_Out)  (z : ds_St) : ds_Rw ds_c_Reader_isFull ds_u_Reader_isFull cl 86 [some (.ref 1), none] [] z =
  ds_isK (z.2.2 1) 7 (if (z.1 (z.2.2 1) 14) < 6 then some (some (.int 0), z) else some (some (.int 1), z)) :=
  (ds_Rw_stp 400 86 [some (.ref 1), none] [] z).trans rfl
set_option maxRecDepth 20000 in
theorem b_Reader_isLetter_0 (cl : Nat → List Value → ds_St → Option ds_Out) (x0 : Int32) (z : ds_St) : ds_Rw ds_c_Reader_isLetter ds_u_Reader_isLetter cl 0 [some (.int x0)] [] z =
  if x0 < 97 then some (some (.int 0), z) else if 122 < x0 then some (some (.int 0), z) else some (some (.int 1), z) :=
  (ds_Rw_stp 400 0 [some (.int x0)] [] z).trans rfl
set_option maxRecDepth 20000 in
theorem b_Reader_lengthen_0 (cl : Nat → List Value → ds_St → Option ds_Out) (x1 : Int32) (z : ds_St) : ds_Rw ds_c_Reader_lengthen ds_u_Reader_lengthen cl 0 [some (.ref 1), some (.int x1), none] [] z =
  ds_Rw ds_c_Reader_lengthen ds_u_Reader_lengthen cl 3 [some (.ref 1), some (.int x1), some (.int 24)] [] z :=
  (ds_Rw_stp 400 0 [some (.ref 1), some (.int x1), none] [] z).trans rfl
set_option maxRecDepth 20000 in
theorem b_Reader_lengthen_3 (cl : Nat → List Value → ds_St → Option ds_Out) (x1 : Int32) (x2 : Int32) (z : ds_St) : ds_Rw ds_c_Reader_lengthen ds_u_Reader_lengthen cl 3 [some (.ref 1), some (.int x1), some (.int x2)] [] z =
  if x2 < 0 then some (none, z) else if (z.1 1 1) < 0 then ds_Rw ds_c_Reader_lengthen ds_u_Reader_lengthen cl 3 [some (.ref 1), some (.int x1), some (.int (x2 + (-8)))] [] z else if 900 ≤ (z.1 1 1) then ds_Rw ds_c_Reader_lengthen ds_u_Reader_lengthen cl 3 [some (.ref 1), some (.int x1), some (.int (x2 + (-8)))] [] z else ds_chk (z.1 1 1) 900 (ds_Rw ds_c_Reader_lengthen ds_u_Reader_lengthen cl 3 [some (.ref 1), some (.int x1), some (.int (x2 + (-8)))] [] (ds_setI (ds_setI z 2 ((z.1 1 1).toNatClampNeg) (vp_nar .byte ((x1 >>> (x2 &&& 31)).toInt8.toInt32))) 1 1 ((z.1 1 1) + 1))) :=
  (ds_Rw_stp 400 3 [some (.ref 1), some (.int x1), some (.int x2)] [] z).trans rfl
set_option maxRecDepth 20000 in
theorem b_Reader_namedIsland_0 (cl : Nat → List Value → ds_St → Option ds_Out)  (z : ds_St) : ds_Rw ds_c_Reader_namedIsland ds_u_Reader_namedIsland cl 0 [some (.ref 1), none] [] z =
  (ds_cI cl j_Reader_isAtName [.ref 1] z fun r1 z1 => if ¬ r1 = 0 then (ds_cI cl j_Reader_owner [.ref 1] z1 fun r2 z2 => if 0 ≤ r2 then some (some (.int r2), z2) else (ds_cV cl j_Reader_blame [.ref 1, .int 2] z2 fun z3 => some (some (.int r2), z3))) else (ds_cV cl j_Reader_blame [.ref 1, .int 1] z1 fun z4 => some (some (.int (-1)), z4))) :=
  (ds_Rw_stp 400 0 [some (.ref 1), none] [] z).trans rfl
set_option maxRecDepth 20000 in
theorem b_Reader_owner_0 (cl : Nat → List Value → ds_St → Option ds_Out)  (z : ds_St) : ds_Rw ds_c_Reader_owner ds_u_Reader_owner cl 0 [some (.ref 1), none] [] z =
  ds_Rw ds_c_Reader_owner ds_u_Reader_owner cl 2 [some (.ref 1), some (.int 0)] [] z :=
  (ds_Rw_stp 400 0 [some (.ref 1), none] [] z).trans rfl
set_option maxRecDepth 20000 in
theorem b_Reader_owner_2 (cl : Nat → List Value → ds_St → Option ds_Out) (x1 : Int32) (z : ds_St) : ds_Rw ds_c_Reader_owner ds_u_Reader_owner cl 2 [some (.ref 1), some (.int x1)] [] z =
  if (z.1 1 10) ≤ x1 then some (some (.int (-1)), z) else if 22 ≤ x1 then some (some (.int (-1)), z) else ds_chk x1 22 (if ¬ (lg_cmp (z.2.1 3 x1.toNatClampNeg) (z.2.1 1 7)) = 0 then ds_Rw ds_c_Reader_owner ds_u_Reader_owner cl 2 [some (.ref 1), some (.int (x1 + 1))] [] z else (ds_cI cl j_Sea_look [.ref 4, .int x1] z fun r1 z1 => some (some (.int r1), z1))) :=
  (ds_Rw_stp 400 2 [some (.ref 1), some (.int x1)] [] z).trans rfl
set_option maxRecDepth 20000 in
theorem b_Reader_place_0 (cl : Nat → List Value → ds_St → Option ds_Out)  (z : ds_St) : ds_Rw ds_c_Reader_place ds_u_Reader_place cl 0 [some (.ref 1)] [] z =
  some (some (.int (z.1 1 4)), z) :=
  (ds_Rw_stp 400 0 [some (.ref 1)] [] z).trans rfl
set_option maxRecDepth 20000 in
theorem b_Reader_readFamily_0 (cl : Nat → List Value → ds_St → Option ds_Out)  (z : ds_St) : ds_Rw ds_c_Reader_readFamily ds_u_Reader_readFamily cl 0 [some (.ref 1), none] [] z =
  (ds_cV cl j_Reader_tellName [.ref 1, .int (-2)] z fun z1 => (ds_cI cl j_Reader_readOneOf [.ref 1, .ref 309] z1 fun r2 z2 => if r2 ≤ 2 then ds_Rw ds_c_Reader_readFamily ds_u_Reader_readFamily cl 28 [some (.ref 1), some (.int r2)] [] z2 else (ds_cI cl j_Reader_readWhole [.ref 1, .int 1, .int 11] z2 fun r3 z3 => ds_Rw ds_c_Reader_readFamily ds_u_Reader_readFamily cl 28 [some (.ref 1), some (.int (2 + r3))] [] z3))) :=
  (ds_Rw_stp 400 0 [some (.ref 1), none] [] z).trans rfl
set_option maxRecDepth 20000 in
theorem b_Reader_readFamily_28 (cl : Nat → List Value → ds_St → Option ds_Out) (x1 : Int32) (z : ds_St) : ds_Rw ds_c_Reader_readFamily ds_u_Reader_readFamily cl 28 [some (.ref 1), some (.int x1)] [] z =
  if ¬ (z.1 1 9) = 0 then some (none, z) else ds_isK (z.2.2 1) 7 ((ds_cV cl j_Told_addFamily [.ref (z.2.2 1), .int x1] z fun z1 => some (none, z1))) :=
  (ds_Rw_stp 400 28 [some (.ref 1), some (.int x1)] [] z).trans rfl
set_option maxRecDepth 20000 in
theorem b_Reader_readIsland_0 (cl : Nat → List Value → ds_St → Option ds_Out)  (z : ds_St) : ds_Rw ds_c_Reader_readIsland ds_u_Reader_readIsland cl 0 [some (.ref 1), none, none, none, none] [] z =
  ds_isK (z.2.2 1) 7 ((ds_cV cl j_Reader_tellName [.ref 1, .int (z.1 (z.2.2 1) 4)] z fun z1 => (ds_cI cl j_Reader_readOneOf [.ref 1, .ref 306] z1 fun r2 z2 => (ds_cI cl j_Reader_readOneOf [.ref 1, .ref 304] z2 fun r3 z3 => (ds_cI cl j_Reader_readOneOf [.ref 1, .ref 307] z3 fun r4 z4 => (ds_cI cl j_Reader_readWhole [.ref 1, .int 1, .int 9] z4 fun r5 z5 => (ds_cI cl j_Reader_readOneOf [.ref 1, .ref 308] z5 fun r6 z6 => (ds_cI cl j_Reader_readWhole [.ref 1, .int 0, .int 99] z6 fun r7 z7 => if ¬ (z7.1 1 9) = 0 then some (none, z7) else ds_isK (z7.2.2 1) 7 ((ds_cV cl j_Told_addIsland [.ref (z7.2.2 1), .int r2, .int r3, .int r5, .int r7] z7 fun z8 => some (none, z8))))))))))) :=
  (ds_Rw_stp 400 0 [some (.ref 1), none, none, none, none] [] z).trans rfl
set_option maxRecDepth 20000 in
theorem b_Reader_readLine_0 (cl : Nat → List Value → ds_St → Option ds_Out) (x1 : Int32) (z : ds_St) : ds_Rw ds_c_Reader_readLine ds_u_Reader_readLine cl 0 [some (.ref 1), some (.int x1), none] [] z =
  if ¬ (z.1 1 6) = 1 then ds_Rw ds_c_Reader_readLine ds_u_Reader_readLine cl 21 [some (.ref 1), some (.int x1), none] [.int (-1)] z else (ds_cI cl j_Sea_choice [.ref 300, .long (z.2.1 1 7)] z fun r1 z1 => ds_Rw ds_c_Reader_readLine ds_u_Reader_readLine cl 21 [some (.ref 1), some (.int x1), none] [.int r1] z1) :=
  (ds_Rw_stp 400 0 [some (.ref 1), some (.int x1), none] [] z).trans rfl
set_option maxRecDepth 20000 in
theorem b_Reader_readLine_21 (cl : Nat → List Value → ds_St → Option ds_Out) (x1 : Int32) (s0 : Int32) (z : ds_St) : ds_Rw ds_c_Reader_readLine ds_u_Reader_readLine cl 21 [some (.ref 1), some (.int x1), none] [.int s0] z =
  (ds_cV cl j_Reader_checkLine [.ref 1, .int s0, .int x1] z fun z1 => (ds_cV cl j_Reader_advance [.ref 1] z1 fun z2 => if ¬ (z2.1 1 9) = 0 then ds_Rw ds_c_Reader_readLine ds_u_Reader_readLine cl 44 [some (.ref 1), none, none] [.int (-1)] z2 else ds_Rw ds_c_Reader_readLine ds_u_Reader_readLine cl 44 [some (.ref 1), none, none] [.int s0] z2)) :=
  (ds_Rw_stp 400 21 [some (.ref 1), some (.int x1), none] [.int s0] z).trans rfl
set_option maxRecDepth 20000 in
theorem b_Reader_readLine_44 (cl : Nat → List Value → ds_St → Option ds_Out) (s0 : Int32) (z : ds_St) : ds_Rw ds_c_Reader_readLine ds_u_Reader_readLine cl 44 [some (.ref 1), none, none] [.int s0] z =
  if s0 = 0 then (ds_cV cl j_Reader_readSea [.ref 1] z fun z5 => some (none, z5)) else if s0 = 1 then (ds_cV cl j_Reader_readIsland [.ref 1] z fun z4 => some (none, z4)) else if s0 = 2 then (ds_cV cl j_Reader_readFamily [.ref 1] z fun z3 => some (none, z3)) else if s0 = 3 then (ds_cV cl j_Reader_readWish [.ref 1] z fun z2 => some (none, z2)) else if s0 = 4 then (ds_cV cl j_Reader_readShows [.ref 1] z fun z1 => some (none, z1)) else some (none, z) :=
  (ds_Rw_stp 400 44 [some (.ref 1), none, none] [.int s0] z).trans rfl
set_option maxRecDepth 20000 in
theorem b_Reader_readOneOf_0 (cl : Nat → List Value → ds_St → Option ds_Out) (x1 : Nat) (z : ds_St) : ds_Rw ds_c_Reader_readOneOf ds_u_Reader_readOneOf cl 0 [some (.ref 1), some (.ref x1), none] [] z =
  if ¬ (z.1 1 9) = 0 then ds_Rw ds_c_Reader_readOneOf ds_u_Reader_readOneOf cl 26 [some (.ref 1), none, none] [] z else if ¬ (z.1 1 6) = 1 then ds_Rw ds_c_Reader_readOneOf ds_u_Reader_readOneOf cl 26 [some (.ref 1), none, none] [] z else (ds_cI cl j_Sea_choice [.ref x1, .long (z.2.1 1 7)] z fun r1 z1 => ds_Rw ds_c_Reader_readOneOf ds_u_Reader_readOneOf cl 27 [some (.ref 1), none, none] [.int r1] z1) :=
  (ds_Rw_stp 400 0 [some (.ref 1), some (.ref x1), none] [] z).trans rfl
set_option maxRecDepth 20000 in
theorem b_Reader_readOneOf_26 (cl : Nat → List Value → ds_St → Option ds_Out)  (z : ds_St) : ds_Rw ds_c_Reader_readOneOf ds_u_Reader_readOneOf cl 26 [some (.ref 1), none, none] [] z =
  ds_Rw ds_c_Reader_readOneOf ds_u_Reader_readOneOf cl 27 [some (.ref 1), none, none] [.int (-1)] z :=
  (ds_Rw_stp 400 26 [some (.ref 1), none, none] [] z).trans rfl
set_option maxRecDepth 20000 in
theorem b_Reader_readOneOf_27 (cl : Nat → List Value → ds_St → Option ds_Out) (s0 : Int32) (z : ds_St) : ds_Rw ds_c_Reader_readOneOf ds_u_Reader_readOneOf cl 27 [some (.ref 1), none, none] [.int s0] z =
  if ¬ s0 = (-1) then (ds_cV cl j_Reader_advance [.ref 1] z fun z1 => some (some (.int s0), z1)) else (ds_cV cl j_Reader_blame [.ref 1, .int 1] z fun z2 => (ds_cV cl j_Reader_advance [.ref 1] z2 fun z3 => some (some (.int s0), z3))) :=
  (ds_Rw_stp 400 27 [some (.ref 1), none, none] [.int s0] z).trans rfl
set_option maxRecDepth 20000 in
theorem b_Reader_readSea_0 (cl : Nat → List Value → ds_St → Option ds_Out)  (z : ds_St) : ds_Rw ds_c_Reader_readSea ds_u_Reader_readSea cl 0 [some (.ref 1)] [] z =
  (ds_cI cl j_Reader_readOneOf [.ref 1, .ref 301] z fun r1 z1 => (ds_cI cl j_Reader_readWhole [.ref 1, .int 2, .int 4] z1 fun r2 z2 => ds_isK (z1.2.2 1) 7 ((ds_cI cl j_Reader_readOneOf [.ref 1, .ref 302] (ds_setI z2 (z1.2.2 1) 0 r2) fun r3 z3 => (ds_cI cl j_Reader_readWhole [.ref 1, .int 2, .int 3] z3 fun r4 z4 => ds_isK (z3.2.2 1) 7 ((ds_cI cl j_Reader_readOneOf [.ref 1, .ref 303] (ds_setI z4 (z3.2.2 1) 1 r4) fun r5 z5 => (ds_cI cl j_Reader_readOneOf [.ref 1, .ref 304] z5 fun r6 z6 => ds_isK (z5.2.2 1) 7 ((ds_cI cl j_Reader_readOneOf [.ref 1, .ref 305] (ds_setI z6 (z5.2.2 1) 2 r6) fun r7 z7 => ds_isK (z6.2.2 1) 7 (some (none, (ds_setI z7 (z6.2.2 1) 3 r7))))))))))))) :=
  (ds_Rw_stp 400 0 [some (.ref 1)] [] z).trans rfl
set_option maxRecDepth 20000 in
theorem b_Reader_readShows_0 (cl : Nat → List Value → ds_St → Option ds_Out)  (z : ds_St) : ds_Rw ds_c_Reader_readShows ds_u_Reader_readShows cl 0 [some (.ref 1), none, none] [] z =
  ds_isK (z.2.2 1) 7 ((ds_cI cl j_Told_room [.ref (z.2.2 1)] z fun r1 z1 => (ds_cI cl j_Reader_readWhole [.ref 1, .int 0, .int (r1 - 1)] z1 fun r2 z2 => (ds_cI cl j_Reader_namedIsland [.ref 1] z2 fun r3 z3 => if ¬ (z3.1 1 9) = 0 then (ds_cV cl j_Reader_advance [.ref 1] z3 fun z4 => some (none, z4)) else ds_isK (z3.2.2 1) 7 ((ds_cV cl j_Told_addShows [.ref (z3.2.2 1), .int r2, .int r3] z3 fun z5 => (ds_cV cl j_Reader_advance [.ref 1] z5 fun z6 => some (none, z6)))))))) :=
  (ds_Rw_stp 400 0 [some (.ref 1), none, none] [] z).trans rfl
set_option maxRecDepth 20000 in
theorem b_Reader_readText_0 (cl : Nat → List Value → ds_St → Option ds_Out) (x1 : Int32) (z : ds_St) : ds_Rw ds_c_Reader_readText ds_u_Reader_readText cl 0 [some (.ref 1), some (.int x1), none, none] [] z =
  (ds_cI cl j_Math_min [.int x1, .int (z.1 1 1)] z fun r1 z1 => ds_isK (z1.2.2 1) 7 ((ds_cV cl j_Told_forget [.ref (z1.2.2 1)] (ds_setI (ds_setI (ds_setI (ds_setI (ds_setI z1 1 3 r1) 1 1 0) 1 5 0) 1 9 0) 1 10 0) fun z2 => (ds_cV cl j_Reader_advance [.ref 1] z2 fun z3 => ds_Rw ds_c_Reader_readText ds_u_Reader_readText cl 47 [some (.ref 1), none, some (.int 1), some (.int 0)] [] z3)))) :=
  (ds_Rw_stp 400 0 [some (.ref 1), some (.int x1), none, none] [] z).trans rfl
set_option maxRecDepth 20000 in
theorem b_Reader_readText_47 (cl : Nat → List Value → ds_St → Option ds_Out) (x2 : Int32) (x3 : Int32) (z : ds_St) : ds_Rw ds_c_Reader_readText ds_u_Reader_readText cl 47 [some (.ref 1), none, some (.int x2), some (.int x3)] [] z =
  if 900 < x3 then ds_Rw ds_c_Reader_readText ds_u_Reader_readText cl 97 [some (.ref 1), none, none, none] [] z else if x2 = 0 then ds_Rw ds_c_Reader_readText ds_u_Reader_readText cl 97 [some (.ref 1), none, none, none] [] z else if ¬ x3 = 0 then ds_Rw ds_c_Reader_readText ds_u_Reader_readText cl 68 [some (.ref 1), none, none, some (.int x3)] [.int 0, .ref 1] z else ds_Rw ds_c_Reader_readText ds_u_Reader_readText cl 68 [some (.ref 1), none, none, some (.int x3)] [.int 1, .ref 1] z :=
  (ds_Rw_stp 400 47 [some (.ref 1), none, some (.int x2), some (.int x3)] [] z).trans rfl
set_option maxRecDepth 20000 in
theorem b_Reader_readText_68 (cl : Nat → List Value → ds_St → Option ds_Out) (x3 : Int32) (s0 : Int32) (s1 : Nat) (z : ds_St) : ds_Rw ds_c_Reader_readText ds_u_Reader_readText cl 68 [some (.ref 1), none, none, some (.int x3)] [.int s0, .ref s1] z =
  ds_isK s1 4 ((ds_cV cl j_Reader_readLine [.ref s1, .int s0] z fun z1 => if ¬ (z1.1 1 9) = 0 then ds_Rw ds_c_Reader_readText ds_u_Reader_readText cl 47 [some (.ref 1), none, some (.int 0), some (.int (x3 + 1))] [] z1 else (ds_cI cl j_Reader_goesOn [.ref 1] z1 fun r2 z2 => if r2 = 0 then ds_Rw ds_c_Reader_readText ds_u_Reader_readText cl 47 [some (.ref 1), none, some (.int 0), some (.int (x3 + 1))] [] z2 else ds_Rw ds_c_Reader_readText ds_u_Reader_readText cl 47 [some (.ref 1), none, some (.int 1), some (.int (x3 + 1))] [] z2))) :=
  (ds_Rw_stp 400 68 [some (.ref 1), none, none, some (.int x3)] [.int s0, .ref s1] z).trans rfl
set_option maxRecDepth 20000 in
theorem b_Reader_readText_97 (cl : Nat → List Value → ds_St → Option ds_Out)  (z : ds_St) : ds_Rw ds_c_Reader_readText ds_u_Reader_readText cl 97 [some (.ref 1), none, none, none] [] z =
  if ¬ (z.1 1 9) = 0 then ds_Rw ds_c_Reader_readText ds_u_Reader_readText cl 121 [some (.ref 1), none, none, none] [] z else ds_isK (z.2.2 1) 7 (if 2 ≤ (z.1 (z.2.2 1) 4) then ds_Rw ds_c_Reader_readText ds_u_Reader_readText cl 121 [some (.ref 1), none, none, none] [] z else (ds_cV cl j_Reader_blame [.ref 1, .int 6] z fun z1 => ds_Rw ds_c_Reader_readText ds_u_Reader_readText cl 121 [some (.ref 1), none, none, none] [] z1)) :=
  (ds_Rw_stp 400 97 [some (.ref 1), none, none, none] [] z).trans rfl
set_option maxRecDepth 20000 in
theorem b_Reader_readText_121 (cl : Nat → List Value → ds_St → Option ds_Out)  (z : ds_St) : ds_Rw ds_c_Reader_readText ds_u_Reader_readText cl 121 [some (.ref 1), none, none, none] [] z =
  if ¬ (z.1 1 9) = 0 then some (some (.int (z.1 1 9)), z) else ds_isK (z.2.2 1) 7 ((ds_cV cl j_Told_settle [.ref (z.2.2 1)] z fun z1 => some (some (.int (z1.1 1 9)), z1))) :=
  (ds_Rw_stp 400 121 [some (.ref 1), none, none, none] [] z).trans rfl
set_option maxRecDepth 20000 in
theorem b_Reader_readWhole_0 (cl : Nat → List Value → ds_St → Option ds_Out) (x1 : Int32) (x2 : Int32) (z : ds_St) : ds_Rw ds_c_Reader_readWhole ds_u_Reader_readWhole cl 0 [some (.ref 1), some (.int x1), some (.int x2), none] [] z =
  if (z.1 1 6) = 2 then if (z.1 1 8) < x1 then ds_Rw ds_c_Reader_readWhole ds_u_Reader_readWhole cl 31 [some (.ref 1), none, none, some (.int (z.1 1 8))] [] z else if (z.1 1 8) ≤ x2 then (ds_cV cl j_Reader_advance [.ref 1] z fun z1 => some (some (.int (z.1 1 8)), z1)) else ds_Rw ds_c_Reader_readWhole ds_u_Reader_readWhole cl 31 [some (.ref 1), none, none, some (.int (z.1 1 8))] [] z else (ds_cV cl j_Reader_blame [.ref 1, .int 1] z fun z2 => (ds_cV cl j_Reader_advance [.ref 1] z2 fun z3 => some (some (.int (z.1 1 8)), z3))) :=
  (ds_Rw_stp 400 0 [some (.ref 1), some (.int x1), some (.int x2), none] [] z).trans rfl
set_option maxRecDepth 20000 in
theorem b_Reader_readWhole_31 (cl : Nat → List Value → ds_St → Option ds_Out) (x3 : Int32) (z : ds_St) : ds_Rw ds_c_Reader_readWhole ds_u_Reader_readWhole cl 31 [some (.ref 1), none, none, some (.int x3)] [] z =
  (ds_cV cl j_Reader_blame [.ref 1, .int 4] z fun z1 => (ds_cV cl j_Reader_advance [.ref 1] z1 fun z2 => some (some (.int x3), z2))) :=
  (ds_Rw_stp 400 31 [some (.ref 1), none, none, some (.int x3)] [] z).trans rfl
set_option maxRecDepth 20000 in
theorem b_Reader_readWish_0 (cl : Nat → List Value → ds_St → Option ds_Out)  (z : ds_St) : ds_Rw ds_c_Reader_readWish ds_u_Reader_readWish cl 0 [some (.ref 1), none, none] [] z =
  (ds_cI cl j_Reader_namedIsland [.ref 1] z fun r1 z1 => (ds_cV cl j_Reader_advance [.ref 1] z1 fun z2 => (ds_cI cl j_Reader_namedIsland [.ref 1] z2 fun r3 z3 => if r1 = r3 then ds_Rw ds_c_Reader_readWish ds_u_Reader_readWish cl 31 [some (.ref 1), some (.int r1), some (.int r3)] [] z3 else ds_isK (z3.2.2 1) 7 ((ds_cI cl j_Told_hasWish [.ref (z3.2.2 1), .int r1, .int r3] z3 fun r4 z4 => if r4 = 0 then ds_Rw ds_c_Reader_readWish ds_u_Reader_readWish cl 36 [some (.ref 1), some (.int r1), some (.int r3)] [] z4 else ds_Rw ds_c_Reader_readWish ds_u_Reader_readWish cl 31 [some (.ref 1), some (.int r1), some (.int r3)] [] z4))))) :=
  (ds_Rw_stp 400 0 [some (.ref 1), none, none] [] z).trans rfl
set_option maxRecDepth 20000 in
theorem b_Reader_readWish_31 (cl : Nat → List Value → ds_St → Option ds_Out) (x1 : Int32) (x2 : Int32) (z : ds_St) : ds_Rw ds_c_Reader_readWish ds_u_Reader_readWish cl 31 [some (.ref 1), some (.int x1), some (.int x2)] [] z =
  (ds_cV cl j_Reader_blame [.ref 1, .int 3] z fun z1 => ds_Rw ds_c_Reader_readWish ds_u_Reader_readWish cl 36 [some (.ref 1), some (.int x1), some (.int x2)] [] z1) :=
  (ds_Rw_stp 400 31 [some (.ref 1), some (.int x1), some (.int x2)] [] z).trans rfl
set_option maxRecDepth 20000 in
theorem b_Reader_readWish_36 (cl : Nat → List Value → ds_St → Option ds_Out) (x1 : Int32) (x2 : Int32) (z : ds_St) : ds_Rw ds_c_Reader_readWish ds_u_Reader_readWish cl 36 [some (.ref 1), some (.int x1), some (.int x2)] [] z =
  if ¬ (z.1 1 9) = 0 then (ds_cV cl j_Reader_advance [.ref 1] z fun z1 => some (none, z1)) else ds_isK (z.2.2 1) 7 ((ds_cV cl j_Told_addWish [.ref (z.2.2 1), .int x1, .int x2] z fun z2 => (ds_cV cl j_Reader_advance [.ref 1] z2 fun z3 => some (none, z3)))) :=
  (ds_Rw_stp 400 36 [some (.ref 1), some (.int x1), some (.int x2)] [] z).trans rfl
set_option maxRecDepth 20000 in
theorem b_Reader_takeWhole_0 (cl : Nat → List Value → ds_St → Option ds_Out)  (z : ds_St) : ds_Rw ds_c_Reader_takeWhole ds_u_Reader_takeWhole cl 0 [some (.ref 1)] [] z =
  ds_Rw ds_c_Reader_takeWhole ds_u_Reader_takeWhole cl 5 [some (.ref 1)] [] (ds_setI z 1 8 0) :=
  (ds_Rw_stp 400 0 [some (.ref 1)] [] z).trans rfl
set_option maxRecDepth 20000 in
theorem b_Reader_takeWhole_5 (cl : Nat → List Value → ds_St → Option ds_Out)  (z : ds_St) : ds_Rw ds_c_Reader_takeWhole ds_u_Reader_takeWhole cl 5 [some (.ref 1)] [] z =
  if (z.1 1 3) ≤ (z.1 1 5) then ds_Rw ds_c_Reader_takeWhole ds_u_Reader_takeWhole cl 66 [some (.ref 1)] [] z else (ds_cI cl j_Reader_byteAt [.ref 1, .int (z.1 1 5)] z fun r1 z1 => (ds_cI cl j_Reader_isDigit [.int r1] z1 fun r2 z2 => if r2 = 0 then ds_Rw ds_c_Reader_takeWhole ds_u_Reader_takeWhole cl 66 [some (.ref 1)] [] z2 else (ds_cI cl j_Reader_byteAt [.ref 1, .int (z2.1 1 5)] z2 fun r3 z3 => ds_Rw ds_c_Reader_takeWhole ds_u_Reader_takeWhole cl 5 [some (.ref 1)] [] (ds_setI (ds_setI z3 1 8 ((((z2.1 1 8) * 10) + r3) - 48)) 1 5 ((z3.1 1 5) + 1))))) :=
  (ds_Rw_stp 400 5 [some (.ref 1)] [] z).trans rfl
set_option maxRecDepth 20000 in
theorem b_Reader_takeWhole_66 (cl : Nat → List Value → ds_St → Option ds_Out)  (z : ds_St) : ds_Rw ds_c_Reader_takeWhole ds_u_Reader_takeWhole cl 66 [some (.ref 1)] [] z =
  if 2 < ((z.1 1 5) - (z.1 1 4)) then some (none, (ds_setI z 1 6 4)) else some (none, (ds_setI z 1 6 2)) :=
  (ds_Rw_stp 400 66 [some (.ref 1)] [] z).trans rfl
set_option maxRecDepth 20000 in
theorem b_Reader_takeWord_0 (cl : Nat → List Value → ds_St → Option ds_Out)  (z : ds_St) : ds_Rw ds_c_Reader_takeWord ds_u_Reader_takeWord cl 0 [some (.ref 1)] [] z =
  ds_Rw ds_c_Reader_takeWord ds_u_Reader_takeWord cl 5 [some (.ref 1)] [] (ds_setL z 1 7 0) :=
  (ds_Rw_stp 400 0 [some (.ref 1)] [] z).trans rfl
set_option maxRecDepth 20000 in
theorem b_Reader_takeWord_5 (cl : Nat → List Value → ds_St → Option ds_Out)  (z : ds_St) : ds_Rw ds_c_Reader_takeWord ds_u_Reader_takeWord cl 5 [some (.ref 1)] [] z =
  if (z.1 1 3) ≤ (z.1 1 5) then ds_Rw ds_c_Reader_takeWord ds_u_Reader_takeWord cl 62 [some (.ref 1)] [] z else (ds_cI cl j_Reader_byteAt [.ref 1, .int (z.1 1 5)] z fun r1 z1 => (ds_cI cl j_Reader_isLetter [.int r1] z1 fun r2 z2 => if r2 = 0 then ds_Rw ds_c_Reader_takeWord ds_u_Reader_takeWord cl 62 [some (.ref 1)] [] z2 else (ds_cI cl j_Reader_byteAt [.ref 1, .int (z2.1 1 5)] z2 fun r3 z3 => (ds_cL cl j_Sea_spell [.long (z2.2.1 1 7), .int r3] z3 fun r4 z4 => ds_Rw ds_c_Reader_takeWord ds_u_Reader_takeWord cl 5 [some (.ref 1)] [] (ds_setI (ds_setL z4 1 7 r4) 1 5 ((z4.1 1 5) + 1)))))) :=
  (ds_Rw_stp 400 5 [some (.ref 1)] [] z).trans rfl
set_option maxRecDepth 20000 in
theorem b_Reader_takeWord_62 (cl : Nat → List Value → ds_St → Option ds_Out)  (z : ds_St) : ds_Rw ds_c_Reader_takeWord ds_u_Reader_takeWord cl 62 [some (.ref 1)] [] z =
  if 8 < ((z.1 1 5) - (z.1 1 4)) then some (none, (ds_setI z 1 6 4)) else some (none, (ds_setI z 1 6 1)) :=
  (ds_Rw_stp 400 62 [some (.ref 1)] [] z).trans rfl
set_option maxRecDepth 20000 in
theorem b_Reader_tellName_0 (cl : Nat → List Value → ds_St → Option ds_Out) (x1 : Int32) (z : ds_St) : ds_Rw ds_c_Reader_tellName ds_u_Reader_tellName cl 0 [some (.ref 1), some (.int x1)] [] z =
  (ds_cI cl j_Reader_isAtName [.ref 1] z fun r1 z1 => if ¬ r1 = 0 then (ds_cI cl j_Reader_owner [.ref 1] z1 fun r2 z2 => if r2 = (-1) then if (z2.1 1 10) < 0 then (ds_cV cl j_Reader_advance [.ref 1] z2 fun z3 => some (none, z3)) else if 22 ≤ (z2.1 1 10) then (ds_cV cl j_Reader_advance [.ref 1] z2 fun z4 => some (none, z4)) else ds_chk (z2.1 1 10) 22 ((ds_cV cl j_Sea_put [.ref 4, .int (z2.1 1 10), .int x1] (ds_setL z2 3 ((z2.1 1 10).toNatClampNeg) (z2.2.1 1 7)) fun z5 => (ds_cV cl j_Reader_advance [.ref 1] (ds_setI z5 1 10 ((z5.1 1 10) + 1)) fun z6 => some (none, z6)))) else (ds_cV cl j_Reader_blame [.ref 1, .int 3] z2 fun z7 => (ds_cV cl j_Reader_advance [.ref 1] z7 fun z8 => some (none, z8)))) else (ds_cV cl j_Reader_blame [.ref 1, .int 1] z1 fun z9 => (ds_cV cl j_Reader_advance [.ref 1] z9 fun z10 => some (none, z10)))) :=
  (ds_Rw_stp 400 0 [some (.ref 1), some (.int x1)] [] z).trans rfl
set_option maxRecDepth 20000 in
theorem b_Search_bringThree_0 (cl : Nat → List Value → ds_St → Option ds_Out) (x1 : Nat) (x2 : Int32) (x3 : Int32) (x4 : Int32) (x5 : Int32) (z : ds_St) : ds_Rw ds_c_Search_bringThree ds_u_Search_bringThree cl 0 [some (.ref 70), some (.ref x1), some (.int x2), some (.int x3), some (.int x4), some (.int x5)] [] z =
  ds_isK x1 7 (ds_isK (ds_R (ds_setI z 70 4 3) x1 17) 11 ((ds_cV cl j_Search_seek [.ref 70, .int (x2 + (12 * (x3 + (12 * x4)))), .int x5] (ds_setS (ds_setI z 70 4 3) 3 (ds_R (ds_setI z 70 4 3) x1 17)) fun z1 => some (none, z1)))) :=
  (ds_Rw_stp 400 0 [some (.ref 70), some (.ref x1), some (.int x2), some (.int x3), some (.int x4), some (.int x5)] [] z).trans rfl
set_option maxRecDepth 20000 in
theorem b_Search_bringTo_0 (cl : Nat → List Value → ds_St → Option ds_Out) (x1 : Int32) (x2 : Int32) (x3 : Int32) (z : ds_St) : ds_Rw ds_c_Search_bringTo ds_u_Search_bringTo cl 0 [some (.ref 70), some (.int x1), some (.int x2), some (.int x3)] [] z =
  (ds_cV cl j_Search_seek [.ref 70, .int x2, .int x3] (ds_setI (ds_setI z 70 4 1) 70 6 x1) fun z1 => some (none, z1)) :=
  (ds_Rw_stp 400 0 [some (.ref 70), some (.int x1), some (.int x2), some (.int x3)] [] z).trans rfl
set_option maxRecDepth 20000 in
theorem b_Search_bringTogether_0 (cl : Nat → List Value → ds_St → Option ds_Out) (x1 : Nat) (x2 : Int32) (x3 : Int32) (x4 : Int32) (z : ds_St) : ds_Rw ds_c_Search_bringTogether ds_u_Search_bringTogether cl 0 [some (.ref 70), some (.ref x1), some (.int x2), some (.int x3), some (.int x4)] [] z =
  ds_isK x1 7 (ds_isK (ds_R (ds_setI z 70 4 2) x1 17) 11 ((ds_cV cl j_Search_seek [.ref 70, .int (x2 + (12 * x3)), .int x4] (ds_setS (ds_setI z 70 4 2) 3 (ds_R (ds_setI z 70 4 2) x1 17)) fun z1 => some (none, z1)))) :=
  (ds_Rw_stp 400 0 [some (.ref 70), some (.ref x1), some (.int x2), some (.int x3), some (.int x4)] [] z).trans rfl
set_option maxRecDepth 20000 in
theorem b_Search_canBe_0 (cl : Nat → List Value → ds_St → Option ds_Out)  (z : ds_St) : ds_Rw ds_c_Search_canBe ds_u_Search_canBe cl 0 [some (.ref 70), none, none] [] z =
  ds_Rw ds_c_Search_canBe ds_u_Search_canBe cl 11 [some (.ref 70), some (.int ((1 <<< ((z.1 70 5) &&& 31)) - 1)), some (.int 0)] [] z :=
  (ds_Rw_stp 400 0 [some (.ref 70), none, none] [] z).trans rfl
set_option maxRecDepth 20000 in
theorem b_Search_canBe_11 (cl : Nat → List Value → ds_St → Option ds_Out) (x1 : Int32) (x2 : Int32) (z : ds_St) : ds_Rw ds_c_Search_canBe ds_u_Search_canBe cl 11 [some (.ref 70), some (.int x1), some (.int x2)] [] z =
  if (z.1 70 5) ≤ x2 then some (some (.int 0), z) else if (z.1 70 4) = 1 then some (some (.int 1), z) else (ds_cI cl j_Sea_look [.ref (z.2.2 3), .int x2] z fun r1 z1 => (ds_cI cl j_Integer_bitCount [.int (r1 &&& x1)] z1 fun r2 z2 => if r2 < ((z2.1 70 4) - 1) then ds_Rw ds_c_Search_canBe ds_u_Search_canBe cl 11 [some (.ref 70), some (.int x1), some (.int (x2 + 1))] [] z2 else some (some (.int 1), z2))) :=
  (ds_Rw_stp 400 11 [some (.ref 70), some (.int x1), some (.int x2)] [] z).trans rfl
set_option maxRecDepth 20000 in
theorem b_Search_isGoal_0 (cl : Nat → List Value → ds_St → Option ds_Out) (x1 : Int32) (z : ds_St) : ds_Rw ds_c_Search_isGoal ds_u_Search_isGoal cl 0 [some (.ref 70), some (.int x1), none, none, none] [] z =
  if ¬ (z.1 70 4) = 1 then if ¬ (z.1 70 4) = 2 then (ds_cI cl j_Search_pairs [.ref 70, .int (x1 - x1 / 12 * 12), .int ((x1 / 12) - (x1 / 12) / 12 * 12)] z fun r1 z1 => (ds_cI cl j_Search_pairs [.ref 70, .int (x1 - x1 / 12 * 12), .int (x1 / 144)] z1 fun r2 z2 => (ds_cI cl j_Search_pairs [.ref 70, .int ((x1 / 12) - (x1 / 12) / 12 * 12), .int (x1 / 144)] z2 fun r3 z3 => if ((r1 + r2) + r3) < 2 then some (some (.int 0), z3) else some (some (.int 1), z3)))) else (ds_cI cl j_Search_pairs [.ref 70, .int (x1 - x1 / 12 * 12), .int ((x1 / 12) - (x1 / 12) / 12 * 12)] z fun r4 z4 => if ¬ r4 = 1 then some (some (.int 0), z4) else some (some (.int 1), z4)) else if ¬ x1 = (z.1 70 6) then some (some (.int 0), z) else some (some (.int 1), z) :=
  (ds_Rw_stp 400 0 [some (.ref 70), some (.int x1), none, none, none] [] z).trans rfl
set_option maxRecDepth 20000 in
theorem b_Search_length_0 (cl : Nat → List Value → ds_St → Option ds_Out)  (z : ds_St) : ds_Rw ds_c_Search_length ds_u_Search_length cl 0 [some (.ref 70), none, none] [] z =
  if ¬ (z.1 70 7) = (-1) then ds_Rw ds_c_Search_length ds_u_Search_length cl 18 [some (.ref 70), some (.int (z.1 70 7)), some (.int 0)] [] z else some (some (.int (-2)), z) :=
  (ds_Rw_stp 400 0 [some (.ref 70), none, none] [] z).trans rfl
set_option maxRecDepth 20000 in
theorem b_Search_length_18 (cl : Nat → List Value → ds_St → Option ds_Out) (x1 : Int32) (x2 : Int32) (z : ds_St) : ds_Rw ds_c_Search_length ds_u_Search_length cl 18 [some (.ref 70), some (.int x1), some (.int x2)] [] z =
  if 1728 ≤ x2 then some (some (.int x2), z) else (ds_cI cl j_Sea_look [.ref 73, .int x1] z fun r1 z1 => if r1 < 0 then some (some (.int x2), z1) else (ds_cI cl j_Sea_look [.ref 72, .int x1] z1 fun r2 z2 => ds_Rw ds_c_Search_length ds_u_Search_length cl 18 [some (.ref 70), some (.int r2), some (.int (x2 + 1))] [] z2)) :=
  (ds_Rw_stp 400 18 [some (.ref 70), some (.int x1), some (.int x2)] [] z).trans rfl
set_option maxRecDepth 20000 in
theorem b_Search_moveOf_0 (cl : Nat → List Value → ds_St → Option ds_Out) (x1 : Int32) (z : ds_St) : ds_Rw ds_c_Search_moveOf ds_u_Search_moveOf cl 0 [some (.ref 70), some (.int x1), none, none] [] z =
  (ds_cI cl j_Search_length [.ref 70] z fun r1 z1 => ds_Rw ds_c_Search_moveOf ds_u_Search_moveOf cl 12 [some (.ref 70), some (.int x1), some (.int (z.1 70 7)), some (.int (r1 - 1))] [] z1) :=
  (ds_Rw_stp 400 0 [some (.ref 70), some (.int x1), none, none] [] z).trans rfl
set_option maxRecDepth 20000 in
theorem b_Search_moveOf_12 (cl : Nat → List Value → ds_St → Option ds_Out) (x1 : Int32) (x2 : Int32) (x3 : Int32) (z : ds_St) : ds_Rw ds_c_Search_moveOf ds_u_Search_moveOf cl 12 [some (.ref 70), some (.int x1), some (.int x2), some (.int x3)] [] z =
  if x3 ≤ x1 then (ds_cI cl j_Sea_look [.ref 73, .int x2] z fun r1 z1 => some (some (.int r1), z1)) else (ds_cI cl j_Sea_look [.ref 72, .int x2] z fun r2 z2 => ds_Rw ds_c_Search_moveOf ds_u_Search_moveOf cl 12 [some (.ref 70), some (.int x1), some (.int r2), some (.int (x3 + (-1)))] [] z2) :=
  (ds_Rw_stp 400 12 [some (.ref 70), some (.int x1), some (.int x2), some (.int x3)] [] z).trans rfl
set_option maxRecDepth 20000 in
theorem b_Search_pairs_0 (cl : Nat → List Value → ds_St → Option ds_Out) (x1 : Int32) (x2 : Int32) (z : ds_St) : ds_Rw ds_c_Search_pairs ds_u_Search_pairs cl 0 [some (.ref 70), some (.int x1), some (.int x2)] [] z =
  (ds_cI cl j_Sea_look [.ref (z.2.2 3), .int x1] z fun r1 z1 => some (some (.int ((r1 >>> (x2 &&& 31)) &&& 1)), z1)) :=
  (ds_Rw_stp 400 0 [some (.ref 70), some (.int x1), some (.int x2)] [] z).trans rfl
set_option maxRecDepth 20000 in
theorem b_Search_queueNext_0 (cl : Nat → List Value → ds_St → Option ds_Out) (x1 : Int32) (x2 : Int32) (z : ds_St) : ds_Rw ds_c_Search_queueNext ds_u_Search_queueNext cl 0 [some (.ref 70), some (.int x1), some (.int x2), none, none, none] [] z =
  ds_Rw ds_c_Search_queueNext ds_u_Search_queueNext cl 5 [some (.ref 70), some (.int x1), none, some (.int x2), some (.int 0), none] [] z :=
  (ds_Rw_stp 400 0 [some (.ref 70), some (.int x1), some (.int x2), none, none, none] [] z).trans rfl
set_option maxRecDepth 20000 in
theorem b_Search_queueNext_5 (cl : Nat → List Value → ds_St → Option ds_Out) (x1 : Int32) (x3 : Int32) (x4 : Int32) (z : ds_St) : ds_Rw ds_c_Search_queueNext ds_u_Search_queueNext cl 5 [some (.ref 70), some (.int x1), none, some (.int x3), some (.int x4), none] [] z =
  (ds_cI cl j_Sea_movesOf [.int (z.1 70 5)] z fun r1 z1 => if r1 ≤ x4 then some (some (.int x3), z1) else (ds_cI cl j_Search_stateBehind [.ref 70, .int x1, .int x4] z1 fun r2 z2 => (ds_cI cl j_Sea_look [.ref 73, .int r2] z2 fun r3 z3 => if ¬ r3 = (-3) then ds_Rw ds_c_Search_queueNext ds_u_Search_queueNext cl 5 [some (.ref 70), some (.int x1), none, some (.int x3), some (.int (x4 + 1)), none] [] z3 else (ds_cV cl j_Sea_put [.ref 73, .int r2, .int x4] z3 fun z4 => (ds_cV cl j_Sea_put [.ref 72, .int r2, .int x1] z4 fun z5 => (ds_cV cl j_Sea_put [.ref 71, .int x3, .int r2] z5 fun z6 => ds_Rw ds_c_Search_queueNext ds_u_Search_queueNext cl 5 [some (.ref 70), some (.int x1), none, some (.int (x3 + 1)), some (.int (x4 + 1)), none] [] z6)))))) :=
  (ds_Rw_stp 400 5 [some (.ref 70), some (.int x1), none, some (.int x3), some (.int x4), none] [] z).trans rfl
set_option maxRecDepth 20000 in
theorem b_Search_seek_0 (cl : Nat → List Value → ds_St → Option ds_Out) (x1 : Int32) (x2 : Int32) (z : ds_St) : ds_Rw ds_c_Search_seek ds_u_Search_seek cl 0 [some (.ref 70), some (.int x1), some (.int x2), none, none, none] [] z =
  (ds_cV cl j_Arrays_fill [.ref 73, .int (-3)] (ds_setI (ds_setI z 70 5 x2) 70 7 (-1)) fun z1 => (ds_cV cl j_Sea_put [.ref 73, .int x1, .int (-2)] z1 fun z2 => (ds_cV cl j_Sea_put [.ref 71, .int 0, .int x1] z2 fun z3 => (ds_cI cl j_Search_canBe [.ref 70] z3 fun r4 z4 => if r4 = 0 then ds_Rw ds_c_Search_seek ds_u_Search_seek cl 54 [some (.ref 70), none, none, some (.int 0), some (.int 0), none] [] z4 else ds_Rw ds_c_Search_seek ds_u_Search_seek cl 54 [some (.ref 70), none, none, some (.int 1), some (.int 0), none] [] z4)))) :=
  (ds_Rw_stp 400 0 [some (.ref 70), some (.int x1), some (.int x2), none, none, none] [] z).trans rfl
set_option maxRecDepth 20000 in
theorem b_Search_seek_54 (cl : Nat → List Value → ds_St → Option ds_Out) (x3 : Int32) (x4 : Int32) (z : ds_St) : ds_Rw ds_c_Search_seek ds_u_Search_seek cl 54 [some (.ref 70), none, none, some (.int x3), some (.int x4), none] [] z =
  if x3 ≤ x4 then some (none, z) else if 1728 ≤ x4 then some (none, z) else (ds_cI cl j_Sea_look [.ref 71, .int x4] z fun r1 z1 => (ds_cI cl j_Search_isGoal [.ref 70, .int r1] z1 fun r2 z2 => if r2 = 0 then (ds_cI cl j_Search_queueNext [.ref 70, .int r1, .int x3] z2 fun r3 z3 => ds_Rw ds_c_Search_seek ds_u_Search_seek cl 54 [some (.ref 70), none, none, some (.int r3), some (.int (x4 + 1)), none] [] z3) else some (none, (ds_setI z2 70 7 r1)))) :=
  (ds_Rw_stp 400 54 [some (.ref 70), none, none, some (.int x3), some (.int x4), none] [] z).trans rfl
set_option maxRecDepth 20000 in
theorem b_Search_stateBehind_0 (cl : Nat → List Value → ds_St → Option ds_Out) (x1 : Int32) (x2 : Int32) (z : ds_St) : ds_Rw ds_c_Search_stateBehind ds_u_Search_stateBehind cl 0 [some (.ref 70), some (.int x1), some (.int x2), none, none, none, none] [] z =
  ds_Rw ds_c_Search_stateBehind ds_u_Search_stateBehind cl 11 [some (.ref 70), none, some (.int x2), some (.int 0), some (.int x1), some (.int 1), some (.int 0)] [] z :=
  (ds_Rw_stp 400 0 [some (.ref 70), some (.int x1), some (.int x2), none, none, none, none] [] z).trans rfl
set_option maxRecDepth 20000 in
theorem b_Search_stateBehind_11 (cl : Nat → List Value → ds_St → Option ds_Out) (x2 : Int32) (x3 : Int32) (x4 : Int32) (x5 : Int32) (x6 : Int32) (z : ds_St) : ds_Rw ds_c_Search_stateBehind ds_u_Search_stateBehind cl 11 [some (.ref 70), none, some (.int x2), some (.int x3), some (.int x4), some (.int x5), some (.int x6)] [] z =
  if (z.1 70 4) ≤ x6 then some (some (.int x3), z) else (ds_cI cl j_Sea_goesTo [.int x2, .int (x4 - x4 / 12 * 12), .int (z.1 70 5)] z fun r1 z1 => ds_Rw ds_c_Search_stateBehind ds_u_Search_stateBehind cl 11 [some (.ref 70), none, some (.int x2), some (.int (x3 + (x5 * r1))), some (.int (x4 / 12)), some (.int (x5 * 12)), some (.int (x6 + 1))] [] z1) :=
  (ds_Rw_stp 400 11 [some (.ref 70), none, some (.int x2), some (.int x3), some (.int x4), some (.int x5), some (.int x6)] [] z).trans rfl
set_option maxRecDepth 20000 in
theorem b_Shelf_empty_0_80 (cl : Nat → List Value → ds_St → Option ds_Out)  (z : ds_St) : ds_Rw ds_c_Shelf_empty ds_u_Shelf_empty cl 0 [some (.ref 80)] [] z =
  some (none, (ds_setI (ds_setI z 80 2 0) 80 3 0)) :=
  (ds_Rw_stp 400 0 [some (.ref 80)] [] z).trans rfl
set_option maxRecDepth 20000 in
theorem b_Shelf_empty_0_82 (cl : Nat → List Value → ds_St → Option ds_Out)  (z : ds_St) : ds_Rw ds_c_Shelf_empty ds_u_Shelf_empty cl 0 [some (.ref 82)] [] z =
  some (none, (ds_setI (ds_setI z 82 2 0) 82 3 0)) :=
  (ds_Rw_stp 400 0 [some (.ref 82)] [] z).trans rfl
set_option maxRecDepth 20000 in
theorem b_Shelf_popInto_0_80 (cl : Nat → List Value → ds_St → Option ds_Out) (x1 : Nat) (z : ds_St) : ds_Rw ds_c_Shelf_popInto ds_u_Shelf_popInto cl 0 [some (.ref 80), some (.ref x1)] [] z =
  if (z.1 80 3) ≤ 0 then some (none, z) else (ds_cV cl j_Shelf_readInto [.ref 80, .int ((z.1 80 3) - 1), .ref x1] (ds_setI z 80 3 ((z.1 80 3) - 1)) fun z1 => some (none, z1)) :=
  (ds_Rw_stp 400 0 [some (.ref 80), some (.ref x1)] [] z).trans rfl
set_option maxRecDepth 20000 in
theorem b_Shelf_popInto_0_82 (cl : Nat → List Value → ds_St → Option ds_Out) (x1 : Nat) (z : ds_St) : ds_Rw ds_c_Shelf_popInto ds_u_Shelf_popInto cl 0 [some (.ref 82), some (.ref x1)] [] z =
  if (z.1 82 3) ≤ 0 then some (none, z) else (ds_cV cl j_Shelf_readInto [.ref 82, .int ((z.1 82 3) - 1), .ref x1] (ds_setI z 82 3 ((z.1 82 3) - 1)) fun z1 => some (none, z1)) :=
  (ds_Rw_stp 400 0 [some (.ref 82), some (.ref x1)] [] z).trans rfl
set_option maxRecDepth 20000 in
theorem b_Shelf_pushOver_0_80 (cl : Nat → List Value → ds_St → Option ds_Out) (x1 : Nat) (z : ds_St) : ds_Rw ds_c_Shelf_pushOver ds_u_Shelf_pushOver cl 0 [some (.ref 80), some (.ref x1)] [] z =
  (ds_cI cl j_Shelf_startOf [.ref 80, .int (z.1 80 3)] z fun r1 z1 => ds_isK x1 2 ((ds_cV cl j_Deck_writeTo [.ref x1, .ref 81, .int r1] z1 fun z2 => if (z2.1 80 0) ≤ (z2.1 80 3) then if (z2.1 80 0) ≤ ((z2.1 80 2) + 1) then some (none, (ds_setI z2 80 2 0)) else some (none, (ds_setI z2 80 2 ((z2.1 80 2) + 1))) else some (none, (ds_setI z2 80 3 ((z2.1 80 3) + 1)))))) :=
  (ds_Rw_stp 400 0 [some (.ref 80), some (.ref x1)] [] z).trans rfl
set_option maxRecDepth 20000 in
theorem b_Shelf_pushOver_0_82 (cl : Nat → List Value → ds_St → Option ds_Out) (x1 : Nat) (z : ds_St) : ds_Rw ds_c_Shelf_pushOver ds_u_Shelf_pushOver cl 0 [some (.ref 82), some (.ref x1)] [] z =
  (ds_cI cl j_Shelf_startOf [.ref 82, .int (z.1 82 3)] z fun r1 z1 => ds_isK x1 2 ((ds_cV cl j_Deck_writeTo [.ref x1, .ref 83, .int r1] z1 fun z2 => if (z2.1 82 0) ≤ (z2.1 82 3) then if (z2.1 82 0) ≤ ((z2.1 82 2) + 1) then some (none, (ds_setI z2 82 2 0)) else some (none, (ds_setI z2 82 2 ((z2.1 82 2) + 1))) else some (none, (ds_setI z2 82 3 ((z2.1 82 3) + 1)))))) :=
  (ds_Rw_stp 400 0 [some (.ref 82), some (.ref x1)] [] z).trans rfl
set_option maxRecDepth 20000 in
theorem b_Shelf_readInto_0_80 (cl : Nat → List Value → ds_St → Option ds_Out) (x1 : Int32) (x2 : Nat) (z : ds_St) : ds_Rw ds_c_Shelf_readInto ds_u_Shelf_readInto cl 0 [some (.ref 80), some (.int x1), some (.ref x2)] [] z =
  (ds_cI cl j_Shelf_startOf [.ref 80, .int x1] z fun r1 z1 => ds_isK x2 2 ((ds_cV cl j_Deck_readFrom [.ref x2, .ref 81, .int r1] z1 fun z2 => some (none, z2)))) :=
  (ds_Rw_stp 400 0 [some (.ref 80), some (.int x1), some (.ref x2)] [] z).trans rfl
set_option maxRecDepth 20000 in
theorem b_Shelf_readInto_0_82 (cl : Nat → List Value → ds_St → Option ds_Out) (x1 : Int32) (x2 : Nat) (z : ds_St) : ds_Rw ds_c_Shelf_readInto ds_u_Shelf_readInto cl 0 [some (.ref 82), some (.int x1), some (.ref x2)] [] z =
  (ds_cI cl j_Shelf_startOf [.ref 82, .int x1] z fun r1 z1 => ds_isK x2 2 ((ds_cV cl j_Deck_readFrom [.ref x2, .ref 83, .int r1] z1 fun z2 => some (none, z2)))) :=
  (ds_Rw_stp 400 0 [some (.ref 82), some (.int x1), some (.ref x2)] [] z).trans rfl
set_option maxRecDepth 20000 in
theorem b_Shelf_startOf_0_80 (cl : Nat → List Value → ds_St → Option ds_Out) (x1 : Int32) (z : ds_St) : ds_Rw ds_c_Shelf_startOf ds_u_Shelf_startOf cl 0 [some (.ref 80), some (.int x1)] [] z =
  if 1 ≤ (z.1 80 0) then ds_nz (z.1 80 0) (some (some (.int ((((z.1 80 2) + x1) - ((z.1 80 2) + x1) / (z.1 80 0) * (z.1 80 0)) * 14)), z)) else some (some (.int 0), z) :=
  (ds_Rw_stp 400 0 [some (.ref 80), some (.int x1)] [] z).trans rfl
set_option maxRecDepth 20000 in
theorem b_Shelf_startOf_0_82 (cl : Nat → List Value → ds_St → Option ds_Out) (x1 : Int32) (z : ds_St) : ds_Rw ds_c_Shelf_startOf ds_u_Shelf_startOf cl 0 [some (.ref 82), some (.int x1)] [] z =
  if 1 ≤ (z.1 82 0) then ds_nz (z.1 82 0) (some (some (.int ((((z.1 82 2) + x1) - ((z.1 82 2) + x1) / (z.1 82 0) * (z.1 82 0)) * 14)), z)) else some (some (.int 0), z) :=
  (ds_Rw_stp 400 0 [some (.ref 82), some (.int x1)] [] z).trans rfl
set_option maxRecDepth 20000 in
theorem b_Told_addFamily_0_10 (cl : Nat → List Value → ds_St → Option ds_Out) (x1 : Int32) (z : ds_St) : ds_Rw ds_c_Told_addFamily ds_u_Told_addFamily cl 0 [some (.ref 10), some (.int x1)] [] z =
  (ds_cV cl j_Sea_put [.ref 15, .int (z.1 10 9), .int x1] z fun z1 => some (none, (ds_setI z1 10 9 ((z1.1 10 9) + 1)))) :=
  (ds_Rw_stp 400 0 [some (.ref 10), some (.int x1)] [] z).trans rfl
set_option maxRecDepth 20000 in
theorem b_Told_addFamily_0_30 (cl : Nat → List Value → ds_St → Option ds_Out) (x1 : Int32) (z : ds_St) : ds_Rw ds_c_Told_addFamily ds_u_Told_addFamily cl 0 [some (.ref 30), some (.int x1)] [] z =
  (ds_cV cl j_Sea_put [.ref 35, .int (z.1 30 9), .int x1] z fun z1 => some (none, (ds_setI z1 30 9 ((z1.1 30 9) + 1)))) :=
  (ds_Rw_stp 400 0 [some (.ref 30), some (.int x1)] [] z).trans rfl
set_option maxRecDepth 20000 in
theorem b_Told_addIsland_0_10 (cl : Nat → List Value → ds_St → Option ds_Out) (x1 : Int32) (x2 : Int32) (x3 : Int32) (x4 : Int32) (z : ds_St) : ds_Rw ds_c_Told_addIsland ds_u_Told_addIsland cl 0 [some (.ref 10), some (.int x1), some (.int x2), some (.int x3), some (.int x4)] [] z =
  (ds_cV cl j_Sea_put [.ref 11, .int (z.1 10 4), .int x1] z fun z1 => (ds_cV cl j_Sea_put [.ref 12, .int (z1.1 10 4), .int x2] z1 fun z2 => (ds_cV cl j_Sea_put [.ref 13, .int (z2.1 10 4), .int x3] z2 fun z3 => (ds_cV cl j_Sea_put [.ref 14, .int (z3.1 10 4), .int x4] z3 fun z4 => some (none, (ds_setI z4 10 4 ((z4.1 10 4) + 1))))))) :=
  (ds_Rw_stp 400 0 [some (.ref 10), some (.int x1), some (.int x2), some (.int x3), some (.int x4)] [] z).trans rfl
set_option maxRecDepth 20000 in
theorem b_Told_addIsland_0_30 (cl : Nat → List Value → ds_St → Option ds_Out) (x1 : Int32) (x2 : Int32) (x3 : Int32) (x4 : Int32) (z : ds_St) : ds_Rw ds_c_Told_addIsland ds_u_Told_addIsland cl 0 [some (.ref 30), some (.int x1), some (.int x2), some (.int x3), some (.int x4)] [] z =
  (ds_cV cl j_Sea_put [.ref 31, .int (z.1 30 4), .int x1] z fun z1 => (ds_cV cl j_Sea_put [.ref 32, .int (z1.1 30 4), .int x2] z1 fun z2 => (ds_cV cl j_Sea_put [.ref 33, .int (z2.1 30 4), .int x3] z2 fun z3 => (ds_cV cl j_Sea_put [.ref 34, .int (z3.1 30 4), .int x4] z3 fun z4 => some (none, (ds_setI z4 30 4 ((z4.1 30 4) + 1))))))) :=
  (ds_Rw_stp 400 0 [some (.ref 30), some (.int x1), some (.int x2), some (.int x3), some (.int x4)] [] z).trans rfl
set_option maxRecDepth 20000 in
theorem b_Told_addShows_0_10 (cl : Nat → List Value → ds_St → Option ds_Out) (x1 : Int32) (x2 : Int32) (z : ds_St) : ds_Rw ds_c_Told_addShows ds_u_Told_addShows cl 0 [some (.ref 10), some (.int x1), some (.int x2)] [] z =
  (ds_cV cl j_Sea_put [.ref 18, .int (z.1 10 14), .int x1] z fun z1 => (ds_cV cl j_Sea_put [.ref 19, .int (z1.1 10 14), .int x2] z1 fun z2 => some (none, (ds_setI z2 10 14 ((z2.1 10 14) + 1))))) :=
  (ds_Rw_stp 400 0 [some (.ref 10), some (.int x1), some (.int x2)] [] z).trans rfl
set_option maxRecDepth 20000 in
theorem b_Told_addShows_0_30 (cl : Nat → List Value → ds_St → Option ds_Out) (x1 : Int32) (x2 : Int32) (z : ds_St) : ds_Rw ds_c_Told_addShows ds_u_Told_addShows cl 0 [some (.ref 30), some (.int x1), some (.int x2)] [] z =
  (ds_cV cl j_Sea_put [.ref 38, .int (z.1 30 14), .int x1] z fun z1 => (ds_cV cl j_Sea_put [.ref 39, .int (z1.1 30 14), .int x2] z1 fun z2 => some (none, (ds_setI z2 30 14 ((z2.1 30 14) + 1))))) :=
  (ds_Rw_stp 400 0 [some (.ref 30), some (.int x1), some (.int x2)] [] z).trans rfl
set_option maxRecDepth 20000 in
theorem b_Told_addWish_0_10 (cl : Nat → List Value → ds_St → Option ds_Out) (x1 : Int32) (x2 : Int32) (z : ds_St) : ds_Rw ds_c_Told_addWish ds_u_Told_addWish cl 0 [some (.ref 10), some (.int x1), some (.int x2)] [] z =
  (ds_cV cl j_Sea_put [.ref 16, .int (z.1 10 11), .int x1] z fun z1 => (ds_cV cl j_Sea_put [.ref 17, .int (z1.1 10 11), .int x2] z1 fun z2 => some (none, (ds_setI z2 10 11 ((z2.1 10 11) + 1))))) :=
  (ds_Rw_stp 400 0 [some (.ref 10), some (.int x1), some (.int x2)] [] z).trans rfl
set_option maxRecDepth 20000 in
theorem b_Told_addWish_0_30 (cl : Nat → List Value → ds_St → Option ds_Out) (x1 : Int32) (x2 : Int32) (z : ds_St) : ds_Rw ds_c_Told_addWish ds_u_Told_addWish cl 0 [some (.ref 30), some (.int x1), some (.int x2)] [] z =
  (ds_cV cl j_Sea_put [.ref 36, .int (z.1 30 11), .int x1] z fun z1 => (ds_cV cl j_Sea_put [.ref 37, .int (z1.1 30 11), .int x2] z1 fun z2 => some (none, (ds_setI z2 30 11 ((z2.1 30 11) + 1))))) :=
  (ds_Rw_stp 400 0 [some (.ref 30), some (.int x1), some (.int x2)] [] z).trans rfl
set_option maxRecDepth 20000 in
theorem b_Told_areNear_0_10 (cl : Nat → List Value → ds_St → Option ds_Out) (x1 : Int32) (x2 : Int32) (z : ds_St) : ds_Rw ds_c_Told_areNear ds_u_Told_areNear cl 0 [some (.ref 10), some (.int x1), some (.int x2)] [] z =
  if x1 < 0 then some (some (.int 0), z) else if 12 ≤ x1 then some (some (.int 0), z) else if x2 < 0 then some (some (.int 0), z) else if 12 ≤ x2 then some (some (.int 0), z) else ds_chk x1 12 (if ¬ (((z.1 20 x1.toNatClampNeg) >>> (x2 &&& 31)) &&& 1) = 1 then some (some (.int 0), z) else some (some (.int 1), z)) :=
  (ds_Rw_stp 400 0 [some (.ref 10), some (.int x1), some (.int x2)] [] z).trans rfl
set_option maxRecDepth 20000 in
theorem b_Told_areNear_0_30 (cl : Nat → List Value → ds_St → Option ds_Out) (x1 : Int32) (x2 : Int32) (z : ds_St) : ds_Rw ds_c_Told_areNear ds_u_Told_areNear cl 0 [some (.ref 30), some (.int x1), some (.int x2)] [] z =
  if x1 < 0 then some (some (.int 0), z) else if 12 ≤ x1 then some (some (.int 0), z) else if x2 < 0 then some (some (.int 0), z) else if 12 ≤ x2 then some (some (.int 0), z) else ds_chk x1 12 (if ¬ (((z.1 40 x1.toNatClampNeg) >>> (x2 &&& 31)) &&& 1) = 1 then some (some (.int 0), z) else some (some (.int 1), z)) :=
  (ds_Rw_stp 400 0 [some (.ref 30), some (.int x1), some (.int x2)] [] z).trans rfl
set_option maxRecDepth 20000 in
theorem b_Told_forget_0_10 (cl : Nat → List Value → ds_St → Option ds_Out)  (z : ds_St) : ds_Rw ds_c_Told_forget ds_u_Told_forget cl 0 [some (.ref 10)] [] z =
  some (none, (ds_setI (ds_setI (ds_setI (ds_setI z 10 4 0) 10 9 0) 10 11 0) 10 14 0)) :=
  (ds_Rw_stp 400 0 [some (.ref 10)] [] z).trans rfl
set_option maxRecDepth 20000 in
theorem b_Told_forget_0_30 (cl : Nat → List Value → ds_St → Option ds_Out)  (z : ds_St) : ds_Rw ds_c_Told_forget ds_u_Told_forget cl 0 [some (.ref 30)] [] z =
  some (none, (ds_setI (ds_setI (ds_setI (ds_setI z 30 4 0) 30 9 0) 30 11 0) 30 14 0)) :=
  (ds_Rw_stp 400 0 [some (.ref 30)] [] z).trans rfl
set_option maxRecDepth 20000 in
theorem b_Told_hasWish_0_10 (cl : Nat → List Value → ds_St → Option ds_Out) (x1 : Int32) (x2 : Int32) (z : ds_St) : ds_Rw ds_c_Told_hasWish ds_u_Told_hasWish cl 0 [some (.ref 10), some (.int x1), some (.int x2), none, none, none] [] z =
  ds_Rw ds_c_Told_hasWish ds_u_Told_hasWish cl 2 [some (.ref 10), some (.int x1), some (.int x2), some (.int 0), none, none] [] z :=
  (ds_Rw_stp 400 0 [some (.ref 10), some (.int x1), some (.int x2), none, none, none] [] z).trans rfl
set_option maxRecDepth 20000 in
theorem b_Told_hasWish_2_10 (cl : Nat → List Value → ds_St → Option ds_Out) (x1 : Int32) (x2 : Int32) (x3 : Int32) (z : ds_St) : ds_Rw ds_c_Told_hasWish ds_u_Told_hasWish cl 2 [some (.ref 10), some (.int x1), some (.int x2), some (.int x3), none, none] [] z =
  if (z.1 10 11) ≤ x3 then some (some (.int 0), z) else (ds_cI cl j_Sea_look [.ref 16, .int x3] z fun r1 z1 => (ds_cI cl j_Sea_look [.ref 17, .int x3] z1 fun r2 z2 => if ¬ r1 = x1 then ds_Rw ds_c_Told_hasWish ds_u_Told_hasWish cl 42 [some (.ref 10), some (.int x1), some (.int x2), some (.int x3), some (.int r1), some (.int r2)] [] z2 else if r2 = x2 then some (some (.int 1), z2) else ds_Rw ds_c_Told_hasWish ds_u_Told_hasWish cl 42 [some (.ref 10), some (.int x1), some (.int x2), some (.int x3), some (.int r1), some (.int r2)] [] z2)) :=
  (ds_Rw_stp 400 2 [some (.ref 10), some (.int x1), some (.int x2), some (.int x3), none, none] [] z).trans rfl
set_option maxRecDepth 20000 in
theorem b_Told_hasWish_42_10 (cl : Nat → List Value → ds_St → Option ds_Out) (x1 : Int32) (x2 : Int32) (x3 : Int32) (x4 : Int32) (x5 : Int32) (z : ds_St) : ds_Rw ds_c_Told_hasWish ds_u_Told_hasWish cl 42 [some (.ref 10), some (.int x1), some (.int x2), some (.int x3), some (.int x4), some (.int x5)] [] z =
  if ¬ x4 = x2 then ds_Rw ds_c_Told_hasWish ds_u_Told_hasWish cl 2 [some (.ref 10), some (.int x1), some (.int x2), some (.int (x3 + 1)), none, none] [] z else if ¬ x5 = x1 then ds_Rw ds_c_Told_hasWish ds_u_Told_hasWish cl 2 [some (.ref 10), some (.int x1), some (.int x2), some (.int (x3 + 1)), none, none] [] z else some (some (.int 1), z) :=
  (ds_Rw_stp 400 42 [some (.ref 10), some (.int x1), some (.int x2), some (.int x3), some (.int x4), some (.int x5)] [] z).trans rfl
set_option maxRecDepth 20000 in
theorem b_Told_hasWish_0_30 (cl : Nat → List Value → ds_St → Option ds_Out) (x1 : Int32) (x2 : Int32) (z : ds_St) : ds_Rw ds_c_Told_hasWish ds_u_Told_hasWish cl 0 [some (.ref 30), some (.int x1), some (.int x2), none, none, none] [] z =
  ds_Rw ds_c_Told_hasWish ds_u_Told_hasWish cl 2 [some (.ref 30), some (.int x1), some (.int x2), some (.int 0), none, none] [] z :=
  (ds_Rw_stp 400 0 [some (.ref 30), some (.int x1), some (.int x2), none, none, none] [] z).trans rfl
set_option maxRecDepth 20000 in
theorem b_Told_hasWish_2_30 (cl : Nat → List Value → ds_St → Option ds_Out) (x1 : Int32) (x2 : Int32) (x3 : Int32) (z : ds_St) : ds_Rw ds_c_Told_hasWish ds_u_Told_hasWish cl 2 [some (.ref 30), some (.int x1), some (.int x2), some (.int x3), none, none] [] z =
  if (z.1 30 11) ≤ x3 then some (some (.int 0), z) else (ds_cI cl j_Sea_look [.ref 36, .int x3] z fun r1 z1 => (ds_cI cl j_Sea_look [.ref 37, .int x3] z1 fun r2 z2 => if ¬ r1 = x1 then ds_Rw ds_c_Told_hasWish ds_u_Told_hasWish cl 42 [some (.ref 30), some (.int x1), some (.int x2), some (.int x3), some (.int r1), some (.int r2)] [] z2 else if r2 = x2 then some (some (.int 1), z2) else ds_Rw ds_c_Told_hasWish ds_u_Told_hasWish cl 42 [some (.ref 30), some (.int x1), some (.int x2), some (.int x3), some (.int r1), some (.int r2)] [] z2)) :=
  (ds_Rw_stp 400 2 [some (.ref 30), some (.int x1), some (.int x2), some (.int x3), none, none] [] z).trans rfl
set_option maxRecDepth 20000 in
theorem b_Told_hasWish_42_30 (cl : Nat → List Value → ds_St → Option ds_Out) (x1 : Int32) (x2 : Int32) (x3 : Int32) (x4 : Int32) (x5 : Int32) (z : ds_St) : ds_Rw ds_c_Told_hasWish ds_u_Told_hasWish cl 42 [some (.ref 30), some (.int x1), some (.int x2), some (.int x3), some (.int x4), some (.int x5)] [] z =
  if ¬ x4 = x2 then ds_Rw ds_c_Told_hasWish ds_u_Told_hasWish cl 2 [some (.ref 30), some (.int x1), some (.int x2), some (.int (x3 + 1)), none, none] [] z else if ¬ x5 = x1 then ds_Rw ds_c_Told_hasWish ds_u_Told_hasWish cl 2 [some (.ref 30), some (.int x1), some (.int x2), some (.int (x3 + 1)), none, none] [] z else some (some (.int 1), z) :=
  (ds_Rw_stp 400 42 [some (.ref 30), some (.int x1), some (.int x2), some (.int x3), some (.int x4), some (.int x5)] [] z).trans rfl
set_option maxRecDepth 20000 in
theorem b_Told_isCorner_0_10 (cl : Nat → List Value → ds_St → Option ds_Out) (x1 : Int32) (z : ds_St) : ds_Rw ds_c_Told_isCorner ds_u_Told_isCorner cl 0 [some (.ref 10), some (.int x1)] [] z =
  if x1 = 0 then some (some (.int 1), z) else if x1 = ((z.1 10 0) - 1) then some (some (.int 1), z) else (ds_cI cl j_Told_room [.ref 10] z fun r1 z1 => if x1 = (r1 - (z1.1 10 0)) then some (some (.int 1), z1) else (ds_cI cl j_Told_room [.ref 10] z1 fun r2 z2 => if ¬ x1 = (r2 - 1) then some (some (.int 0), z2) else some (some (.int 1), z2))) :=
  (ds_Rw_stp 400 0 [some (.ref 10), some (.int x1)] [] z).trans rfl
set_option maxRecDepth 20000 in
theorem b_Told_isCorner_0_30 (cl : Nat → List Value → ds_St → Option ds_Out) (x1 : Int32) (z : ds_St) : ds_Rw ds_c_Told_isCorner ds_u_Told_isCorner cl 0 [some (.ref 30), some (.int x1)] [] z =
  if x1 = 0 then some (some (.int 1), z) else if x1 = ((z.1 30 0) - 1) then some (some (.int 1), z) else (ds_cI cl j_Told_room [.ref 30] z fun r1 z1 => if x1 = (r1 - (z1.1 30 0)) then some (some (.int 1), z1) else (ds_cI cl j_Told_room [.ref 30] z1 fun r2 z2 => if ¬ x1 = (r2 - 1) then some (some (.int 0), z2) else some (some (.int 1), z2))) :=
  (ds_Rw_stp 400 0 [some (.ref 30), some (.int x1)] [] z).trans rfl
set_option maxRecDepth 20000 in
theorem b_Told_isJoker_0_10 (cl : Nat → List Value → ds_St → Option ds_Out) (x1 : Int32) (z : ds_St) : ds_Rw ds_c_Told_isJoker ds_u_Told_isJoker cl 0 [some (.ref 10), some (.int x1)] [] z =
  (ds_cI cl j_Sea_look [.ref 11, .int x1] z fun r1 z1 => if ¬ r1 = 2 then some (some (.int 0), z1) else some (some (.int 1), z1)) :=
  (ds_Rw_stp 400 0 [some (.ref 10), some (.int x1)] [] z).trans rfl
set_option maxRecDepth 20000 in
theorem b_Told_isJoker_0_30 (cl : Nat → List Value → ds_St → Option ds_Out) (x1 : Int32) (z : ds_St) : ds_Rw ds_c_Told_isJoker ds_u_Told_isJoker cl 0 [some (.ref 30), some (.int x1)] [] z =
  (ds_cI cl j_Sea_look [.ref 31, .int x1] z fun r1 z1 => if ¬ r1 = 2 then some (some (.int 0), z1) else some (some (.int 1), z1)) :=
  (ds_Rw_stp 400 0 [some (.ref 30), some (.int x1)] [] z).trans rfl
set_option maxRecDepth 20000 in
theorem b_Told_neighbours_0_10 (cl : Nat → List Value → ds_St → Option ds_Out) (x1 : Int32) (x2 : Int32) (z : ds_St) : ds_Rw ds_c_Told_neighbours ds_u_Told_neighbours cl 0 [some (.ref 10), some (.int x1), some (.int x2)] [] z =
  if (z.1 10 0) < 1 then some (some (.int 0), z) else if ¬ (z.1 10 3) = 1 then ds_Rw ds_c_Told_neighbours ds_u_Told_neighbours cl 34 [some (.ref 10), some (.int x1), some (.int x2)] [] z else (ds_cI cl j_Told_isCorner [.ref 10, .int x1] z fun r1 z1 => if ¬ r1 = 0 then some (some (.int 0), z1) else (ds_cI cl j_Told_isCorner [.ref 10, .int x2] z1 fun r2 z2 => if r2 = 0 then ds_Rw ds_c_Told_neighbours ds_u_Told_neighbours cl 34 [some (.ref 10), some (.int x1), some (.int x2)] [] z2 else some (some (.int 0), z2))) :=
  (ds_Rw_stp 400 0 [some (.ref 10), some (.int x1), some (.int x2)] [] z).trans rfl
set_option maxRecDepth 20000 in
theorem b_Told_neighbours_34_10 (cl : Nat → List Value → ds_St → Option ds_Out) (x1 : Int32) (x2 : Int32) (z : ds_St) : ds_Rw ds_c_Told_neighbours ds_u_Told_neighbours cl 34 [some (.ref 10), some (.int x1), some (.int x2)] [] z =
  ds_nz (z.1 10 0) (ds_nz (z.1 10 0) ((ds_cI cl j_Math_abs [.int ((x1 - x1 / (z.1 10 0) * (z.1 10 0)) - (x2 - x2 / (z.1 10 0) * (z.1 10 0)))] z fun r1 z1 => ds_nz (z1.1 10 0) (ds_nz (z1.1 10 0) ((ds_cI cl j_Math_abs [.int ((x1 / (z1.1 10 0)) - (x2 / (z1.1 10 0)))] z1 fun r2 z2 => if ¬ (r1 + r2) = 1 then some (some (.int 0), z2) else some (some (.int 1), z2))))))) :=
  (ds_Rw_stp 400 34 [some (.ref 10), some (.int x1), some (.int x2)] [] z).trans rfl
set_option maxRecDepth 20000 in
theorem b_Told_neighbours_0_30 (cl : Nat → List Value → ds_St → Option ds_Out) (x1 : Int32) (x2 : Int32) (z : ds_St) : ds_Rw ds_c_Told_neighbours ds_u_Told_neighbours cl 0 [some (.ref 30), some (.int x1), some (.int x2)] [] z =
  if (z.1 30 0) < 1 then some (some (.int 0), z) else if ¬ (z.1 30 3) = 1 then ds_Rw ds_c_Told_neighbours ds_u_Told_neighbours cl 34 [some (.ref 30), some (.int x1), some (.int x2)] [] z else (ds_cI cl j_Told_isCorner [.ref 30, .int x1] z fun r1 z1 => if ¬ r1 = 0 then some (some (.int 0), z1) else (ds_cI cl j_Told_isCorner [.ref 30, .int x2] z1 fun r2 z2 => if r2 = 0 then ds_Rw ds_c_Told_neighbours ds_u_Told_neighbours cl 34 [some (.ref 30), some (.int x1), some (.int x2)] [] z2 else some (some (.int 0), z2))) :=
  (ds_Rw_stp 400 0 [some (.ref 30), some (.int x1), some (.int x2)] [] z).trans rfl
set_option maxRecDepth 20000 in
theorem b_Told_neighbours_34_30 (cl : Nat → List Value → ds_St → Option ds_Out) (x1 : Int32) (x2 : Int32) (z : ds_St) : ds_Rw ds_c_Told_neighbours ds_u_Told_neighbours cl 34 [some (.ref 30), some (.int x1), some (.int x2)] [] z =
  ds_nz (z.1 30 0) (ds_nz (z.1 30 0) ((ds_cI cl j_Math_abs [.int ((x1 - x1 / (z.1 30 0) * (z.1 30 0)) - (x2 - x2 / (z.1 30 0) * (z.1 30 0)))] z fun r1 z1 => ds_nz (z1.1 30 0) (ds_nz (z1.1 30 0) ((ds_cI cl j_Math_abs [.int ((x1 / (z1.1 30 0)) - (x2 / (z1.1 30 0)))] z1 fun r2 z2 => if ¬ (r1 + r2) = 1 then some (some (.int 0), z2) else some (some (.int 1), z2))))))) :=
  (ds_Rw_stp 400 34 [some (.ref 30), some (.int x1), some (.int x2)] [] z).trans rfl
set_option maxRecDepth 20000 in
theorem b_Told_room_0_10 (cl : Nat → List Value → ds_St → Option ds_Out)  (z : ds_St) : ds_Rw ds_c_Told_room ds_u_Told_room cl 0 [some (.ref 10)] [] z =
  some (some (.int ((z.1 10 0) * (z.1 10 1))), z) :=
  (ds_Rw_stp 400 0 [some (.ref 10)] [] z).trans rfl
set_option maxRecDepth 20000 in
theorem b_Told_room_0_30 (cl : Nat → List Value → ds_St → Option ds_Out)  (z : ds_St) : ds_Rw ds_c_Told_room ds_u_Told_room cl 0 [some (.ref 30)] [] z =
  some (some (.int ((z.1 30 0) * (z.1 30 1))), z) :=
  (ds_Rw_stp 400 0 [some (.ref 30)] [] z).trans rfl
set_option maxRecDepth 20000 in
theorem b_Told_settle_0_10 (cl : Nat → List Value → ds_St → Option ds_Out)  (z : ds_St) : ds_Rw ds_c_Told_settle ds_u_Told_settle cl 0 [some (.ref 10), none, none] [] z =
  (ds_cV cl j_Arrays_fill [.ref 20, .int 0] z fun z1 => ds_Rw ds_c_Told_settle ds_u_Told_settle cl 10 [some (.ref 10), some (.int 0), none] [] z1) :=
  (ds_Rw_stp 400 0 [some (.ref 10), none, none] [] z).trans rfl
set_option maxRecDepth 20000 in
theorem b_Told_settle_10_10 (cl : Nat → List Value → ds_St → Option ds_Out) (x1 : Int32) (z : ds_St) : ds_Rw ds_c_Told_settle ds_u_Told_settle cl 10 [some (.ref 10), some (.int x1), none] [] z =
  (ds_cI cl j_Told_room [.ref 10] z fun r1 z1 => if r1 ≤ x1 then some (none, z1) else ds_Rw ds_c_Told_settle ds_u_Told_settle cl 20 [some (.ref 10), some (.int x1), some (.int 0)] [] z1) :=
  (ds_Rw_stp 400 10 [some (.ref 10), some (.int x1), none] [] z).trans rfl
set_option maxRecDepth 20000 in
theorem b_Told_settle_20_10 (cl : Nat → List Value → ds_St → Option ds_Out) (x1 : Int32) (x2 : Int32) (z : ds_St) : ds_Rw ds_c_Told_settle ds_u_Told_settle cl 20 [some (.ref 10), some (.int x1), some (.int x2)] [] z =
  (ds_cI cl j_Told_room [.ref 10] z fun r1 z1 => if r1 ≤ x2 then ds_Rw ds_c_Told_settle ds_u_Told_settle cl 10 [some (.ref 10), some (.int (x1 + 1)), none] [] z1 else (ds_cI cl j_Told_neighbours [.ref 10, .int x1, .int x2] z1 fun r2 z2 => if r2 = 0 then ds_Rw ds_c_Told_settle ds_u_Told_settle cl 20 [some (.ref 10), some (.int x1), some (.int (x2 + 1))] [] z2 else (ds_cI cl j_Sea_look [.ref 20, .int x1] z2 fun r3 z3 => (ds_cV cl j_Sea_put [.ref 20, .int x1, .int (r3 ||| (1 <<< (x2 &&& 31)))] z3 fun z4 => ds_Rw ds_c_Told_settle ds_u_Told_settle cl 20 [some (.ref 10), some (.int x1), some (.int (x2 + 1))] [] z4)))) :=
  (ds_Rw_stp 400 20 [some (.ref 10), some (.int x1), some (.int x2)] [] z).trans rfl
set_option maxRecDepth 20000 in
theorem b_Told_settle_0_30 (cl : Nat → List Value → ds_St → Option ds_Out)  (z : ds_St) : ds_Rw ds_c_Told_settle ds_u_Told_settle cl 0 [some (.ref 30), none, none] [] z =
  (ds_cV cl j_Arrays_fill [.ref 40, .int 0] z fun z1 => ds_Rw ds_c_Told_settle ds_u_Told_settle cl 10 [some (.ref 30), some (.int 0), none] [] z1) :=
  (ds_Rw_stp 400 0 [some (.ref 30), none, none] [] z).trans rfl
set_option maxRecDepth 20000 in
theorem b_Told_settle_10_30 (cl : Nat → List Value → ds_St → Option ds_Out) (x1 : Int32) (z : ds_St) : ds_Rw ds_c_Told_settle ds_u_Told_settle cl 10 [some (.ref 30), some (.int x1), none] [] z =
  (ds_cI cl j_Told_room [.ref 30] z fun r1 z1 => if r1 ≤ x1 then some (none, z1) else ds_Rw ds_c_Told_settle ds_u_Told_settle cl 20 [some (.ref 30), some (.int x1), some (.int 0)] [] z1) :=
  (ds_Rw_stp 400 10 [some (.ref 30), some (.int x1), none] [] z).trans rfl
set_option maxRecDepth 20000 in
theorem b_Told_settle_20_30 (cl : Nat → List Value → ds_St → Option ds_Out) (x1 : Int32) (x2 : Int32) (z : ds_St) : ds_Rw ds_c_Told_settle ds_u_Told_settle cl 20 [some (.ref 30), some (.int x1), some (.int x2)] [] z =
  (ds_cI cl j_Told_room [.ref 30] z fun r1 z1 => if r1 ≤ x2 then ds_Rw ds_c_Told_settle ds_u_Told_settle cl 10 [some (.ref 30), some (.int (x1 + 1)), none] [] z1 else (ds_cI cl j_Told_neighbours [.ref 30, .int x1, .int x2] z1 fun r2 z2 => if r2 = 0 then ds_Rw ds_c_Told_settle ds_u_Told_settle cl 20 [some (.ref 30), some (.int x1), some (.int (x2 + 1))] [] z2 else (ds_cI cl j_Sea_look [.ref 40, .int x1] z2 fun r3 z3 => (ds_cV cl j_Sea_put [.ref 40, .int x1, .int (r3 ||| (1 <<< (x2 &&& 31)))] z3 fun z4 => ds_Rw ds_c_Told_settle ds_u_Told_settle cl 20 [some (.ref 30), some (.int x1), some (.int (x2 + 1))] [] z4)))) :=
  (ds_Rw_stp 400 20 [some (.ref 30), some (.int x1), some (.int x2)] [] z).trans rfl
set_option maxRecDepth 20000 in
theorem b_Told_worth_0_10 (cl : Nat → List Value → ds_St → Option ds_Out) (x1 : Int32) (x2 : Int32) (z : ds_St) : ds_Rw ds_c_Told_worth ds_u_Told_worth cl 0 [some (.ref 10), some (.int x1), some (.int x2), none, none, none] [] z =
  (ds_cI cl j_Sea_look [.ref 11, .int x1] z fun r1 z1 => (ds_cI cl j_Sea_look [.ref 11, .int x2] z1 fun r2 z2 => if r1 = 2 then some (some (.int 0), z2) else if r2 = 2 then some (some (.int 0), z2) else (ds_cI cl j_Sea_look [.ref 12, .int x1] z2 fun r3 z3 => (ds_cI cl j_Sea_look [.ref 12, .int x2] z3 fun r4 z4 => if r3 = r4 then (ds_cI cl j_Sea_look [.ref 12, .int x1] z4 fun r5 z5 => if ¬ r5 = (z5.1 10 2) then ds_Rw ds_c_Told_worth ds_u_Told_worth cl 71 [none, none, none, some (.int r1), some (.int r2), none] [.int 1] z5 else ds_Rw ds_c_Told_worth ds_u_Told_worth cl 71 [none, none, none, some (.int r1), some (.int r2), none] [.int 2] z5) else some (some (.int 0), z4))))) :=
  (ds_Rw_stp 400 0 [some (.ref 10), some (.int x1), some (.int x2), none, none, none] [] z).trans rfl
set_option maxRecDepth 20000 in
theorem b_Told_worth_71_10 (cl : Nat → List Value → ds_St → Option ds_Out) (x3 : Int32) (x4 : Int32) (s0 : Int32) (z : ds_St) : ds_Rw ds_c_Told_worth ds_u_Told_worth cl 71 [none, none, none, some (.int x3), some (.int x4), none] [.int s0] z =
  if x3 = 1 then some (some (.int (s0 + 1)), z) else if ¬ x4 = 1 then some (some (.int s0), z) else some (some (.int (s0 + 1)), z) :=
  (ds_Rw_stp 400 71 [none, none, none, some (.int x3), some (.int x4), none] [.int s0] z).trans rfl
set_option maxRecDepth 20000 in
theorem b_Told_worth_0_30 (cl : Nat → List Value → ds_St → Option ds_Out) (x1 : Int32) (x2 : Int32) (z : ds_St) : ds_Rw ds_c_Told_worth ds_u_Told_worth cl 0 [some (.ref 30), some (.int x1), some (.int x2), none, none, none] [] z =
  (ds_cI cl j_Sea_look [.ref 31, .int x1] z fun r1 z1 => (ds_cI cl j_Sea_look [.ref 31, .int x2] z1 fun r2 z2 => if r1 = 2 then some (some (.int 0), z2) else if r2 = 2 then some (some (.int 0), z2) else (ds_cI cl j_Sea_look [.ref 32, .int x1] z2 fun r3 z3 => (ds_cI cl j_Sea_look [.ref 32, .int x2] z3 fun r4 z4 => if r3 = r4 then (ds_cI cl j_Sea_look [.ref 32, .int x1] z4 fun r5 z5 => if ¬ r5 = (z5.1 30 2) then ds_Rw ds_c_Told_worth ds_u_Told_worth cl 71 [none, none, none, some (.int r1), some (.int r2), none] [.int 1] z5 else ds_Rw ds_c_Told_worth ds_u_Told_worth cl 71 [none, none, none, some (.int r1), some (.int r2), none] [.int 2] z5) else some (some (.int 0), z4))))) :=
  (ds_Rw_stp 400 0 [some (.ref 30), some (.int x1), some (.int x2), none, none, none] [] z).trans rfl
set_option maxRecDepth 20000 in
theorem b_Told_worth_71_30 (cl : Nat → List Value → ds_St → Option ds_Out) (x3 : Int32) (x4 : Int32) (s0 : Int32) (z : ds_St) : ds_Rw ds_c_Told_worth ds_u_Told_worth cl 71 [none, none, none, some (.int x3), some (.int x4), none] [.int s0] z =
  if x3 = 1 then some (some (.int (s0 + 1)), z) else if ¬ x4 = 1 then some (some (.int s0), z) else some (some (.int (s0 + 1)), z) :=
  (ds_Rw_stp 400 71 [none, none, none, some (.int x3), some (.int x4), none] [.int s0] z).trans rfl
