set_option maxRecDepth 20000 in
theorem b_Mod_after_0 (cl : Nat → List Value → ds_St → Option ds_Out) (x1 : Nat) (x2 : Int32) (x3 : Int32) (z : ds_St) : ds_Rw ds_c_Mod_after ds_u_Mod_after cl 0 [some (.ref 90), some (.ref x1), some (.int x2), some (.int x3)] [] z =
  (ds_cV cl j_Mod_must [.ref 90, .ref x1] z fun z1 => (ds_cI cl j_Mod_number [.ref 90, .int x2, .int x3] z1 fun r2 z2 => some (some (.int r2), z2))) := (ds_Rw_stp 400 0 [some (.ref 90), some (.ref x1), some (.int x2), some (.int x3)] [] z).trans rfl
set_option maxRecDepth 20000 in
theorem b_Mod_again_0 (cl : Nat → List Value → ds_St → Option ds_Out)  (z : ds_St) : ds_Rw ds_c_Mod_again ds_u_Mod_again cl 0 [some (.ref 90)] [] z =
  (ds_cV cl j_Mod_good [.ref 90] z fun z1 => if (z1.1 90 14) = 0 then (ds_cI cl j_Mod_no [.ref 90, .int 1] z1 fun r2 z2 => some (some (.int r2), z2))
    else (ds_cI cl j_Mod_same [.ref 90, .int 0, .int 1] z1 fun r3 z3 => some (some (.int r3), z3))) := (ds_Rw_stp 400 0 [some (.ref 90)] [] z).trans rfl
set_option maxRecDepth 20000 in
theorem b_Mod_alike_0 (cl : Nat → List Value → ds_St → Option ds_Out) (x1 : Int32) (x2 : Int32) (z : ds_St) : ds_Rw ds_c_Mod_alike ds_u_Mod_alike cl 0 [some (.ref 90), some (.int x1), some (.int x2), none, none, none, none, none, none] [] z =
  (ds_cV cl j_Mod_good [.ref 90] z fun z1 => (ds_cI cl j_Mod_isInDeck [.ref 90, .int x1] z1 fun r2 z2 => if ¬ r2 = 0 then (ds_cI cl j_Mod_in [.int x2, .int 0, .int 100] z2 fun r3 z3 => if ¬ r3 = 0 then (ds_cV cl j_Mod_layWays [.ref 90, .int x1, .int 0] z3 fun z4 => ds_Rw ds_c_Mod_alike ds_u_Mod_alike cl 42 [some (.ref 90), none, some (.int x2), some (.int 0), none, none, none, none, none] [] z4)
          else (ds_cI cl j_Mod_no [.ref 90, .int 2] z3 fun r5 z5 => some (some (.int r5), z5)))
      else (ds_cI cl j_Mod_no [.ref 90, .int 1] z2 fun r6 z6 => some (some (.int r6), z6)))) := (ds_Rw_stp 400 0 [some (.ref 90), some (.int x1), some (.int x2), none, none, none, none, none, none] [] z).trans rfl
set_option maxRecDepth 20000 in
theorem b_Mod_alike_42 (cl : Nat → List Value → ds_St → Option ds_Out) (x2 : Int32) (x3 : Int32) (z : ds_St) : ds_Rw ds_c_Mod_alike ds_u_Mod_alike cl 42 [some (.ref 90), none, some (.int x2), some (.int x3), none, none, none, none, none] [] z =
  if 8 < x3 then some (some (.int (-2)), z)
  else ds_Rw ds_c_Mod_alike ds_u_Mod_alike cl 67 [some (.ref 90), none, some (.int x2), some (.int x3), some (.long (z.2.1 105 0)), none, some (.long (z.2.1 105 0)), none, some (.int 1)] [] z := (ds_Rw_stp 400 42 [some (.ref 90), none, some (.int x2), some (.int x3), none, none, none, none, none] [] z).trans rfl
set_option maxRecDepth 20000 in
theorem b_Mod_alike_67 (cl : Nat → List Value → ds_St → Option ds_Out) (x2 : Int32) (x3 : Int32) (x4 : Int64) (x6 : Int64) (x8 : Int32) (z : ds_St) : ds_Rw ds_c_Mod_alike ds_u_Mod_alike cl 67 [some (.ref 90), none, some (.int x2), some (.int x3), some (.long x4), none, some (.long x6), none, some (.int x8)] [] z =
  if (z.1 95 12) ≤ x8 then (ds_cL cl j_Mod_allWays [.ref 90, .int x3] z fun r1 z1 => if 0 < (lg_cmp (100 * (x4 - x6)) (x2.toInt64 * r1)) then (ds_cV cl j_Mod_oneMore [.ref 90] z1 fun z2 => ds_Rw ds_c_Mod_alike ds_u_Mod_alike cl 42 [some (.ref 90), none, some (.int x2), some (.int (x3 + 1)), none, none, none, none, none] [] z2)
        else some (some (.int x3), z1))
    else if ds_in x8 12 = true then if (lg_cmp (z.2.1 105 x8.toNatClampNeg) x4) ≤ 0 then ds_Rw ds_c_Mod_alike ds_u_Mod_alike cl 104 [some (.ref 90), none, some (.int x2), some (.int x3), none, none, some (.long x6), none, some (.int x8)] [.long x4] z
        else if ds_in x8 12 = true then ds_Rw ds_c_Mod_alike ds_u_Mod_alike cl 104 [some (.ref 90), none, some (.int x2), some (.int x3), none, none, some (.long x6), none, some (.int x8)] [.long (z.2.1 105 x8.toNatClampNeg)] z
          else none
      else none := (ds_Rw_stp 400 67 [some (.ref 90), none, some (.int x2), some (.int x3), some (.long x4), none, some (.long x6), none, some (.int x8)] [] z).trans rfl
set_option maxRecDepth 20000 in
theorem b_Mod_alike_104 (cl : Nat → List Value → ds_St → Option ds_Out) (x2 : Int32) (x3 : Int32) (x6 : Int64) (x8 : Int32) (s0 : Int64) (z : ds_St) : ds_Rw ds_c_Mod_alike ds_u_Mod_alike cl 104 [some (.ref 90), none, some (.int x2), some (.int x3), none, none, some (.long x6), none, some (.int x8)] [.long s0] z =
  if ds_in x8 12 = true then if 0 ≤ (lg_cmp (z.2.1 105 x8.toNatClampNeg) x6) then ds_Rw ds_c_Mod_alike ds_u_Mod_alike cl 67 [some (.ref 90), none, some (.int x2), some (.int x3), some (.long s0), none, some (.long x6), none, some (.int (x8 + 1))] [] z
    else if ds_in x8 12 = true then ds_Rw ds_c_Mod_alike ds_u_Mod_alike cl 67 [some (.ref 90), none, some (.int x2), some (.int x3), some (.long s0), none, some (.long (z.2.1 105 x8.toNatClampNeg)), none, some (.int (x8 + 1))] [] z
      else none
  else none := (ds_Rw_stp 400 104 [some (.ref 90), none, some (.int x2), some (.int x3), none, none, some (.long x6), none, some (.int x8)] [.long s0] z).trans rfl
set_option maxRecDepth 20000 in
theorem b_Mod_allWays_0 (cl : Nat → List Value → ds_St → Option ds_Out) (x1 : Int32) (z : ds_St) : ds_Rw ds_c_Mod_allWays ds_u_Mod_allWays cl 0 [some (.ref 90), some (.int x1), none, none, none] [] z =
  ds_Rw ds_c_Mod_allWays ds_u_Mod_allWays cl 5 [some (.ref 90), some (.int x1), some (.long 1), none, some (.int 0)] [] z := (ds_Rw_stp 400 0 [some (.ref 90), some (.int x1), none, none, none] [] z).trans rfl
set_option maxRecDepth 20000 in
theorem b_Mod_allWays_5 (cl : Nat → List Value → ds_St → Option ds_Out) (x1 : Int32) (x2 : Int64) (x4 : Int32) (z : ds_St) : ds_Rw ds_c_Mod_allWays ds_u_Mod_allWays cl 5 [some (.ref 90), some (.int x1), some (.long x2), none, some (.int x4)] [] z =
  if x1 ≤ x4 then some (some (.long x2), z)
  else (ds_cI cl j_Mod_movesOf [.ref 90, .ref 95] z fun r1 z1 => ds_Rw ds_c_Mod_allWays ds_u_Mod_allWays cl 5 [some (.ref 90), some (.int x1), some (.long (x2 * r1.toInt64)), none, some (.int (x4 + 1))] [] z1) := (ds_Rw_stp 400 5 [some (.ref 90), some (.int x1), some (.long x2), none, some (.int x4)] [] z).trans rfl
set_option maxRecDepth 20000 in
theorem b_Mod_areBeside_0 (cl : Nat → List Value → ds_St → Option ds_Out) (x1 : Int32) (x2 : Int32) (x3 : Int32) (z : ds_St) : ds_Rw ds_c_Mod_areBeside ds_u_Mod_areBeside cl 0 [some (.ref 90), some (.int x1), some (.int x2), some (.int x3), none, none] [] z =
  (ds_cI cl j_Mod_room [.ref 90] z fun r1 z1 => (ds_cI cl j_Mod_in [.int x1, .int 0, .int (r1 - 1)] z1 fun r2 z2 => if r2 = 0 then some (some (.int 0), z2)
      else (ds_cI cl j_Mod_room [.ref 90] z2 fun r3 z3 => (ds_cI cl j_Mod_in [.int x2, .int 0, .int (r3 - 1)] z3 fun r4 z4 => if r4 = 0 then some (some (.int 0), z4)
            else if x3 ≤ x1 then some (some (.int 0), z4)
              else if x2 < x3 then if ¬ (z4.1 93 3) = 1 then ds_Rw ds_c_Mod_areBeside ds_u_Mod_areBeside cl 68 [some (.ref 90), some (.int x1), some (.int x2), none, none, none] [] z4
                    else (ds_cI cl j_Mod_isCorner [.ref 90, .int x1] z4 fun r5 z5 => if ¬ r5 = 0 then some (some (.int 0), z5)
                        else (ds_cI cl j_Mod_isCorner [.ref 90, .int x2] z5 fun r6 z6 => if r6 = 0 then ds_Rw ds_c_Mod_areBeside ds_u_Mod_areBeside cl 68 [some (.ref 90), some (.int x1), some (.int x2), none, none, none] [] z6
                            else some (some (.int 0), z6)))
                else some (some (.int 0), z4))))) := (ds_Rw_stp 400 0 [some (.ref 90), some (.int x1), some (.int x2), some (.int x3), none, none] [] z).trans rfl
set_option maxRecDepth 20000 in
theorem b_Mod_areBeside_68 (cl : Nat → List Value → ds_St → Option ds_Out) (x1 : Int32) (x2 : Int32) (z : ds_St) : ds_Rw ds_c_Mod_areBeside ds_u_Mod_areBeside cl 68 [some (.ref 90), some (.int x1), some (.int x2), none, none, none] [] z =
  if ¬ (z.1 93 0) = 0 then if ¬ (z.1 93 0) = 0 then if ¬ (z.1 93 0) = 0 then if ¬ (z.1 93 0) = 0 then if ¬ ((((x1 - x1 / (z.1 93 0) * (z.1 93 0)) - (x2 - x2 / (z.1 93 0) * (z.1 93 0))) * ((x1 - x1 / (z.1 93 0) * (z.1 93 0)) - (x2 - x2 / (z.1 93 0) * (z.1 93 0)))) + (((x1 / (z.1 93 0)) - (x2 / (z.1 93 0))) * ((x1 / (z.1 93 0)) - (x2 / (z.1 93 0))))) = 1 then some (some (.int 0), z)
                  else some (some (.int 1), z)
                else none
            else none
        else none
    else none := (ds_Rw_stp 400 68 [some (.ref 90), some (.int x1), some (.int x2), none, none, none] [] z).trans rfl
set_option maxRecDepth 20000 in
theorem b_Mod_areGoods_0 (cl : Nat → List Value → ds_St → Option ds_Out) (x1 : Int32) (x2 : Int32) (z : ds_St) : ds_Rw ds_c_Mod_areGoods ds_u_Mod_areGoods cl 0 [some (.ref 90), some (.int x1), some (.int x2)] [] z =
  if (z.1 90 14) = 0 then some (some (.int 0), z)
  else (ds_cI cl j_Mod_in [.int x1, .int 0, .int 3] z fun r1 z1 => if r1 = 0 then some (some (.int 0), z1)
      else (ds_cI cl j_Mod_in [.int x2, .int 0, .int 3] z1 fun r2 z2 => if r2 = 0 then some (some (.int 0), z2)
          else some (some (.int 1), z2))) := (ds_Rw_stp 400 0 [some (.ref 90), some (.int x1), some (.int x2)] [] z).trans rfl
set_option maxRecDepth 20000 in
theorem b_Mod_back_0 (cl : Nat → List Value → ds_St → Option ds_Out) (x1 : Int32) (z : ds_St) : ds_Rw ds_c_Mod_back ds_u_Mod_back cl 0 [some (.ref 90), some (.int x1)] [] z =
  (ds_cV cl j_Mod_good [.ref 90] z fun z1 => (ds_cI cl j_Mod_in [.int x1, .int 0, .int ((z1.1 90 21) - 1)] z1 fun r2 z2 => if ¬ r2 = 0 then (ds_cV cl j_Mod_copy [.ref 97, .int (14 * x1), .ref 95, .int 0, .int 14] z2 fun z3 => some (some (.int 1), (ds_setI z3 90 20 0)))
      else (ds_cI cl j_Mod_isNot [.ref 90, .int 1] z2 fun r4 z4 => if r4 = 0 ∨ r4 = 1 then some (some (.int r4), z4)
          else none))) := (ds_Rw_stp 400 0 [some (.ref 90), some (.int x1)] [] z).trans rfl
set_option maxRecDepth 20000 in
theorem b_Mod_beBeside_0 (cl : Nat → List Value → ds_St → Option ds_Out) (x1 : Nat) (x2 : Int32) (x3 : Int32) (z : ds_St) : ds_Rw ds_c_Mod_beBeside ds_u_Mod_beBeside cl 0 [some (.ref 90), some (.ref x1), some (.int x2), some (.int x3)] [] z =
  (ds_cI cl j_Mod_placeIn [.ref x1, .int x2] z fun r1 z1 => (ds_cI cl j_Mod_placeIn [.ref x1, .int x3] z1 fun r2 z2 => if ds_K x1 = 11 then if ds_in 12 (ds_N x1) = true then (ds_cI cl j_Mod_areBeside [.ref 90, .int r1, .int r2, .int (z2.1 x1 12)] z2 fun r3 z3 => if r3 = 0 ∨ r3 = 1 then some (some (.int r3), z3)
          else none)
        else none
      else none)) := (ds_Rw_stp 400 0 [some (.ref 90), some (.ref x1), some (.int x2), some (.int x3)] [] z).trans rfl
set_option maxRecDepth 20000 in
theorem b_Mod_begins_0 (cl : Nat → List Value → ds_St → Option ds_Out) (x1 : Nat) (x2 : Int32) (z : ds_St) : ds_Rw ds_c_Mod_begins ds_u_Mod_begins cl 0 [some (.ref 90), some (.ref x1), some (.int x2)] [] z =
  (ds_cI cl j_Mod_isWord [.ref 90, .ref x1] z fun r1 z1 => if ¬ r1 = 0 then if ¬ x2 = 0 then ds_Rw ds_c_Mod_begins ds_u_Mod_begins cl 23 [some (.ref 90), none, none] [] z1
      else (ds_cV cl j_Mod_wrong [.ref 90, .int 5, .int (z1.1 90 4)] z1 fun z2 => ds_Rw ds_c_Mod_begins ds_u_Mod_begins cl 23 [some (.ref 90), none, none] [] z2)
    else some (some (.int 0), z1)) := (ds_Rw_stp 400 0 [some (.ref 90), some (.ref x1), some (.int x2)] [] z).trans rfl
set_option maxRecDepth 20000 in
theorem b_Mod_begins_23 (cl : Nat → List Value → ds_St → Option ds_Out)  (z : ds_St) : ds_Rw ds_c_Mod_begins ds_u_Mod_begins cl 23 [some (.ref 90), none, none] [] z =
  if ¬ (z.1 94 8) = 0 then ds_Rw ds_c_Mod_begins ds_u_Mod_begins cl 43 [some (.ref 90), none, none] [] z
    else (ds_cV cl j_Mod_wrong [.ref 90, .int 6, .int (z.1 90 4)] z fun z1 => ds_Rw ds_c_Mod_begins ds_u_Mod_begins cl 43 [some (.ref 90), none, none] [] z1) := (ds_Rw_stp 400 23 [some (.ref 90), none, none] [] z).trans rfl
set_option maxRecDepth 20000 in
theorem b_Mod_begins_43 (cl : Nat → List Value → ds_St → Option ds_Out)  (z : ds_St) : ds_Rw ds_c_Mod_begins ds_u_Mod_begins cl 43 [some (.ref 90), none, none] [] z =
  if ¬ (z.1 90 13) = 0 then some (some (.int 1), z)
  else (ds_cV cl j_Mod_next [.ref 90] z fun z1 => some (some (.int 1), z1)) := (ds_Rw_stp 400 43 [some (.ref 90), none, none] [] z).trans rfl
set_option maxRecDepth 20000 in
theorem b_Mod_beside_0 (cl : Nat → List Value → ds_St → Option ds_Out) (x1 : Int32) (z : ds_St) : ds_Rw ds_c_Mod_beside ds_u_Mod_beside cl 0 [some (.ref 90), some (.int x1), none, none] [] z =
  (ds_cV cl j_Mod_good [.ref 90] z fun z1 => (ds_cI cl j_Mod_isIsland [.ref 90, .int x1] z1 fun r2 z2 => if ¬ r2 = 0 then ds_Rw ds_c_Mod_beside ds_u_Mod_beside cl 22 [some (.ref 90), some (.int x1), some (.int 0), some (.int 0)] [] z2
      else (ds_cI cl j_Mod_no [.ref 90, .int 1] z2 fun r3 z3 => some (some (.int r3), z3)))) := (ds_Rw_stp 400 0 [some (.ref 90), some (.int x1), none, none] [] z).trans rfl
set_option maxRecDepth 20000 in
theorem b_Mod_beside_22 (cl : Nat → List Value → ds_St → Option ds_Out) (x1 : Int32) (x2 : Int32) (x3 : Int32) (z : ds_St) : ds_Rw ds_c_Mod_beside ds_u_Mod_beside cl 22 [some (.ref 90), some (.int x1), some (.int x2), some (.int x3)] [] z =
  if (z.1 93 4) ≤ x3 then some (some (.int x2), z)
    else (ds_cI cl j_Mod_beBeside [.ref 90, .ref 95, .int x1, .int x3] z fun r1 z1 => if r1 = 0 then ds_Rw ds_c_Mod_beside ds_u_Mod_beside cl 22 [some (.ref 90), some (.int x1), some (.int (x2 ||| 0)), some (.int (x3 + 1))] [] z1
        else ds_Rw ds_c_Mod_beside ds_u_Mod_beside cl 22 [some (.ref 90), some (.int x1), some (.int (x2 ||| (1 <<< (x3 &&& 31)))), some (.int (x3 + 1))] [] z1) := (ds_Rw_stp 400 22 [some (.ref 90), some (.int x1), some (.int x2), some (.int x3)] [] z).trans rfl
set_option maxRecDepth 20000 in
theorem b_Mod_best_0 (cl : Nat → List Value → ds_St → Option ds_Out)  (z : ds_St) : ds_Rw ds_c_Mod_best ds_u_Mod_best cl 0 [some (.ref 90)] [] z =
  (ds_cV cl j_Mod_good [.ref 90] z fun z1 => if (z1.1 90 14) = 0 then (ds_cI cl j_Mod_no [.ref 90, .int 1] z1 fun r2 z2 => some (some (.int r2), z2))
    else (ds_cI cl j_Mod_bestMove [.ref 90] z1 fun r3 z3 => some (some (.int r3), z3))) := (ds_Rw_stp 400 0 [some (.ref 90)] [] z).trans rfl
set_option maxRecDepth 20000 in
theorem b_Mod_bestMove_0 (cl : Nat → List Value → ds_St → Option ds_Out)  (z : ds_St) : ds_Rw ds_c_Mod_bestMove ds_u_Mod_bestMove cl 0 [some (.ref 90), none, none] [] z =
  ds_Rw ds_c_Mod_bestMove ds_u_Mod_bestMove cl 4 [some (.ref 90), some (.int 0), some (.int 1)] [] z := (ds_Rw_stp 400 0 [some (.ref 90), none, none] [] z).trans rfl
set_option maxRecDepth 20000 in
theorem b_Mod_bestMove_4 (cl : Nat → List Value → ds_St → Option ds_Out) (x1 : Int32) (x2 : Int32) (z : ds_St) : ds_Rw ds_c_Mod_bestMove ds_u_Mod_bestMove cl 4 [some (.ref 90), some (.int x1), some (.int x2)] [] z =
  (ds_cI cl j_Mod_movesOf [.ref 90, .ref 95] z fun r1 z1 => if r1 ≤ x2 then some (some (.int x1), z1)
    else (ds_cI cl j_Mod_tradesBy [.ref 90, .int x2, .int (-1)] z1 fun r2 z2 => (ds_cI cl j_Mod_tradesBy [.ref 90, .int x1, .int (-1)] z2 fun r3 z3 => if r2 ≤ r3 then ds_Rw ds_c_Mod_bestMove ds_u_Mod_bestMove cl 4 [some (.ref 90), some (.int x1), some (.int (x2 + 1))] [] z3
          else ds_Rw ds_c_Mod_bestMove ds_u_Mod_bestMove cl 4 [some (.ref 90), some (.int x2), some (.int (x2 + 1))] [] z3))) := (ds_Rw_stp 400 4 [some (.ref 90), some (.int x1), some (.int x2)] [] z).trans rfl
set_option maxRecDepth 20000 in
theorem b_Mod_bestTrades_0 (cl : Nat → List Value → ds_St → Option ds_Out)  (z : ds_St) : ds_Rw ds_c_Mod_bestTrades ds_u_Mod_bestTrades cl 0 [some (.ref 90)] [] z =
  (ds_cV cl j_Mod_good [.ref 90] z fun z1 => if (z1.1 90 14) = 0 then (ds_cI cl j_Mod_no [.ref 90, .int 1] z1 fun r2 z2 => some (some (.int r2), z2))
    else (ds_cI cl j_Mod_bestMove [.ref 90] z1 fun r3 z3 => (ds_cI cl j_Mod_tradesBy [.ref 90, .int r3, .int (-1)] z3 fun r4 z4 => some (some (.int r4), z4)))) := (ds_Rw_stp 400 0 [some (.ref 90)] [] z).trans rfl
set_option maxRecDepth 20000 in
theorem b_Mod_bestTwo_0 (cl : Nat → List Value → ds_St → Option ds_Out)  (z : ds_St) : ds_Rw ds_c_Mod_bestTwo ds_u_Mod_bestTwo cl 0 [some (.ref 90), none, none, none, none, none] [] z =
  (ds_cV cl j_Mod_good [.ref 90] z fun z1 => if ¬ (z1.1 90 14) = 0 then ds_Rw ds_c_Mod_bestTwo ds_u_Mod_bestTwo cl 23 [some (.ref 90), some (.int 0), some (.int (-1)), some (.int 0), none, none] [] z1
    else (ds_cI cl j_Mod_no [.ref 90, .int 1] z1 fun r2 z2 => some (some (.int r2), z2))) := (ds_Rw_stp 400 0 [some (.ref 90), none, none, none, none, none] [] z).trans rfl
set_option maxRecDepth 20000 in
theorem b_Mod_bestTwo_23 (cl : Nat → List Value → ds_St → Option ds_Out) (x1 : Int32) (x2 : Int32) (x3 : Int32) (z : ds_St) : ds_Rw ds_c_Mod_bestTwo ds_u_Mod_bestTwo cl 23 [some (.ref 90), some (.int x1), some (.int x2), some (.int x3), none, none] [] z =
  (ds_cI cl j_Mod_movesOf [.ref 90, .ref 95] z fun r1 z1 => if r1 ≤ x3 then some (some (.int x1), z1)
    else ds_Rw ds_c_Mod_bestTwo ds_u_Mod_bestTwo cl 38 [some (.ref 90), some (.int x1), some (.int x2), some (.int x3), some (.int 0), none] [] z1) := (ds_Rw_stp 400 23 [some (.ref 90), some (.int x1), some (.int x2), some (.int x3), none, none] [] z).trans rfl
set_option maxRecDepth 20000 in
theorem b_Mod_bestTwo_38 (cl : Nat → List Value → ds_St → Option ds_Out) (x1 : Int32) (x2 : Int32) (x3 : Int32) (x4 : Int32) (z : ds_St) : ds_Rw ds_c_Mod_bestTwo ds_u_Mod_bestTwo cl 38 [some (.ref 90), some (.int x1), some (.int x2), some (.int x3), some (.int x4), none] [] z =
  (ds_cI cl j_Mod_movesOf [.ref 90, .ref 95] z fun r1 z1 => if r1 ≤ x4 then ds_Rw ds_c_Mod_bestTwo ds_u_Mod_bestTwo cl 23 [some (.ref 90), some (.int x1), some (.int x2), some (.int (x3 + 1)), none, none] [] z1
    else (ds_cI cl j_Mod_tradesBy [.ref 90, .int x3, .int x4] z1 fun r2 z2 => if x2 < r2 then ds_Rw ds_c_Mod_bestTwo ds_u_Mod_bestTwo cl 38 [some (.ref 90), some (.int ((100 * x3) + x4)), some (.int r2), some (.int x3), some (.int (x4 + 1)), none] [] z2
        else ds_Rw ds_c_Mod_bestTwo ds_u_Mod_bestTwo cl 38 [some (.ref 90), some (.int x1), some (.int x2), some (.int x3), some (.int (x4 + 1)), none] [] z2)) := (ds_Rw_stp 400 38 [some (.ref 90), some (.int x1), some (.int x2), some (.int x3), some (.int x4), none] [] z).trans rfl
set_option maxRecDepth 20000 in
theorem b_Mod_can_0 (cl : Nat → List Value → ds_St → Option ds_Out) (x1 : Int32) (x2 : Int32) (z : ds_St) : ds_Rw ds_c_Mod_can ds_u_Mod_can cl 0 [some (.ref 90), some (.int x1), some (.int x2), none, none, none, none, none] [] z =
  (ds_cV cl j_Mod_good [.ref 90] z fun z1 => (ds_cI cl j_Mod_isInDeck [.ref 90, .int x1] z1 fun r2 z2 => if ¬ r2 = 0 then (ds_cI cl j_Mod_in [.int x2, .int 0, .int 12] z2 fun r3 z3 => if ¬ r3 = 0 then (ds_cI cl j_Mod_placeIn [.ref 95, .int x1] z3 fun r4 z4 => ds_Rw ds_c_Mod_can ds_u_Mod_can cl 48 [some (.ref 90), none, some (.int x2), some (.int (1 <<< (r4 &&& 31))), some (.int 0), none, none, none] [] z4)
          else (ds_cI cl j_Mod_no [.ref 90, .int 2] z3 fun r5 z5 => some (some (.int r5), z5)))
      else (ds_cI cl j_Mod_no [.ref 90, .int 1] z2 fun r6 z6 => some (some (.int r6), z6)))) := (ds_Rw_stp 400 0 [some (.ref 90), some (.int x1), some (.int x2), none, none, none, none, none] [] z).trans rfl
set_option maxRecDepth 20000 in
theorem b_Mod_can_48 (cl : Nat → List Value → ds_St → Option ds_Out) (x2 : Int32) (x3 : Int32) (x4 : Int32) (z : ds_St) : ds_Rw ds_c_Mod_can ds_u_Mod_can cl 48 [some (.ref 90), none, some (.int x2), some (.int x3), some (.int x4), none, none, none] [] z =
  if x2 ≤ x4 then some (some (.int x3), z)
  else ds_Rw ds_c_Mod_can ds_u_Mod_can cl 60 [some (.ref 90), none, some (.int x2), some (.int x3), some (.int x4), some (.int 0), some (.int 0), none] [] z := (ds_Rw_stp 400 48 [some (.ref 90), none, some (.int x2), some (.int x3), some (.int x4), none, none, none] [] z).trans rfl
set_option maxRecDepth 20000 in
theorem b_Mod_can_60 (cl : Nat → List Value → ds_St → Option ds_Out) (x2 : Int32) (x3 : Int32) (x4 : Int32) (x5 : Int32) (x6 : Int32) (z : ds_St) : ds_Rw ds_c_Mod_can ds_u_Mod_can cl 60 [some (.ref 90), none, some (.int x2), some (.int x3), some (.int x4), some (.int x5), some (.int x6), none] [] z =
  if (z.1 95 12) ≤ x6 then ds_Rw ds_c_Mod_can ds_u_Mod_can cl 48 [some (.ref 90), none, some (.int x2), some (.int x5), some (.int (x4 + 1)), none, none, none] [] z
    else ds_Rw ds_c_Mod_can ds_u_Mod_can cl 75 [some (.ref 90), none, some (.int x2), some (.int x3), some (.int x4), some (.int x5), some (.int x6), some (.int 0)] [] z := (ds_Rw_stp 400 60 [some (.ref 90), none, some (.int x2), some (.int x3), some (.int x4), some (.int x5), some (.int x6), none] [] z).trans rfl
set_option maxRecDepth 20000 in
theorem b_Mod_can_75 (cl : Nat → List Value → ds_St → Option ds_Out) (x2 : Int32) (x3 : Int32) (x4 : Int32) (x5 : Int32) (x6 : Int32) (x7 : Int32) (z : ds_St) : ds_Rw ds_c_Mod_can ds_u_Mod_can cl 75 [some (.ref 90), none, some (.int x2), some (.int x3), some (.int x4), some (.int x5), some (.int x6), some (.int x7)] [] z =
  (ds_cI cl j_Mod_movesOf [.ref 90, .ref 95] z fun r1 z1 => if r1 ≤ x7 then ds_Rw ds_c_Mod_can ds_u_Mod_can cl 60 [some (.ref 90), none, some (.int x2), some (.int x3), some (.int x4), some (.int x5), some (.int (x6 + 1)), none] [] z1
    else (ds_cI cl j_Mod_hasBit [.int x3, .int x6] z1 fun r2 z2 => if r2 = 0 then ds_Rw ds_c_Mod_can ds_u_Mod_can cl 60 [some (.ref 90), none, some (.int x2), some (.int x3), some (.int x4), some (.int x5), some (.int (x6 + 1)), none] [] z2
        else (ds_cI cl j_Mod_goesTo [.int x7, .int x6, .int (z2.1 95 12)] z2 fun r3 z3 => ds_Rw ds_c_Mod_can ds_u_Mod_can cl 75 [some (.ref 90), none, some (.int x2), some (.int x3), some (.int x4), some (.int (x5 ||| (1 <<< (r3 &&& 31)))), some (.int x6), some (.int (x7 + 1))] [] z3))) := (ds_Rw_stp 400 75 [some (.ref 90), none, some (.int x2), some (.int x3), some (.int x4), some (.int x5), some (.int x6), some (.int x7)] [] z).trans rfl
set_option maxRecDepth 20000 in
theorem b_Mod_card_0 (cl : Nat → List Value → ds_St → Option ds_Out) (x1 : Int32) (z : ds_St) : ds_Rw ds_c_Mod_card ds_u_Mod_card cl 0 [some (.ref 90), some (.int x1)] [] z =
  (ds_cV cl j_Mod_good [.ref 90] z fun z1 => if (z1.1 90 14) = 0 then (ds_cI cl j_Mod_no [.ref 90, .int 1] z1 fun r2 z2 => some (some (.int r2), z2))
    else (ds_cI cl j_Mod_in [.int x1, .int 0, .int ((z1.1 95 12) - 1)] z1 fun r3 z3 => if r3 = 0 then (ds_cI cl j_Mod_no [.ref 90, .int 1] z3 fun r4 z4 => some (some (.int r4), z4))
          else if ds_in x1 14 = true then some (some (.int (z3.1 95 x1.toNatClampNeg)), z3)
            else none)) := (ds_Rw_stp 400 0 [some (.ref 90), some (.int x1)] [] z).trans rfl
set_option maxRecDepth 20000 in
theorem b_Mod_copy_0 (cl : Nat → List Value → ds_St → Option ds_Out) (x0 : Nat) (x1 : Int32) (x2 : Nat) (x3 : Int32) (x4 : Int32) (z : ds_St) : ds_Rw ds_c_Mod_copy ds_u_Mod_copy cl 0 [some (.ref x0), some (.int x1), some (.ref x2), some (.int x3), some (.int x4), none] [] z =
  ds_Rw ds_c_Mod_copy ds_u_Mod_copy cl 3 [some (.ref x0), some (.int x1), some (.ref x2), some (.int x3), some (.int x4), some (.int 0)] [] z := (ds_Rw_stp 400 0 [some (.ref x0), some (.int x1), some (.ref x2), some (.int x3), some (.int x4), none] [] z).trans rfl
set_option maxRecDepth 20000 in
theorem b_Mod_copy_3 (cl : Nat → List Value → ds_St → Option ds_Out) (x0 : Nat) (x1 : Int32) (x2 : Nat) (x3 : Int32) (x4 : Int32) (x5 : Int32) (z : ds_St) : ds_Rw ds_c_Mod_copy ds_u_Mod_copy cl 3 [some (.ref x0), some (.int x1), some (.ref x2), some (.int x3), some (.int x4), some (.int x5)] [] z =
  if x4 ≤ x5 then some (none, z)
  else if ds_K x0 = 11 then if ds_in (x1 + x5) (ds_N x0) = true then if ds_K x2 = 11 then if ds_in (x3 + x5) (ds_N x2) = true then ds_Rw ds_c_Mod_copy ds_u_Mod_copy cl 3 [some (.ref x0), some (.int x1), some (.ref x2), some (.int x3), some (.int x4), some (.int (x5 + 1))] [] (ds_setI z x2 ((x3 + x5).toNatClampNeg) (z.1 x0 ((x1 + x5).toNatClampNeg)))
        else none
      else none
      else none
    else none := (ds_Rw_stp 400 3 [some (.ref x0), some (.int x1), some (.ref x2), some (.int x3), some (.int x4), some (.int x5)] [] z).trans rfl
set_option maxRecDepth 20000 in
theorem b_Mod_crowd_0 (cl : Nat → List Value → ds_St → Option ds_Out)  (z : ds_St) : ds_Rw ds_c_Mod_crowd ds_u_Mod_crowd cl 0 [some (.ref 90), none, none, none, none] [] z =
  (ds_cV cl j_Mod_good [.ref 90] z fun z1 => if ¬ (z1.1 90 14) = 0 then ds_Rw ds_c_Mod_crowd ds_u_Mod_crowd cl 21 [some (.ref 90), some (.int 0), some (.int 0), none, none] [] z1
    else (ds_cI cl j_Mod_no [.ref 90, .int 1] z1 fun r2 z2 => some (some (.int r2), z2))) := (ds_Rw_stp 400 0 [some (.ref 90), none, none, none, none] [] z).trans rfl
set_option maxRecDepth 20000 in
theorem b_Mod_crowd_21 (cl : Nat → List Value → ds_St → Option ds_Out) (x1 : Int32) (x2 : Int32) (z : ds_St) : ds_Rw ds_c_Mod_crowd ds_u_Mod_crowd cl 21 [some (.ref 90), some (.int x1), some (.int x2), none, none] [] z =
  if (z.1 93 4) ≤ x2 then some (some (.int x1), z)
    else (ds_cI cl j_Mod_isJoker [.ref 90, .int x2] z fun r1 z1 => if r1 = 0 then (ds_cV cl j_Mod_layBridges [.ref 90, .int x2] z1 fun z2 => ds_Rw ds_c_Mod_crowd ds_u_Mod_crowd cl 52 [some (.ref 90), some (.int x1), some (.int x2), some (.int 0), some (.int 0)] [] z2)
        else ds_Rw ds_c_Mod_crowd ds_u_Mod_crowd cl 21 [some (.ref 90), some (.int x1), some (.int (x2 + 1)), none, none] [] z1) := (ds_Rw_stp 400 21 [some (.ref 90), some (.int x1), some (.int x2), none, none] [] z).trans rfl
set_option maxRecDepth 20000 in
theorem b_Mod_crowd_52 (cl : Nat → List Value → ds_St → Option ds_Out) (x1 : Int32) (x2 : Int32) (x3 : Int32) (x4 : Int32) (z : ds_St) : ds_Rw ds_c_Mod_crowd ds_u_Mod_crowd cl 52 [some (.ref 90), some (.int x1), some (.int x2), some (.int x3), some (.int x4)] [] z =
  if (z.1 93 4) ≤ x4 then if x3 ≤ x1 then ds_Rw ds_c_Mod_crowd ds_u_Mod_crowd cl 21 [some (.ref 90), some (.int x1), some (.int (x2 + 1)), none, none] [] z
      else ds_Rw ds_c_Mod_crowd ds_u_Mod_crowd cl 21 [some (.ref 90), some (.int x3), some (.int (x2 + 1)), none, none] [] z
    else if ds_in x4 12 = true then if (z.1 99 x4.toNatClampNeg) < 0 then ds_Rw ds_c_Mod_crowd ds_u_Mod_crowd cl 52 [some (.ref 90), some (.int x1), some (.int x2), some (.int (x3 + 0)), some (.int (x4 + 1))] [] z
        else (ds_cI cl j_Mod_isJoker [.ref 90, .int x4] z fun r1 z1 => if ¬ r1 = 0 then ds_Rw ds_c_Mod_crowd ds_u_Mod_crowd cl 52 [some (.ref 90), some (.int x1), some (.int x2), some (.int (x3 + 0)), some (.int (x4 + 1))] [] z1
            else (ds_cI cl j_Mod_of [.ref 90, .int x4, .int 3] z1 fun r2 z2 => ds_Rw ds_c_Mod_crowd ds_u_Mod_crowd cl 52 [some (.ref 90), some (.int x1), some (.int x2), some (.int (x3 + r2)), some (.int (x4 + 1))] [] z2))
      else none := (ds_Rw_stp 400 52 [some (.ref 90), some (.int x1), some (.int x2), some (.int x3), some (.int x4)] [] z).trans rfl
set_option maxRecDepth 20000 in
theorem b_Mod_cycle_0 (cl : Nat → List Value → ds_St → Option ds_Out) (x1 : Int32) (z : ds_St) : ds_Rw ds_c_Mod_cycle ds_u_Mod_cycle cl 0 [some (.ref 90), some (.int x1)] [] z =
  (ds_cV cl j_Mod_good [.ref 90] z fun z1 => (ds_cI cl j_Mod_isMove [.ref 90, .int x1] z1 fun r2 z2 => if r2 = 0 then (ds_cI cl j_Mod_no [.ref 90, .int 1] z2 fun r3 z3 => some (some (.int r3), z3))
      else (ds_cI cl j_Mod_same [.ref 90, .int x1, .int 0] z2 fun r4 z4 => some (some (.int r4), z4)))) := (ds_Rw_stp 400 0 [some (.ref 90), some (.int x1)] [] z).trans rfl
set_option maxRecDepth 20000 in
theorem b_Mod_deal_0 (cl : Nat → List Value → ds_St → Option ds_Out) (x1 : Int32) (z : ds_St) : ds_Rw ds_c_Mod_deal ds_u_Mod_deal cl 0 [some (.ref 90), some (.int x1)] [] z =
  (ds_cV cl j_Mod_good [.ref 90] z fun z1 => (ds_cI cl j_Mod_isMove [.ref 90, .int x1] z1 fun r2 z2 => if ¬ r2 = 0 then (ds_cV cl j_Mod_note [.ref 90] z2 fun z3 => (ds_cV cl j_Mod_makes [.ref 90, .ref 95, .int x1] z3 fun z4 => (ds_cI cl j_Mod_tradesIn [.ref 90, .ref 95, .int (-1)] z4 fun r5 z5 => some (some (.int r5), z5))))
      else (ds_cI cl j_Mod_no [.ref 90, .int 1] z2 fun r6 z6 => some (some (.int r6), z6)))) := (ds_Rw_stp 400 0 [some (.ref 90), some (.int x1)] [] z).trans rfl
set_option maxRecDepth 20000 in
theorem b_Mod_decade_0 (cl : Nat → List Value → ds_St → Option ds_Out) (x1 : Int32) (x2 : Int32) (z : ds_St) : ds_Rw ds_c_Mod_decade ds_u_Mod_decade cl 0 [some (.ref 90), some (.int x1), some (.int x2), none] [] z =
  (ds_cV cl j_Mod_good [.ref 90] z fun z1 => (ds_cI cl j_Mod_decadeWhy [.ref 90, .int (z1.1 90 14), .int x1, .int x2] z1 fun r2 z2 => if r2 = 0 then (ds_cV cl j_Mod_goThrough [.ref 90, .int x1, .int x2, .int 0] z2 fun z3 => some (some (.int (z3.1 90 42)), z3))
      else (ds_cI cl j_Mod_no [.ref 90, .int r2] z2 fun r4 z4 => some (some (.int r4), z4)))) := (ds_Rw_stp 400 0 [some (.ref 90), some (.int x1), some (.int x2), none] [] z).trans rfl
set_option maxRecDepth 20000 in
theorem b_Mod_decadeOf_0 (cl : Nat → List Value → ds_St → Option ds_Out) (x1 : Int32) (x2 : Int32) (x3 : Int32) (z : ds_St) : ds_Rw ds_c_Mod_decadeOf ds_u_Mod_decadeOf cl 0 [some (.ref 90), some (.int x1), some (.int x2), some (.int x3), none] [] z =
  (ds_cV cl j_Mod_good [.ref 90] z fun z1 => (ds_cI cl j_Mod_isIsland [.ref 90, .int x1] z1 fun r2 z2 => (ds_cI cl j_Mod_decadeWhy [.ref 90, .int r2, .int x2, .int x3] z2 fun r3 z3 => if r3 = 0 then (ds_cV cl j_Mod_goThrough [.ref 90, .int x2, .int x3, .int x1] z3 fun z4 => some (some (.int (z4.1 90 44)), z4))
        else (ds_cI cl j_Mod_no [.ref 90, .int r3] z3 fun r5 z5 => some (some (.int r5), z5))))) := (ds_Rw_stp 400 0 [some (.ref 90), some (.int x1), some (.int x2), some (.int x3), none] [] z).trans rfl
set_option maxRecDepth 20000 in
theorem b_Mod_decadeWhy_0 (cl : Nat → List Value → ds_St → Option ds_Out) (x1 : Int32) (x2 : Int32) (x3 : Int32) (z : ds_St) : ds_Rw ds_c_Mod_decadeWhy ds_u_Mod_decadeWhy cl 0 [some (.ref 90), some (.int x1), some (.int x2), some (.int x3)] [] z =
  if ¬ x1 = 0 then (ds_cI cl j_Mod_in [.int x2, .int 0, .int 65536] z fun r1 z1 => if r1 = 0 then some (some (.int 2), z1)
      else (ds_cI cl j_Mod_in [.int x3, .int 0, .int 50] z1 fun r2 z2 => if r2 = 0 then some (some (.int 2), z2)
          else some (some (.int 0), z2)))
  else some (some (.int 1), z) := (ds_Rw_stp 400 0 [some (.ref 90), some (.int x1), some (.int x2), some (.int x3)] [] z).trans rfl
set_option maxRecDepth 20000 in
theorem b_Mod_decadeWishes_0 (cl : Nat → List Value → ds_St → Option ds_Out) (x1 : Int32) (x2 : Int32) (z : ds_St) : ds_Rw ds_c_Mod_decadeWishes ds_u_Mod_decadeWishes cl 0 [some (.ref 90), some (.int x1), some (.int x2), none] [] z =
  (ds_cV cl j_Mod_good [.ref 90] z fun z1 => (ds_cI cl j_Mod_decadeWhy [.ref 90, .int (z1.1 90 14), .int x1, .int x2] z1 fun r2 z2 => if r2 = 0 then (ds_cV cl j_Mod_goThrough [.ref 90, .int x1, .int x2, .int 0] z2 fun z3 => some (some (.int (z3.1 90 43)), z3))
      else (ds_cI cl j_Mod_no [.ref 90, .int r2] z2 fun r4 z4 => some (some (.int r4), z4)))) := (ds_Rw_stp 400 0 [some (.ref 90), some (.int x1), some (.int x2), none] [] z).trans rfl
set_option maxRecDepth 20000 in
theorem b_Mod_exchange_0 (cl : Nat → List Value → ds_St → Option ds_Out)  (z : ds_St) : ds_Rw ds_c_Mod_exchange ds_u_Mod_exchange cl 0 [some (.ref 90), none, none, none, none, none] [] z =
  (ds_cV cl j_Mod_good [.ref 90] z fun z1 => if ¬ (z1.1 90 14) = 0 then ds_Rw ds_c_Mod_exchange ds_u_Mod_exchange cl 23 [some (.ref 90), some (.int 0), some (.int (-1)), some (.int 0), none, none] [] z1
    else (ds_cI cl j_Mod_no [.ref 90, .int 1] z1 fun r2 z2 => some (some (.int r2), z2))) := (ds_Rw_stp 400 0 [some (.ref 90), none, none, none, none, none] [] z).trans rfl
set_option maxRecDepth 20000 in
theorem b_Mod_exchange_23 (cl : Nat → List Value → ds_St → Option ds_Out) (x1 : Int32) (x2 : Int32) (x3 : Int32) (z : ds_St) : ds_Rw ds_c_Mod_exchange ds_u_Mod_exchange cl 23 [some (.ref 90), some (.int x1), some (.int x2), some (.int x3), none, none] [] z =
  if (z.1 95 12) ≤ x3 then some (some (.int x1), z)
    else ds_Rw ds_c_Mod_exchange ds_u_Mod_exchange cl 39 [some (.ref 90), some (.int x1), some (.int x2), some (.int x3), some (.int (x3 + 1)), none] [] z := (ds_Rw_stp 400 23 [some (.ref 90), some (.int x1), some (.int x2), some (.int x3), none, none] [] z).trans rfl
set_option maxRecDepth 20000 in
theorem b_Mod_exchange_39 (cl : Nat → List Value → ds_St → Option ds_Out) (x1 : Int32) (x2 : Int32) (x3 : Int32) (x4 : Int32) (z : ds_St) : ds_Rw ds_c_Mod_exchange ds_u_Mod_exchange cl 39 [some (.ref 90), some (.int x1), some (.int x2), some (.int x3), some (.int x4), none] [] z =
  if (z.1 95 12) ≤ x4 then ds_Rw ds_c_Mod_exchange ds_u_Mod_exchange cl 23 [some (.ref 90), some (.int x1), some (.int x2), some (.int (x3 + 1)), none, none] [] z
    else (ds_cV cl j_Mod_copy [.ref 95, .int 0, .ref 101, .int 0, .int 14] z fun z1 => if ds_in x4 14 = true then if ds_in x3 14 = true then if ds_in x3 14 = true then if ds_in x4 14 = true then (ds_cI cl j_Mod_tradesIn [.ref 90, .ref 101, .int (-1)] (ds_setI (ds_setI z1 101 x3.toNatClampNeg (z1.1 95 x4.toNatClampNeg)) 101 x4.toNatClampNeg (z1.1 95 x3.toNatClampNeg)) fun r2 z2 => if x2 < r2 then ds_Rw ds_c_Mod_exchange ds_u_Mod_exchange cl 39 [some (.ref 90), some (.int ((100 * x3) + x4)), some (.int r2), some (.int x3), some (.int (x4 + 1)), none] [] z2
                  else ds_Rw ds_c_Mod_exchange ds_u_Mod_exchange cl 39 [some (.ref 90), some (.int x1), some (.int x2), some (.int x3), some (.int (x4 + 1)), none] [] z2)
              else none
            else none
          else none
        else none) := (ds_Rw_stp 400 39 [some (.ref 90), some (.int x1), some (.int x2), some (.int x3), some (.int x4), none] [] z).trans rfl
set_option maxRecDepth 20000 in
theorem b_Mod_familyLine_0 (cl : Nat → List Value → ds_St → Option ds_Out)  (z : ds_St) : ds_Rw ds_c_Mod_familyLine ds_u_Mod_familyLine cl 0 [some (.ref 90), none, none, none] [] z =
  if (z.1 90 13) = 0 then (ds_cV cl j_Mod_newName [.ref 90, .int (12 + (z.1 94 5))] z fun z1 => if (z1.1 90 13) = 0 then (ds_cI cl j_Mod_oneOf [.ref 90, .ref 330, .ref 331, .ref 332, .ref 333] z1 fun r2 z2 => ds_Rw ds_c_Mod_familyLine ds_u_Mod_familyLine cl 58 [some (.ref 90), some (.int (57 + (z.1 94 5))), none, none] [.int r2] z2)
          else ds_Rw ds_c_Mod_familyLine ds_u_Mod_familyLine cl 58 [some (.ref 90), some (.int (57 + (z.1 94 5))), none, none] [.int 0] z1)
  else some (none, z) := (ds_Rw_stp 400 0 [some (.ref 90), none, none, none] [] z).trans rfl
set_option maxRecDepth 20000 in
theorem b_Mod_familyLine_58 (cl : Nat → List Value → ds_St → Option ds_Out) (x1 : Int32) (s0 : Int32) (z : ds_St) : ds_Rw ds_c_Mod_familyLine ds_u_Mod_familyLine cl 58 [some (.ref 90), some (.int x1), none, none] [.int s0] z =
  if ¬ (z.1 90 13) = 0 then ds_Rw ds_c_Mod_familyLine ds_u_Mod_familyLine cl 83 [some (.ref 90), some (.int x1), some (.int s0), none] [] z
  else if ¬ s0 = 3 then ds_Rw ds_c_Mod_familyLine ds_u_Mod_familyLine cl 83 [some (.ref 90), some (.int x1), some (.int s0), none] [] z
    else (ds_cI cl j_Mod_number [.ref 90, .int 1, .int 11] z fun r1 z1 => ds_Rw ds_c_Mod_familyLine ds_u_Mod_familyLine cl 84 [some (.ref 90), some (.int x1), none, none] [.int (2 + r1)] z1) := (ds_Rw_stp 400 58 [some (.ref 90), some (.int x1), none, none] [.int s0] z).trans rfl
set_option maxRecDepth 20000 in
theorem b_Mod_familyLine_83 (cl : Nat → List Value → ds_St → Option ds_Out) (x1 : Int32) (x2 : Int32) (z : ds_St) : ds_Rw ds_c_Mod_familyLine ds_u_Mod_familyLine cl 83 [some (.ref 90), some (.int x1), some (.int x2), none] [] z =
  ds_Rw ds_c_Mod_familyLine ds_u_Mod_familyLine cl 84 [some (.ref 90), some (.int x1), none, none] [.int x2] z := (ds_Rw_stp 400 83 [some (.ref 90), some (.int x1), some (.int x2), none] [] z).trans rfl
set_option maxRecDepth 20000 in
theorem b_Mod_familyLine_84 (cl : Nat → List Value → ds_St → Option ds_Out) (x1 : Int32) (s0 : Int32) (z : ds_St) : ds_Rw ds_c_Mod_familyLine ds_u_Mod_familyLine cl 84 [some (.ref 90), some (.int x1), none, none] [.int s0] z =
  if (z.1 90 13) = 0 then if ds_in x1 289 = true then some (none, (ds_setI (ds_setI z 94 x1.toNatClampNeg s0) 94 5 (((ds_setI z 94 x1.toNatClampNeg s0).1 94 5) + 1)))
    else none
  else some (none, z) := (ds_Rw_stp 400 84 [some (.ref 90), some (.int x1), none, none] [.int s0] z).trans rfl
set_option maxRecDepth 20000 in
theorem b_Mod_fault_0 (cl : Nat → List Value → ds_St → Option ds_Out)  (z : ds_St) : ds_Rw ds_c_Mod_fault ds_u_Mod_fault cl 0 [some (.ref 90)] [] z =
  some (some (.int (z.1 90 9)), (ds_setI z 90 0 0)) := (ds_Rw_stp 400 0 [some (.ref 90)] [] z).trans rfl
set_option maxRecDepth 20000 in
theorem b_Mod_feed_0 (cl : Nat → List Value → ds_St → Option ds_Out) (x1 : Int32) (x2 : Int32) (x3 : Int32) (x4 : Int32) (x5 : Int32) (z : ds_St) : ds_Rw ds_c_Mod_feed ds_u_Mod_feed cl 0 [some (.ref 90), some (.int x1), some (.int x2), some (.int x3), some (.int x4), some (.int x5), none, none] [] z =
  if ((z.1 90 2) + 20) ≤ 900 then ds_Rw ds_c_Mod_feed ds_u_Mod_feed cl 23 [some (.ref 90), some (.int x1), some (.int x2), some (.int x3), some (.int x4), some (.int x5), some (.int 0), none] [] (ds_setI z 90 0 0)
    else some (some (.int (-1)), (ds_setI z 90 0 0)) := (ds_Rw_stp 400 0 [some (.ref 90), some (.int x1), some (.int x2), some (.int x3), some (.int x4), some (.int x5), none, none] [] z).trans rfl
set_option maxRecDepth 20000 in
theorem b_Mod_feed_23 (cl : Nat → List Value → ds_St → Option ds_Out) (x1 : Int32) (x2 : Int32) (x3 : Int32) (x4 : Int32) (x5 : Int32) (x6 : Int32) (z : ds_St) : ds_Rw ds_c_Mod_feed ds_u_Mod_feed cl 23 [some (.ref 90), some (.int x1), some (.int x2), some (.int x3), some (.int x4), some (.int x5), some (.int x6), none] [] z =
  if 20 ≤ x6 then some (some (.int (z.1 90 2)), z)
  else if 4 ≤ x6 then if 8 ≤ x6 then if 12 ≤ x6 then if 16 ≤ x6 then ds_Rw ds_c_Mod_feed ds_u_Mod_feed cl 76 [some (.ref 90), some (.int x1), some (.int x2), some (.int x3), some (.int x4), some (.int x5), some (.int x6), none] [.int x5] z
          else ds_Rw ds_c_Mod_feed ds_u_Mod_feed cl 76 [some (.ref 90), some (.int x1), some (.int x2), some (.int x3), some (.int x4), some (.int x5), some (.int x6), none] [.int x4] z
        else ds_Rw ds_c_Mod_feed ds_u_Mod_feed cl 76 [some (.ref 90), some (.int x1), some (.int x2), some (.int x3), some (.int x4), some (.int x5), some (.int x6), none] [.int x3] z
      else ds_Rw ds_c_Mod_feed ds_u_Mod_feed cl 76 [some (.ref 90), some (.int x1), some (.int x2), some (.int x3), some (.int x4), some (.int x5), some (.int x6), none] [.int x2] z
    else ds_Rw ds_c_Mod_feed ds_u_Mod_feed cl 76 [some (.ref 90), some (.int x1), some (.int x2), some (.int x3), some (.int x4), some (.int x5), some (.int x6), none] [.int x1] z := (ds_Rw_stp 400 23 [some (.ref 90), some (.int x1), some (.int x2), some (.int x3), some (.int x4), some (.int x5), some (.int x6), none] [] z).trans rfl
set_option maxRecDepth 20000 in
theorem b_Mod_feed_76 (cl : Nat → List Value → ds_St → Option ds_Out) (x1 : Int32) (x2 : Int32) (x3 : Int32) (x4 : Int32) (x5 : Int32) (x6 : Int32) (s0 : Int32) (z : ds_St) : ds_Rw ds_c_Mod_feed ds_u_Mod_feed cl 76 [some (.ref 90), some (.int x1), some (.int x2), some (.int x3), some (.int x4), some (.int x5), some (.int x6), none] [.int s0] z =
  if ds_in (z.1 90 2) 900 = true then ds_Rw ds_c_Mod_feed ds_u_Mod_feed cl 23 [some (.ref 90), some (.int x1), some (.int x2), some (.int x3), some (.int x4), some (.int x5), some (.int (x6 + 1)), none] [] (ds_setI (ds_setI z 91 ((z.1 90 2).toNatClampNeg) ((s0 >>> ((24 - (8 * (x6 - x6 / 4 * 4))) &&& 31)) &&& 255)) 90 2 ((z.1 90 2) + 1))
    else none := (ds_Rw_stp 400 76 [some (.ref 90), some (.int x1), some (.int x2), some (.int x3), some (.int x4), some (.int x5), some (.int x6), none] [.int s0] z).trans rfl
set_option maxRecDepth 20000 in
theorem b_Mod_fewest_0 (cl : Nat → List Value → ds_St → Option ds_Out) (x1 : Int32) (x2 : Int32) (z : ds_St) : ds_Rw ds_c_Mod_fewest ds_u_Mod_fewest cl 0 [some (.ref 90), some (.int x1), some (.int x2)] [] z =
  (ds_cV cl j_Mod_good [.ref 90] z fun z1 => (ds_cI cl j_Mod_isInDeck [.ref 90, .int x1] z1 fun r2 z2 => if r2 = 0 then (ds_cI cl j_Mod_no [.ref 90, .int 1] z2 fun r3 z3 => some (some (.int r3), z3))
      else (ds_cI cl j_Mod_in [.int x2, .int 0, .int ((z2.1 95 12) - 1)] z2 fun r4 z4 => if ¬ r4 = 0 then (ds_cI cl j_Mod_seekPlace [.ref 90, .int x1, .int x2] z4 fun r5 z5 => if r5 = 0 then some (some (.int (-2)), z5)
                else (ds_cI cl j_Mod_wayLong [.ref 90] z5 fun r6 z6 => some (some (.int r6), z6)))
            else (ds_cI cl j_Mod_no [.ref 90, .int 1] z4 fun r7 z7 => some (some (.int r7), z7))))) := (ds_Rw_stp 400 0 [some (.ref 90), some (.int x1), some (.int x2)] [] z).trans rfl
set_option maxRecDepth 20000 in
theorem b_Mod_find_0 (cl : Nat → List Value → ds_St → Option ds_Out)  (z : ds_St) : ds_Rw ds_c_Mod_find ds_u_Mod_find cl 0 [some (.ref 90), none, none, none] [] z =
  ds_Rw ds_c_Mod_find ds_u_Mod_find cl 2 [some (.ref 90), some (.int 0), none, none] [] z := (ds_Rw_stp 400 0 [some (.ref 90), none, none, none] [] z).trans rfl
set_option maxRecDepth 20000 in
theorem b_Mod_find_2 (cl : Nat → List Value → ds_St → Option ds_Out) (x1 : Int32) (z : ds_St) : ds_Rw ds_c_Mod_find ds_u_Mod_find cl 2 [some (.ref 90), some (.int x1), none, none] [] z =
  if 22 ≤ x1 then some (some (.int (-1)), z)
  else if ds_in (91 + x1) 289 = true then if (z.1 94 ((91 + x1).toNatClampNeg)) ≤ 0 then ds_Rw ds_c_Mod_find ds_u_Mod_find cl 44 [some (.ref 90), some (.int x1), some (.int 0), some (.int 0)] [] z
      else if ds_in (91 + x1) 289 = true then if ¬ (z.1 94 ((91 + x1).toNatClampNeg)) = (z.1 90 8) then ds_Rw ds_c_Mod_find ds_u_Mod_find cl 44 [some (.ref 90), some (.int x1), some (.int 0), some (.int 0)] [] z
          else ds_Rw ds_c_Mod_find ds_u_Mod_find cl 44 [some (.ref 90), some (.int x1), some (.int 1), some (.int 0)] [] z
        else none
    else none := (ds_Rw_stp 400 2 [some (.ref 90), some (.int x1), none, none] [] z).trans rfl
set_option maxRecDepth 20000 in
theorem b_Mod_find_44 (cl : Nat → List Value → ds_St → Option ds_Out) (x1 : Int32) (x2 : Int32) (x3 : Int32) (z : ds_St) : ds_Rw ds_c_Mod_find ds_u_Mod_find cl 44 [some (.ref 90), some (.int x1), some (.int x2), some (.int x3)] [] z =
  if (z.1 90 8) ≤ x3 then if x2 = 0 then ds_Rw ds_c_Mod_find ds_u_Mod_find cl 2 [some (.ref 90), some (.int (x1 + 1)), none, none] [] z
    else some (some (.int x1), z)
  else if x2 = 0 then if x2 = 0 then ds_Rw ds_c_Mod_find ds_u_Mod_find cl 2 [some (.ref 90), some (.int (x1 + 1)), none, none] [] z
      else some (some (.int x1), z)
    else if ds_in ((113 + (8 * x1)) + x3) 289 = true then if ds_in x3 8 = true then if ¬ (z.1 94 (((113 + (8 * x1)) + x3).toNatClampNeg)) = (z.1 92 x3.toNatClampNeg) then ds_Rw ds_c_Mod_find ds_u_Mod_find cl 44 [some (.ref 90), some (.int x1), some (.int 0), some (.int (x3 + 1))] [] z
          else ds_Rw ds_c_Mod_find ds_u_Mod_find cl 44 [some (.ref 90), some (.int x1), some (.int 1), some (.int (x3 + 1))] [] z
        else none
      else none := (ds_Rw_stp 400 44 [some (.ref 90), some (.int x1), some (.int x2), some (.int x3)] [] z).trans rfl
set_option maxRecDepth 20000 in
theorem b_Mod_fitAt_0 (cl : Nat → List Value → ds_St → Option ds_Out) (x1 : Int32) (x2 : Int32) (z : ds_St) : ds_Rw ds_c_Mod_fitAt ds_u_Mod_fitAt cl 0 [some (.ref 90), some (.int x1), some (.int x2)] [] z =
  (ds_cV cl j_Mod_good [.ref 90] z fun z1 => if ¬ (z1.1 90 14) = 0 then (ds_cI cl j_Mod_in [.int x1, .int 0, .int 3] z1 fun r2 z2 => if ¬ r2 = 0 then (ds_cI cl j_Mod_in [.int x2, .int 0, .int (x1 - 1)] z2 fun r3 z3 => if ¬ r3 = 0 then (ds_cV cl j_Mod_seekFits [.ref 90, .int x1] z3 fun z4 => if ¬ (z4.1 90 29) = 0 then if ds_in x2 3 = true then some (some (.int (z4.1 104 x2.toNatClampNeg)), z4)
                  else none
                else some (some (.int (-2)), z4))
            else (ds_cI cl j_Mod_no [.ref 90, .int 1] z3 fun r5 z5 => some (some (.int r5), z5)))
        else (ds_cI cl j_Mod_no [.ref 90, .int 2] z2 fun r6 z6 => some (some (.int r6), z6)))
    else (ds_cI cl j_Mod_no [.ref 90, .int 1] z1 fun r7 z7 => some (some (.int r7), z7))) := (ds_Rw_stp 400 0 [some (.ref 90), some (.int x1), some (.int x2)] [] z).trans rfl
set_option maxRecDepth 20000 in
theorem b_Mod_fits_0 (cl : Nat → List Value → ds_St → Option ds_Out) (x1 : Int32) (z : ds_St) : ds_Rw ds_c_Mod_fits ds_u_Mod_fits cl 0 [some (.ref 90), some (.int x1)] [] z =
  (ds_cV cl j_Mod_good [.ref 90] z fun z1 => if ¬ (z1.1 90 14) = 0 then (ds_cI cl j_Mod_in [.int x1, .int 0, .int 3] z1 fun r2 z2 => if ¬ r2 = 0 then (ds_cV cl j_Mod_seekFits [.ref 90, .int x1] z2 fun z3 => some (some (.int (z3.1 90 29)), z3))
        else (ds_cI cl j_Mod_no [.ref 90, .int 2] z2 fun r4 z4 => some (some (.int r4), z4)))
    else (ds_cI cl j_Mod_no [.ref 90, .int 1] z1 fun r5 z5 => some (some (.int r5), z5))) := (ds_Rw_stp 400 0 [some (.ref 90), some (.int x1)] [] z).trans rfl
set_option maxRecDepth 20000 in
theorem b_Mod_gain_0 (cl : Nat → List Value → ds_St → Option ds_Out) (x1 : Int32) (x2 : Int32) (x3 : Int32) (x4 : Int32) (z : ds_St) : ds_Rw ds_c_Mod_gain ds_u_Mod_gain cl 0 [some (.ref 90), some (.int x1), some (.int x2), some (.int x3), some (.int x4)] [] z =
  (ds_cV cl j_Mod_good [.ref 90] z fun z1 => (ds_cI cl j_Mod_areGoods [.ref 90, .int x1, .int x2] z1 fun r2 z2 => if r2 = 0 then some (some (.int (-1000)), (ds_setI z2 90 11 1))
      else (ds_cI cl j_Mod_isMove [.ref 90, .int x3] z2 fun r3 z3 => if r3 = 0 then some (some (.int (-1000)), (ds_setI z3 90 11 1))
          else (ds_cI cl j_Mod_isMove [.ref 90, .int x4] z3 fun r4 z4 => if r4 = 0 then some (some (.int (-1000)), (ds_setI z4 90 11 1))
              else (ds_cI cl j_Mod_gainOf [.ref 90, .int x1, .int x2, .int x3, .int x4] z4 fun r5 z5 => some (some (.int r5), z5)))))) := (ds_Rw_stp 400 0 [some (.ref 90), some (.int x1), some (.int x2), some (.int x3), some (.int x4)] [] z).trans rfl
set_option maxRecDepth 20000 in
theorem b_Mod_gainOf_0 (cl : Nat → List Value → ds_St → Option ds_Out) (x1 : Int32) (x2 : Int32) (x3 : Int32) (x4 : Int32) (z : ds_St) : ds_Rw ds_c_Mod_gainOf ds_u_Mod_gainOf cl 0 [some (.ref 90), some (.int x1), some (.int x2), some (.int x3), some (.int x4)] [] z =
  (ds_cV cl j_Mod_copy [.ref 95, .int 0, .ref 101, .int 0, .int 14] z fun z1 => (ds_cV cl j_Mod_makes [.ref 90, .ref 101, .int x3] z1 fun z2 => (ds_cV cl j_Mod_makes [.ref 90, .ref 101, .int x4] z2 fun z3 => (ds_cI cl j_Mod_tradesIn [.ref 90, .ref 101, .int x1] z3 fun r4 z4 => (ds_cI cl j_Mod_tradesIn [.ref 90, .ref 101, .int x2] z4 fun r5 z5 => some (some (.int (r4 - r5)), z5)))))) := (ds_Rw_stp 400 0 [some (.ref 90), some (.int x1), some (.int x2), some (.int x3), some (.int x4)] [] z).trans rfl
set_option maxRecDepth 20000 in
theorem b_Mod_goThrough_0 (cl : Nat → List Value → ds_St → Option ds_Out) (x1 : Int32) (x2 : Int32) (x3 : Int32) (z : ds_St) : ds_Rw ds_c_Mod_goThrough ds_u_Mod_goThrough cl 0 [some (.ref 90), some (.int x1), some (.int x2), some (.int x3), none, none, none] [] z =
  (ds_cV cl j_Mod_copy [.ref 95, .int 0, .ref 100, .int 0, .int 14] z fun z1 => ds_Rw ds_c_Mod_goThrough ds_u_Mod_goThrough cl 36 [some (.ref 90), none, some (.int x2), some (.int x3), some (.int x1), some (.int 0), none] [] (ds_setI (ds_setI (ds_setI z1 90 42 0) 90 43 0) 90 44 0)) := (ds_Rw_stp 400 0 [some (.ref 90), some (.int x1), some (.int x2), some (.int x3), none, none, none] [] z).trans rfl
set_option maxRecDepth 20000 in
theorem b_Mod_goThrough_36 (cl : Nat → List Value → ds_St → Option ds_Out) (x2 : Int32) (x3 : Int32) (x4 : Int32) (x5 : Int32) (z : ds_St) : ds_Rw ds_c_Mod_goThrough ds_u_Mod_goThrough cl 36 [some (.ref 90), none, some (.int x2), some (.int x3), some (.int x4), some (.int x5), none] [] z =
  if x2 ≤ x5 then some (none, z)
  else ds_Rw ds_c_Mod_goThrough ds_u_Mod_goThrough cl 45 [some (.ref 90), none, some (.int x2), some (.int x3), some (.int x4), some (.int x5), some (.int 0)] [] z := (ds_Rw_stp 400 36 [some (.ref 90), none, some (.int x2), some (.int x3), some (.int x4), some (.int x5), none] [] z).trans rfl
set_option maxRecDepth 20000 in
theorem b_Mod_goThrough_45 (cl : Nat → List Value → ds_St → Option ds_Out) (x2 : Int32) (x3 : Int32) (x4 : Int32) (x5 : Int32) (x6 : Int32) (z : ds_St) : ds_Rw ds_c_Mod_goThrough ds_u_Mod_goThrough cl 45 [some (.ref 90), none, some (.int x2), some (.int x3), some (.int x4), some (.int x5), some (.int x6)] [] z =
  if (z.1 93 5) ≤ x6 then (ds_cI cl j_Mod_tradesIn [.ref 90, .ref 100, .int (-1)] z fun r1 z1 => (ds_cI cl j_Mod_wishesIn [.ref 90, .ref 100] (ds_setI z1 90 42 ((z.1 90 42) + r1)) fun r2 z2 => (ds_cI cl j_Mod_isInSea [.ref 90, .ref 100, .int x3] (ds_setI z2 90 43 ((z1.1 90 43) + r2)) fun r3 z3 => if r3 = 0 then ds_Rw ds_c_Mod_goThrough ds_u_Mod_goThrough cl 36 [some (.ref 90), none, some (.int x2), some (.int x3), some (.int x4), some (.int (x5 + 1)), none] [] (ds_setI z3 90 44 ((z2.1 90 44) + 0))
                else ds_Rw ds_c_Mod_goThrough ds_u_Mod_goThrough cl 36 [some (.ref 90), none, some (.int x2), some (.int x3), some (.int x4), some (.int (x5 + 1)), none] [] (ds_setI z3 90 44 ((z2.1 90 44) + 1)))))
    else (ds_cI cl j_Mod_movesOf [.ref 90, .ref 100] z fun r4 z4 => if ¬ r4 = 0 then (ds_cV cl j_Mod_makes [.ref 90, .ref 100, .int ((((75 * x4) + 74) - ((75 * x4) + 74) / 65537 * 65537) - (((75 * x4) + 74) - ((75 * x4) + 74) / 65537 * 65537) / r4 * r4)] z4 fun z5 => ds_Rw ds_c_Mod_goThrough ds_u_Mod_goThrough cl 45 [some (.ref 90), none, some (.int x2), some (.int x3), some (.int (((75 * x4) + 74) - ((75 * x4) + 74) / 65537 * 65537)), some (.int x5), some (.int (x6 + 1))] [] z5)
          else none) := (ds_Rw_stp 400 45 [some (.ref 90), none, some (.int x2), some (.int x3), some (.int x4), some (.int x5), some (.int x6)] [] z).trans rfl
set_option maxRecDepth 20000 in
theorem b_Mod_goesTo_0 (cl : Nat → List Value → ds_St → Option ds_Out) (x0 : Int32) (x1 : Int32) (x2 : Int32) (z : ds_St) : ds_Rw ds_c_Mod_goesTo ds_u_Mod_goesTo cl 0 [some (.int x0), some (.int x1), some (.int x2), none, none] [] z =
  if ¬ x0 = 2 then if x0 ≤ 2 then if ¬ x0 = 0 then ds_Rw ds_c_Mod_goesTo ds_u_Mod_goesTo cl 44 [some (.int x0), some (.int x1), none, none, none] [.int (x2 / 2)] z
      else ds_Rw ds_c_Mod_goesTo ds_u_Mod_goesTo cl 44 [some (.int x0), some (.int x1), none, none, none] [.int ((x2 + 1) / 2)] z
    else if ¬ x2 = 0 then some (some (.int (((x1 + (13 * x2)) - (x0 - 2)) - ((x1 + (13 * x2)) - (x0 - 2)) / x2 * x2)), z)
      else none
  else some (some (.int ((x2 - 1) - x1)), z) := (ds_Rw_stp 400 0 [some (.int x0), some (.int x1), some (.int x2), none, none] [] z).trans rfl
set_option maxRecDepth 20000 in
theorem b_Mod_goesTo_44 (cl : Nat → List Value → ds_St → Option ds_Out) (x0 : Int32) (x1 : Int32) (s0 : Int32) (z : ds_St) : ds_Rw ds_c_Mod_goesTo ds_u_Mod_goesTo cl 44 [some (.int x0), some (.int x1), none, none, none] [.int s0] z =
  if ¬ x0 = 0 then ds_Rw ds_c_Mod_goesTo ds_u_Mod_goesTo cl 54 [none, some (.int x1), none, some (.int s0), none] [.int 1] z
  else ds_Rw ds_c_Mod_goesTo ds_u_Mod_goesTo cl 54 [none, some (.int x1), none, some (.int s0), none] [.int 0] z := (ds_Rw_stp 400 44 [some (.int x0), some (.int x1), none, none, none] [.int s0] z).trans rfl
set_option maxRecDepth 20000 in
theorem b_Mod_goesTo_54 (cl : Nat → List Value → ds_St → Option ds_Out) (x1 : Int32) (x3 : Int32) (s0 : Int32) (z : ds_St) : ds_Rw ds_c_Mod_goesTo ds_u_Mod_goesTo cl 54 [none, some (.int x1), none, some (.int x3), none] [.int s0] z =
  if x3 ≤ x1 then some (some (.int (((2 * (x1 - x3)) + 1) - s0)), z)
  else some (some (.int ((2 * x1) + s0)), z) := (ds_Rw_stp 400 54 [none, some (.int x1), none, some (.int x3), none] [.int s0] z).trans rfl
set_option maxRecDepth 20000 in
theorem b_Mod_good_0 (cl : Nat → List Value → ds_St → Option ds_Out)  (z : ds_St) : ds_Rw ds_c_Mod_good ds_u_Mod_good cl 0 [some (.ref 90)] [] z =
  some (none, (ds_setI (ds_setI z 90 0 0) 90 11 0)) := (ds_Rw_stp 400 0 [some (.ref 90)] [] z).trans rfl
set_option maxRecDepth 20000 in
theorem b_Mod_goodPassed_0 (cl : Nat → List Value → ds_St → Option ds_Out)  (z : ds_St) : ds_Rw ds_c_Mod_goodPassed ds_u_Mod_goodPassed cl 0 [some (.ref 90)] [] z =
  (ds_cI cl j_Mod_oneOf [.ref 90, .ref 314, .ref 315, .ref 316, .ref 317] z fun r1 z1 => some (some (.int r1), z1)) := (ds_Rw_stp 400 0 [some (.ref 90)] [] z).trans rfl
set_option maxRecDepth 20000 in
theorem b_Mod_hasBit_0 (cl : Nat → List Value → ds_St → Option ds_Out) (x0 : Int32) (x1 : Int32) (z : ds_St) : ds_Rw ds_c_Mod_hasBit ds_u_Mod_hasBit cl 0 [some (.int x0), some (.int x1)] [] z =
  if ¬ ((x0 >>> (x1 &&& 31)) &&& 1) = 1 then some (some (.int 0), z)
  else some (some (.int 1), z) := (ds_Rw_stp 400 0 [some (.int x0), some (.int x1)] [] z).trans rfl
set_option maxRecDepth 20000 in
theorem b_Mod_image_0 (cl : Nat → List Value → ds_St → Option ds_Out)  (z : ds_St) : ds_Rw ds_c_Mod_image ds_u_Mod_image cl 0 [some (.ref 90)] [] z =
  (ds_cV cl j_Mod_good [.ref 90] z fun z1 => if ¬ (z1.1 90 14) = 0 then if ¬ (z1.1 90 21) = 3 then (ds_cV cl j_Mod_copy [.ref 95, .int 0, .ref 97, .int (14 * (z1.1 90 21)), .int 14] z1 fun z2 => some (some (.int (((z2.1 90 21) + 1) - 1)), (ds_setI z2 90 21 ((z2.1 90 21) + 1))))
      else (ds_cI cl j_Mod_no [.ref 90, .int 3] z1 fun r3 z3 => some (some (.int r3), z3))
    else (ds_cI cl j_Mod_no [.ref 90, .int 1] z1 fun r4 z4 => some (some (.int r4), z4))) := (ds_Rw_stp 400 0 [some (.ref 90)] [] z).trans rfl
set_option maxRecDepth 20000 in
theorem b_Mod_in_0 (cl : Nat → List Value → ds_St → Option ds_Out) (x0 : Int32) (x1 : Int32) (x2 : Int32) (z : ds_St) : ds_Rw ds_c_Mod_in ds_u_Mod_in cl 0 [some (.int x0), some (.int x1), some (.int x2)] [] z =
  if x0 < x1 then some (some (.int 0), z)
  else if x2 < x0 then some (some (.int 0), z)
    else some (some (.int 1), z) := (ds_Rw_stp 400 0 [some (.int x0), some (.int x1), some (.int x2)] [] z).trans rfl
set_option maxRecDepth 20000 in
theorem b_Mod_inSea_0 (cl : Nat → List Value → ds_St → Option ds_Out) (x1 : Int32) (x2 : Int32) (x3 : Int32) (z : ds_St) : ds_Rw ds_c_Mod_inSea ds_u_Mod_inSea cl 0 [some (.ref 90), some (.int x1), some (.int x2), some (.int x3), none, none, none] [] z =
  (ds_cV cl j_Mod_good [.ref 90] z fun z1 => (ds_cI cl j_Mod_isInDeck [.ref 90, .int x1] z1 fun r2 z2 => if ¬ r2 = 0 then (ds_cI cl j_Mod_in [.int x2, .int 0, .int 8] z2 fun r3 z3 => if ¬ r3 = 0 then (ds_cV cl j_Mod_layWays [.ref 90, .int x1, .int x2] z3 fun z4 => ds_Rw ds_c_Mod_inSea ds_u_Mod_inSea cl 48 [some (.ref 90), none, some (.int x2), some (.int x3), some (.long 0), none, some (.int 0)] [] z4)
          else (ds_cI cl j_Mod_no [.ref 90, .int 2] z3 fun r5 z5 => some (some (.long r5.toInt64), z5)))
      else (ds_cI cl j_Mod_no [.ref 90, .int 1] z2 fun r6 z6 => some (some (.long r6.toInt64), z6)))) := (ds_Rw_stp 400 0 [some (.ref 90), some (.int x1), some (.int x2), some (.int x3), none, none, none] [] z).trans rfl
set_option maxRecDepth 20000 in
theorem b_Mod_inSea_48 (cl : Nat → List Value → ds_St → Option ds_Out) (x2 : Int32) (x3 : Int32) (x4 : Int64) (x6 : Int32) (z : ds_St) : ds_Rw ds_c_Mod_inSea ds_u_Mod_inSea cl 48 [some (.ref 90), none, some (.int x2), some (.int x3), some (.long x4), none, some (.int x6)] [] z =
  (ds_cI cl j_Mod_room [.ref 90] z fun r1 z1 => if r1 ≤ x6 then (ds_cL cl j_Mod_allWays [.ref 90, .int x2] z1 fun r2 z2 => (ds_cL cl j_Mod_lowest [.long x4, .long r2, .int x3] z2 fun r3 z3 => some (some (.long r3), z3)))
    else if 12 ≤ x6 then ds_Rw ds_c_Mod_inSea ds_u_Mod_inSea cl 48 [some (.ref 90), none, some (.int x2), some (.int x3), some (.long (x4 + 0)), none, some (.int (x6 + 1))] [] z1
      else if ds_in x6 12 = true then ds_Rw ds_c_Mod_inSea ds_u_Mod_inSea cl 48 [some (.ref 90), none, some (.int x2), some (.int x3), some (.long (x4 + (z1.2.1 105 x6.toNatClampNeg))), none, some (.int (x6 + 1))] [] z1
        else none) := (ds_Rw_stp 400 48 [some (.ref 90), none, some (.int x2), some (.int x3), some (.long x4), none, some (.int x6)] [] z).trans rfl
set_option maxRecDepth 20000 in
theorem b_Mod_isCorner_0 (cl : Nat → List Value → ds_St → Option ds_Out) (x1 : Int32) (z : ds_St) : ds_Rw ds_c_Mod_isCorner ds_u_Mod_isCorner cl 0 [some (.ref 90), some (.int x1), none, none] [] z =
  if ¬ (z.1 93 0) = 0 then if ¬ (z.1 93 0) = 0 then if (x1 - x1 / (z.1 93 0) * (z.1 93 0)) = 0 then ds_Rw ds_c_Mod_isCorner ds_u_Mod_isCorner cl 34 [some (.ref 90), none, none, some (.int (x1 / (z.1 93 0)))] [] z
          else if ¬ (x1 - x1 / (z.1 93 0) * (z.1 93 0)) = ((z.1 93 0) - 1) then some (some (.int 0), z)
              else ds_Rw ds_c_Mod_isCorner ds_u_Mod_isCorner cl 34 [some (.ref 90), none, none, some (.int (x1 / (z.1 93 0)))] [] z
        else none
    else none := (ds_Rw_stp 400 0 [some (.ref 90), some (.int x1), none, none] [] z).trans rfl
set_option maxRecDepth 20000 in
theorem b_Mod_isCorner_34 (cl : Nat → List Value → ds_St → Option ds_Out) (x3 : Int32) (z : ds_St) : ds_Rw ds_c_Mod_isCorner ds_u_Mod_isCorner cl 34 [some (.ref 90), none, none, some (.int x3)] [] z =
  if x3 = 0 then some (some (.int 1), z)
  else if ¬ x3 = ((z.1 93 1) - 1) then some (some (.int 0), z)
      else some (some (.int 1), z) := (ds_Rw_stp 400 34 [some (.ref 90), none, none, some (.int x3)] [] z).trans rfl
set_option maxRecDepth 20000 in
theorem b_Mod_isDigit_0 (cl : Nat → List Value → ds_St → Option ds_Out) (x0 : Int32) (z : ds_St) : ds_Rw ds_c_Mod_isDigit ds_u_Mod_isDigit cl 0 [some (.int x0)] [] z =
  if x0 < 48 then some (some (.int 0), z)
  else if 57 < x0 then some (some (.int 0), z)
    else some (some (.int 1), z) := (ds_Rw_stp 400 0 [some (.int x0)] [] z).trans rfl
set_option maxRecDepth 20000 in
theorem b_Mod_isGoal_0 (cl : Nat → List Value → ds_St → Option ds_Out) (x1 : Int32) (z : ds_St) : ds_Rw ds_c_Mod_isGoal ds_u_Mod_isGoal cl 0 [some (.ref 90), some (.int x1), none, none, none, none] [] z =
  if ¬ (z.1 90 36) = 0 then if ¬ (z.1 90 36) = 1 then (ds_cI cl j_Mod_areBeside [.ref 90, .int (x1 - x1 / 12 * 12), .int ((x1 / 12) - (x1 / 12) / 12 * 12), .int (z.1 95 12)] z fun r1 z1 => if r1 = 0 then ds_Rw ds_c_Mod_isGoal ds_u_Mod_isGoal cl 85 [some (.ref 90), none, some (.int (x1 - x1 / 12 * 12)), some (.int ((x1 / 12) - (x1 / 12) / 12 * 12)), some (.int ((x1 / 12) / 12)), some (.int (z.1 95 12))] [.int 0] z1
                    else ds_Rw ds_c_Mod_isGoal ds_u_Mod_isGoal cl 85 [some (.ref 90), none, some (.int (x1 - x1 / 12 * 12)), some (.int ((x1 / 12) - (x1 / 12) / 12 * 12)), some (.int ((x1 / 12) / 12)), some (.int (z.1 95 12))] [.int 1] z1)
                else (ds_cI cl j_Mod_areBeside [.ref 90, .int (x1 - x1 / 12 * 12), .int ((x1 / 12) - (x1 / 12) / 12 * 12), .int (z.1 95 12)] z fun r2 z2 => if r2 = 0 ∨ r2 = 1 then some (some (.int r2), z2)
                    else none)
              else if ¬ (x1 - x1 / 12 * 12) = (z.1 90 37) then some (some (.int 0), z)
                else some (some (.int 1), z) := (ds_Rw_stp 400 0 [some (.ref 90), some (.int x1), none, none, none, none] [] z).trans rfl
set_option maxRecDepth 20000 in
theorem b_Mod_isGoal_85 (cl : Nat → List Value → ds_St → Option ds_Out) (x2 : Int32) (x3 : Int32) (x4 : Int32) (x5 : Int32) (s0 : Int32) (z : ds_St) : ds_Rw ds_c_Mod_isGoal ds_u_Mod_isGoal cl 85 [some (.ref 90), none, some (.int x2), some (.int x3), some (.int x4), some (.int x5)] [.int s0] z =
  (ds_cI cl j_Mod_areBeside [.ref 90, .int x2, .int x4, .int x5] z fun r1 z1 => if r1 = 0 then ds_Rw ds_c_Mod_isGoal ds_u_Mod_isGoal cl 102 [some (.ref 90), none, none, some (.int x3), some (.int x4), some (.int x5)] [.int 0, .int s0] z1
    else ds_Rw ds_c_Mod_isGoal ds_u_Mod_isGoal cl 102 [some (.ref 90), none, none, some (.int x3), some (.int x4), some (.int x5)] [.int 1, .int s0] z1) := (ds_Rw_stp 400 85 [some (.ref 90), none, some (.int x2), some (.int x3), some (.int x4), some (.int x5)] [.int s0] z).trans rfl
set_option maxRecDepth 20000 in
theorem b_Mod_isGoal_102 (cl : Nat → List Value → ds_St → Option ds_Out) (x3 : Int32) (x4 : Int32) (x5 : Int32) (s0 : Int32) (s1 : Int32) (z : ds_St) : ds_Rw ds_c_Mod_isGoal ds_u_Mod_isGoal cl 102 [some (.ref 90), none, none, some (.int x3), some (.int x4), some (.int x5)] [.int s0, .int s1] z =
  (ds_cI cl j_Mod_areBeside [.ref 90, .int x3, .int x4, .int x5] z fun r1 z1 => if r1 = 0 then ds_Rw ds_c_Mod_isGoal ds_u_Mod_isGoal cl 120 [none, none, none, none, none, none] [.int 0, .int (s1 + s0)] z1
    else ds_Rw ds_c_Mod_isGoal ds_u_Mod_isGoal cl 120 [none, none, none, none, none, none] [.int 1, .int (s1 + s0)] z1) := (ds_Rw_stp 400 102 [some (.ref 90), none, none, some (.int x3), some (.int x4), some (.int x5)] [.int s0, .int s1] z).trans rfl
set_option maxRecDepth 20000 in
theorem b_Mod_isGoal_120 (cl : Nat → List Value → ds_St → Option ds_Out) (s0 : Int32) (s1 : Int32) (z : ds_St) : ds_Rw ds_c_Mod_isGoal ds_u_Mod_isGoal cl 120 [none, none, none, none, none, none] [.int s0, .int s1] z =
  if (s1 + s0) ≤ 1 then some (some (.int 0), z)
  else some (some (.int 1), z) := (ds_Rw_stp 400 120 [none, none, none, none, none, none] [.int s0, .int s1] z).trans rfl
set_option maxRecDepth 20000 in
theorem b_Mod_isInDeck_0 (cl : Nat → List Value → ds_St → Option ds_Out) (x1 : Int32) (z : ds_St) : ds_Rw ds_c_Mod_isInDeck ds_u_Mod_isInDeck cl 0 [some (.ref 90), some (.int x1)] [] z =
  (ds_cI cl j_Mod_isIsland [.ref 90, .int x1] z fun r1 z1 => if r1 = 0 then some (some (.int 0), z1)
    else (ds_cI cl j_Mod_placeIn [.ref 95, .int x1] z1 fun r2 z2 => if r2 < 0 then some (some (.int 0), z2)
        else some (some (.int 1), z2))) := (ds_Rw_stp 400 0 [some (.ref 90), some (.int x1)] [] z).trans rfl
set_option maxRecDepth 20000 in
theorem b_Mod_isInSea_0 (cl : Nat → List Value → ds_St → Option ds_Out) (x1 : Nat) (x2 : Int32) (z : ds_St) : ds_Rw ds_c_Mod_isInSea ds_u_Mod_isInSea cl 0 [some (.ref 90), some (.ref x1), some (.int x2)] [] z =
  (ds_cI cl j_Mod_placeIn [.ref x1, .int x2] z fun r1 z1 => (ds_cI cl j_Mod_room [.ref 90] z1 fun r2 z2 => (ds_cI cl j_Mod_in [.int r1, .int 0, .int (r2 - 1)] z2 fun r3 z3 => if r3 = 0 ∨ r3 = 1 then some (some (.int r3), z3)
        else none))) := (ds_Rw_stp 400 0 [some (.ref 90), some (.ref x1), some (.int x2)] [] z).trans rfl
set_option maxRecDepth 20000 in
theorem b_Mod_isIsland_0 (cl : Nat → List Value → ds_St → Option ds_Out) (x1 : Int32) (z : ds_St) : ds_Rw ds_c_Mod_isIsland ds_u_Mod_isIsland cl 0 [some (.ref 90), some (.int x1)] [] z =
  if (z.1 90 14) = 0 then some (some (.int 0), z)
  else (ds_cI cl j_Mod_in [.int x1, .int 0, .int ((z.1 93 4) - 1)] z fun r1 z1 => if r1 = 0 then some (some (.int 0), z1)
        else some (some (.int 1), z1)) := (ds_Rw_stp 400 0 [some (.ref 90), some (.int x1)] [] z).trans rfl
set_option maxRecDepth 20000 in
theorem b_Mod_isJoker_0 (cl : Nat → List Value → ds_St → Option ds_Out) (x1 : Int32) (z : ds_St) : ds_Rw ds_c_Mod_isJoker ds_u_Mod_isJoker cl 0 [some (.ref 90), some (.int x1)] [] z =
  (ds_cI cl j_Mod_of [.ref 90, .int x1, .int 0] z fun r1 z1 => if ¬ r1 = 2 then some (some (.int 0), z1)
    else some (some (.int 1), z1)) := (ds_Rw_stp 400 0 [some (.ref 90), some (.int x1)] [] z).trans rfl
set_option maxRecDepth 20000 in
theorem b_Mod_isMove_0 (cl : Nat → List Value → ds_St → Option ds_Out) (x1 : Int32) (z : ds_St) : ds_Rw ds_c_Mod_isMove ds_u_Mod_isMove cl 0 [some (.ref 90), some (.int x1)] [] z =
  if (z.1 90 14) = 0 then some (some (.int 0), z)
  else (ds_cI cl j_Mod_movesOf [.ref 90, .ref 95] z fun r1 z1 => (ds_cI cl j_Mod_in [.int x1, .int 0, .int (r1 - 1)] z1 fun r2 z2 => if r2 = 0 then some (some (.int 0), z2)
        else some (some (.int 1), z2))) := (ds_Rw_stp 400 0 [some (.ref 90), some (.int x1)] [] z).trans rfl
set_option maxRecDepth 20000 in
theorem b_Mod_isNot_0 (cl : Nat → List Value → ds_St → Option ds_Out) (x1 : Int32) (z : ds_St) : ds_Rw ds_c_Mod_isNot ds_u_Mod_isNot cl 0 [some (.ref 90), some (.int x1)] [] z =
  some (some (.int 0), (ds_setI z 90 11 x1)) := (ds_Rw_stp 400 0 [some (.ref 90), some (.int x1)] [] z).trans rfl
set_option maxRecDepth 20000 in
theorem b_Mod_isRest_0 (cl : Nat → List Value → ds_St → Option ds_Out) (x1 : Int32) (x2 : Int32) (z : ds_St) : ds_Rw ds_c_Mod_isRest ds_u_Mod_isRest cl 0 [some (.ref 90), some (.int x1), some (.int x2), none, none] [] z =
  ds_Rw ds_c_Mod_isRest ds_u_Mod_isRest cl 5 [some (.ref 90), some (.int x1), some (.int x2), some (.int 1), some (.int 0)] [] z := (ds_Rw_stp 400 0 [some (.ref 90), some (.int x1), some (.int x2), none, none] [] z).trans rfl
set_option maxRecDepth 20000 in
theorem b_Mod_isRest_5 (cl : Nat → List Value → ds_St → Option ds_Out) (x1 : Int32) (x2 : Int32) (x3 : Int32) (x4 : Int32) (z : ds_St) : ds_Rw ds_c_Mod_isRest ds_u_Mod_isRest cl 5 [some (.ref 90), some (.int x1), some (.int x2), some (.int x3), some (.int x4)] [] z =
  (ds_cI cl j_Mod_movesOf [.ref 90, .ref 95] z fun r1 z1 => if r1 ≤ x4 then if x3 = 0 ∨ x3 = 1 then some (some (.int x3), z1)
      else none
    else if x3 = 0 then ds_Rw ds_c_Mod_isRest ds_u_Mod_isRest cl 5 [some (.ref 90), some (.int x1), some (.int x2), some (.int 0), some (.int (x4 + 1))] [] z1
      else if ds_in ((14 * x4) + x2) 196 = true then if ds_in ((14 * x1) + x2) 196 = true then if (z1.1 110 (((14 * x1) + x2).toNatClampNeg)) < (z1.1 110 (((14 * x4) + x2).toNatClampNeg)) then ds_Rw ds_c_Mod_isRest ds_u_Mod_isRest cl 5 [some (.ref 90), some (.int x1), some (.int x2), some (.int 0), some (.int (x4 + 1))] [] z1
            else if ds_in ((14 * x1) + x4) 196 = true then if ds_in ((14 * x1) + x2) 196 = true then if (z1.1 110 (((14 * x1) + x4).toNatClampNeg)) < (z1.1 110 (((14 * x1) + x2).toNatClampNeg)) then ds_Rw ds_c_Mod_isRest ds_u_Mod_isRest cl 5 [some (.ref 90), some (.int x1), some (.int x2), some (.int 0), some (.int (x4 + 1))] [] z1
                  else ds_Rw ds_c_Mod_isRest ds_u_Mod_isRest cl 5 [some (.ref 90), some (.int x1), some (.int x2), some (.int 1), some (.int (x4 + 1))] [] z1
                else none
              else none
          else none
        else none) := (ds_Rw_stp 400 5 [some (.ref 90), some (.int x1), some (.int x2), some (.int x3), some (.int x4)] [] z).trans rfl
set_option maxRecDepth 20000 in
theorem b_Mod_isShown_0 (cl : Nat → List Value → ds_St → Option ds_Out) (x1 : Nat) (x2 : Int32) (z : ds_St) : ds_Rw ds_c_Mod_isShown ds_u_Mod_isShown cl 0 [some (.ref 90), some (.ref x1), some (.int x2), none] [] z =
  if ds_in (79 + (2 * x2)) 289 = true then if ds_K x1 = 11 then if ds_in 12 (ds_N x1) = true then if (z.1 x1 12) ≤ (z.1 93 ((79 + (2 * x2)).toNatClampNeg)) then some (some (.int 0), z)
      else if ds_K x1 = 11 then if ds_in (z.1 93 ((79 + (2 * x2)).toNatClampNeg)) (ds_N x1) = true then if ds_in ((79 + (2 * x2)) + 1) 289 = true then if ¬ (z.1 x1 ((z.1 93 ((79 + (2 * x2)).toNatClampNeg)).toNatClampNeg)) = (z.1 93 (((79 + (2 * x2)) + 1).toNatClampNeg)) then some (some (.int 0), z)
            else some (some (.int 1), z)
          else none
          else none
        else none
      else none
    else none
  else none := (ds_Rw_stp 400 0 [some (.ref 90), some (.ref x1), some (.int x2), none] [] z).trans rfl
set_option maxRecDepth 20000 in
theorem b_Mod_isSmall_0 (cl : Nat → List Value → ds_St → Option ds_Out) (x0 : Int32) (z : ds_St) : ds_Rw ds_c_Mod_isSmall ds_u_Mod_isSmall cl 0 [some (.int x0)] [] z =
  if x0 < 97 then some (some (.int 0), z)
  else if 122 < x0 then some (some (.int 0), z)
    else some (some (.int 1), z) := (ds_Rw_stp 400 0 [some (.int x0)] [] z).trans rfl
set_option maxRecDepth 20000 in
theorem b_Mod_isWord_0 (cl : Nat → List Value → ds_St → Option ds_Out) (x1 : Nat) (z : ds_St) : ds_Rw ds_c_Mod_isWord ds_u_Mod_isWord cl 0 [some (.ref 90), some (.ref x1), none, none] [] z =
  if ¬ (z.1 90 13) = 0 then some (some (.int 0), z)
  else if ¬ (z.1 90 6) = 2 then some (some (.int 0), z)
    else if 300 ≤ x1 ∧ x1 - 300 < ds_txt.length then if (z.1 90 8) = (Int32.ofNat (ds_sl x1).length) then ds_Rw ds_c_Mod_isWord ds_u_Mod_isWord cl 32 [some (.ref 90), some (.ref x1), some (.int 1), some (.int 0)] [] z
        else some (some (.int 0), z)
      else none := (ds_Rw_stp 400 0 [some (.ref 90), some (.ref x1), none, none] [] z).trans rfl
set_option maxRecDepth 20000 in
theorem b_Mod_isWord_32 (cl : Nat → List Value → ds_St → Option ds_Out) (x1 : Nat) (x2 : Int32) (x3 : Int32) (z : ds_St) : ds_Rw ds_c_Mod_isWord ds_u_Mod_isWord cl 32 [some (.ref 90), some (.ref x1), some (.int x2), some (.int x3)] [] z =
  if (z.1 90 8) ≤ x3 then if x2 = 0 ∨ x2 = 1 then some (some (.int x2), z)
    else none
  else if x2 = 0 then ds_Rw ds_c_Mod_isWord ds_u_Mod_isWord cl 32 [some (.ref 90), some (.ref x1), some (.int 0), some (.int (x3 + 1))] [] z
    else if ds_in x3 8 = true then if 300 ≤ x1 ∧ x1 - 300 < ds_txt.length ∧ ds_in x3 (ds_sl x1).length = true then if ¬ (z.1 92 x3.toNatClampNeg) = (Int32.ofNat ((ds_sl x1).getD x3.toNatClampNeg 0)) then ds_Rw ds_c_Mod_isWord ds_u_Mod_isWord cl 32 [some (.ref 90), some (.ref x1), some (.int 0), some (.int (x3 + 1))] [] z
          else ds_Rw ds_c_Mod_isWord ds_u_Mod_isWord cl 32 [some (.ref 90), some (.ref x1), some (.int 1), some (.int (x3 + 1))] [] z
        else none
      else none := (ds_Rw_stp 400 32 [some (.ref 90), some (.ref x1), some (.int x2), some (.int x3)] [] z).trans rfl
set_option maxRecDepth 20000 in
theorem b_Mod_island_0 (cl : Nat → List Value → ds_St → Option ds_Out) (x1 : Int32) (x2 : Int32) (z : ds_St) : ds_Rw ds_c_Mod_island ds_u_Mod_island cl 0 [some (.ref 90), some (.int x1), some (.int x2)] [] z =
  (ds_cV cl j_Mod_good [.ref 90] z fun z1 => (ds_cI cl j_Mod_isIsland [.ref 90, .int x1] z1 fun r2 z2 => if r2 = 0 then (ds_cI cl j_Mod_no [.ref 90, .int 1] z2 fun r3 z3 => some (some (.int r3), z3))
      else (ds_cI cl j_Mod_in [.int x2, .int 0, .int 4] z2 fun r4 z4 => if ¬ r4 = 0 then if 4 ≤ x2 then (ds_cI cl j_Mod_placeIn [.ref 95, .int x1] z4 fun r5 z5 => some (some (.int r5), z5))
            else (ds_cI cl j_Mod_of [.ref 90, .int x1, .int x2] z4 fun r6 z6 => some (some (.int r6), z6))
          else (ds_cI cl j_Mod_no [.ref 90, .int 1] z4 fun r7 z7 => some (some (.int r7), z7))))) := (ds_Rw_stp 400 0 [some (.ref 90), some (.int x1), some (.int x2)] [] z).trans rfl
set_option maxRecDepth 20000 in
theorem b_Mod_islandHere_0 (cl : Nat → List Value → ds_St → Option ds_Out)  (z : ds_St) : ds_Rw ds_c_Mod_islandHere ds_u_Mod_islandHere cl 0 [some (.ref 90), none] [] z =
  if (z.1 90 13) = 0 then (ds_cV cl j_Mod_mustName [.ref 90] z fun z1 => if (z1.1 90 13) = 0 then (ds_cI cl j_Mod_find [.ref 90] z1 fun r2 z2 => (ds_cI cl j_Mod_in [.int r2, .int 0, .int 11] z2 fun r3 z3 => if ¬ r3 = 0 then ds_Rw ds_c_Mod_islandHere ds_u_Mod_islandHere cl 46 [some (.ref 90), some (.int r2)] [] z3
            else (ds_cV cl j_Mod_wrong [.ref 90, .int 2, .int (z3.1 90 4)] z3 fun z4 => ds_Rw ds_c_Mod_islandHere ds_u_Mod_islandHere cl 46 [some (.ref 90), some (.int r2)] [] z4)))
      else some (some (.int 0), z1))
  else some (some (.int 0), z) := (ds_Rw_stp 400 0 [some (.ref 90), none] [] z).trans rfl
set_option maxRecDepth 20000 in
theorem b_Mod_islandHere_46 (cl : Nat → List Value → ds_St → Option ds_Out) (x1 : Int32) (z : ds_St) : ds_Rw ds_c_Mod_islandHere ds_u_Mod_islandHere cl 46 [some (.ref 90), some (.int x1)] [] z =
  if (z.1 90 13) = 0 then some (some (.int x1), z)
  else some (some (.int 0), z) := (ds_Rw_stp 400 46 [some (.ref 90), some (.int x1)] [] z).trans rfl
set_option maxRecDepth 20000 in
theorem b_Mod_islandLine_0 (cl : Nat → List Value → ds_St → Option ds_Out)  (z : ds_St) : ds_Rw ds_c_Mod_islandLine ds_u_Mod_islandLine cl 0 [some (.ref 90), none] [] z =
  if (z.1 90 13) = 0 then (ds_cV cl j_Mod_newName [.ref 90, .int (z.1 94 4)] z fun z1 => if ¬ (z1.1 90 13) = 0 then ds_Rw ds_c_Mod_islandLine ds_u_Mod_islandLine cl 57 [some (.ref 90), some (.int (9 + (4 * (z.1 94 4))))] [] z1
          else (ds_cI cl j_Mod_oneOf [.ref 90, .ref 325, .ref 326, .ref 327, .ref 320] z1 fun r2 z2 => if ds_in (9 + (4 * (z.1 94 4))) 289 = true then ds_Rw ds_c_Mod_islandLine ds_u_Mod_islandLine cl 57 [some (.ref 90), some (.int (9 + (4 * (z.1 94 4))))] [] (ds_setI z2 94 ((9 + (4 * (z.1 94 4))).toNatClampNeg) r2)
              else none))
  else some (none, z) := (ds_Rw_stp 400 0 [some (.ref 90), none] [] z).trans rfl
set_option maxRecDepth 20000 in
theorem b_Mod_islandLine_57 (cl : Nat → List Value → ds_St → Option ds_Out) (x1 : Int32) (z : ds_St) : ds_Rw ds_c_Mod_islandLine ds_u_Mod_islandLine cl 57 [some (.ref 90), some (.int x1)] [] z =
  if ¬ (z.1 90 13) = 0 then ds_Rw ds_c_Mod_islandLine ds_u_Mod_islandLine cl 76 [some (.ref 90), some (.int x1)] [] z
  else (ds_cI cl j_Mod_goodPassed [.ref 90] z fun r1 z1 => if ds_in (x1 + 1) 289 = true then ds_Rw ds_c_Mod_islandLine ds_u_Mod_islandLine cl 76 [some (.ref 90), some (.int x1)] [] (ds_setI z1 94 ((x1 + 1).toNatClampNeg) r1)
      else none) := (ds_Rw_stp 400 57 [some (.ref 90), some (.int x1)] [] z).trans rfl
set_option maxRecDepth 20000 in
theorem b_Mod_islandLine_76 (cl : Nat → List Value → ds_St → Option ds_Out) (x1 : Int32) (z : ds_St) : ds_Rw ds_c_Mod_islandLine ds_u_Mod_islandLine cl 76 [some (.ref 90), some (.int x1)] [] z =
  (ds_cI cl j_Mod_after [.ref 90, .ref 328, .int 1, .int 9] z fun r1 z1 => if ds_in (x1 + 2) 289 = true then (ds_cI cl j_Mod_after [.ref 90, .ref 329, .int 0, .int 99] (ds_setI z1 94 ((x1 + 2).toNatClampNeg) r1) fun r2 z2 => if ds_in (x1 + 3) 289 = true then if ¬ (z2.1 90 13) = 0 then some (none, (ds_setI z2 94 ((x1 + 3).toNatClampNeg) r2))
          else some (none, (ds_setI (ds_setI z2 94 ((x1 + 3).toNatClampNeg) r2) 94 4 (((ds_setI z2 94 ((x1 + 3).toNatClampNeg) r2).1 94 4) + 1)))
        else none)
    else none) := (ds_Rw_stp 400 76 [some (.ref 90), some (.int x1)] [] z).trans rfl
set_option maxRecDepth 20000 in
theorem b_Mod_islandPassed_0 (cl : Nat → List Value → ds_St → Option ds_Out)  (z : ds_St) : ds_Rw ds_c_Mod_islandPassed ds_u_Mod_islandPassed cl 0 [some (.ref 90), none] [] z =
  (ds_cI cl j_Mod_islandHere [.ref 90] z fun r1 z1 => if ¬ (z1.1 90 13) = 0 then some (some (.int r1), z1)
    else (ds_cV cl j_Mod_next [.ref 90] z1 fun z2 => some (some (.int r1), z2))) := (ds_Rw_stp 400 0 [some (.ref 90), none] [] z).trans rfl
set_option maxRecDepth 20000 in
theorem b_Mod_journey_0 (cl : Nat → List Value → ds_St → Option ds_Out) (x1 : Int32) (x2 : Int32) (z : ds_St) : ds_Rw ds_c_Mod_journey ds_u_Mod_journey cl 0 [some (.ref 90), some (.int x1), some (.int x2)] [] z =
  (ds_cV cl j_Mod_good [.ref 90] z fun z1 => (ds_cI cl j_Mod_isIsland [.ref 90, .int x1] z1 fun r2 z2 => if r2 = 0 then (ds_cI cl j_Mod_no [.ref 90, .int 1] z2 fun r3 z3 => some (some (.int r3), z3))
      else (ds_cI cl j_Mod_isIsland [.ref 90, .int x2] z2 fun r4 z4 => if ¬ r4 = 0 then (ds_cV cl j_Mod_layBridges [.ref 90, .int x1] z4 fun z5 => if ds_in x2 12 = true then if 0 ≤ (z5.1 99 x2.toNatClampNeg) then if ds_in x2 12 = true then some (some (.int (z5.1 99 x2.toNatClampNeg)), z5)
                  else none
                else some (some (.int (-2)), z5)
              else none)
          else (ds_cI cl j_Mod_no [.ref 90, .int 1] z4 fun r6 z6 => some (some (.int r6), z6))))) := (ds_Rw_stp 400 0 [some (.ref 90), some (.int x1), some (.int x2)] [] z).trans rfl
set_option maxRecDepth 20000 in
theorem b_Mod_judge_0 (cl : Nat → List Value → ds_St → Option ds_Out)  (z : ds_St) : ds_Rw ds_c_Mod_judge ds_u_Mod_judge cl 0 [some (.ref 90), none] [] z =
  (ds_cV cl j_Mod_good [.ref 90] z fun z1 => if ¬ (z1.1 90 14) = 0 then (ds_cV cl j_Mod_layPlan [.ref 90, .int (z1.1 93 5)] z1 fun z2 => ds_Rw ds_c_Mod_judge ds_u_Mod_judge cl 29 [some (.ref 90), some (.int 0)] [] z2)
    else (ds_cI cl j_Mod_no [.ref 90, .int 1] z1 fun r3 z3 => some (some (.int r3), z3))) := (ds_Rw_stp 400 0 [some (.ref 90), none] [] z).trans rfl
set_option maxRecDepth 20000 in
theorem b_Mod_judge_29 (cl : Nat → List Value → ds_St → Option ds_Out) (x1 : Int32) (z : ds_St) : ds_Rw ds_c_Mod_judge ds_u_Mod_judge cl 29 [some (.ref 90), some (.int x1)] [] z =
  if (z.1 93 7) ≤ x1 then some (some (.int (-2)), z)
    else (ds_cI cl j_Mod_isShown [.ref 90, .ref 100, .int x1] z fun r1 z1 => if ¬ r1 = 0 then ds_Rw ds_c_Mod_judge ds_u_Mod_judge cl 29 [some (.ref 90), some (.int (x1 + 1))] [] z1
        else some (some (.int x1), z1)) := (ds_Rw_stp 400 29 [some (.ref 90), some (.int x1)] [] z).trans rfl
set_option maxRecDepth 20000 in
theorem b_Mod_lay_0 (cl : Nat → List Value → ds_St → Option ds_Out)  (z : ds_St) : ds_Rw ds_c_Mod_lay ds_u_Mod_lay cl 0 [some (.ref 90)] [] z =
  (ds_cV cl j_Mod_good [.ref 90] z fun z1 => if ¬ (z1.1 90 14) = 0 then if ¬ (z1.1 95 13) = 0 then (ds_cV cl j_Mod_note [.ref 90] z1 fun z2 => if ds_in (z2.1 95 12) 14 = true then some (some (.int 1), (ds_setI (ds_setI (ds_setI z2 95 ((z2.1 95 12).toNatClampNeg) ((z2.1 95 13) - 1)) 95 12 (((ds_setI z2 95 ((z2.1 95 12).toNatClampNeg) ((z2.1 95 13) - 1)).1 95 12) + 1)) 95 13 0))
                else none)
        else (ds_cI cl j_Mod_isNot [.ref 90, .int 6] z1 fun r3 z3 => if r3 = 0 ∨ r3 = 1 then some (some (.int r3), z3)
            else none)
    else (ds_cI cl j_Mod_isNot [.ref 90, .int 1] z1 fun r4 z4 => if r4 = 0 ∨ r4 = 1 then some (some (.int r4), z4)
        else none)) := (ds_Rw_stp 400 0 [some (.ref 90)] [] z).trans rfl
set_option maxRecDepth 20000 in
theorem b_Mod_layBridges_0 (cl : Nat → List Value → ds_St → Option ds_Out) (x1 : Int32) (z : ds_St) : ds_Rw ds_c_Mod_layBridges ds_u_Mod_layBridges cl 0 [some (.ref 90), some (.int x1), none, none, none] [] z =
  ds_Rw ds_c_Mod_layBridges ds_u_Mod_layBridges cl 2 [some (.ref 90), some (.int x1), some (.int 0), none, none] [] z := (ds_Rw_stp 400 0 [some (.ref 90), some (.int x1), none, none, none] [] z).trans rfl
set_option maxRecDepth 20000 in
theorem b_Mod_layBridges_2 (cl : Nat → List Value → ds_St → Option ds_Out) (x1 : Int32) (x2 : Int32) (z : ds_St) : ds_Rw ds_c_Mod_layBridges ds_u_Mod_layBridges cl 2 [some (.ref 90), some (.int x1), some (.int x2), none, none] [] z =
  if 12 ≤ x2 then (ds_cI cl j_Mod_isInSea [.ref 90, .ref 95, .int x1] z fun r1 z1 => if ¬ r1 = 0 then if ds_in x1 12 = true then ds_Rw ds_c_Mod_layBridges ds_u_Mod_layBridges cl 43 [some (.ref 90), none, some (.int 0), none, none] [] (ds_setI z1 99 x1.toNatClampNeg 0)
        else none
      else some (none, z1))
  else if ds_in x2 12 = true then ds_Rw ds_c_Mod_layBridges ds_u_Mod_layBridges cl 2 [some (.ref 90), some (.int x1), some (.int (x2 + 1)), none, none] [] (ds_setI z 99 x2.toNatClampNeg (-1))
    else none := (ds_Rw_stp 400 2 [some (.ref 90), some (.int x1), some (.int x2), none, none] [] z).trans rfl
set_option maxRecDepth 20000 in
theorem b_Mod_layBridges_43 (cl : Nat → List Value → ds_St → Option ds_Out) (x2 : Int32) (z : ds_St) : ds_Rw ds_c_Mod_layBridges ds_u_Mod_layBridges cl 43 [some (.ref 90), none, some (.int x2), none, none] [] z =
  if 12 ≤ x2 then some (none, z)
  else ds_Rw ds_c_Mod_layBridges ds_u_Mod_layBridges cl 51 [some (.ref 90), none, some (.int x2), some (.int 0), none] [] z := (ds_Rw_stp 400 43 [some (.ref 90), none, some (.int x2), none, none] [] z).trans rfl
set_option maxRecDepth 20000 in
theorem b_Mod_layBridges_51 (cl : Nat → List Value → ds_St → Option ds_Out) (x2 : Int32) (x3 : Int32) (z : ds_St) : ds_Rw ds_c_Mod_layBridges ds_u_Mod_layBridges cl 51 [some (.ref 90), none, some (.int x2), some (.int x3), none] [] z =
  if (z.1 93 4) ≤ x3 then ds_Rw ds_c_Mod_layBridges ds_u_Mod_layBridges cl 43 [some (.ref 90), none, some (.int (x2 + 1)), none, none] [] z
    else if ds_in x3 12 = true then if ¬ (z.1 99 x3.toNatClampNeg) = x2 then ds_Rw ds_c_Mod_layBridges ds_u_Mod_layBridges cl 51 [some (.ref 90), none, some (.int x2), some (.int (x3 + 1)), none] [] z
        else if x2 ≤ 0 then ds_Rw ds_c_Mod_layBridges ds_u_Mod_layBridges cl 89 [some (.ref 90), none, some (.int x2), some (.int x3), some (.int 0)] [] z
          else (ds_cI cl j_Mod_isJoker [.ref 90, .int x3] z fun r1 z1 => if r1 = 0 then ds_Rw ds_c_Mod_layBridges ds_u_Mod_layBridges cl 89 [some (.ref 90), none, some (.int x2), some (.int x3), some (.int 0)] [] z1
              else ds_Rw ds_c_Mod_layBridges ds_u_Mod_layBridges cl 51 [some (.ref 90), none, some (.int x2), some (.int (x3 + 1)), none] [] z1)
      else none := (ds_Rw_stp 400 51 [some (.ref 90), none, some (.int x2), some (.int x3), none] [] z).trans rfl
set_option maxRecDepth 20000 in
theorem b_Mod_layBridges_89 (cl : Nat → List Value → ds_St → Option ds_Out) (x2 : Int32) (x3 : Int32) (x4 : Int32) (z : ds_St) : ds_Rw ds_c_Mod_layBridges ds_u_Mod_layBridges cl 89 [some (.ref 90), none, some (.int x2), some (.int x3), some (.int x4)] [] z =
  if (z.1 93 4) ≤ x4 then ds_Rw ds_c_Mod_layBridges ds_u_Mod_layBridges cl 51 [some (.ref 90), none, some (.int x2), some (.int (x3 + 1)), none] [] z
    else if ds_in x4 12 = true then if 0 ≤ (z.1 99 x4.toNatClampNeg) then ds_Rw ds_c_Mod_layBridges ds_u_Mod_layBridges cl 89 [some (.ref 90), none, some (.int x2), some (.int x3), some (.int (x4 + 1))] [] z
        else (ds_cI cl j_Mod_beBeside [.ref 90, .ref 95, .int x3, .int x4] z fun r1 z1 => if r1 = 0 then ds_Rw ds_c_Mod_layBridges ds_u_Mod_layBridges cl 89 [some (.ref 90), none, some (.int x2), some (.int x3), some (.int (x4 + 1))] [] z1
            else if ds_in x4 12 = true then ds_Rw ds_c_Mod_layBridges ds_u_Mod_layBridges cl 89 [some (.ref 90), none, some (.int x2), some (.int x3), some (.int (x4 + 1))] [] (ds_setI z1 99 x4.toNatClampNeg (x2 + 1))
              else none)
      else none := (ds_Rw_stp 400 89 [some (.ref 90), none, some (.int x2), some (.int x3), some (.int x4)] [] z).trans rfl
set_option maxRecDepth 20000 in
theorem b_Mod_layDeck_0 (cl : Nat → List Value → ds_St → Option ds_Out) (x1 : Nat) (z : ds_St) : ds_Rw ds_c_Mod_layDeck ds_u_Mod_layDeck cl 0 [some (.ref 90), some (.ref x1), none] [] z =
  ds_Rw ds_c_Mod_layDeck ds_u_Mod_layDeck cl 2 [some (.ref 90), some (.ref x1), some (.int 0)] [] z := (ds_Rw_stp 400 0 [some (.ref 90), some (.ref x1), none] [] z).trans rfl
set_option maxRecDepth 20000 in
theorem b_Mod_layDeck_2 (cl : Nat → List Value → ds_St → Option ds_Out) (x1 : Nat) (x2 : Int32) (z : ds_St) : ds_Rw ds_c_Mod_layDeck ds_u_Mod_layDeck cl 2 [some (.ref 90), some (.ref x1), some (.int x2)] [] z =
  if 14 ≤ x2 then if ds_K x1 = 11 then if ds_in 12 (ds_N x1) = true then if ds_K x1 = 11 then if ds_in 13 (ds_N x1) = true then some (none, (ds_setI (ds_setI z x1 12 (z.1 93 4)) x1 13 0))
          else none
        else none
        else none
      else none
  else if (z.1 93 4) ≤ x2 then if ds_K x1 = 11 then if ds_in x2 (ds_N x1) = true then ds_Rw ds_c_Mod_layDeck ds_u_Mod_layDeck cl 2 [some (.ref 90), some (.ref x1), some (.int (x2 + 1))] [] (ds_setI z x1 x2.toNatClampNeg 0)
          else none
        else none
      else if ds_K x1 = 11 then if ds_in x2 (ds_N x1) = true then ds_Rw ds_c_Mod_layDeck ds_u_Mod_layDeck cl 2 [some (.ref 90), some (.ref x1), some (.int (x2 + 1))] [] (ds_setI z x1 x2.toNatClampNeg x2)
          else none
        else none := (ds_Rw_stp 400 2 [some (.ref 90), some (.ref x1), some (.int x2)] [] z).trans rfl
set_option maxRecDepth 20000 in
theorem b_Mod_layPlan_0 (cl : Nat → List Value → ds_St → Option ds_Out) (x1 : Int32) (z : ds_St) : ds_Rw ds_c_Mod_layPlan ds_u_Mod_layPlan cl 0 [some (.ref 90), some (.int x1), none] [] z =
  (ds_cV cl j_Mod_layDeck [.ref 90, .ref 100] z fun z1 => ds_Rw ds_c_Mod_layPlan ds_u_Mod_layPlan cl 10 [some (.ref 90), some (.int x1), some (.int 0)] [] z1) := (ds_Rw_stp 400 0 [some (.ref 90), some (.int x1), none] [] z).trans rfl
set_option maxRecDepth 20000 in
theorem b_Mod_layPlan_10 (cl : Nat → List Value → ds_St → Option ds_Out) (x1 : Int32) (x2 : Int32) (z : ds_St) : ds_Rw ds_c_Mod_layPlan ds_u_Mod_layPlan cl 10 [some (.ref 90), some (.int x1), some (.int x2)] [] z =
  if x1 ≤ x2 then some (none, z)
  else if ds_in (57 + x2) 289 = true then (ds_cV cl j_Mod_makes [.ref 90, .ref 100, .int (z.1 93 ((57 + x2).toNatClampNeg))] z fun z1 => ds_Rw ds_c_Mod_layPlan ds_u_Mod_layPlan cl 10 [some (.ref 90), some (.int x1), some (.int (x2 + 1))] [] z1)
    else none := (ds_Rw_stp 400 10 [some (.ref 90), some (.int x1), some (.int x2)] [] z).trans rfl
set_option maxRecDepth 20000 in
theorem b_Mod_layWays_0 (cl : Nat → List Value → ds_St → Option ds_Out) (x1 : Int32) (x2 : Int32) (z : ds_St) : ds_Rw ds_c_Mod_layWays ds_u_Mod_layWays cl 0 [some (.ref 90), some (.int x1), some (.int x2), none] [] z =
  ds_Rw ds_c_Mod_layWays ds_u_Mod_layWays cl 2 [some (.ref 90), some (.int x1), some (.int x2), some (.int 0)] [] z := (ds_Rw_stp 400 0 [some (.ref 90), some (.int x1), some (.int x2), none] [] z).trans rfl
set_option maxRecDepth 20000 in
theorem b_Mod_layWays_2 (cl : Nat → List Value → ds_St → Option ds_Out) (x1 : Int32) (x2 : Int32) (x3 : Int32) (z : ds_St) : ds_Rw ds_c_Mod_layWays ds_u_Mod_layWays cl 2 [some (.ref 90), some (.int x1), some (.int x2), some (.int x3)] [] z =
  if 12 ≤ x3 then (ds_cI cl j_Mod_placeIn [.ref 95, .int x1] z fun r1 z1 => if ds_in r1 12 = true then ds_Rw ds_c_Mod_layWays ds_u_Mod_layWays cl 37 [some (.ref 90), none, some (.int x2), some (.int 0)] [] (ds_setL z1 105 r1.toNatClampNeg 1)
      else none)
  else if ds_in x3 12 = true then ds_Rw ds_c_Mod_layWays ds_u_Mod_layWays cl 2 [some (.ref 90), some (.int x1), some (.int x2), some (.int (x3 + 1))] [] (ds_setL z 105 x3.toNatClampNeg 0)
    else none := (ds_Rw_stp 400 2 [some (.ref 90), some (.int x1), some (.int x2), some (.int x3)] [] z).trans rfl
set_option maxRecDepth 20000 in
theorem b_Mod_layWays_37 (cl : Nat → List Value → ds_St → Option ds_Out) (x2 : Int32) (x3 : Int32) (z : ds_St) : ds_Rw ds_c_Mod_layWays ds_u_Mod_layWays cl 37 [some (.ref 90), none, some (.int x2), some (.int x3)] [] z =
  if x2 ≤ x3 then some (none, z)
  else (ds_cV cl j_Mod_oneMore [.ref 90] z fun z1 => ds_Rw ds_c_Mod_layWays ds_u_Mod_layWays cl 37 [some (.ref 90), none, some (.int x2), some (.int (x3 + 1))] [] z1) := (ds_Rw_stp 400 37 [some (.ref 90), none, some (.int x2), some (.int x3)] [] z).trans rfl
set_option maxRecDepth 20000 in
theorem b_Mod_led_0 (cl : Nat → List Value → ds_St → Option ds_Out) (x1 : Int32) (z : ds_St) : ds_Rw ds_c_Mod_led ds_u_Mod_led cl 0 [some (.ref 90), some (.int x1), none, none] [] z =
  ds_Rw ds_c_Mod_led ds_u_Mod_led cl 4 [some (.ref 90), some (.int x1), some (.int 0), some (.int 0)] [] z := (ds_Rw_stp 400 0 [some (.ref 90), some (.int x1), none, none] [] z).trans rfl
set_option maxRecDepth 20000 in
theorem b_Mod_led_4 (cl : Nat → List Value → ds_St → Option ds_Out) (x1 : Int32) (x2 : Int32) (x3 : Int32) (z : ds_St) : ds_Rw ds_c_Mod_led ds_u_Mod_led cl 4 [some (.ref 90), some (.int x1), some (.int x2), some (.int x3)] [] z =
  if (z.1 90 14) = 0 then some (some (.int 0), (ds_setI z 90 0 1))
  else if (z.1 93 4) ≤ x3 then some (some (.int 0), (ds_setI z 90 0 1))
      else (ds_cI cl j_Mod_placeIn [.ref 95, .int x3] z fun r1 z1 => (ds_cI cl j_Mod_room [.ref 90] z1 fun r2 z2 => if r2 ≤ r1 then if ¬ x2 = x1 then ds_Rw ds_c_Mod_led ds_u_Mod_led cl 4 [some (.ref 90), some (.int x1), some (.int (x2 + 1)), some (.int (x3 + 1))] [] z2
              else some (some (.int x3), (ds_setI z2 90 0 0))
            else ds_Rw ds_c_Mod_led ds_u_Mod_led cl 4 [some (.ref 90), some (.int x1), some (.int x2), some (.int (x3 + 1))] [] z2)) := (ds_Rw_stp 400 4 [some (.ref 90), some (.int x1), some (.int x2), some (.int x3)] [] z).trans rfl
set_option maxRecDepth 20000 in
theorem b_Mod_look_0 (cl : Nat → List Value → ds_St → Option ds_Out) (x1 : Int32) (z : ds_St) : ds_Rw ds_c_Mod_look ds_u_Mod_look cl 0 [some (.ref 90), some (.int x1)] [] z =
  if (z.1 90 3) ≤ x1 then some (some (.int (-1)), z)
  else if ds_in x1 900 = true then some (some (.int (z.1 91 x1.toNatClampNeg)), z)
    else none := (ds_Rw_stp 400 0 [some (.ref 90), some (.int x1)] [] z).trans rfl
set_option maxRecDepth 20000 in
theorem b_Mod_lowest_0 (cl : Nat → List Value → ds_St → Option ds_Out) (x0 : Int64) (x2 : Int64) (x4 : Int32) (z : ds_St) : ds_Rw ds_c_Mod_lowest ds_u_Mod_lowest cl 0 [some (.long x0), none, some (.long x2), none, some (.int x4), none, none, none, none, none, none] [] z =
  ds_Rw ds_c_Mod_lowest ds_u_Mod_lowest cl 6 [some (.long x0), none, some (.long x2), none, some (.int x4), some (.long x2), none, some (.long x0), none, none, none] [] z := (ds_Rw_stp 400 0 [some (.long x0), none, some (.long x2), none, some (.int x4), none, none, none, none, none, none] [] z).trans rfl
set_option maxRecDepth 20000 in
theorem b_Mod_lowest_6 (cl : Nat → List Value → ds_St → Option ds_Out) (x0 : Int64) (x2 : Int64) (x4 : Int32) (x5 : Int64) (x7 : Int64) (z : ds_St) : ds_Rw ds_c_Mod_lowest ds_u_Mod_lowest cl 6 [some (.long x0), none, some (.long x2), none, some (.int x4), some (.long x5), none, some (.long x7), none, none, none] [] z =
  if (lg_cmp x7 0) = 0 then if x4 = 0 then if ¬ x5 = 0 then some (some (.long (x0 / x5)), z)
      else none
    else if ¬ x5 = 0 then some (some (.long (x2 / x5)), z)
      else none
  else if ¬ x7 = 0 then ds_Rw ds_c_Mod_lowest ds_u_Mod_lowest cl 6 [some (.long x0), none, some (.long x2), none, some (.int x4), some (.long x7), none, some (.long (x5 - x5 / x7 * x7)), none, none, none] [] z
    else none := (ds_Rw_stp 400 6 [some (.long x0), none, some (.long x2), none, some (.int x4), some (.long x5), none, some (.long x7), none, none, none] [] z).trans rfl
set_option maxRecDepth 20000 in
theorem b_Mod_makes_0 (cl : Nat → List Value → ds_St → Option ds_Out) (x1 : Nat) (x2 : Int32) (z : ds_St) : ds_Rw ds_c_Mod_makes ds_u_Mod_makes cl 0 [some (.ref 90), some (.ref x1), some (.int x2), none] [] z =
  (ds_cV cl j_Mod_copy [.ref x1, .int 0, .ref 98, .int 0, .int 14] z fun z1 => ds_Rw ds_c_Mod_makes ds_u_Mod_makes cl 14 [some (.ref 90), some (.ref x1), some (.int x2), some (.int 0)] [] z1) := (ds_Rw_stp 400 0 [some (.ref 90), some (.ref x1), some (.int x2), none] [] z).trans rfl
set_option maxRecDepth 20000 in
theorem b_Mod_makes_14 (cl : Nat → List Value → ds_St → Option ds_Out) (x1 : Nat) (x2 : Int32) (x3 : Int32) (z : ds_St) : ds_Rw ds_c_Mod_makes ds_u_Mod_makes cl 14 [some (.ref 90), some (.ref x1), some (.int x2), some (.int x3)] [] z =
  if ds_K x1 = 11 then if ds_in 12 (ds_N x1) = true then if (z.1 x1 12) ≤ x3 then some (none, z)
    else if ds_K x1 = 11 then if ds_in 12 (ds_N x1) = true then (ds_cI cl j_Mod_goesTo [.int x2, .int x3, .int (z.1 x1 12)] z fun r1 z1 => if ds_in x3 14 = true then if ds_K x1 = 11 then if ds_in r1 (ds_N x1) = true then ds_Rw ds_c_Mod_makes ds_u_Mod_makes cl 14 [some (.ref 90), some (.ref x1), some (.int x2), some (.int (x3 + 1))] [] (ds_setI z1 x1 r1.toNatClampNeg (z1.1 98 x3.toNatClampNeg))
              else none
            else none
          else none)
        else none
      else none
    else none
  else none := (ds_Rw_stp 400 14 [some (.ref 90), some (.ref x1), some (.int x2), some (.int x3)] [] z).trans rfl
set_option maxRecDepth 20000 in
theorem b_Mod_moveAt_0 (cl : Nat → List Value → ds_St → Option ds_Out) (x1 : Int32) (x2 : Int32) (x3 : Int32) (z : ds_St) : ds_Rw ds_c_Mod_moveAt ds_u_Mod_moveAt cl 0 [some (.ref 90), some (.int x1), some (.int x2), some (.int x3)] [] z =
  (ds_cV cl j_Mod_good [.ref 90] z fun z1 => (ds_cI cl j_Mod_isInDeck [.ref 90, .int x1] z1 fun r2 z2 => if r2 = 0 then (ds_cI cl j_Mod_no [.ref 90, .int 1] z2 fun r3 z3 => some (some (.int r3), z3))
      else (ds_cI cl j_Mod_in [.int x2, .int 0, .int ((z2.1 95 12) - 1)] z2 fun r4 z4 => if ¬ r4 = 0 then (ds_cI cl j_Mod_seekPlace [.ref 90, .int x1, .int x2] z4 fun r5 z5 => if r5 = 0 then (ds_cI cl j_Mod_no [.ref 90, .int 1] z5 fun r6 z6 => some (some (.int r6), z6))
                else (ds_cI cl j_Mod_wayLong [.ref 90] z5 fun r7 z7 => (ds_cI cl j_Mod_in [.int x3, .int 0, .int (r7 - 1)] z7 fun r8 z8 => if r8 = 0 then (ds_cI cl j_Mod_no [.ref 90, .int 1] z8 fun r9 z9 => some (some (.int r9), z9))
                      else (ds_cI cl j_Mod_moveOfWay [.ref 90, .int x3] z8 fun r10 z10 => some (some (.int r10), z10)))))
            else (ds_cI cl j_Mod_no [.ref 90, .int 1] z4 fun r11 z11 => some (some (.int r11), z11))))) := (ds_Rw_stp 400 0 [some (.ref 90), some (.int x1), some (.int x2), some (.int x3)] [] z).trans rfl
set_option maxRecDepth 20000 in
theorem b_Mod_moveOfWay_0 (cl : Nat → List Value → ds_St → Option ds_Out) (x1 : Int32) (z : ds_St) : ds_Rw ds_c_Mod_moveOfWay ds_u_Mod_moveOfWay cl 0 [some (.ref 90), some (.int x1), none, none, none] [] z =
  (ds_cI cl j_Mod_wayLong [.ref 90] z fun r1 z1 => ds_Rw ds_c_Mod_moveOfWay ds_u_Mod_moveOfWay cl 15 [some (.ref 90), some (.int x1), none, some (.int (z1.1 90 38)), some (.int (r1 - 1))] [] z1) := (ds_Rw_stp 400 0 [some (.ref 90), some (.int x1), none, none, none] [] z).trans rfl
set_option maxRecDepth 20000 in
theorem b_Mod_moveOfWay_15 (cl : Nat → List Value → ds_St → Option ds_Out) (x1 : Int32) (x3 : Int32) (x4 : Int32) (z : ds_St) : ds_Rw ds_c_Mod_moveOfWay ds_u_Mod_moveOfWay cl 15 [some (.ref 90), some (.int x1), none, some (.int x3), some (.int x4)] [] z =
  if x4 ≤ x1 then if ds_in x3 1728 = true then some (some (.int (z.1 109 x3.toNatClampNeg)), z)
    else none
  else if ds_in x3 1728 = true then ds_Rw ds_c_Mod_moveOfWay ds_u_Mod_moveOfWay cl 15 [some (.ref 90), some (.int x1), none, some (.int (z.1 108 x3.toNatClampNeg)), some (.int (x4 + (-1)))] [] z
    else none := (ds_Rw_stp 400 15 [some (.ref 90), some (.int x1), none, some (.int x3), some (.int x4)] [] z).trans rfl
set_option maxRecDepth 20000 in
theorem b_Mod_moved_0 (cl : Nat → List Value → ds_St → Option ds_Out) (x1 : Int32) (x2 : Int32) (z : ds_St) : ds_Rw ds_c_Mod_moved ds_u_Mod_moved cl 0 [some (.ref 90), some (.int x1), some (.int x2), none, none, none] [] z =
  (ds_cI cl j_Mod_goesTo [.int x2, .int (x1 - x1 / 12 * 12), .int (z.1 95 12)] z fun r1 z1 => if (z1.1 90 39) ≤ 1 then ds_Rw ds_c_Mod_moved ds_u_Mod_moved cl 46 [some (.ref 90), some (.int x1), some (.int x2), some (.int r1), none, none] [.int 0] z1
        else (ds_cI cl j_Mod_goesTo [.int x2, .int ((x1 / 12) - (x1 / 12) / 12 * 12), .int (z1.1 95 12)] z1 fun r2 z2 => ds_Rw ds_c_Mod_moved ds_u_Mod_moved cl 46 [some (.ref 90), some (.int x1), some (.int x2), some (.int r1), none, none] [.int r2] z2)) := (ds_Rw_stp 400 0 [some (.ref 90), some (.int x1), some (.int x2), none, none, none] [] z).trans rfl
set_option maxRecDepth 20000 in
theorem b_Mod_moved_46 (cl : Nat → List Value → ds_St → Option ds_Out) (x1 : Int32) (x2 : Int32) (x3 : Int32) (s0 : Int32) (z : ds_St) : ds_Rw ds_c_Mod_moved ds_u_Mod_moved cl 46 [some (.ref 90), some (.int x1), some (.int x2), some (.int x3), none, none] [.int s0] z =
  if (z.1 90 39) ≤ 2 then ds_Rw ds_c_Mod_moved ds_u_Mod_moved cl 78 [some (.ref 90), none, none, some (.int x3), some (.int s0), none] [.int 0] z
  else (ds_cI cl j_Mod_goesTo [.int x2, .int ((x1 / 12) / 12), .int (z.1 95 12)] z fun r1 z1 => ds_Rw ds_c_Mod_moved ds_u_Mod_moved cl 78 [some (.ref 90), none, none, some (.int x3), some (.int s0), none] [.int r1] z1) := (ds_Rw_stp 400 46 [some (.ref 90), some (.int x1), some (.int x2), some (.int x3), none, none] [.int s0] z).trans rfl
set_option maxRecDepth 20000 in
theorem b_Mod_moved_78 (cl : Nat → List Value → ds_St → Option ds_Out) (x3 : Int32) (x4 : Int32) (s0 : Int32) (z : ds_St) : ds_Rw ds_c_Mod_moved ds_u_Mod_moved cl 78 [some (.ref 90), none, none, some (.int x3), some (.int x4), none] [.int s0] z =
  (ds_cI cl j_Mod_stateOf [.ref 90, .int x3, .int x4, .int s0] z fun r1 z1 => some (some (.int r1), z1)) := (ds_Rw_stp 400 78 [some (.ref 90), none, none, some (.int x3), some (.int x4), none] [.int s0] z).trans rfl
set_option maxRecDepth 20000 in
theorem b_Mod_movesOf_0 (cl : Nat → List Value → ds_St → Option ds_Out) (x1 : Nat) (z : ds_St) : ds_Rw ds_c_Mod_movesOf ds_u_Mod_movesOf cl 0 [some (.ref 90), some (.ref x1)] [] z =
  if ds_K x1 = 11 then if ds_in 12 (ds_N x1) = true then some (some (.int ((z.1 x1 12) + 2)), z)
    else none
  else none := (ds_Rw_stp 400 0 [some (.ref 90), some (.ref x1)] [] z).trans rfl
set_option maxRecDepth 20000 in
theorem b_Mod_must_0 (cl : Nat → List Value → ds_St → Option ds_Out) (x1 : Nat) (z : ds_St) : ds_Rw ds_c_Mod_must ds_u_Mod_must cl 0 [some (.ref 90), some (.ref x1)] [] z =
  if ¬ (z.1 90 13) = 0 then some (none, z)
  else (ds_cI cl j_Mod_takesWord [.ref 90, .ref x1] z fun r1 z1 => if ¬ r1 = 0 then some (none, z1)
      else (ds_cV cl j_Mod_wrong [.ref 90, .int 1, .int (z1.1 90 4)] z1 fun z2 => some (none, z2))) := (ds_Rw_stp 400 0 [some (.ref 90), some (.ref x1)] [] z).trans rfl
set_option maxRecDepth 20000 in
theorem b_Mod_mustName_0 (cl : Nat → List Value → ds_St → Option ds_Out)  (z : ds_St) : ds_Rw ds_c_Mod_mustName ds_u_Mod_mustName cl 0 [some (.ref 90)] [] z =
  if ¬ (z.1 90 6) = 2 then (ds_cV cl j_Mod_wrong [.ref 90, .int 1, .int (z.1 90 4)] z fun z1 => some (none, z1))
  else (ds_cI cl j_Mod_isWord [.ref 90, .ref 310] z fun r2 z2 => if ¬ r2 = 0 then (ds_cV cl j_Mod_wrong [.ref 90, .int 1, .int (z2.1 90 4)] z2 fun z3 => some (none, z3))
      else (ds_cI cl j_Mod_isWord [.ref 90, .ref 321] z2 fun r4 z4 => if ¬ r4 = 0 then (ds_cV cl j_Mod_wrong [.ref 90, .int 1, .int (z4.1 90 4)] z4 fun z5 => some (none, z5))
          else (ds_cI cl j_Mod_isWord [.ref 90, .ref 322] z4 fun r6 z6 => if ¬ r6 = 0 then (ds_cV cl j_Mod_wrong [.ref 90, .int 1, .int (z6.1 90 4)] z6 fun z7 => some (none, z7))
              else (ds_cI cl j_Mod_isWord [.ref 90, .ref 323] z6 fun r8 z8 => if ¬ r8 = 0 then (ds_cV cl j_Mod_wrong [.ref 90, .int 1, .int (z8.1 90 4)] z8 fun z9 => some (none, z9))
                  else (ds_cI cl j_Mod_isWord [.ref 90, .ref 324] z8 fun r10 z10 => if r10 = 0 then some (none, z10)
                      else (ds_cV cl j_Mod_wrong [.ref 90, .int 1, .int (z10.1 90 4)] z10 fun z11 => some (none, z11))))))) := (ds_Rw_stp 400 0 [some (.ref 90)] [] z).trans rfl
set_option maxRecDepth 20000 in
theorem b_Mod_nearest_0 (cl : Nat → List Value → ds_St → Option ds_Out) (x1 : Int32) (x2 : Int32) (z : ds_St) : ds_Rw ds_c_Mod_nearest ds_u_Mod_nearest cl 0 [some (.ref 90), some (.int x1), some (.int x2), none, none] [] z =
  (ds_cV cl j_Mod_good [.ref 90] z fun z1 => (ds_cI cl j_Mod_isIsland [.ref 90, .int x1] z1 fun r2 z2 => if r2 = 0 then (ds_cI cl j_Mod_no [.ref 90, .int 1] z2 fun r3 z3 => some (some (.int r3), z3))
      else (ds_cI cl j_Mod_in [.int x2, .int 0, .int 3] z2 fun r4 z4 => if ¬ r4 = 0 then (ds_cV cl j_Mod_layBridges [.ref 90, .int x1] z4 fun z5 => ds_Rw ds_c_Mod_nearest ds_u_Mod_nearest cl 38 [some (.ref 90), some (.int x1), some (.int x2), some (.int (-2)), some (.int 0)] [] z5)
          else (ds_cI cl j_Mod_no [.ref 90, .int 1] z4 fun r6 z6 => some (some (.int r6), z6))))) := (ds_Rw_stp 400 0 [some (.ref 90), some (.int x1), some (.int x2), none, none] [] z).trans rfl
set_option maxRecDepth 20000 in
theorem b_Mod_nearest_38 (cl : Nat → List Value → ds_St → Option ds_Out) (x1 : Int32) (x2 : Int32) (x3 : Int32) (x4 : Int32) (z : ds_St) : ds_Rw ds_c_Mod_nearest ds_u_Mod_nearest cl 38 [some (.ref 90), some (.int x1), some (.int x2), some (.int x3), some (.int x4)] [] z =
  if (z.1 93 4) ≤ x4 then some (some (.int x3), z)
    else if x4 = x1 then ds_Rw ds_c_Mod_nearest ds_u_Mod_nearest cl 38 [some (.ref 90), some (.int x1), some (.int x2), some (.int x3), some (.int (x4 + 1))] [] z
      else (ds_cI cl j_Mod_of [.ref 90, .int x4, .int 1] z fun r1 z1 => if ¬ r1 = x2 then ds_Rw ds_c_Mod_nearest ds_u_Mod_nearest cl 38 [some (.ref 90), some (.int x1), some (.int x2), some (.int x3), some (.int (x4 + 1))] [] z1
          else if ds_in x4 12 = true then if (z1.1 99 x4.toNatClampNeg) < 0 then ds_Rw ds_c_Mod_nearest ds_u_Mod_nearest cl 38 [some (.ref 90), some (.int x1), some (.int x2), some (.int x3), some (.int (x4 + 1))] [] z1
              else if x3 < 0 then ds_Rw ds_c_Mod_nearest ds_u_Mod_nearest cl 91 [some (.ref 90), some (.int x1), some (.int x2), none, some (.int x4)] [] z1
                else if ds_in x4 12 = true then if x3 ≤ (z1.1 99 x4.toNatClampNeg) then ds_Rw ds_c_Mod_nearest ds_u_Mod_nearest cl 38 [some (.ref 90), some (.int x1), some (.int x2), some (.int x3), some (.int (x4 + 1))] [] z1
                    else ds_Rw ds_c_Mod_nearest ds_u_Mod_nearest cl 91 [some (.ref 90), some (.int x1), some (.int x2), none, some (.int x4)] [] z1
                  else none
            else none) := (ds_Rw_stp 400 38 [some (.ref 90), some (.int x1), some (.int x2), some (.int x3), some (.int x4)] [] z).trans rfl
set_option maxRecDepth 20000 in
theorem b_Mod_nearest_91 (cl : Nat → List Value → ds_St → Option ds_Out) (x1 : Int32) (x2 : Int32) (x4 : Int32) (z : ds_St) : ds_Rw ds_c_Mod_nearest ds_u_Mod_nearest cl 91 [some (.ref 90), some (.int x1), some (.int x2), none, some (.int x4)] [] z =
  if ds_in x4 12 = true then ds_Rw ds_c_Mod_nearest ds_u_Mod_nearest cl 38 [some (.ref 90), some (.int x1), some (.int x2), some (.int (z.1 99 x4.toNatClampNeg)), some (.int (x4 + 1))] [] z
  else none := (ds_Rw_stp 400 91 [some (.ref 90), some (.int x1), some (.int x2), none, some (.int x4)] [] z).trans rfl
set_option maxRecDepth 20000 in
theorem b_Mod_newName_0 (cl : Nat → List Value → ds_St → Option ds_Out) (x1 : Int32) (z : ds_St) : ds_Rw ds_c_Mod_newName ds_u_Mod_newName cl 0 [some (.ref 90), some (.int x1), none] [] z =
  if (z.1 90 13) = 0 then (ds_cV cl j_Mod_mustName [.ref 90] z fun z1 => if ¬ (z1.1 90 13) = 0 then if (z1.1 90 13) = 0 then ds_Rw ds_c_Mod_newName ds_u_Mod_newName cl 45 [some (.ref 90), some (.int x1), some (.int 0)] [] z1
        else some (none, z1)
      else (ds_cI cl j_Mod_find [.ref 90] z1 fun r2 z2 => if r2 < 0 then if (z2.1 90 13) = 0 then ds_Rw ds_c_Mod_newName ds_u_Mod_newName cl 45 [some (.ref 90), some (.int x1), some (.int 0)] [] z2
            else some (none, z2)
          else (ds_cV cl j_Mod_wrong [.ref 90, .int 3, .int (z2.1 90 4)] z2 fun z3 => if (z3.1 90 13) = 0 then ds_Rw ds_c_Mod_newName ds_u_Mod_newName cl 45 [some (.ref 90), some (.int x1), some (.int 0)] [] z3
              else some (none, z3))))
  else some (none, z) := (ds_Rw_stp 400 0 [some (.ref 90), some (.int x1), none] [] z).trans rfl
set_option maxRecDepth 20000 in
theorem b_Mod_newName_45 (cl : Nat → List Value → ds_St → Option ds_Out) (x1 : Int32) (x2 : Int32) (z : ds_St) : ds_Rw ds_c_Mod_newName ds_u_Mod_newName cl 45 [some (.ref 90), some (.int x1), some (.int x2)] [] z =
  if (z.1 90 8) ≤ x2 then if ds_in (91 + x1) 289 = true then (ds_cV cl j_Mod_next [.ref 90] (ds_setI z 94 ((91 + x1).toNatClampNeg) (z.1 90 8)) fun z1 => some (none, z1))
    else none
  else if ds_in x2 8 = true then if ds_in ((113 + (8 * x1)) + x2) 289 = true then ds_Rw ds_c_Mod_newName ds_u_Mod_newName cl 45 [some (.ref 90), some (.int x1), some (.int (x2 + 1))] [] (ds_setI z 94 (((113 + (8 * x1)) + x2).toNatClampNeg) (z.1 92 x2.toNatClampNeg))
      else none
    else none := (ds_Rw_stp 400 45 [some (.ref 90), some (.int x1), some (.int x2)] [] z).trans rfl
set_option maxRecDepth 20000 in
theorem b_Mod_next_0 (cl : Nat → List Value → ds_St → Option ds_Out)  (z : ds_St) : ds_Rw ds_c_Mod_next ds_u_Mod_next cl 0 [some (.ref 90), none, none, none] [] z =
  ds_Rw ds_c_Mod_next ds_u_Mod_next cl 5 [some (.ref 90), some (.int (z.1 90 5)), none, none] [] z := (ds_Rw_stp 400 0 [some (.ref 90), none, none, none] [] z).trans rfl
set_option maxRecDepth 20000 in
theorem b_Mod_next_5 (cl : Nat → List Value → ds_St → Option ds_Out) (x1 : Int32) (z : ds_St) : ds_Rw ds_c_Mod_next ds_u_Mod_next cl 5 [some (.ref 90), some (.int x1), none, none] [] z =
  (ds_cI cl j_Mod_look [.ref 90, .int x1] z fun r1 z1 => if ¬ r1 = 32 then (ds_cI cl j_Mod_look [.ref 90, .int x1] (ds_setI z1 90 4 x1) fun r2 z2 => if ¬ r2 = (-1) then (ds_cI cl j_Mod_isSmall [.int r2] (ds_setI (ds_setI z2 90 8 0) 90 7 0) fun r3 z3 => if r3 = 0 then (ds_cI cl j_Mod_isDigit [.int r2] z3 fun r4 z4 => if r4 = 0 then if ¬ r2 = 59 then some (none, (ds_setI (ds_setI z4 90 5 (x1 + 1)) 90 6 1))
                          else some (none, (ds_setI (ds_setI z4 90 5 (x1 + 1)) 90 6 r2))
                      else ds_Rw ds_c_Mod_next ds_u_Mod_next cl 152 [some (.ref 90), some (.int x1), none, some (.int 0)] [] z4)
                  else ds_Rw ds_c_Mod_next ds_u_Mod_next cl 67 [some (.ref 90), some (.int x1), none, none] [] z3)
              else some (none, (ds_setI (ds_setI (ds_setI (ds_setI z2 90 8 0) 90 7 0) 90 6 0) 90 5 x1)))
    else ds_Rw ds_c_Mod_next ds_u_Mod_next cl 5 [some (.ref 90), some (.int (x1 + 1)), none, none] [] z1) := (ds_Rw_stp 400 5 [some (.ref 90), some (.int x1), none, none] [] z).trans rfl
set_option maxRecDepth 20000 in
theorem b_Mod_next_67 (cl : Nat → List Value → ds_St → Option ds_Out) (x1 : Int32) (z : ds_St) : ds_Rw ds_c_Mod_next ds_u_Mod_next cl 67 [some (.ref 90), some (.int x1), none, none] [] z =
  (ds_cI cl j_Mod_look [.ref 90, .int x1] z fun r1 z1 => (ds_cI cl j_Mod_isSmall [.int r1] z1 fun r2 z2 => if r2 = 0 then if (z2.1 90 8) ≤ 8 then some (none, (ds_setI (ds_setI z2 90 5 x1) 90 6 2))
          else some (none, (ds_setI (ds_setI z2 90 5 x1) 90 6 1))
      else if 8 ≤ (z2.1 90 8) then ds_Rw ds_c_Mod_next ds_u_Mod_next cl 101 [some (.ref 90), some (.int x1), none, none] [] z2
        else (ds_cI cl j_Mod_look [.ref 90, .int x1] z2 fun r3 z3 => if ds_in (z2.1 90 8) 8 = true then ds_Rw ds_c_Mod_next ds_u_Mod_next cl 101 [some (.ref 90), some (.int x1), none, none] [] (ds_setI z3 92 ((z2.1 90 8).toNatClampNeg) r3)
            else none))) := (ds_Rw_stp 400 67 [some (.ref 90), some (.int x1), none, none] [] z).trans rfl
set_option maxRecDepth 20000 in
theorem b_Mod_next_101 (cl : Nat → List Value → ds_St → Option ds_Out) (x1 : Int32) (z : ds_St) : ds_Rw ds_c_Mod_next ds_u_Mod_next cl 101 [some (.ref 90), some (.int x1), none, none] [] z =
  ds_Rw ds_c_Mod_next ds_u_Mod_next cl 67 [some (.ref 90), some (.int (x1 + 1)), none, none] [] (ds_setI z 90 8 ((z.1 90 8) + 1)) := (ds_Rw_stp 400 101 [some (.ref 90), some (.int x1), none, none] [] z).trans rfl
set_option maxRecDepth 20000 in
theorem b_Mod_next_152 (cl : Nat → List Value → ds_St → Option ds_Out) (x1 : Int32) (x3 : Int32) (z : ds_St) : ds_Rw ds_c_Mod_next ds_u_Mod_next cl 152 [some (.ref 90), some (.int x1), none, some (.int x3)] [] z =
  (ds_cI cl j_Mod_look [.ref 90, .int x1] z fun r1 z1 => (ds_cI cl j_Mod_isDigit [.int r1] z1 fun r2 z2 => if r2 = 0 then if x3 ≤ 2 then some (none, (ds_setI (ds_setI z2 90 5 x1) 90 6 3))
          else some (none, (ds_setI (ds_setI z2 90 5 x1) 90 6 1))
      else if 2 ≤ x3 then ds_Rw ds_c_Mod_next ds_u_Mod_next cl 152 [some (.ref 90), some (.int (x1 + 1)), none, some (.int (x3 + 1))] [] z2
        else (ds_cI cl j_Mod_look [.ref 90, .int x1] z2 fun r3 z3 => ds_Rw ds_c_Mod_next ds_u_Mod_next cl 152 [some (.ref 90), some (.int (x1 + 1)), none, some (.int (x3 + 1))] [] (ds_setI z3 90 7 (((10 * (z2.1 90 7)) + r3) - 48))))) := (ds_Rw_stp 400 152 [some (.ref 90), some (.int x1), none, some (.int x3)] [] z).trans rfl
set_option maxRecDepth 20000 in
theorem b_Mod_no_0 (cl : Nat → List Value → ds_St → Option ds_Out) (x1 : Int32) (z : ds_St) : ds_Rw ds_c_Mod_no ds_u_Mod_no cl 0 [some (.ref 90), some (.int x1)] [] z =
  some (some (.int (-1)), (ds_setI z 90 11 x1)) := (ds_Rw_stp 400 0 [some (.ref 90), some (.int x1)] [] z).trans rfl
set_option maxRecDepth 20000 in
theorem b_Mod_note_0 (cl : Nat → List Value → ds_St → Option ds_Out)  (z : ds_St) : ds_Rw ds_c_Mod_note ds_u_Mod_note cl 0 [some (.ref 90), none] [] z =
  if ¬ (z.1 90 20) = 16 then ds_Rw ds_c_Mod_note ds_u_Mod_note cl 49 [some (.ref 90), none] [] z
  else ds_Rw ds_c_Mod_note ds_u_Mod_note cl 11 [some (.ref 90), some (.int 0)] [] z := (ds_Rw_stp 400 0 [some (.ref 90), none] [] z).trans rfl
set_option maxRecDepth 20000 in
theorem b_Mod_note_11 (cl : Nat → List Value → ds_St → Option ds_Out) (x1 : Int32) (z : ds_St) : ds_Rw ds_c_Mod_note ds_u_Mod_note cl 11 [some (.ref 90), some (.int x1)] [] z =
  if 210 ≤ x1 then ds_Rw ds_c_Mod_note ds_u_Mod_note cl 49 [some (.ref 90), none] [] (ds_setI z 90 20 ((z.1 90 20) - 1))
  else if ds_in (x1 + 14) 224 = true then if ds_in x1 224 = true then ds_Rw ds_c_Mod_note ds_u_Mod_note cl 11 [some (.ref 90), some (.int (x1 + 1))] [] (ds_setI z 96 x1.toNatClampNeg (z.1 96 ((x1 + 14).toNatClampNeg)))
      else none
    else none := (ds_Rw_stp 400 11 [some (.ref 90), some (.int x1)] [] z).trans rfl
set_option maxRecDepth 20000 in
theorem b_Mod_note_49 (cl : Nat → List Value → ds_St → Option ds_Out)  (z : ds_St) : ds_Rw ds_c_Mod_note ds_u_Mod_note cl 49 [some (.ref 90), none] [] z =
  (ds_cV cl j_Mod_copy [.ref 95, .int 0, .ref 96, .int (14 * (z.1 90 20)), .int 14] z fun z1 => some (none, (ds_setI z1 90 20 ((z1.1 90 20) + 1)))) := (ds_Rw_stp 400 49 [some (.ref 90), none] [] z).trans rfl
set_option maxRecDepth 20000 in
theorem b_Mod_number_0 (cl : Nat → List Value → ds_St → Option ds_Out) (x1 : Int32) (x2 : Int32) (z : ds_St) : ds_Rw ds_c_Mod_number ds_u_Mod_number cl 0 [some (.ref 90), some (.int x1), some (.int x2), none] [] z =
  if (z.1 90 13) = 0 then if (z.1 90 6) = 3 then (ds_cI cl j_Mod_in [.int (z.1 90 7), .int x1, .int x2] z fun r1 z1 => if ¬ r1 = 0 then ds_Rw ds_c_Mod_number ds_u_Mod_number cl 50 [some (.ref 90), some (.int x1), none, none] [] z1
        else (ds_cV cl j_Mod_wrong [.ref 90, .int 4, .int (z1.1 90 4)] z1 fun z2 => ds_Rw ds_c_Mod_number ds_u_Mod_number cl 50 [some (.ref 90), some (.int x1), none, none] [] z2))
    else (ds_cV cl j_Mod_wrong [.ref 90, .int 1, .int (z.1 90 4)] z fun z3 => ds_Rw ds_c_Mod_number ds_u_Mod_number cl 50 [some (.ref 90), some (.int x1), none, none] [] z3)
  else some (some (.int x1), z) := (ds_Rw_stp 400 0 [some (.ref 90), some (.int x1), some (.int x2), none] [] z).trans rfl
set_option maxRecDepth 20000 in
theorem b_Mod_number_50 (cl : Nat → List Value → ds_St → Option ds_Out) (x1 : Int32) (z : ds_St) : ds_Rw ds_c_Mod_number ds_u_Mod_number cl 50 [some (.ref 90), some (.int x1), none, none] [] z =
  if (z.1 90 13) = 0 then (ds_cV cl j_Mod_next [.ref 90] z fun z1 => some (some (.int (z.1 90 7)), z1))
  else some (some (.int x1), z) := (ds_Rw_stp 400 50 [some (.ref 90), some (.int x1), none, none] [] z).trans rfl
set_option maxRecDepth 20000 in
theorem b_Mod_odds_0 (cl : Nat → List Value → ds_St → Option ds_Out) (x1 : Int32) (x2 : Int32) (x3 : Int32) (x4 : Int32) (z : ds_St) : ds_Rw ds_c_Mod_odds ds_u_Mod_odds cl 0 [some (.ref 90), some (.int x1), some (.int x2), some (.int x3), some (.int x4)] [] z =
  (ds_cV cl j_Mod_good [.ref 90] z fun z1 => (ds_cI cl j_Mod_isInDeck [.ref 90, .int x1] z1 fun r2 z2 => if r2 = 0 then (ds_cI cl j_Mod_no [.ref 90, .int 1] z2 fun r3 z3 => some (some (.long r3.toInt64), z3))
      else (ds_cI cl j_Mod_in [.int x3, .int 0, .int ((z2.1 95 12) - 1)] z2 fun r4 z4 => if ¬ r4 = 0 then (ds_cI cl j_Mod_in [.int x2, .int 0, .int 8] z4 fun r5 z5 => if ¬ r5 = 0 then (ds_cV cl j_Mod_layWays [.ref 90, .int x1, .int x2] z5 fun z6 => if ds_in x3 12 = true then (ds_cL cl j_Mod_allWays [.ref 90, .int x2] z6 fun r7 z7 => (ds_cL cl j_Mod_lowest [.long (z6.2.1 105 x3.toNatClampNeg), .long r7, .int x4] z7 fun r8 z8 => some (some (.long r8), z8)))
                    else none)
                else (ds_cI cl j_Mod_no [.ref 90, .int 2] z5 fun r9 z9 => some (some (.long r9.toInt64), z9)))
            else (ds_cI cl j_Mod_no [.ref 90, .int 1] z4 fun r10 z10 => some (some (.long r10.toInt64), z10))))) := (ds_Rw_stp 400 0 [some (.ref 90), some (.int x1), some (.int x2), some (.int x3), some (.int x4)] [] z).trans rfl
set_option maxRecDepth 20000 in
theorem b_Mod_of_0 (cl : Nat → List Value → ds_St → Option ds_Out) (x1 : Int32) (x2 : Int32) (z : ds_St) : ds_Rw ds_c_Mod_of ds_u_Mod_of cl 0 [some (.ref 90), some (.int x1), some (.int x2)] [] z =
  if ds_in ((9 + (4 * x1)) + x2) 289 = true then some (some (.int (z.1 93 (((9 + (4 * x1)) + x2).toNatClampNeg))), z)
  else none := (ds_Rw_stp 400 0 [some (.ref 90), some (.int x1), some (.int x2)] [] z).trans rfl
set_option maxRecDepth 20000 in
theorem b_Mod_oneMore_0 (cl : Nat → List Value → ds_St → Option ds_Out)  (z : ds_St) : ds_Rw ds_c_Mod_oneMore ds_u_Mod_oneMore cl 0 [some (.ref 90), none, none] [] z =
  ds_Rw ds_c_Mod_oneMore ds_u_Mod_oneMore cl 2 [some (.ref 90), some (.int 0), none] [] z := (ds_Rw_stp 400 0 [some (.ref 90), none, none] [] z).trans rfl
set_option maxRecDepth 20000 in
theorem b_Mod_oneMore_2 (cl : Nat → List Value → ds_St → Option ds_Out) (x1 : Int32) (z : ds_St) : ds_Rw ds_c_Mod_oneMore ds_u_Mod_oneMore cl 2 [some (.ref 90), some (.int x1), none] [] z =
  if 12 ≤ x1 then ds_Rw ds_c_Mod_oneMore ds_u_Mod_oneMore cl 23 [some (.ref 90), some (.int 0), none] [] z
  else if ds_in x1 12 = true then ds_Rw ds_c_Mod_oneMore ds_u_Mod_oneMore cl 2 [some (.ref 90), some (.int (x1 + 1)), none] [] (ds_setL z 106 x1.toNatClampNeg 0)
    else none := (ds_Rw_stp 400 2 [some (.ref 90), some (.int x1), none] [] z).trans rfl
set_option maxRecDepth 20000 in
theorem b_Mod_oneMore_23 (cl : Nat → List Value → ds_St → Option ds_Out) (x1 : Int32) (z : ds_St) : ds_Rw ds_c_Mod_oneMore ds_u_Mod_oneMore cl 23 [some (.ref 90), some (.int x1), none] [] z =
  if (z.1 95 12) ≤ x1 then ds_Rw ds_c_Mod_oneMore ds_u_Mod_oneMore cl 88 [some (.ref 90), some (.int 0), none] [] z
    else ds_Rw ds_c_Mod_oneMore ds_u_Mod_oneMore cl 36 [some (.ref 90), some (.int x1), some (.int 0)] [] z := (ds_Rw_stp 400 23 [some (.ref 90), some (.int x1), none] [] z).trans rfl
set_option maxRecDepth 20000 in
theorem b_Mod_oneMore_36 (cl : Nat → List Value → ds_St → Option ds_Out) (x1 : Int32) (x2 : Int32) (z : ds_St) : ds_Rw ds_c_Mod_oneMore ds_u_Mod_oneMore cl 36 [some (.ref 90), some (.int x1), some (.int x2)] [] z =
  (ds_cI cl j_Mod_movesOf [.ref 90, .ref 95] z fun r1 z1 => if r1 ≤ x2 then ds_Rw ds_c_Mod_oneMore ds_u_Mod_oneMore cl 23 [some (.ref 90), some (.int (x1 + 1)), none] [] z1
    else (ds_cI cl j_Mod_goesTo [.int x2, .int x1, .int (z1.1 95 12)] z1 fun r2 z2 => if ds_in r2 12 = true then if ds_in x1 12 = true then if ds_in r2 12 = true then ds_Rw ds_c_Mod_oneMore ds_u_Mod_oneMore cl 36 [some (.ref 90), some (.int x1), some (.int (x2 + 1))] [] (ds_setL z2 106 r2.toNatClampNeg ((z2.2.1 106 r2.toNatClampNeg) + (z2.2.1 105 x1.toNatClampNeg)))
              else none
            else none
          else none)) := (ds_Rw_stp 400 36 [some (.ref 90), some (.int x1), some (.int x2)] [] z).trans rfl
set_option maxRecDepth 20000 in
theorem b_Mod_oneMore_88 (cl : Nat → List Value → ds_St → Option ds_Out) (x1 : Int32) (z : ds_St) : ds_Rw ds_c_Mod_oneMore ds_u_Mod_oneMore cl 88 [some (.ref 90), some (.int x1), none] [] z =
  if 12 ≤ x1 then some (none, z)
  else if ds_in x1 12 = true then if ds_in x1 12 = true then ds_Rw ds_c_Mod_oneMore ds_u_Mod_oneMore cl 88 [some (.ref 90), some (.int (x1 + 1)), none] [] (ds_setL z 105 x1.toNatClampNeg (z.2.1 106 x1.toNatClampNeg))
      else none
    else none := (ds_Rw_stp 400 88 [some (.ref 90), some (.int x1), none] [] z).trans rfl
set_option maxRecDepth 20000 in
theorem b_Mod_oneOf_0 (cl : Nat → List Value → ds_St → Option ds_Out) (x1 : Nat) (x2 : Nat) (x3 : Nat) (x4 : Nat) (z : ds_St) : ds_Rw ds_c_Mod_oneOf ds_u_Mod_oneOf cl 0 [some (.ref 90), some (.ref x1), some (.ref x2), some (.ref x3), some (.ref x4), none] [] z =
  (ds_cI cl j_Mod_isWord [.ref 90, .ref x1] z fun r1 z1 => if r1 = 0 then (ds_cI cl j_Mod_isWord [.ref 90, .ref x2] z1 fun r2 z2 => if r2 = 0 then (ds_cI cl j_Mod_isWord [.ref 90, .ref x3] z2 fun r3 z3 => if r3 = 0 then (ds_cI cl j_Mod_isWord [.ref 90, .ref x4] z3 fun r4 z4 => if r4 = 0 then ds_Rw ds_c_Mod_oneOf ds_u_Mod_oneOf cl 50 [some (.ref 90), none, none, none, none, none] [.int (-1)] z4
                else ds_Rw ds_c_Mod_oneOf ds_u_Mod_oneOf cl 50 [some (.ref 90), none, none, none, none, none] [.int 3] z4)
            else ds_Rw ds_c_Mod_oneOf ds_u_Mod_oneOf cl 50 [some (.ref 90), none, none, none, none, none] [.int 2] z3)
        else ds_Rw ds_c_Mod_oneOf ds_u_Mod_oneOf cl 50 [some (.ref 90), none, none, none, none, none] [.int 1] z2)
    else ds_Rw ds_c_Mod_oneOf ds_u_Mod_oneOf cl 50 [some (.ref 90), none, none, none, none, none] [.int 0] z1) := (ds_Rw_stp 400 0 [some (.ref 90), some (.ref x1), some (.ref x2), some (.ref x3), some (.ref x4), none] [] z).trans rfl
set_option maxRecDepth 20000 in
theorem b_Mod_oneOf_50 (cl : Nat → List Value → ds_St → Option ds_Out) (s0 : Int32) (z : ds_St) : ds_Rw ds_c_Mod_oneOf ds_u_Mod_oneOf cl 50 [some (.ref 90), none, none, none, none, none] [.int s0] z =
  if 0 ≤ s0 then ds_Rw ds_c_Mod_oneOf ds_u_Mod_oneOf cl 66 [some (.ref 90), none, none, none, none, some (.int s0)] [] z
  else (ds_cV cl j_Mod_wrong [.ref 90, .int 1, .int (z.1 90 4)] z fun z1 => ds_Rw ds_c_Mod_oneOf ds_u_Mod_oneOf cl 66 [some (.ref 90), none, none, none, none, some (.int s0)] [] z1) := (ds_Rw_stp 400 50 [some (.ref 90), none, none, none, none, none] [.int s0] z).trans rfl
set_option maxRecDepth 20000 in
theorem b_Mod_oneOf_66 (cl : Nat → List Value → ds_St → Option ds_Out) (x5 : Int32) (z : ds_St) : ds_Rw ds_c_Mod_oneOf ds_u_Mod_oneOf cl 66 [some (.ref 90), none, none, none, none, some (.int x5)] [] z =
  if ¬ (z.1 90 13) = 0 then some (some (.int x5), z)
  else (ds_cV cl j_Mod_next [.ref 90] z fun z1 => some (some (.int x5), z1)) := (ds_Rw_stp 400 66 [some (.ref 90), none, none, none, none, some (.int x5)] [] z).trans rfl
set_option maxRecDepth 20000 in
theorem b_Mod_palm_0 (cl : Nat → List Value → ds_St → Option ds_Out) (x1 : Int32) (z : ds_St) : ds_Rw ds_c_Mod_palm ds_u_Mod_palm cl 0 [some (.ref 90), some (.int x1), none, none] [] z =
  (ds_cV cl j_Mod_good [.ref 90] z fun z1 => if (z1.1 90 14) = 0 then (ds_cI cl j_Mod_no [.ref 90, .int 1] z1 fun r2 z2 => some (some (.int r2), z2))
    else (ds_cI cl j_Mod_in [.int x1, .int 0, .int ((z1.1 95 12) - 1)] z1 fun r3 z3 => if ¬ r3 = 0 then if 0 < (z3.1 95 13) then (ds_cI cl j_Mod_no [.ref 90, .int 5] z3 fun r4 z4 => some (some (.int r4), z4))
              else if ¬ (z3.1 95 12) = 2 then (ds_cV cl j_Mod_note [.ref 90] z3 fun z5 => if ds_in x1 14 = true then ds_Rw ds_c_Mod_palm ds_u_Mod_palm cl 76 [some (.ref 90), none, some (.int (z5.1 95 x1.toNatClampNeg)), some (.int (x1 + 1))] [] z5
                      else none)
                  else (ds_cI cl j_Mod_no [.ref 90, .int 5] z3 fun r6 z6 => some (some (.int r6), z6))
          else (ds_cI cl j_Mod_no [.ref 90, .int 1] z3 fun r7 z7 => some (some (.int r7), z7)))) := (ds_Rw_stp 400 0 [some (.ref 90), some (.int x1), none, none] [] z).trans rfl
set_option maxRecDepth 20000 in
theorem b_Mod_palm_76 (cl : Nat → List Value → ds_St → Option ds_Out) (x2 : Int32) (x3 : Int32) (z : ds_St) : ds_Rw ds_c_Mod_palm ds_u_Mod_palm cl 76 [some (.ref 90), none, some (.int x2), some (.int x3)] [] z =
  if (z.1 95 12) ≤ x3 then some (some (.int x2), (ds_setI (ds_setI z 95 12 ((z.1 95 12) - 1)) 95 13 (x2 + 1)))
    else if ds_in x3 14 = true then if ds_in (x3 - 1) 14 = true then ds_Rw ds_c_Mod_palm ds_u_Mod_palm cl 76 [some (.ref 90), none, some (.int x2), some (.int (x3 + 1))] [] (ds_setI z 95 ((x3 - 1).toNatClampNeg) (z.1 95 x3.toNatClampNeg))
        else none
      else none := (ds_Rw_stp 400 76 [some (.ref 90), none, some (.int x2), some (.int x3)] [] z).trans rfl
set_option maxRecDepth 20000 in
theorem b_Mod_people_0 (cl : Nat → List Value → ds_St → Option ds_Out) (x1 : Int32) (z : ds_St) : ds_Rw ds_c_Mod_people ds_u_Mod_people cl 0 [some (.ref 90), some (.int x1), none, none] [] z =
  (ds_cV cl j_Mod_good [.ref 90] z fun z1 => if (z1.1 90 14) = 0 then (ds_cI cl j_Mod_no [.ref 90, .int 1] z1 fun r2 z2 => some (some (.int r2), z2))
    else (ds_cI cl j_Mod_in [.int x1, .int 0, .int 3] z1 fun r3 z3 => if ¬ r3 = 0 then ds_Rw ds_c_Mod_people ds_u_Mod_people cl 30 [some (.ref 90), some (.int x1), some (.int 0), some (.int 0)] [] z3
        else (ds_cI cl j_Mod_no [.ref 90, .int 1] z3 fun r4 z4 => some (some (.int r4), z4)))) := (ds_Rw_stp 400 0 [some (.ref 90), some (.int x1), none, none] [] z).trans rfl
set_option maxRecDepth 20000 in
theorem b_Mod_people_30 (cl : Nat → List Value → ds_St → Option ds_Out) (x1 : Int32) (x2 : Int32) (x3 : Int32) (z : ds_St) : ds_Rw ds_c_Mod_people ds_u_Mod_people cl 30 [some (.ref 90), some (.int x1), some (.int x2), some (.int x3)] [] z =
  if (z.1 93 4) ≤ x3 then some (some (.int x2), z)
    else (ds_cI cl j_Mod_of [.ref 90, .int x3, .int 1] z fun r1 z1 => if ¬ r1 = x1 then ds_Rw ds_c_Mod_people ds_u_Mod_people cl 30 [some (.ref 90), some (.int x1), some (.int (x2 + 0)), some (.int (x3 + 1))] [] z1
        else (ds_cI cl j_Mod_isInSea [.ref 90, .ref 95, .int x3] z1 fun r2 z2 => if r2 = 0 then ds_Rw ds_c_Mod_people ds_u_Mod_people cl 30 [some (.ref 90), some (.int x1), some (.int (x2 + 0)), some (.int (x3 + 1))] [] z2
            else (ds_cI cl j_Mod_of [.ref 90, .int x3, .int 3] z2 fun r3 z3 => ds_Rw ds_c_Mod_people ds_u_Mod_people cl 30 [some (.ref 90), some (.int x1), some (.int (x2 + r3)), some (.int (x3 + 1))] [] z3))) := (ds_Rw_stp 400 30 [some (.ref 90), some (.int x1), some (.int x2), some (.int x3)] [] z).trans rfl
set_option maxRecDepth 20000 in
theorem b_Mod_placeIn_0 (cl : Nat → List Value → ds_St → Option ds_Out) (x0 : Nat) (x1 : Int32) (z : ds_St) : ds_Rw ds_c_Mod_placeIn ds_u_Mod_placeIn cl 0 [some (.ref x0), some (.int x1), none] [] z =
  ds_Rw ds_c_Mod_placeIn ds_u_Mod_placeIn cl 2 [some (.ref x0), some (.int x1), some (.int 0)] [] z := (ds_Rw_stp 400 0 [some (.ref x0), some (.int x1), none] [] z).trans rfl
set_option maxRecDepth 20000 in
theorem b_Mod_placeIn_2 (cl : Nat → List Value → ds_St → Option ds_Out) (x0 : Nat) (x1 : Int32) (x2 : Int32) (z : ds_St) : ds_Rw ds_c_Mod_placeIn ds_u_Mod_placeIn cl 2 [some (.ref x0), some (.int x1), some (.int x2)] [] z =
  if ds_K x0 = 11 then if ds_in 12 (ds_N x0) = true then if (z.1 x0 12) ≤ x2 then some (some (.int (-2)), z)
    else if ds_K x0 = 11 then if ds_in x2 (ds_N x0) = true then if ¬ (z.1 x0 x2.toNatClampNeg) = x1 then ds_Rw ds_c_Mod_placeIn ds_u_Mod_placeIn cl 2 [some (.ref x0), some (.int x1), some (.int (x2 + 1))] [] z
        else some (some (.int x2), z)
        else none
      else none
    else none
  else none := (ds_Rw_stp 400 2 [some (.ref x0), some (.int x1), some (.int x2)] [] z).trans rfl
set_option maxRecDepth 20000 in
theorem b_Mod_planWhy_0 (cl : Nat → List Value → ds_St → Option ds_Out) (x1 : Int32) (z : ds_St) : ds_Rw ds_c_Mod_planWhy ds_u_Mod_planWhy cl 0 [some (.ref 90), some (.int x1)] [] z =
  if ¬ (z.1 90 14) = 0 then (ds_cI cl j_Mod_in [.int x1, .int 0, .int (z.1 93 5)] z fun r1 z1 => if r1 = 0 then some (some (.int 2), z1)
        else some (some (.int 0), z1))
  else some (some (.int 1), z) := (ds_Rw_stp 400 0 [some (.ref 90), some (.int x1)] [] z).trans rfl
set_option maxRecDepth 20000 in
theorem b_Mod_planned_0 (cl : Nat → List Value → ds_St → Option ds_Out) (x1 : Int32) (x2 : Int32) (z : ds_St) : ds_Rw ds_c_Mod_planned ds_u_Mod_planned cl 0 [some (.ref 90), some (.int x1), some (.int x2)] [] z =
  (ds_cV cl j_Mod_good [.ref 90] z fun z1 => if (z1.1 90 14) = 0 then (ds_cI cl j_Mod_no [.ref 90, .int 1] z1 fun r2 z2 => some (some (.int r2), z2))
    else (ds_cI cl j_Mod_in [.int x1, .int 0, .int ((z1.1 93 4) - 1)] z1 fun r3 z3 => if ¬ r3 = 0 then (ds_cI cl j_Mod_in [.int x2, .int 0, .int (z3.1 93 5)] z3 fun r4 z4 => if ¬ r4 = 0 then (ds_cV cl j_Mod_layPlan [.ref 90, .int x2] z4 fun z5 => if ds_in x1 14 = true then some (some (.int (z5.1 100 x1.toNatClampNeg)), z5)
                    else none)
                else (ds_cI cl j_Mod_no [.ref 90, .int 2] z4 fun r6 z6 => some (some (.int r6), z6)))
          else (ds_cI cl j_Mod_no [.ref 90, .int 1] z3 fun r7 z7 => some (some (.int r7), z7)))) := (ds_Rw_stp 400 0 [some (.ref 90), some (.int x1), some (.int x2)] [] z).trans rfl
set_option maxRecDepth 20000 in
theorem b_Mod_plannedTrades_0 (cl : Nat → List Value → ds_St → Option ds_Out) (x1 : Int32) (z : ds_St) : ds_Rw ds_c_Mod_plannedTrades ds_u_Mod_plannedTrades cl 0 [some (.ref 90), some (.int x1), none] [] z =
  (ds_cV cl j_Mod_good [.ref 90] z fun z1 => (ds_cI cl j_Mod_planWhy [.ref 90, .int x1] z1 fun r2 z2 => if r2 = 0 then (ds_cV cl j_Mod_layPlan [.ref 90, .int x1] z2 fun z3 => (ds_cI cl j_Mod_tradesIn [.ref 90, .ref 100, .int (-1)] z3 fun r4 z4 => some (some (.int r4), z4)))
      else (ds_cI cl j_Mod_no [.ref 90, .int r2] z2 fun r5 z5 => some (some (.int r5), z5)))) := (ds_Rw_stp 400 0 [some (.ref 90), some (.int x1), none] [] z).trans rfl
set_option maxRecDepth 20000 in
theorem b_Mod_readLine_0 (cl : Nat → List Value → ds_St → Option ds_Out)  (z : ds_St) : ds_Rw ds_c_Mod_readLine ds_u_Mod_readLine cl 0 [some (.ref 90)] [] z =
  (ds_cI cl j_Mod_isWord [.ref 90, .ref 310] z fun r1 z1 => if r1 = 0 then if 12 ≤ (z1.1 94 4) then ds_Rw ds_c_Mod_readLine ds_u_Mod_readLine cl 35 [some (.ref 90)] [.int 0, .ref 321, .ref 90] z1
        else ds_Rw ds_c_Mod_readLine ds_u_Mod_readLine cl 35 [some (.ref 90)] [.int 1, .ref 321, .ref 90] z1
    else (ds_cV cl j_Mod_seaLine [.ref 90] z1 fun z2 => some (none, z2))) := (ds_Rw_stp 400 0 [some (.ref 90)] [] z).trans rfl
set_option maxRecDepth 20000 in
theorem b_Mod_readLine_35 (cl : Nat → List Value → ds_St → Option ds_Out) (s0 : Int32) (s1 : Nat) (s2 : Nat) (z : ds_St) : ds_Rw ds_c_Mod_readLine ds_u_Mod_readLine cl 35 [some (.ref 90)] [.int s0, .ref s1, .ref s2] z =
  if ds_K s2 = 9 then (ds_cI cl j_Mod_begins [.ref s2, .ref s1, .int s0] z fun r1 z1 => if r1 = 0 then if 10 ≤ (z1.1 94 5) then ds_Rw ds_c_Mod_readLine ds_u_Mod_readLine cl 67 [some (.ref 90)] [.int 0, .ref 322, .ref 90] z1
        else ds_Rw ds_c_Mod_readLine ds_u_Mod_readLine cl 67 [some (.ref 90)] [.int 1, .ref 322, .ref 90] z1
    else (ds_cV cl j_Mod_islandLine [.ref 90] z1 fun z2 => some (none, z2)))
  else none := (ds_Rw_stp 400 35 [some (.ref 90)] [.int s0, .ref s1, .ref s2] z).trans rfl
set_option maxRecDepth 20000 in
theorem b_Mod_readLine_67 (cl : Nat → List Value → ds_St → Option ds_Out) (s0 : Int32) (s1 : Nat) (s2 : Nat) (z : ds_St) : ds_Rw ds_c_Mod_readLine ds_u_Mod_readLine cl 67 [some (.ref 90)] [.int s0, .ref s1, .ref s2] z =
  if ds_K s2 = 9 then (ds_cI cl j_Mod_begins [.ref s2, .ref s1, .int s0] z fun r1 z1 => if r1 = 0 then if 6 ≤ (z1.1 94 6) then ds_Rw ds_c_Mod_readLine ds_u_Mod_readLine cl 100 [some (.ref 90)] [.int 0, .ref 323, .ref 90] z1
        else ds_Rw ds_c_Mod_readLine ds_u_Mod_readLine cl 100 [some (.ref 90)] [.int 1, .ref 323, .ref 90] z1
    else (ds_cV cl j_Mod_familyLine [.ref 90] z1 fun z2 => some (none, z2)))
  else none := (ds_Rw_stp 400 67 [some (.ref 90)] [.int s0, .ref s1, .ref s2] z).trans rfl
set_option maxRecDepth 20000 in
theorem b_Mod_readLine_100 (cl : Nat → List Value → ds_St → Option ds_Out) (s0 : Int32) (s1 : Nat) (s2 : Nat) (z : ds_St) : ds_Rw ds_c_Mod_readLine ds_u_Mod_readLine cl 100 [some (.ref 90)] [.int s0, .ref s1, .ref s2] z =
  if ds_K s2 = 9 then (ds_cI cl j_Mod_begins [.ref s2, .ref s1, .int s0] z fun r1 z1 => if r1 = 0 then if 6 ≤ (z1.1 94 7) then ds_Rw ds_c_Mod_readLine ds_u_Mod_readLine cl 133 [some (.ref 90)] [.int 0, .ref 324, .ref 90] z1
        else ds_Rw ds_c_Mod_readLine ds_u_Mod_readLine cl 133 [some (.ref 90)] [.int 1, .ref 324, .ref 90] z1
    else (ds_cV cl j_Mod_wishLine [.ref 90] z1 fun z2 => some (none, z2)))
  else none := (ds_Rw_stp 400 100 [some (.ref 90)] [.int s0, .ref s1, .ref s2] z).trans rfl
set_option maxRecDepth 20000 in
theorem b_Mod_readLine_133 (cl : Nat → List Value → ds_St → Option ds_Out) (s0 : Int32) (s1 : Nat) (s2 : Nat) (z : ds_St) : ds_Rw ds_c_Mod_readLine ds_u_Mod_readLine cl 133 [some (.ref 90)] [.int s0, .ref s1, .ref s2] z =
  if ds_K s2 = 9 then (ds_cI cl j_Mod_begins [.ref s2, .ref s1, .int s0] z fun r1 z1 => if r1 = 0 then (ds_cV cl j_Mod_wrong [.ref 90, .int 1, .int (z1.1 90 4)] z1 fun z2 => some (none, z2))
    else (ds_cV cl j_Mod_showsLine [.ref 90] z1 fun z3 => some (none, z3)))
  else none := (ds_Rw_stp 400 133 [some (.ref 90)] [.int s0, .ref s1, .ref s2] z).trans rfl
set_option maxRecDepth 20000 in
theorem b_Mod_rest_0 (cl : Nat → List Value → ds_St → Option ds_Out) (x1 : Int32) (x2 : Int32) (z : ds_St) : ds_Rw ds_c_Mod_rest ds_u_Mod_rest cl 0 [some (.ref 90), some (.int x1), some (.int x2)] [] z =
  (ds_cV cl j_Mod_good [.ref 90] z fun z1 => (ds_cI cl j_Mod_areGoods [.ref 90, .int x1, .int x2] z1 fun r2 z2 => if ¬ r2 = 0 then (ds_cI cl j_Mod_restsOf [.ref 90, .int x1, .int x2] z2 fun r3 z3 => some (some (.int (z3.1 90 41)), z3))
      else (ds_cI cl j_Mod_no [.ref 90, .int 1] z2 fun r4 z4 => some (some (.int r4), z4)))) := (ds_Rw_stp 400 0 [some (.ref 90), some (.int x1), some (.int x2)] [] z).trans rfl
set_option maxRecDepth 20000 in
theorem b_Mod_rests_0 (cl : Nat → List Value → ds_St → Option ds_Out) (x1 : Int32) (x2 : Int32) (z : ds_St) : ds_Rw ds_c_Mod_rests ds_u_Mod_rests cl 0 [some (.ref 90), some (.int x1), some (.int x2)] [] z =
  (ds_cV cl j_Mod_good [.ref 90] z fun z1 => (ds_cI cl j_Mod_areGoods [.ref 90, .int x1, .int x2] z1 fun r2 z2 => if r2 = 0 then (ds_cI cl j_Mod_no [.ref 90, .int 1] z2 fun r3 z3 => some (some (.int r3), z3))
      else (ds_cI cl j_Mod_restsOf [.ref 90, .int x1, .int x2] z2 fun r4 z4 => some (some (.int r4), z4)))) := (ds_Rw_stp 400 0 [some (.ref 90), some (.int x1), some (.int x2)] [] z).trans rfl
set_option maxRecDepth 20000 in
theorem b_Mod_restsOf_0 (cl : Nat → List Value → ds_St → Option ds_Out) (x1 : Int32) (x2 : Int32) (z : ds_St) : ds_Rw ds_c_Mod_restsOf ds_u_Mod_restsOf cl 0 [some (.ref 90), some (.int x1), some (.int x2), none, none, none] [] z =
  ds_Rw ds_c_Mod_restsOf ds_u_Mod_restsOf cl 2 [some (.ref 90), some (.int x1), some (.int x2), some (.int 0), none, none] [] z := (ds_Rw_stp 400 0 [some (.ref 90), some (.int x1), some (.int x2), none, none, none] [] z).trans rfl
set_option maxRecDepth 20000 in
theorem b_Mod_restsOf_2 (cl : Nat → List Value → ds_St → Option ds_Out) (x1 : Int32) (x2 : Int32) (x3 : Int32) (z : ds_St) : ds_Rw ds_c_Mod_restsOf ds_u_Mod_restsOf cl 2 [some (.ref 90), some (.int x1), some (.int x2), some (.int x3), none, none] [] z =
  (ds_cI cl j_Mod_movesOf [.ref 90, .ref 95] z fun r1 z1 => if r1 ≤ x3 then ds_Rw ds_c_Mod_restsOf ds_u_Mod_restsOf cl 74 [some (.ref 90), none, none, some (.int 0), some (.int 0), none] [] (ds_setI z1 90 41 (-2))
    else ds_Rw ds_c_Mod_restsOf ds_u_Mod_restsOf cl 17 [some (.ref 90), some (.int x1), some (.int x2), some (.int x3), some (.int 0), none] [] z1) := (ds_Rw_stp 400 2 [some (.ref 90), some (.int x1), some (.int x2), some (.int x3), none, none] [] z).trans rfl
set_option maxRecDepth 20000 in
theorem b_Mod_restsOf_17 (cl : Nat → List Value → ds_St → Option ds_Out) (x1 : Int32) (x2 : Int32) (x3 : Int32) (x4 : Int32) (z : ds_St) : ds_Rw ds_c_Mod_restsOf ds_u_Mod_restsOf cl 17 [some (.ref 90), some (.int x1), some (.int x2), some (.int x3), some (.int x4), none] [] z =
  (ds_cI cl j_Mod_movesOf [.ref 90, .ref 95] z fun r1 z1 => if r1 ≤ x4 then ds_Rw ds_c_Mod_restsOf ds_u_Mod_restsOf cl 2 [some (.ref 90), some (.int x1), some (.int x2), some (.int (x3 + 1)), none, none] [] z1
    else (ds_cI cl j_Mod_gainOf [.ref 90, .int x1, .int x2, .int x3, .int x4] z1 fun r2 z2 => if ds_in ((14 * x3) + x4) 196 = true then ds_Rw ds_c_Mod_restsOf ds_u_Mod_restsOf cl 17 [some (.ref 90), some (.int x1), some (.int x2), some (.int x3), some (.int (x4 + 1)), none] [] (ds_setI z2 110 (((14 * x3) + x4).toNatClampNeg) r2)
        else none)) := (ds_Rw_stp 400 17 [some (.ref 90), some (.int x1), some (.int x2), some (.int x3), some (.int x4), none] [] z).trans rfl
set_option maxRecDepth 20000 in
theorem b_Mod_restsOf_74 (cl : Nat → List Value → ds_St → Option ds_Out) (x3 : Int32) (x4 : Int32) (z : ds_St) : ds_Rw ds_c_Mod_restsOf ds_u_Mod_restsOf cl 74 [some (.ref 90), none, none, some (.int x3), some (.int x4), none] [] z =
  (ds_cI cl j_Mod_movesOf [.ref 90, .ref 95] z fun r1 z1 => if r1 ≤ x4 then some (some (.int x3), z1)
    else ds_Rw ds_c_Mod_restsOf ds_u_Mod_restsOf cl 90 [some (.ref 90), none, none, some (.int x3), some (.int x4), some (.int 0)] [] z1) := (ds_Rw_stp 400 74 [some (.ref 90), none, none, some (.int x3), some (.int x4), none] [] z).trans rfl
set_option maxRecDepth 20000 in
theorem b_Mod_restsOf_90 (cl : Nat → List Value → ds_St → Option ds_Out) (x3 : Int32) (x4 : Int32) (x5 : Int32) (z : ds_St) : ds_Rw ds_c_Mod_restsOf ds_u_Mod_restsOf cl 90 [some (.ref 90), none, none, some (.int x3), some (.int x4), some (.int x5)] [] z =
  (ds_cI cl j_Mod_movesOf [.ref 90, .ref 95] z fun r1 z1 => if r1 ≤ x5 then ds_Rw ds_c_Mod_restsOf ds_u_Mod_restsOf cl 74 [some (.ref 90), none, none, some (.int x3), some (.int (x4 + 1)), none] [] z1
    else (ds_cI cl j_Mod_isRest [.ref 90, .int x4, .int x5] z1 fun r2 z2 => if ¬ r2 = 0 then if ¬ x3 = 0 then ds_Rw ds_c_Mod_restsOf ds_u_Mod_restsOf cl 90 [some (.ref 90), none, none, some (.int (x3 + 1)), some (.int x4), some (.int (x5 + 1))] [] z2
          else ds_Rw ds_c_Mod_restsOf ds_u_Mod_restsOf cl 90 [some (.ref 90), none, none, some (.int (x3 + 1)), some (.int x4), some (.int (x5 + 1))] [] (ds_setI z2 90 41 ((100 * x4) + x5))
        else ds_Rw ds_c_Mod_restsOf ds_u_Mod_restsOf cl 90 [some (.ref 90), none, none, some (.int x3), some (.int x4), some (.int (x5 + 1))] [] z2)) := (ds_Rw_stp 400 90 [some (.ref 90), none, none, some (.int x3), some (.int x4), some (.int x5)] [] z).trans rfl
set_option maxRecDepth 20000 in
theorem b_Mod_room_0 (cl : Nat → List Value → ds_St → Option ds_Out)  (z : ds_St) : ds_Rw ds_c_Mod_room ds_u_Mod_room cl 0 [some (.ref 90)] [] z =
  some (some (.int ((z.1 93 0) * (z.1 93 1))), z) := (ds_Rw_stp 400 0 [some (.ref 90)] [] z).trans rfl
set_option maxRecDepth 20000 in
theorem b_Mod_run_0 (cl : Nat → List Value → ds_St → Option ds_Out)  (z : ds_St) : ds_Rw ds_c_Mod_run ds_u_Mod_run cl 0 [some (.ref 90)] [] z =
  (ds_cV cl j_Mod_good [.ref 90] z fun z1 => if (z1.1 90 14) = 0 then (ds_cI cl j_Mod_no [.ref 90, .int 1] z1 fun r2 z2 => some (some (.int r2), z2))
    else (ds_cI cl j_Mod_runNow [.ref 90] z1 fun r3 z3 => some (some (.int r3), z3))) := (ds_Rw_stp 400 0 [some (.ref 90)] [] z).trans rfl
set_option maxRecDepth 20000 in
theorem b_Mod_runAt_0 (cl : Nat → List Value → ds_St → Option ds_Out) (x1 : Int32) (z : ds_St) : ds_Rw ds_c_Mod_runAt ds_u_Mod_runAt cl 0 [some (.ref 90), some (.int x1), none, none, none, none] [] z =
  (ds_cV cl j_Mod_good [.ref 90] z fun z1 => if ¬ (z1.1 90 14) = 0 then (ds_cI cl j_Mod_runNow [.ref 90] z1 fun r2 z2 => (ds_cI cl j_Mod_in [.int x1, .int 0, .int (r2 - 1)] z2 fun r3 z3 => if ¬ r3 = 0 then ds_Rw ds_c_Mod_runAt ds_u_Mod_runAt cl 41 [some (.ref 90), some (.int x1), some (.int r2), some (.int 0), none, none] [] z3
          else (ds_cI cl j_Mod_no [.ref 90, .int 1] z3 fun r4 z4 => some (some (.int r4), z4))))
    else (ds_cI cl j_Mod_no [.ref 90, .int 1] z1 fun r5 z5 => some (some (.int r5), z5))) := (ds_Rw_stp 400 0 [some (.ref 90), some (.int x1), none, none, none, none] [] z).trans rfl
set_option maxRecDepth 20000 in
theorem b_Mod_runAt_41 (cl : Nat → List Value → ds_St → Option ds_Out) (x1 : Int32) (x2 : Int32) (x3 : Int32) (z : ds_St) : ds_Rw ds_c_Mod_runAt ds_u_Mod_runAt cl 41 [some (.ref 90), some (.int x1), some (.int x2), some (.int x3), none, none] [] z =
  (ds_cI cl j_Mod_runFrom [.ref 90, .int x3] z fun r1 z1 => if r1 = x2 then ds_Rw ds_c_Mod_runAt ds_u_Mod_runAt cl 59 [some (.ref 90), some (.int x1), some (.int x2), some (.int x3), some (.int 0), none] [] z1
    else ds_Rw ds_c_Mod_runAt ds_u_Mod_runAt cl 41 [some (.ref 90), some (.int x1), some (.int x2), some (.int (x3 + 1)), none, none] [] z1) := (ds_Rw_stp 400 41 [some (.ref 90), some (.int x1), some (.int x2), some (.int x3), none, none] [] z).trans rfl
set_option maxRecDepth 20000 in
theorem b_Mod_runAt_59 (cl : Nat → List Value → ds_St → Option ds_Out) (x1 : Int32) (x2 : Int32) (x3 : Int32) (x4 : Int32) (z : ds_St) : ds_Rw ds_c_Mod_runAt ds_u_Mod_runAt cl 59 [some (.ref 90), some (.int x1), some (.int x2), some (.int x3), some (.int x4), none] [] z =
  if x1 ≤ x4 then some (some (.int x3), z)
  else ds_Rw ds_c_Mod_runAt ds_u_Mod_runAt cl 68 [some (.ref 90), some (.int x1), some (.int x2), some (.int x3), some (.int x4), some (.int 0)] [] z := (ds_Rw_stp 400 59 [some (.ref 90), some (.int x1), some (.int x2), some (.int x3), some (.int x4), none] [] z).trans rfl
set_option maxRecDepth 20000 in
theorem b_Mod_runAt_68 (cl : Nat → List Value → ds_St → Option ds_Out) (x1 : Int32) (x2 : Int32) (x3 : Int32) (x4 : Int32) (x5 : Int32) (z : ds_St) : ds_Rw ds_c_Mod_runAt ds_u_Mod_runAt cl 68 [some (.ref 90), some (.int x1), some (.int x2), some (.int x3), some (.int x4), some (.int x5)] [] z =
  (ds_cI cl j_Mod_runFrom [.ref 90, .int x5] z fun r1 z1 => if ¬ r1 = ((x2 - 1) - x4) then ds_Rw ds_c_Mod_runAt ds_u_Mod_runAt cl 68 [some (.ref 90), some (.int x1), some (.int x2), some (.int x3), some (.int x4), some (.int (x5 + 1))] [] z1
    else (ds_cI cl j_Mod_of [.ref 90, .int x5, .int 2] z1 fun r2 z2 => (ds_cI cl j_Mod_of [.ref 90, .int x3, .int 2] z2 fun r3 z3 => if ¬ r2 = (r3 + 1) then ds_Rw ds_c_Mod_runAt ds_u_Mod_runAt cl 68 [some (.ref 90), some (.int x1), some (.int x2), some (.int x3), some (.int x4), some (.int (x5 + 1))] [] z3
          else (ds_cI cl j_Mod_beBeside [.ref 90, .ref 95, .int x3, .int x5] z3 fun r4 z4 => if ¬ r4 = 0 then ds_Rw ds_c_Mod_runAt ds_u_Mod_runAt cl 59 [some (.ref 90), some (.int x1), some (.int x2), some (.int x5), some (.int (x4 + 1)), none] [] z4
              else ds_Rw ds_c_Mod_runAt ds_u_Mod_runAt cl 68 [some (.ref 90), some (.int x1), some (.int x2), some (.int x3), some (.int x4), some (.int (x5 + 1))] [] z4)))) := (ds_Rw_stp 400 68 [some (.ref 90), some (.int x1), some (.int x2), some (.int x3), some (.int x4), some (.int x5)] [] z).trans rfl
set_option maxRecDepth 20000 in
theorem b_Mod_runFrom_0 (cl : Nat → List Value → ds_St → Option ds_Out) (x1 : Int32) (z : ds_St) : ds_Rw ds_c_Mod_runFrom ds_u_Mod_runFrom cl 0 [some (.ref 90), some (.int x1), none, none, none] [] z =
  (ds_cI cl j_Mod_isJoker [.ref 90, .int x1] z fun r1 z1 => if ¬ r1 = 0 then some (some (.int 0), z1)
    else (ds_cI cl j_Mod_isInSea [.ref 90, .ref 95, .int x1] z1 fun r2 z2 => if ¬ r2 = 0 then ds_Rw ds_c_Mod_runFrom ds_u_Mod_runFrom cl 26 [some (.ref 90), some (.int x1), some (.int 0), some (.int 0), none] [] z2
        else some (some (.int 0), z2))) := (ds_Rw_stp 400 0 [some (.ref 90), some (.int x1), none, none, none] [] z).trans rfl
set_option maxRecDepth 20000 in
theorem b_Mod_runFrom_26 (cl : Nat → List Value → ds_St → Option ds_Out) (x1 : Int32) (x2 : Int32) (x3 : Int32) (z : ds_St) : ds_Rw ds_c_Mod_runFrom ds_u_Mod_runFrom cl 26 [some (.ref 90), some (.int x1), some (.int x2), some (.int x3), none] [] z =
  if (z.1 93 4) ≤ x3 then some (some (.int (x2 + 1)), z)
    else (ds_cI cl j_Mod_of [.ref 90, .int x3, .int 2] z fun r1 z1 => (ds_cI cl j_Mod_of [.ref 90, .int x1, .int 2] z1 fun r2 z2 => if ¬ r1 = (r2 + 1) then ds_Rw ds_c_Mod_runFrom ds_u_Mod_runFrom cl 26 [some (.ref 90), some (.int x1), some (.int x2), some (.int (x3 + 1)), none] [] z2
          else (ds_cI cl j_Mod_beBeside [.ref 90, .ref 95, .int x1, .int x3] z2 fun r3 z3 => if ¬ r3 = 0 then (ds_cI cl j_Mod_runFrom [.ref 90, .int x3] z3 fun r4 z4 => if r4 ≤ x2 then ds_Rw ds_c_Mod_runFrom ds_u_Mod_runFrom cl 26 [some (.ref 90), some (.int x1), some (.int x2), some (.int (x3 + 1)), none] [] z4
                  else ds_Rw ds_c_Mod_runFrom ds_u_Mod_runFrom cl 26 [some (.ref 90), some (.int x1), some (.int r4), some (.int (x3 + 1)), none] [] z4)
              else ds_Rw ds_c_Mod_runFrom ds_u_Mod_runFrom cl 26 [some (.ref 90), some (.int x1), some (.int x2), some (.int (x3 + 1)), none] [] z3))) := (ds_Rw_stp 400 26 [some (.ref 90), some (.int x1), some (.int x2), some (.int x3), none] [] z).trans rfl
set_option maxRecDepth 20000 in
theorem b_Mod_runNow_0 (cl : Nat → List Value → ds_St → Option ds_Out)  (z : ds_St) : ds_Rw ds_c_Mod_runNow ds_u_Mod_runNow cl 0 [some (.ref 90), none, none] [] z =
  ds_Rw ds_c_Mod_runNow ds_u_Mod_runNow cl 4 [some (.ref 90), some (.int 0), some (.int 0)] [] z := (ds_Rw_stp 400 0 [some (.ref 90), none, none] [] z).trans rfl
set_option maxRecDepth 20000 in
theorem b_Mod_runNow_4 (cl : Nat → List Value → ds_St → Option ds_Out) (x1 : Int32) (x2 : Int32) (z : ds_St) : ds_Rw ds_c_Mod_runNow ds_u_Mod_runNow cl 4 [some (.ref 90), some (.int x1), some (.int x2)] [] z =
  if (z.1 93 4) ≤ x2 then some (some (.int x1), z)
    else (ds_cI cl j_Mod_runFrom [.ref 90, .int x2] z fun r1 z1 => if r1 ≤ x1 then ds_Rw ds_c_Mod_runNow ds_u_Mod_runNow cl 4 [some (.ref 90), some (.int x1), some (.int (x2 + 1))] [] z1
        else (ds_cI cl j_Mod_runFrom [.ref 90, .int x2] z1 fun r2 z2 => ds_Rw ds_c_Mod_runNow ds_u_Mod_runNow cl 4 [some (.ref 90), some (.int r2), some (.int (x2 + 1))] [] z2)) := (ds_Rw_stp 400 4 [some (.ref 90), some (.int x1), some (.int x2)] [] z).trans rfl
set_option maxRecDepth 20000 in
theorem b_Mod_same_0 (cl : Nat → List Value → ds_St → Option ds_Out) (x1 : Int32) (x2 : Int32) (z : ds_St) : ds_Rw ds_c_Mod_same ds_u_Mod_same cl 0 [some (.ref 90), some (.int x1), some (.int x2), none, none, none] [] z =
  (ds_cV cl j_Mod_layDeck [.ref 90, .ref 101] z fun z1 => if ¬ x2 = 0 then ds_Rw ds_c_Mod_same ds_u_Mod_same cl 31 [some (.ref 90), some (.int x1), some (.int x2), some (.int 0), some (.int 0), none] [] z1
    else ds_Rw ds_c_Mod_same ds_u_Mod_same cl 31 [some (.ref 90), some (.int x1), some (.int x2), some (.int 0), some (.int 0), none] [] (ds_setI z1 101 12 (z1.1 95 12))) := (ds_Rw_stp 400 0 [some (.ref 90), some (.int x1), some (.int x2), none, none, none] [] z).trans rfl
set_option maxRecDepth 20000 in
theorem b_Mod_same_31 (cl : Nat → List Value → ds_St → Option ds_Out) (x1 : Int32) (x2 : Int32) (x3 : Int32) (x4 : Int32) (z : ds_St) : ds_Rw ds_c_Mod_same ds_u_Mod_same cl 31 [some (.ref 90), some (.int x1), some (.int x2), some (.int x3), some (.int x4), none] [] z =
  if ¬ x4 = 0 then some (some (.int x3), z)
  else if x2 = 0 then (ds_cV cl j_Mod_makes [.ref 90, .ref 101, .int x1] z fun z1 => ds_Rw ds_c_Mod_same ds_u_Mod_same cl 99 [some (.ref 90), some (.int x1), some (.int x2), some (.int (x3 + 1)), some (.int 1), some (.int 0)] [] z1)
    else ds_Rw ds_c_Mod_same ds_u_Mod_same cl 43 [some (.ref 90), some (.int x1), some (.int x2), some (.int x3), none, some (.int 0)] [] z := (ds_Rw_stp 400 31 [some (.ref 90), some (.int x1), some (.int x2), some (.int x3), some (.int x4), none] [] z).trans rfl
set_option maxRecDepth 20000 in
theorem b_Mod_same_43 (cl : Nat → List Value → ds_St → Option ds_Out) (x1 : Int32) (x2 : Int32) (x3 : Int32) (x5 : Int32) (z : ds_St) : ds_Rw ds_c_Mod_same ds_u_Mod_same cl 43 [some (.ref 90), some (.int x1), some (.int x2), some (.int x3), none, some (.int x5)] [] z =
  if (z.1 93 5) ≤ x5 then ds_Rw ds_c_Mod_same ds_u_Mod_same cl 99 [some (.ref 90), some (.int x1), some (.int x2), some (.int (x3 + 1)), some (.int 1), some (.int 0)] [] z
    else if ds_in (57 + x5) 289 = true then (ds_cV cl j_Mod_makes [.ref 90, .ref 101, .int (z.1 93 ((57 + x5).toNatClampNeg))] z fun z1 => ds_Rw ds_c_Mod_same ds_u_Mod_same cl 43 [some (.ref 90), some (.int x1), some (.int x2), some (.int x3), none, some (.int (x5 + 1))] [] z1)
      else none := (ds_Rw_stp 400 43 [some (.ref 90), some (.int x1), some (.int x2), some (.int x3), none, some (.int x5)] [] z).trans rfl
set_option maxRecDepth 20000 in
theorem b_Mod_same_99 (cl : Nat → List Value → ds_St → Option ds_Out) (x1 : Int32) (x2 : Int32) (x3 : Int32) (x4 : Int32) (x5 : Int32) (z : ds_St) : ds_Rw ds_c_Mod_same ds_u_Mod_same cl 99 [some (.ref 90), some (.int x1), some (.int x2), some (.int x3), some (.int x4), some (.int x5)] [] z =
  if (z.1 101 12) ≤ x5 then ds_Rw ds_c_Mod_same ds_u_Mod_same cl 31 [some (.ref 90), some (.int x1), some (.int x2), some (.int x3), some (.int x4), none] [] z
    else if x4 = 0 then ds_Rw ds_c_Mod_same ds_u_Mod_same cl 99 [some (.ref 90), some (.int x1), some (.int x2), some (.int x3), some (.int 0), some (.int (x5 + 1))] [] z
      else if ds_in x5 14 = true then if ¬ (z.1 101 x5.toNatClampNeg) = x5 then ds_Rw ds_c_Mod_same ds_u_Mod_same cl 99 [some (.ref 90), some (.int x1), some (.int x2), some (.int x3), some (.int 0), some (.int (x5 + 1))] [] z
          else ds_Rw ds_c_Mod_same ds_u_Mod_same cl 99 [some (.ref 90), some (.int x1), some (.int x2), some (.int x3), some (.int 1), some (.int (x5 + 1))] [] z
        else none := (ds_Rw_stp 400 99 [some (.ref 90), some (.int x1), some (.int x2), some (.int x3), some (.int x4), some (.int x5)] [] z).trans rfl
set_option maxRecDepth 20000 in
theorem b_Mod_sea_0 (cl : Nat → List Value → ds_St → Option ds_Out) (x1 : Int32) (z : ds_St) : ds_Rw ds_c_Mod_sea ds_u_Mod_sea cl 0 [some (.ref 90), some (.int x1), none] [] z =
  (ds_cV cl j_Mod_good [.ref 90] z fun z1 => (ds_cI cl j_Mod_in [.int x1, .int 0, .int (z1.1 90 2)] z1 fun r2 z2 => if ¬ r2 = 0 then ds_Rw ds_c_Mod_sea ds_u_Mod_sea cl 39 [some (.ref 90), some (.int x1), some (.int 0)] [] (ds_setI (ds_setI (ds_setI z2 90 2 0) 90 9 0) 90 13 0)
      else (ds_cI cl j_Mod_no [.ref 90, .int 2] z2 fun r3 z3 => some (some (.int r3), z3)))) := (ds_Rw_stp 400 0 [some (.ref 90), some (.int x1), none] [] z).trans rfl
set_option maxRecDepth 20000 in
theorem b_Mod_sea_39 (cl : Nat → List Value → ds_St → Option ds_Out) (x1 : Int32) (x2 : Int32) (z : ds_St) : ds_Rw ds_c_Mod_sea ds_u_Mod_sea cl 39 [some (.ref 90), some (.int x1), some (.int x2)] [] z =
  if 289 ≤ x2 then (ds_cV cl j_Mod_next [.ref 90] (ds_setI (ds_setI z 90 3 x1) 90 5 0) fun z1 => (ds_cV cl j_Mod_readLine [.ref 90] z1 fun z2 => ds_Rw ds_c_Mod_sea ds_u_Mod_sea cl 77 [some (.ref 90), none, none] [] z2))
  else if ds_in x2 289 = true then ds_Rw ds_c_Mod_sea ds_u_Mod_sea cl 39 [some (.ref 90), some (.int x1), some (.int (x2 + 1))] [] (ds_setI z 94 x2.toNatClampNeg 0)
    else none := (ds_Rw_stp 400 39 [some (.ref 90), some (.int x1), some (.int x2)] [] z).trans rfl
set_option maxRecDepth 20000 in
theorem b_Mod_sea_77 (cl : Nat → List Value → ds_St → Option ds_Out)  (z : ds_St) : ds_Rw ds_c_Mod_sea ds_u_Mod_sea cl 77 [some (.ref 90), none, none] [] z =
  if ¬ (z.1 90 13) = 0 then ds_Rw ds_c_Mod_sea ds_u_Mod_sea cl 104 [some (.ref 90), none, none] [] z
  else if ¬ (z.1 90 6) = 59 then ds_Rw ds_c_Mod_sea ds_u_Mod_sea cl 104 [some (.ref 90), none, none] [] z
    else (ds_cV cl j_Mod_next [.ref 90] z fun z1 => (ds_cV cl j_Mod_readLine [.ref 90] z1 fun z2 => ds_Rw ds_c_Mod_sea ds_u_Mod_sea cl 77 [some (.ref 90), none, none] [] z2)) := (ds_Rw_stp 400 77 [some (.ref 90), none, none] [] z).trans rfl
set_option maxRecDepth 20000 in
theorem b_Mod_sea_104 (cl : Nat → List Value → ds_St → Option ds_Out)  (z : ds_St) : ds_Rw ds_c_Mod_sea ds_u_Mod_sea cl 104 [some (.ref 90), none, none] [] z =
  if ¬ (z.1 90 13) = 0 then ds_Rw ds_c_Mod_sea ds_u_Mod_sea cl 127 [some (.ref 90), none, none] [] z
  else if (z.1 90 6) = 0 then ds_Rw ds_c_Mod_sea ds_u_Mod_sea cl 127 [some (.ref 90), none, none] [] z
    else (ds_cV cl j_Mod_wrong [.ref 90, .int 1, .int (z.1 90 4)] z fun z1 => ds_Rw ds_c_Mod_sea ds_u_Mod_sea cl 127 [some (.ref 90), none, none] [] z1) := (ds_Rw_stp 400 104 [some (.ref 90), none, none] [] z).trans rfl
set_option maxRecDepth 20000 in
theorem b_Mod_sea_127 (cl : Nat → List Value → ds_St → Option ds_Out)  (z : ds_St) : ds_Rw ds_c_Mod_sea ds_u_Mod_sea cl 127 [some (.ref 90), none, none] [] z =
  if ¬ (z.1 90 13) = 0 then ds_Rw ds_c_Mod_sea ds_u_Mod_sea cl 164 [some (.ref 90), none, none] [] z
  else if (z.1 94 8) = 0 then ds_Rw ds_c_Mod_sea ds_u_Mod_sea cl 154 [some (.ref 90), none, none] [] z
      else if 2 ≤ (z.1 94 4) then ds_Rw ds_c_Mod_sea ds_u_Mod_sea cl 164 [some (.ref 90), none, none] [] z
          else ds_Rw ds_c_Mod_sea ds_u_Mod_sea cl 154 [some (.ref 90), none, none] [] z := (ds_Rw_stp 400 127 [some (.ref 90), none, none] [] z).trans rfl
set_option maxRecDepth 20000 in
theorem b_Mod_sea_154 (cl : Nat → List Value → ds_St → Option ds_Out)  (z : ds_St) : ds_Rw ds_c_Mod_sea ds_u_Mod_sea cl 154 [some (.ref 90), none, none] [] z =
  (ds_cV cl j_Mod_wrong [.ref 90, .int 6, .int (z.1 90 4)] z fun z1 => ds_Rw ds_c_Mod_sea ds_u_Mod_sea cl 164 [some (.ref 90), none, none] [] z1) := (ds_Rw_stp 400 154 [some (.ref 90), none, none] [] z).trans rfl
set_option maxRecDepth 20000 in
theorem b_Mod_sea_164 (cl : Nat → List Value → ds_St → Option ds_Out)  (z : ds_St) : ds_Rw ds_c_Mod_sea ds_u_Mod_sea cl 164 [some (.ref 90), none, none] [] z =
  if (z.1 90 13) = 0 then (ds_cV cl j_Mod_copy [.ref 94, .int 0, .ref 93, .int 0, .int 289] z fun z1 => (ds_cV cl j_Mod_layDeck [.ref 90, .ref 95] z1 fun z2 => some (some (.int (z2.1 93 4)), (ds_setI (ds_setI (ds_setI z2 90 14 1) 90 20 0) 90 21 0))))
  else (ds_cI cl j_Mod_no [.ref 90, .int 4] z fun r3 z3 => some (some (.int r3), z3)) := (ds_Rw_stp 400 164 [some (.ref 90), none, none] [] z).trans rfl
set_option maxRecDepth 20000 in
theorem b_Mod_seaLine_0 (cl : Nat → List Value → ds_St → Option ds_Out)  (z : ds_St) : ds_Rw ds_c_Mod_seaLine ds_u_Mod_seaLine cl 0 [some (.ref 90)] [] z =
  if ¬ (z.1 94 8) = 1 then ds_Rw ds_c_Mod_seaLine ds_u_Mod_seaLine cl 20 [some (.ref 90)] [] z
    else (ds_cV cl j_Mod_wrong [.ref 90, .int 3, .int (z.1 90 4)] z fun z1 => ds_Rw ds_c_Mod_seaLine ds_u_Mod_seaLine cl 20 [some (.ref 90)] [] z1) := (ds_Rw_stp 400 0 [some (.ref 90)] [] z).trans rfl
set_option maxRecDepth 20000 in
theorem b_Mod_seaLine_20 (cl : Nat → List Value → ds_St → Option ds_Out)  (z : ds_St) : ds_Rw ds_c_Mod_seaLine ds_u_Mod_seaLine cl 20 [some (.ref 90)] [] z =
  if (z.1 90 13) = 0 then (ds_cV cl j_Mod_next [.ref 90] z fun z1 => (ds_cI cl j_Mod_after [.ref 90, .ref 311, .int 2, .int 4] z1 fun r2 z2 => (ds_cI cl j_Mod_after [.ref 90, .ref 312, .int 2, .int 3] (ds_setI z2 94 0 r2) fun r3 z3 => (ds_cV cl j_Mod_must [.ref 90, .ref 313] (ds_setI z3 94 1 r3) fun z4 => if ¬ (z4.1 90 13) = 0 then ds_Rw ds_c_Mod_seaLine ds_u_Mod_seaLine cl 83 [some (.ref 90)] [] z4
                else (ds_cI cl j_Mod_goodPassed [.ref 90] z4 fun r5 z5 => ds_Rw ds_c_Mod_seaLine ds_u_Mod_seaLine cl 83 [some (.ref 90)] [] (ds_setI z5 94 2 r5))))))
  else some (none, z) := (ds_Rw_stp 400 20 [some (.ref 90)] [] z).trans rfl
set_option maxRecDepth 20000 in
theorem b_Mod_seaLine_83 (cl : Nat → List Value → ds_St → Option ds_Out)  (z : ds_St) : ds_Rw ds_c_Mod_seaLine ds_u_Mod_seaLine cl 83 [some (.ref 90)] [] z =
  if ¬ (z.1 90 13) = 0 then ds_Rw ds_c_Mod_seaLine ds_u_Mod_seaLine cl 108 [some (.ref 90)] [] z
  else (ds_cI cl j_Mod_oneOf [.ref 90, .ref 318, .ref 319, .ref 320, .ref 320] z fun r1 z1 => ds_Rw ds_c_Mod_seaLine ds_u_Mod_seaLine cl 108 [some (.ref 90)] [] (ds_setI z1 94 3 r1)) := (ds_Rw_stp 400 83 [some (.ref 90)] [] z).trans rfl
set_option maxRecDepth 20000 in
theorem b_Mod_seaLine_108 (cl : Nat → List Value → ds_St → Option ds_Out)  (z : ds_St) : ds_Rw ds_c_Mod_seaLine ds_u_Mod_seaLine cl 108 [some (.ref 90)] [] z =
  if ¬ (z.1 90 13) = 0 then some (none, z)
  else some (none, (ds_setI z 94 8 1)) := (ds_Rw_stp 400 108 [some (.ref 90)] [] z).trans rfl
set_option maxRecDepth 20000 in
theorem b_Mod_seek_0 (cl : Nat → List Value → ds_St → Option ds_Out) (x1 : Int32) (x2 : Int32) (x3 : Int32) (z : ds_St) : ds_Rw ds_c_Mod_seek ds_u_Mod_seek cl 0 [some (.ref 90), some (.int x1), some (.int x2), some (.int x3), none, none, none, none] [] z =
  ds_Rw ds_c_Mod_seek ds_u_Mod_seek cl 13 [some (.ref 90), some (.int x1), none, none, some (.int 0), none, none, none] [] (ds_setI (ds_setI z 90 36 x2) 90 39 x3) := (ds_Rw_stp 400 0 [some (.ref 90), some (.int x1), some (.int x2), some (.int x3), none, none, none, none] [] z).trans rfl
set_option maxRecDepth 20000 in
theorem b_Mod_seek_13 (cl : Nat → List Value → ds_St → Option ds_Out) (x1 : Int32) (x4 : Int32) (z : ds_St) : ds_Rw ds_c_Mod_seek ds_u_Mod_seek cl 13 [some (.ref 90), some (.int x1), none, none, some (.int x4), none, none, none] [] z =
  if 1728 ≤ x4 then if ds_in x1 1728 = true then (ds_cI cl j_Mod_isGoal [.ref 90, .int x1] (ds_setI (ds_setI (ds_setI z 107 0 x1) 108 x1.toNatClampNeg (-1)) 90 38 x1) fun r1 z1 => if r1 = 0 then ds_Rw ds_c_Mod_seek ds_u_Mod_seek cl 71 [some (.ref 90), none, none, none, some (.int 1), some (.int 0), none, none] [] z1
            else some (some (.int 1), z1))
      else none
  else if ds_in x4 1728 = true then ds_Rw ds_c_Mod_seek ds_u_Mod_seek cl 13 [some (.ref 90), some (.int x1), none, none, some (.int (x4 + 1)), none, none, none] [] (ds_setI z 108 x4.toNatClampNeg (-2))
    else none := (ds_Rw_stp 400 13 [some (.ref 90), some (.int x1), none, none, some (.int x4), none, none, none] [] z).trans rfl
set_option maxRecDepth 20000 in
theorem b_Mod_seek_71 (cl : Nat → List Value → ds_St → Option ds_Out) (x4 : Int32) (x5 : Int32) (z : ds_St) : ds_Rw ds_c_Mod_seek ds_u_Mod_seek cl 71 [some (.ref 90), none, none, none, some (.int x4), some (.int x5), none, none] [] z =
  if x4 ≤ x5 then some (some (.int 0), z)
  else ds_Rw ds_c_Mod_seek ds_u_Mod_seek cl 81 [some (.ref 90), none, none, none, some (.int x4), some (.int x5), some (.int 0), none] [] z := (ds_Rw_stp 400 71 [some (.ref 90), none, none, none, some (.int x4), some (.int x5), none, none] [] z).trans rfl
set_option maxRecDepth 20000 in
theorem b_Mod_seek_81 (cl : Nat → List Value → ds_St → Option ds_Out) (x4 : Int32) (x5 : Int32) (x6 : Int32) (z : ds_St) : ds_Rw ds_c_Mod_seek ds_u_Mod_seek cl 81 [some (.ref 90), none, none, none, some (.int x4), some (.int x5), some (.int x6), none] [] z =
  (ds_cI cl j_Mod_movesOf [.ref 90, .ref 95] z fun r1 z1 => if r1 ≤ x6 then ds_Rw ds_c_Mod_seek ds_u_Mod_seek cl 71 [some (.ref 90), none, none, none, some (.int x4), some (.int (x5 + 1)), none, none] [] z1
    else if ds_in x5 1728 = true then (ds_cI cl j_Mod_moved [.ref 90, .int (z1.1 107 x5.toNatClampNeg), .int x6] z1 fun r2 z2 => if ds_in r2 1728 = true then if (z2.1 108 r2.toNatClampNeg) = (-2) then if ds_in x5 1728 = true then if ds_in r2 1728 = true then if ds_in r2 1728 = true then (ds_cI cl j_Mod_isGoal [.ref 90, .int r2] (ds_setI (ds_setI (ds_setI z2 108 r2.toNatClampNeg (z2.1 107 x5.toNatClampNeg)) 109 r2.toNatClampNeg x6) 90 38 r2) fun r3 z3 => if r3 = 0 then if ds_in x4 1728 = true then ds_Rw ds_c_Mod_seek ds_u_Mod_seek cl 81 [some (.ref 90), none, none, none, some (.int (x4 + 1)), some (.int x5), some (.int (x6 + 1)), none] [] (ds_setI z3 107 x4.toNatClampNeg r2)
                          else none
                        else some (some (.int 1), z3))
                  else none
                else none
              else none
            else ds_Rw ds_c_Mod_seek ds_u_Mod_seek cl 81 [some (.ref 90), none, none, none, some (.int x4), some (.int x5), some (.int (x6 + 1)), none] [] z2
          else none)
      else none) := (ds_Rw_stp 400 81 [some (.ref 90), none, none, none, some (.int x4), some (.int x5), some (.int x6), none] [] z).trans rfl
set_option maxRecDepth 20000 in
theorem b_Mod_seekFits_0 (cl : Nat → List Value → ds_St → Option ds_Out) (x1 : Int32) (z : ds_St) : ds_Rw ds_c_Mod_seekFits ds_u_Mod_seekFits cl 0 [some (.ref 90), some (.int x1)] [] z =
  (ds_cV cl j_Mod_layPlan [.ref 90, .int (z.1 93 5)] z fun z1 => (ds_cV cl j_Mod_copy [.ref 100, .int 0, .ref 102, .int 0, .int 14] z1 fun z2 => (ds_cV cl j_Mod_tryFits [.ref 90, .int 0] (ds_setI (ds_setI z2 90 29 0) 90 30 x1) fun z3 => some (none, z3)))) := (ds_Rw_stp 400 0 [some (.ref 90), some (.int x1)] [] z).trans rfl
set_option maxRecDepth 20000 in
theorem b_Mod_seekPlace_0 (cl : Nat → List Value → ds_St → Option ds_Out) (x1 : Int32) (x2 : Int32) (z : ds_St) : ds_Rw ds_c_Mod_seekPlace ds_u_Mod_seekPlace cl 0 [some (.ref 90), some (.int x1), some (.int x2)] [] z =
  (ds_cI cl j_Mod_placeIn [.ref 95, .int x1] (ds_setI z 90 37 x2) fun r1 z1 => (ds_cI cl j_Mod_stateOf [.ref 90, .int r1, .int 0, .int 0] z1 fun r2 z2 => (ds_cI cl j_Mod_seek [.ref 90, .int r2, .int 0, .int 1] z2 fun r3 z3 => if r3 = 0 ∨ r3 = 1 then some (some (.int r3), z3)
          else none))) := (ds_Rw_stp 400 0 [some (.ref 90), some (.int x1), some (.int x2)] [] z).trans rfl
set_option maxRecDepth 20000 in
theorem b_Mod_seekTwo_0 (cl : Nat → List Value → ds_St → Option ds_Out) (x1 : Int32) (x2 : Int32) (z : ds_St) : ds_Rw ds_c_Mod_seekTwo ds_u_Mod_seekTwo cl 0 [some (.ref 90), some (.int x1), some (.int x2)] [] z =
  (ds_cI cl j_Mod_placeIn [.ref 95, .int x1] z fun r1 z1 => (ds_cI cl j_Mod_placeIn [.ref 95, .int x2] z1 fun r2 z2 => (ds_cI cl j_Mod_stateOf [.ref 90, .int r1, .int r2, .int 0] z2 fun r3 z3 => (ds_cI cl j_Mod_seek [.ref 90, .int r3, .int 1, .int 2] z3 fun r4 z4 => if r4 = 0 ∨ r4 = 1 then some (some (.int r4), z4)
          else none)))) := (ds_Rw_stp 400 0 [some (.ref 90), some (.int x1), some (.int x2)] [] z).trans rfl
set_option maxRecDepth 20000 in
theorem b_Mod_showsLine_0 (cl : Nat → List Value → ds_St → Option ds_Out)  (z : ds_St) : ds_Rw ds_c_Mod_showsLine ds_u_Mod_showsLine cl 0 [some (.ref 90), none] [] z =
  if (z.1 90 13) = 0 then (ds_cI cl j_Mod_number [.ref 90, .int 0, .int (((z.1 94 0) * (z.1 94 1)) - 1)] z fun r1 z1 => if ds_in (79 + (2 * (z.1 94 7))) 289 = true then (ds_cI cl j_Mod_islandPassed [.ref 90] (ds_setI z1 94 ((79 + (2 * (z.1 94 7))).toNatClampNeg) r1) fun r2 z2 => if ds_in ((79 + (2 * (z.1 94 7))) + 1) 289 = true then if ¬ (z2.1 90 13) = 0 then some (none, (ds_setI z2 94 (((79 + (2 * (z.1 94 7))) + 1).toNatClampNeg) r2))
                  else some (none, (ds_setI (ds_setI z2 94 (((79 + (2 * (z.1 94 7))) + 1).toNatClampNeg) r2) 94 7 (((ds_setI z2 94 (((79 + (2 * (z.1 94 7))) + 1).toNatClampNeg) r2).1 94 7) + 1)))
                else none)
            else none)
  else some (none, z) := (ds_Rw_stp 400 0 [some (.ref 90), none] [] z).trans rfl
set_option maxRecDepth 20000 in
theorem b_Mod_size_0 (cl : Nat → List Value → ds_St → Option ds_Out) (x1 : Int32) (z : ds_St) : ds_Rw ds_c_Mod_size ds_u_Mod_size cl 0 [some (.ref 90), some (.int x1)] [] z =
  if ¬ x1 = 12 then if ¬ (z.1 90 14) = 0 then (ds_cI cl j_Mod_in [.int x1, .int 0, .int 7] (ds_setI z 90 0 0) fun r1 z1 => if r1 = 0 then if ¬ x1 = 8 then if ¬ x1 = 9 then if ¬ x1 = 10 then if ¬ x1 = 11 then some (some (.int (-1)), z1)
                  else some (some (.int (z1.1 90 21)), z1)
                else some (some (.int (z1.1 90 20)), z1)
              else (ds_cI cl j_Mod_movesOf [.ref 90, .ref 95] z1 fun r2 z2 => some (some (.int r2), z2))
            else some (some (.int (z1.1 95 12)), z1)
          else if ds_in x1 289 = true then some (some (.int (z1.1 93 x1.toNatClampNeg)), z1)
            else none)
      else (ds_cI cl j_Mod_in [.int x1, .int 0, .int 11] (ds_setI z 90 0 0) fun r3 z3 => if r3 = 0 then some (some (.int (-1)), z3)
          else some (some (.int 0), z3))
    else some (some (.int (z.1 90 2)), (ds_setI z 90 0 0)) := (ds_Rw_stp 400 0 [some (.ref 90), some (.int x1)] [] z).trans rfl
set_option maxRecDepth 20000 in
theorem b_Mod_stateOf_0 (cl : Nat → List Value → ds_St → Option ds_Out) (x1 : Int32) (x2 : Int32) (x3 : Int32) (z : ds_St) : ds_Rw ds_c_Mod_stateOf ds_u_Mod_stateOf cl 0 [some (.ref 90), some (.int x1), some (.int x2), some (.int x3)] [] z =
  some (some (.int ((x1 + (12 * x2)) + (144 * x3))), z) := (ds_Rw_stp 400 0 [some (.ref 90), some (.int x1), some (.int x2), some (.int x3)] [] z).trans rfl
set_option maxRecDepth 20000 in
theorem b_Mod_takesWord_0 (cl : Nat → List Value → ds_St → Option ds_Out) (x1 : Nat) (z : ds_St) : ds_Rw ds_c_Mod_takesWord ds_u_Mod_takesWord cl 0 [some (.ref 90), some (.ref x1)] [] z =
  (ds_cI cl j_Mod_isWord [.ref 90, .ref x1] z fun r1 z1 => if ¬ r1 = 0 then (ds_cV cl j_Mod_next [.ref 90] z1 fun z2 => some (some (.int 1), z2))
    else some (some (.int 0), z1)) := (ds_Rw_stp 400 0 [some (.ref 90), some (.ref x1)] [] z).trans rfl
set_option maxRecDepth 20000 in
theorem b_Mod_three_0 (cl : Nat → List Value → ds_St → Option ds_Out) (x1 : Int32) (x2 : Int32) (x3 : Int32) (z : ds_St) : ds_Rw ds_c_Mod_three ds_u_Mod_three cl 0 [some (.ref 90), some (.int x1), some (.int x2), some (.int x3)] [] z =
  (ds_cV cl j_Mod_good [.ref 90] z fun z1 => (ds_cI cl j_Mod_isInDeck [.ref 90, .int x1] z1 fun r2 z2 => if r2 = 0 then (ds_cI cl j_Mod_no [.ref 90, .int 1] z2 fun r3 z3 => some (some (.int r3), z3))
      else (ds_cI cl j_Mod_isInDeck [.ref 90, .int x2] z2 fun r4 z4 => if r4 = 0 then (ds_cI cl j_Mod_no [.ref 90, .int 1] z4 fun r5 z5 => some (some (.int r5), z5))
          else (ds_cI cl j_Mod_isInDeck [.ref 90, .int x3] z4 fun r6 z6 => if r6 = 0 then (ds_cI cl j_Mod_no [.ref 90, .int 1] z6 fun r7 z7 => some (some (.int r7), z7))
              else if x1 = x2 then (ds_cI cl j_Mod_no [.ref 90, .int 1] z6 fun r8 z8 => some (some (.int r8), z8))
                else if x1 = x3 then (ds_cI cl j_Mod_no [.ref 90, .int 1] z6 fun r9 z9 => some (some (.int r9), z9))
                  else if ¬ x2 = x3 then (ds_cI cl j_Mod_placeIn [.ref 95, .int x1] z6 fun r10 z10 => (ds_cI cl j_Mod_placeIn [.ref 95, .int x2] z10 fun r11 z11 => (ds_cI cl j_Mod_placeIn [.ref 95, .int x3] z11 fun r12 z12 => (ds_cI cl j_Mod_stateOf [.ref 90, .int r10, .int r11, .int r12] z12 fun r13 z13 => (ds_cI cl j_Mod_seek [.ref 90, .int r13, .int 2, .int 3] z13 fun r14 z14 => if r14 = 0 then some (some (.int (-2)), z14)
                                else (ds_cI cl j_Mod_wayLong [.ref 90] z14 fun r15 z15 => some (some (.int r15), z15)))))))
                    else (ds_cI cl j_Mod_no [.ref 90, .int 1] z6 fun r16 z16 => some (some (.int r16), z16)))))) := (ds_Rw_stp 400 0 [some (.ref 90), some (.int x1), some (.int x2), some (.int x3)] [] z).trans rfl
set_option maxRecDepth 20000 in
theorem b_Mod_thrown_0 (cl : Nat → List Value → ds_St → Option ds_Out)  (z : ds_St) : ds_Rw ds_c_Mod_thrown ds_u_Mod_thrown cl 0 [some (.ref 90)] [] z =
  some (some (.int (z.1 90 0)), z) := (ds_Rw_stp 400 0 [some (.ref 90)] [] z).trans rfl
set_option maxRecDepth 20000 in
theorem b_Mod_together_0 (cl : Nat → List Value → ds_St → Option ds_Out) (x1 : Int32) (x2 : Int32) (z : ds_St) : ds_Rw ds_c_Mod_together ds_u_Mod_together cl 0 [some (.ref 90), some (.int x1), some (.int x2)] [] z =
  (ds_cV cl j_Mod_good [.ref 90] z fun z1 => (ds_cI cl j_Mod_isInDeck [.ref 90, .int x1] z1 fun r2 z2 => if r2 = 0 then (ds_cI cl j_Mod_no [.ref 90, .int 1] z2 fun r3 z3 => some (some (.int r3), z3))
      else (ds_cI cl j_Mod_isInDeck [.ref 90, .int x2] z2 fun r4 z4 => if r4 = 0 then (ds_cI cl j_Mod_no [.ref 90, .int 1] z4 fun r5 z5 => some (some (.int r5), z5))
          else if ¬ x1 = x2 then (ds_cI cl j_Mod_seekTwo [.ref 90, .int x1, .int x2] z4 fun r6 z6 => if r6 = 0 then some (some (.int (-2)), z6)
                else (ds_cI cl j_Mod_wayLong [.ref 90] z6 fun r7 z7 => some (some (.int r7), z7)))
            else (ds_cI cl j_Mod_no [.ref 90, .int 1] z4 fun r8 z8 => some (some (.int r8), z8))))) := (ds_Rw_stp 400 0 [some (.ref 90), some (.int x1), some (.int x2)] [] z).trans rfl
set_option maxRecDepth 20000 in
theorem b_Mod_togetherAt_0 (cl : Nat → List Value → ds_St → Option ds_Out) (x1 : Int32) (x2 : Int32) (x3 : Int32) (z : ds_St) : ds_Rw ds_c_Mod_togetherAt ds_u_Mod_togetherAt cl 0 [some (.ref 90), some (.int x1), some (.int x2), some (.int x3)] [] z =
  (ds_cV cl j_Mod_good [.ref 90] z fun z1 => (ds_cI cl j_Mod_isInDeck [.ref 90, .int x1] z1 fun r2 z2 => if r2 = 0 then (ds_cI cl j_Mod_no [.ref 90, .int 1] z2 fun r3 z3 => some (some (.int r3), z3))
      else (ds_cI cl j_Mod_isInDeck [.ref 90, .int x2] z2 fun r4 z4 => if r4 = 0 then (ds_cI cl j_Mod_no [.ref 90, .int 1] z4 fun r5 z5 => some (some (.int r5), z5))
          else if ¬ x1 = x2 then (ds_cI cl j_Mod_seekTwo [.ref 90, .int x1, .int x2] z4 fun r6 z6 => if r6 = 0 then (ds_cI cl j_Mod_no [.ref 90, .int 1] z6 fun r7 z7 => some (some (.int r7), z7))
                else (ds_cI cl j_Mod_wayLong [.ref 90] z6 fun r8 z8 => (ds_cI cl j_Mod_in [.int x3, .int 0, .int (r8 - 1)] z8 fun r9 z9 => if r9 = 0 then (ds_cI cl j_Mod_no [.ref 90, .int 1] z9 fun r10 z10 => some (some (.int r10), z10))
                      else (ds_cI cl j_Mod_moveOfWay [.ref 90, .int x3] z9 fun r11 z11 => some (some (.int r11), z11)))))
            else (ds_cI cl j_Mod_no [.ref 90, .int 1] z4 fun r12 z12 => some (some (.int r12), z12))))) := (ds_Rw_stp 400 0 [some (.ref 90), some (.int x1), some (.int x2), some (.int x3)] [] z).trans rfl
set_option maxRecDepth 20000 in
theorem b_Mod_trade_0 (cl : Nat → List Value → ds_St → Option ds_Out) (x1 : Int32) (x2 : Int32) (z : ds_St) : ds_Rw ds_c_Mod_trade ds_u_Mod_trade cl 0 [some (.ref 90), some (.int x1), some (.int x2)] [] z =
  (ds_cV cl j_Mod_good [.ref 90] z fun z1 => (ds_cI cl j_Mod_isIsland [.ref 90, .int x1] z1 fun r2 z2 => if r2 = 0 then (ds_cI cl j_Mod_no [.ref 90, .int 1] z2 fun r3 z3 => some (some (.int r3), z3))
      else (ds_cI cl j_Mod_isIsland [.ref 90, .int x2] z2 fun r4 z4 => if r4 = 0 then (ds_cI cl j_Mod_no [.ref 90, .int 1] z4 fun r5 z5 => some (some (.int r5), z5))
          else if x1 = x2 then (ds_cI cl j_Mod_no [.ref 90, .int 1] z4 fun r6 z6 => some (some (.int r6), z6))
            else (ds_cI cl j_Mod_tradeOf [.ref 90, .ref 95, .int x1, .int x2] z4 fun r7 z7 => some (some (.int r7), z7))))) := (ds_Rw_stp 400 0 [some (.ref 90), some (.int x1), some (.int x2)] [] z).trans rfl
set_option maxRecDepth 20000 in
theorem b_Mod_tradeOf_0 (cl : Nat → List Value → ds_St → Option ds_Out) (x1 : Nat) (x2 : Int32) (x3 : Int32) (z : ds_St) : ds_Rw ds_c_Mod_tradeOf ds_u_Mod_tradeOf cl 0 [some (.ref 90), some (.ref x1), some (.int x2), some (.int x3)] [] z =
  (ds_cI cl j_Mod_isJoker [.ref 90, .int x2] z fun r1 z1 => if ¬ r1 = 0 then some (some (.int 0), z1)
    else (ds_cI cl j_Mod_isJoker [.ref 90, .int x3] z1 fun r2 z2 => if ¬ r2 = 0 then some (some (.int 0), z2)
        else (ds_cI cl j_Mod_of [.ref 90, .int x2, .int 1] z2 fun r3 z3 => (ds_cI cl j_Mod_of [.ref 90, .int x3, .int 1] z3 fun r4 z4 => if ¬ r3 = r4 then some (some (.int 0), z4)
              else (ds_cI cl j_Mod_beBeside [.ref 90, .ref x1, .int x2, .int x3] z4 fun r5 z5 => if ¬ r5 = 0 then (ds_cI cl j_Mod_of [.ref 90, .int x2, .int 1] z5 fun r6 z6 => if ¬ r6 = (z6.1 93 2) then ds_Rw ds_c_Mod_tradeOf ds_u_Mod_tradeOf cl 63 [some (.ref 90), none, some (.int x2), some (.int x3)] [.int 1] z6
                        else ds_Rw ds_c_Mod_tradeOf ds_u_Mod_tradeOf cl 63 [some (.ref 90), none, some (.int x2), some (.int x3)] [.int 2] z6)
                  else some (some (.int 0), z5)))))) := (ds_Rw_stp 400 0 [some (.ref 90), some (.ref x1), some (.int x2), some (.int x3)] [] z).trans rfl
set_option maxRecDepth 20000 in
theorem b_Mod_tradeOf_63 (cl : Nat → List Value → ds_St → Option ds_Out) (x2 : Int32) (x3 : Int32) (s0 : Int32) (z : ds_St) : ds_Rw ds_c_Mod_tradeOf ds_u_Mod_tradeOf cl 63 [some (.ref 90), none, some (.int x2), some (.int x3)] [.int s0] z =
  (ds_cI cl j_Mod_of [.ref 90, .int x2, .int 0] z fun r1 z1 => if r1 = 1 then some (some (.int (s0 + 1)), z1)
    else (ds_cI cl j_Mod_of [.ref 90, .int x3, .int 0] z1 fun r2 z2 => if ¬ r2 = 1 then some (some (.int (s0 + 0)), z2)
        else some (some (.int (s0 + 1)), z2))) := (ds_Rw_stp 400 63 [some (.ref 90), none, some (.int x2), some (.int x3)] [.int s0] z).trans rfl
set_option maxRecDepth 20000 in
theorem b_Mod_trades_0 (cl : Nat → List Value → ds_St → Option ds_Out)  (z : ds_St) : ds_Rw ds_c_Mod_trades ds_u_Mod_trades cl 0 [some (.ref 90)] [] z =
  (ds_cV cl j_Mod_good [.ref 90] z fun z1 => if (z1.1 90 14) = 0 then (ds_cI cl j_Mod_no [.ref 90, .int 1] z1 fun r2 z2 => some (some (.int r2), z2))
    else (ds_cI cl j_Mod_tradesIn [.ref 90, .ref 95, .int (-1)] z1 fun r3 z3 => some (some (.int r3), z3))) := (ds_Rw_stp 400 0 [some (.ref 90)] [] z).trans rfl
set_option maxRecDepth 20000 in
theorem b_Mod_tradesBy_0 (cl : Nat → List Value → ds_St → Option ds_Out) (x1 : Int32) (x2 : Int32) (z : ds_St) : ds_Rw ds_c_Mod_tradesBy ds_u_Mod_tradesBy cl 0 [some (.ref 90), some (.int x1), some (.int x2)] [] z =
  (ds_cV cl j_Mod_copy [.ref 95, .int 0, .ref 101, .int 0, .int 14] z fun z1 => (ds_cV cl j_Mod_makes [.ref 90, .ref 101, .int x1] z1 fun z2 => if x2 < 0 then (ds_cI cl j_Mod_tradesIn [.ref 90, .ref 101, .int (-1)] z2 fun r3 z3 => some (some (.int r3), z3))
      else (ds_cV cl j_Mod_makes [.ref 90, .ref 101, .int x2] z2 fun z4 => (ds_cI cl j_Mod_tradesIn [.ref 90, .ref 101, .int (-1)] z4 fun r5 z5 => some (some (.int r5), z5))))) := (ds_Rw_stp 400 0 [some (.ref 90), some (.int x1), some (.int x2)] [] z).trans rfl
set_option maxRecDepth 20000 in
theorem b_Mod_tradesIn_0 (cl : Nat → List Value → ds_St → Option ds_Out) (x1 : Nat) (x2 : Int32) (z : ds_St) : ds_Rw ds_c_Mod_tradesIn ds_u_Mod_tradesIn cl 0 [some (.ref 90), some (.ref x1), some (.int x2), none, none, none] [] z =
  ds_Rw ds_c_Mod_tradesIn ds_u_Mod_tradesIn cl 5 [some (.ref 90), some (.ref x1), some (.int x2), some (.int 0), some (.int 0), none] [] z := (ds_Rw_stp 400 0 [some (.ref 90), some (.ref x1), some (.int x2), none, none, none] [] z).trans rfl
set_option maxRecDepth 20000 in
theorem b_Mod_tradesIn_5 (cl : Nat → List Value → ds_St → Option ds_Out) (x1 : Nat) (x2 : Int32) (x3 : Int32) (x4 : Int32) (z : ds_St) : ds_Rw ds_c_Mod_tradesIn ds_u_Mod_tradesIn cl 5 [some (.ref 90), some (.ref x1), some (.int x2), some (.int x3), some (.int x4), none] [] z =
  if (z.1 93 4) ≤ x4 then some (some (.int x3), z)
    else ds_Rw ds_c_Mod_tradesIn ds_u_Mod_tradesIn cl 19 [some (.ref 90), some (.ref x1), some (.int x2), some (.int x3), some (.int x4), some (.int 0)] [] z := (ds_Rw_stp 400 5 [some (.ref 90), some (.ref x1), some (.int x2), some (.int x3), some (.int x4), none] [] z).trans rfl
set_option maxRecDepth 20000 in
theorem b_Mod_tradesIn_19 (cl : Nat → List Value → ds_St → Option ds_Out) (x1 : Nat) (x2 : Int32) (x3 : Int32) (x4 : Int32) (x5 : Int32) (z : ds_St) : ds_Rw ds_c_Mod_tradesIn ds_u_Mod_tradesIn cl 19 [some (.ref 90), some (.ref x1), some (.int x2), some (.int x3), some (.int x4), some (.int x5)] [] z =
  if x4 ≤ x5 then ds_Rw ds_c_Mod_tradesIn ds_u_Mod_tradesIn cl 5 [some (.ref 90), some (.ref x1), some (.int x2), some (.int x3), some (.int (x4 + 1)), none] [] z
  else if x2 < 0 then ds_Rw ds_c_Mod_tradesIn ds_u_Mod_tradesIn cl 42 [some (.ref 90), some (.ref x1), some (.int x2), none, some (.int x4), some (.int x5)] [.int x3] z
    else (ds_cI cl j_Mod_of [.ref 90, .int x4, .int 1] z fun r1 z1 => if ¬ r1 = x2 then ds_Rw ds_c_Mod_tradesIn ds_u_Mod_tradesIn cl 19 [some (.ref 90), some (.ref x1), some (.int x2), some (.int (x3 + 0)), some (.int x4), some (.int (x5 + 1))] [] z1
        else ds_Rw ds_c_Mod_tradesIn ds_u_Mod_tradesIn cl 42 [some (.ref 90), some (.ref x1), some (.int x2), none, some (.int x4), some (.int x5)] [.int x3] z1) := (ds_Rw_stp 400 19 [some (.ref 90), some (.ref x1), some (.int x2), some (.int x3), some (.int x4), some (.int x5)] [] z).trans rfl
set_option maxRecDepth 20000 in
theorem b_Mod_tradesIn_42 (cl : Nat → List Value → ds_St → Option ds_Out) (x1 : Nat) (x2 : Int32) (x4 : Int32) (x5 : Int32) (s0 : Int32) (z : ds_St) : ds_Rw ds_c_Mod_tradesIn ds_u_Mod_tradesIn cl 42 [some (.ref 90), some (.ref x1), some (.int x2), none, some (.int x4), some (.int x5)] [.int s0] z =
  (ds_cI cl j_Mod_tradeOf [.ref 90, .ref x1, .int x4, .int x5] z fun r1 z1 => ds_Rw ds_c_Mod_tradesIn ds_u_Mod_tradesIn cl 19 [some (.ref 90), some (.ref x1), some (.int x2), some (.int (s0 + r1)), some (.int x4), some (.int (x5 + 1))] [] z1) := (ds_Rw_stp 400 42 [some (.ref 90), some (.ref x1), some (.int x2), none, some (.int x4), some (.int x5)] [.int s0] z).trans rfl
set_option maxRecDepth 20000 in
theorem b_Mod_trouble_0 (cl : Nat → List Value → ds_St → Option ds_Out)  (z : ds_St) : ds_Rw ds_c_Mod_trouble ds_u_Mod_trouble cl 0 [some (.ref 90)] [] z =
  some (some (.int (z.1 90 11)), (ds_setI z 90 0 0)) := (ds_Rw_stp 400 0 [some (.ref 90)] [] z).trans rfl
set_option maxRecDepth 20000 in
theorem b_Mod_tryFits_0 (cl : Nat → List Value → ds_St → Option ds_Out) (x1 : Int32) (z : ds_St) : ds_Rw ds_c_Mod_tryFits ds_u_Mod_tryFits cl 0 [some (.ref 90), some (.int x1), none, none] [] z =
  if ¬ x1 = (z.1 90 30) then ds_Rw ds_c_Mod_tryFits ds_u_Mod_tryFits cl 108 [some (.ref 90), some (.int x1), some (.int 0), none] [] z
  else (ds_cV cl j_Mod_copy [.ref 102, .int (14 * x1), .ref 101, .int 0, .int 14] z fun z1 => ds_Rw ds_c_Mod_tryFits ds_u_Mod_tryFits cl 30 [some (.ref 90), some (.int x1), some (.int 1), some (.int 0)] [] z1) := (ds_Rw_stp 400 0 [some (.ref 90), some (.int x1), none, none] [] z).trans rfl
set_option maxRecDepth 20000 in
theorem b_Mod_tryFits_30 (cl : Nat → List Value → ds_St → Option ds_Out) (x1 : Int32) (x2 : Int32) (x3 : Int32) (z : ds_St) : ds_Rw ds_c_Mod_tryFits ds_u_Mod_tryFits cl 30 [some (.ref 90), some (.int x1), some (.int x2), some (.int x3)] [] z =
  if (z.1 93 7) ≤ x3 then if ¬ x2 = 0 then if ¬ (z.1 90 29) = 0 then ds_Rw ds_c_Mod_tryFits ds_u_Mod_tryFits cl 95 [some (.ref 90), none, none, none] [] z
        else (ds_cV cl j_Mod_copy [.ref 103, .int 0, .ref 104, .int 0, .int x1] z fun z1 => ds_Rw ds_c_Mod_tryFits ds_u_Mod_tryFits cl 95 [some (.ref 90), none, none, none] [] z1)
      else some (none, z)
    else if x2 = 0 then ds_Rw ds_c_Mod_tryFits ds_u_Mod_tryFits cl 30 [some (.ref 90), some (.int x1), some (.int 0), some (.int (x3 + 1))] [] z
      else (ds_cI cl j_Mod_isShown [.ref 90, .ref 101, .int x3] z fun r2 z2 => if r2 = 0 then ds_Rw ds_c_Mod_tryFits ds_u_Mod_tryFits cl 30 [some (.ref 90), some (.int x1), some (.int 0), some (.int (x3 + 1))] [] z2
          else ds_Rw ds_c_Mod_tryFits ds_u_Mod_tryFits cl 30 [some (.ref 90), some (.int x1), some (.int 1), some (.int (x3 + 1))] [] z2) := (ds_Rw_stp 400 30 [some (.ref 90), some (.int x1), some (.int x2), some (.int x3)] [] z).trans rfl
set_option maxRecDepth 20000 in
theorem b_Mod_tryFits_95 (cl : Nat → List Value → ds_St → Option ds_Out)  (z : ds_St) : ds_Rw ds_c_Mod_tryFits ds_u_Mod_tryFits cl 95 [some (.ref 90), none, none, none] [] z =
  some (none, (ds_setI z 90 29 ((z.1 90 29) + 1))) := (ds_Rw_stp 400 95 [some (.ref 90), none, none, none] [] z).trans rfl
set_option maxRecDepth 20000 in
theorem b_Mod_tryFits_108 (cl : Nat → List Value → ds_St → Option ds_Out) (x1 : Int32) (x2 : Int32) (z : ds_St) : ds_Rw ds_c_Mod_tryFits ds_u_Mod_tryFits cl 108 [some (.ref 90), some (.int x1), some (.int x2), none] [] z =
  if ((z.1 93 4) + 2) ≤ x2 then some (none, z)
    else (ds_cV cl j_Mod_copy [.ref 102, .int (14 * x1), .ref 101, .int 0, .int 14] z fun z1 => (ds_cV cl j_Mod_makes [.ref 90, .ref 101, .int x2] z1 fun z2 => (ds_cV cl j_Mod_copy [.ref 101, .int 0, .ref 102, .int (14 * (x1 + 1)), .int 14] z2 fun z3 => if ds_in x1 3 = true then (ds_cV cl j_Mod_tryFits [.ref 90, .int (x1 + 1)] (ds_setI z3 103 x1.toNatClampNeg x2) fun z4 => ds_Rw ds_c_Mod_tryFits ds_u_Mod_tryFits cl 108 [some (.ref 90), some (.int x1), some (.int (x2 + 1)), none] [] z4)
            else none))) := (ds_Rw_stp 400 108 [some (.ref 90), some (.int x1), some (.int x2), none] [] z).trans rfl
set_option maxRecDepth 20000 in
theorem b_Mod_undo_0 (cl : Nat → List Value → ds_St → Option ds_Out)  (z : ds_St) : ds_Rw ds_c_Mod_undo ds_u_Mod_undo cl 0 [some (.ref 90)] [] z =
  (ds_cV cl j_Mod_good [.ref 90] z fun z1 => if ¬ (z1.1 90 20) = 0 then (ds_cV cl j_Mod_copy [.ref 96, .int (14 * ((z1.1 90 20) - 1)), .ref 95, .int 0, .int 14] (ds_setI z1 90 20 ((z1.1 90 20) - 1)) fun z2 => some (some (.int 1), z2))
    else (ds_cI cl j_Mod_isNot [.ref 90, .int 6] z1 fun r3 z3 => if r3 = 0 ∨ r3 = 1 then some (some (.int r3), z3)
        else none)) := (ds_Rw_stp 400 0 [some (.ref 90)] [] z).trans rfl
set_option maxRecDepth 20000 in
theorem b_Mod_wars_0 (cl : Nat → List Value → ds_St → Option ds_Out)  (z : ds_St) : ds_Rw ds_c_Mod_wars ds_u_Mod_wars cl 0 [some (.ref 90), none, none, none] [] z =
  (ds_cV cl j_Mod_good [.ref 90] z fun z1 => if ¬ (z1.1 90 14) = 0 then ds_Rw ds_c_Mod_wars ds_u_Mod_wars cl 21 [some (.ref 90), some (.int 0), some (.int 0), none] [] z1
    else (ds_cI cl j_Mod_no [.ref 90, .int 1] z1 fun r2 z2 => some (some (.int r2), z2))) := (ds_Rw_stp 400 0 [some (.ref 90), none, none, none] [] z).trans rfl
set_option maxRecDepth 20000 in
theorem b_Mod_wars_21 (cl : Nat → List Value → ds_St → Option ds_Out) (x1 : Int32) (x2 : Int32) (z : ds_St) : ds_Rw ds_c_Mod_wars ds_u_Mod_wars cl 21 [some (.ref 90), some (.int x1), some (.int x2), none] [] z =
  if (z.1 93 4) ≤ x2 then some (some (.int x1), z)
    else ds_Rw ds_c_Mod_wars ds_u_Mod_wars cl 33 [some (.ref 90), some (.int x1), some (.int x2), some (.int 0)] [] z := (ds_Rw_stp 400 21 [some (.ref 90), some (.int x1), some (.int x2), none] [] z).trans rfl
set_option maxRecDepth 20000 in
theorem b_Mod_wars_33 (cl : Nat → List Value → ds_St → Option ds_Out) (x1 : Int32) (x2 : Int32) (x3 : Int32) (z : ds_St) : ds_Rw ds_c_Mod_wars ds_u_Mod_wars cl 33 [some (.ref 90), some (.int x1), some (.int x2), some (.int x3)] [] z =
  if x2 ≤ x3 then ds_Rw ds_c_Mod_wars ds_u_Mod_wars cl 21 [some (.ref 90), some (.int x1), some (.int (x2 + 1)), none] [] z
  else (ds_cI cl j_Mod_isJoker [.ref 90, .int x2] z fun r1 z1 => if ¬ r1 = 0 then ds_Rw ds_c_Mod_wars ds_u_Mod_wars cl 33 [some (.ref 90), some (.int (x1 + 0)), some (.int x2), some (.int (x3 + 1))] [] z1
      else (ds_cI cl j_Mod_isJoker [.ref 90, .int x3] z1 fun r2 z2 => if ¬ r2 = 0 then ds_Rw ds_c_Mod_wars ds_u_Mod_wars cl 33 [some (.ref 90), some (.int (x1 + 0)), some (.int x2), some (.int (x3 + 1))] [] z2
          else (ds_cI cl j_Mod_beBeside [.ref 90, .ref 95, .int x2, .int x3] z2 fun r3 z3 => if r3 = 0 then ds_Rw ds_c_Mod_wars ds_u_Mod_wars cl 33 [some (.ref 90), some (.int (x1 + 0)), some (.int x2), some (.int (x3 + 1))] [] z3
              else (ds_cI cl j_Mod_of [.ref 90, .int x2, .int 2] z3 fun r4 z4 => (ds_cI cl j_Mod_of [.ref 90, .int x3, .int 2] z4 fun r5 z5 => (ds_cI cl j_Mod_in [.int (r4 - r5), .int (-4), .int 4] z5 fun r6 z6 => if ¬ r6 = 0 then ds_Rw ds_c_Mod_wars ds_u_Mod_wars cl 33 [some (.ref 90), some (.int (x1 + 0)), some (.int x2), some (.int (x3 + 1))] [] z6
                      else ds_Rw ds_c_Mod_wars ds_u_Mod_wars cl 33 [some (.ref 90), some (.int (x1 + 1)), some (.int x2), some (.int (x3 + 1))] [] z6)))))) := (ds_Rw_stp 400 33 [some (.ref 90), some (.int x1), some (.int x2), some (.int x3)] [] z).trans rfl
set_option maxRecDepth 20000 in
theorem b_Mod_wayLong_0 (cl : Nat → List Value → ds_St → Option ds_Out)  (z : ds_St) : ds_Rw ds_c_Mod_wayLong ds_u_Mod_wayLong cl 0 [some (.ref 90), none, none] [] z =
  ds_Rw ds_c_Mod_wayLong ds_u_Mod_wayLong cl 7 [some (.ref 90), some (.int 0), some (.int (z.1 90 38))] [] z := (ds_Rw_stp 400 0 [some (.ref 90), none, none] [] z).trans rfl
set_option maxRecDepth 20000 in
theorem b_Mod_wayLong_7 (cl : Nat → List Value → ds_St → Option ds_Out) (x1 : Int32) (x2 : Int32) (z : ds_St) : ds_Rw ds_c_Mod_wayLong ds_u_Mod_wayLong cl 7 [some (.ref 90), some (.int x1), some (.int x2)] [] z =
  if ds_in x2 1728 = true then if (z.1 108 x2.toNatClampNeg) = (-1) then some (some (.int x1), z)
    else if ds_in x2 1728 = true then ds_Rw ds_c_Mod_wayLong ds_u_Mod_wayLong cl 7 [some (.ref 90), some (.int (x1 + 1)), some (.int (z.1 108 x2.toNatClampNeg))] [] z
      else none
  else none := (ds_Rw_stp 400 7 [some (.ref 90), some (.int x1), some (.int x2)] [] z).trans rfl
set_option maxRecDepth 20000 in
theorem b_Mod_where_0 (cl : Nat → List Value → ds_St → Option ds_Out)  (z : ds_St) : ds_Rw ds_c_Mod_where ds_u_Mod_where cl 0 [some (.ref 90)] [] z =
  if ¬ (z.1 90 11) = 4 then some (some (.int (-1)), (ds_setI z 90 0 0))
    else some (some (.int (z.1 90 10)), (ds_setI z 90 0 0)) := (ds_Rw_stp 400 0 [some (.ref 90)] [] z).trans rfl
set_option maxRecDepth 20000 in
theorem b_Mod_wishLine_0 (cl : Nat → List Value → ds_St → Option ds_Out)  (z : ds_St) : ds_Rw ds_c_Mod_wishLine ds_u_Mod_wishLine cl 0 [some (.ref 90), none, none, none, none, none, none] [] z =
  if (z.1 90 13) = 0 then (ds_cI cl j_Mod_islandPassed [.ref 90] z fun r1 z1 => (ds_cI cl j_Mod_islandHere [.ref 90] z1 fun r2 z2 => if ¬ r1 = r2 then ds_Rw ds_c_Mod_wishLine ds_u_Mod_wishLine cl 32 [some (.ref 90), some (.int r1), some (.int r2), some (.int 0), some (.int 0), none, none] [] z2
        else ds_Rw ds_c_Mod_wishLine ds_u_Mod_wishLine cl 32 [some (.ref 90), some (.int r1), some (.int r2), some (.int 1), some (.int 0), none, none] [] z2))
  else some (none, z) := (ds_Rw_stp 400 0 [some (.ref 90), none, none, none, none, none, none] [] z).trans rfl
set_option maxRecDepth 20000 in
theorem b_Mod_wishLine_32 (cl : Nat → List Value → ds_St → Option ds_Out) (x1 : Int32) (x2 : Int32) (x3 : Int32) (x4 : Int32) (z : ds_St) : ds_Rw ds_c_Mod_wishLine ds_u_Mod_wishLine cl 32 [some (.ref 90), some (.int x1), some (.int x2), some (.int x3), some (.int x4), none, none] [] z =
  if (z.1 94 6) ≤ x4 then if ¬ (z.1 90 13) = 0 then ds_Rw ds_c_Mod_wishLine ds_u_Mod_wishLine cl 134 [some (.ref 90), some (.int x1), some (.int x2), none, none, none, none] [] z
      else if x3 = 0 then ds_Rw ds_c_Mod_wishLine ds_u_Mod_wishLine cl 134 [some (.ref 90), some (.int x1), some (.int x2), none, none, none, none] [] z
        else (ds_cV cl j_Mod_wrong [.ref 90, .int 3, .int (z.1 90 4)] z fun z1 => ds_Rw ds_c_Mod_wishLine ds_u_Mod_wishLine cl 134 [some (.ref 90), some (.int x1), some (.int x2), none, none, none, none] [] z1)
    else if ds_in (67 + (2 * x4)) 289 = true then if ds_in ((67 + (2 * x4)) + 1) 289 = true then if ¬ x3 = 0 then ds_Rw ds_c_Mod_wishLine ds_u_Mod_wishLine cl 32 [some (.ref 90), some (.int x1), some (.int x2), some (.int 1), some (.int (x4 + 1)), none, none] [] z
          else if ¬ (z.1 94 ((67 + (2 * x4)).toNatClampNeg)) = x1 then ds_Rw ds_c_Mod_wishLine ds_u_Mod_wishLine cl 90 [some (.ref 90), some (.int x1), some (.int x2), none, some (.int x4), some (.int (z.1 94 ((67 + (2 * x4)).toNatClampNeg))), some (.int (z.1 94 (((67 + (2 * x4)) + 1).toNatClampNeg)))] [] z
            else if (z.1 94 (((67 + (2 * x4)) + 1).toNatClampNeg)) = x2 then ds_Rw ds_c_Mod_wishLine ds_u_Mod_wishLine cl 32 [some (.ref 90), some (.int x1), some (.int x2), some (.int 1), some (.int (x4 + 1)), none, none] [] z
              else ds_Rw ds_c_Mod_wishLine ds_u_Mod_wishLine cl 90 [some (.ref 90), some (.int x1), some (.int x2), none, some (.int x4), some (.int (z.1 94 ((67 + (2 * x4)).toNatClampNeg))), some (.int (z.1 94 (((67 + (2 * x4)) + 1).toNatClampNeg)))] [] z
        else none
      else none := (ds_Rw_stp 400 32 [some (.ref 90), some (.int x1), some (.int x2), some (.int x3), some (.int x4), none, none] [] z).trans rfl
set_option maxRecDepth 20000 in
theorem b_Mod_wishLine_90 (cl : Nat → List Value → ds_St → Option ds_Out) (x1 : Int32) (x2 : Int32) (x4 : Int32) (x5 : Int32) (x6 : Int32) (z : ds_St) : ds_Rw ds_c_Mod_wishLine ds_u_Mod_wishLine cl 90 [some (.ref 90), some (.int x1), some (.int x2), none, some (.int x4), some (.int x5), some (.int x6)] [] z =
  if ¬ x5 = x2 then ds_Rw ds_c_Mod_wishLine ds_u_Mod_wishLine cl 32 [some (.ref 90), some (.int x1), some (.int x2), some (.int 0), some (.int (x4 + 1)), none, none] [] z
  else if ¬ x6 = x1 then ds_Rw ds_c_Mod_wishLine ds_u_Mod_wishLine cl 32 [some (.ref 90), some (.int x1), some (.int x2), some (.int 0), some (.int (x4 + 1)), none, none] [] z
    else ds_Rw ds_c_Mod_wishLine ds_u_Mod_wishLine cl 32 [some (.ref 90), some (.int x1), some (.int x2), some (.int 1), some (.int (x4 + 1)), none, none] [] z := (ds_Rw_stp 400 90 [some (.ref 90), some (.int x1), some (.int x2), none, some (.int x4), some (.int x5), some (.int x6)] [] z).trans rfl
set_option maxRecDepth 20000 in
theorem b_Mod_wishLine_134 (cl : Nat → List Value → ds_St → Option ds_Out) (x1 : Int32) (x2 : Int32) (z : ds_St) : ds_Rw ds_c_Mod_wishLine ds_u_Mod_wishLine cl 134 [some (.ref 90), some (.int x1), some (.int x2), none, none, none, none] [] z =
  if (z.1 90 13) = 0 then (ds_cV cl j_Mod_next [.ref 90] z fun z1 => if ds_in (67 + (2 * (z1.1 94 6))) 289 = true then if ds_in ((67 + (2 * ((ds_setI z1 94 ((67 + (2 * (z1.1 94 6))).toNatClampNeg) x1).1 94 6))) + 1) 289 = true then some (none, (ds_setI (ds_setI (ds_setI z1 94 ((67 + (2 * (z1.1 94 6))).toNatClampNeg) x1) 94 (((67 + (2 * ((ds_setI z1 94 ((67 + (2 * (z1.1 94 6))).toNatClampNeg) x1).1 94 6))) + 1).toNatClampNeg) x2) 94 6 (((ds_setI (ds_setI z1 94 ((67 + (2 * (z1.1 94 6))).toNatClampNeg) x1) 94 (((67 + (2 * ((ds_setI z1 94 ((67 + (2 * (z1.1 94 6))).toNatClampNeg) x1).1 94 6))) + 1).toNatClampNeg) x2).1 94 6) + 1)))
            else none
        else none)
  else some (none, z) := (ds_Rw_stp 400 134 [some (.ref 90), some (.int x1), some (.int x2), none, none, none, none] [] z).trans rfl
set_option maxRecDepth 20000 in
theorem b_Mod_wishes_0 (cl : Nat → List Value → ds_St → Option ds_Out)  (z : ds_St) : ds_Rw ds_c_Mod_wishes ds_u_Mod_wishes cl 0 [some (.ref 90)] [] z =
  (ds_cV cl j_Mod_good [.ref 90] z fun z1 => if (z1.1 90 14) = 0 then (ds_cI cl j_Mod_no [.ref 90, .int 1] z1 fun r2 z2 => some (some (.int r2), z2))
    else (ds_cI cl j_Mod_wishesIn [.ref 90, .ref 95] z1 fun r3 z3 => some (some (.int r3), z3))) := (ds_Rw_stp 400 0 [some (.ref 90)] [] z).trans rfl
set_option maxRecDepth 20000 in
theorem b_Mod_wishesIn_0 (cl : Nat → List Value → ds_St → Option ds_Out) (x1 : Nat) (z : ds_St) : ds_Rw ds_c_Mod_wishesIn ds_u_Mod_wishesIn cl 0 [some (.ref 90), some (.ref x1), none, none] [] z =
  ds_Rw ds_c_Mod_wishesIn ds_u_Mod_wishesIn cl 4 [some (.ref 90), some (.ref x1), some (.int 0), some (.int 0)] [] z := (ds_Rw_stp 400 0 [some (.ref 90), some (.ref x1), none, none] [] z).trans rfl
set_option maxRecDepth 20000 in
theorem b_Mod_wishesIn_4 (cl : Nat → List Value → ds_St → Option ds_Out) (x1 : Nat) (x2 : Int32) (x3 : Int32) (z : ds_St) : ds_Rw ds_c_Mod_wishesIn ds_u_Mod_wishesIn cl 4 [some (.ref 90), some (.ref x1), some (.int x2), some (.int x3)] [] z =
  if (z.1 93 6) ≤ x3 then some (some (.int x2), z)
    else if ds_in (67 + (2 * x3)) 289 = true then if ds_in ((67 + (2 * x3)) + 1) 289 = true then (ds_cI cl j_Mod_beBeside [.ref 90, .ref x1, .int (z.1 93 ((67 + (2 * x3)).toNatClampNeg)), .int (z.1 93 (((67 + (2 * x3)) + 1).toNatClampNeg))] z fun r1 z1 => if r1 = 0 then ds_Rw ds_c_Mod_wishesIn ds_u_Mod_wishesIn cl 4 [some (.ref 90), some (.ref x1), some (.int (x2 + 0)), some (.int (x3 + 1))] [] z1
            else ds_Rw ds_c_Mod_wishesIn ds_u_Mod_wishesIn cl 4 [some (.ref 90), some (.ref x1), some (.int (x2 + 1)), some (.int (x3 + 1))] [] z1)
        else none
      else none := (ds_Rw_stp 400 4 [some (.ref 90), some (.ref x1), some (.int x2), some (.int x3)] [] z).trans rfl
set_option maxRecDepth 20000 in
theorem b_Mod_wrong_0 (cl : Nat → List Value → ds_St → Option ds_Out) (x1 : Int32) (x2 : Int32) (z : ds_St) : ds_Rw ds_c_Mod_wrong ds_u_Mod_wrong cl 0 [some (.ref 90), some (.int x1), some (.int x2)] [] z =
  if (z.1 90 13) = 0 then some (none, (ds_setI (ds_setI (ds_setI z 90 13 1) 90 9 x1) 90 10 x2))
  else some (none, z) := (ds_Rw_stp 400 0 [some (.ref 90), some (.int x1), some (.int x2)] [] z).trans rfl
