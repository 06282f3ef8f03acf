set_option maxRecDepth 100000 in
theorem c_Chances_add (d : Nat) (x0 : Nat) (x1 : Int32) (x2 : Int64) (z : ds_St) : ds_call (d + 1) j_Chances_add [.ref x0, .int x1, .long x2] z = ds_nn (ds_Rw ds_c_Chances_add ds_u_Chances_add (ds_call d) 0 [some (.ref x0), some (.int x1), some (.long x2), none] [] z) := rfl
set_option maxRecDepth 100000 in
theorem c_Chances_begin (d : Nat) (x0 : Nat) (x1 : Int32) (x2 : Int32) (z : ds_St) : ds_call (d + 1) j_Chances_begin [.ref x0, .int x1, .int x2] z = ds_nn (ds_Rw ds_c_Chances_begin ds_u_Chances_begin (ds_call d) 0 [some (.ref x0), some (.int x1), some (.int x2)] [] z) := rfl
set_option maxRecDepth 100000 in
theorem c_Chances_difference (d : Nat) (x0 : Nat) (z : ds_St) : ds_call (d + 1) j_Chances_difference [.ref x0] z = ds_nn (ds_Rw ds_c_Chances_difference ds_u_Chances_difference (ds_call d) 0 [some (.ref x0), none, none, none, none, none] [] z) := rfl
set_option maxRecDepth 100000 in
theorem c_Chances_goOn (d : Nat) (x0 : Nat) (z : ds_St) : ds_call (d + 1) j_Chances_goOn [.ref x0] z = ds_nn (ds_Rw ds_c_Chances_goOn ds_u_Chances_goOn (ds_call d) 0 [some (.ref x0), none, none] [] z) := rfl
set_option maxRecDepth 100000 in
theorem c_Chances_rowsAhead (d : Nat) (x0 : Nat) (x1 : Int32) (z : ds_St) : ds_call (d + 1) j_Chances_rowsAhead [.ref x0, .int x1] z = ds_nn (ds_Rw ds_c_Chances_rowsAhead ds_u_Chances_rowsAhead (ds_call d) 0 [some (.ref x0), some (.int x1), none, none, none] [] z) := rfl
set_option maxRecDepth 100000 in
theorem c_Chances_rowsTo (d : Nat) (x0 : Nat) (x1 : Int32) (z : ds_St) : ds_call (d + 1) j_Chances_rowsTo [.ref x0, .int x1] z = ds_nn (ds_Rw ds_c_Chances_rowsTo ds_u_Chances_rowsTo (ds_call d) 0 [some (.ref x0), some (.int x1)] [] z) := rfl
set_option maxRecDepth 100000 in
theorem c_Chart_allTrades (d : Nat) (x0 : Nat) (z : ds_St) : ds_call (d + 1) j_Chart_allTrades [.ref x0] z = ds_nn (ds_Rw ds_c_Chart_allTrades ds_u_Chart_allTrades (ds_call d) 0 [some (.ref x0)] [] z) := rfl
set_option maxRecDepth 100000 in
theorem c_Chart_besidePlaces (d : Nat) (x0 : Nat) (x1 : Int32) (z : ds_St) : ds_call (d + 1) j_Chart_besidePlaces [.ref x0, .int x1] z = ds_nn (ds_Rw ds_c_Chart_besidePlaces ds_u_Chart_besidePlaces (ds_call d) 0 [some (.ref x0), some (.int x1), none, none] [] z) := rfl
set_option maxRecDepth 100000 in
theorem c_Chart_bridges (d : Nat) (x0 : Nat) (x1 : Int32) (x2 : Int32) (z : ds_St) : ds_call (d + 1) j_Chart_bridges [.ref x0, .int x1, .int x2] z = ds_nn (ds_Rw ds_c_Chart_bridges ds_u_Chart_bridges (ds_call d) 0 [some (.ref x0), some (.int x1), some (.int x2), none, none, none, none, none] [] z) := rfl
set_option maxRecDepth 100000 in
theorem c_Chart_countWars (d : Nat) (x0 : Nat) (z : ds_St) : ds_call (d + 1) j_Chart_countWars [.ref x0] z = ds_nn (ds_Rw ds_c_Chart_countWars ds_u_Chart_countWars (ds_call d) 0 [some (.ref x0), none, none] [] z) := rfl
set_option maxRecDepth 100000 in
theorem c_Chart_countWishes (d : Nat) (x0 : Nat) (z : ds_St) : ds_call (d + 1) j_Chart_countWishes [.ref x0] z = ds_nn (ds_Rw ds_c_Chart_countWishes ds_u_Chart_countWishes (ds_call d) 0 [some (.ref x0), none, none] [] z) := rfl
set_option maxRecDepth 100000 in
theorem c_Chart_firstOfLength (d : Nat) (x0 : Nat) (x1 : Int32) (x2 : Int32) (z : ds_St) : ds_call (d + 1) j_Chart_firstOfLength [.ref x0, .int x1, .int x2] z = ds_nn (ds_Rw ds_c_Chart_firstOfLength ds_u_Chart_firstOfLength (ds_call d) 0 [some (.ref x0), some (.int x1), some (.int x2), none, none, none] [] z) := rfl
set_option maxRecDepth 100000 in
theorem c_Chart_isJokerAt (d : Nat) (x0 : Nat) (x1 : Int32) (z : ds_St) : ds_call (d + 1) j_Chart_isJokerAt [.ref x0, .int x1] z = ds_nn (ds_Rw ds_c_Chart_isJokerAt ds_u_Chart_isJokerAt (ds_call d) 0 [some (.ref x0), some (.int x1)] [] z) := rfl
set_option maxRecDepth 100000 in
theorem c_Chart_isOfRank (d : Nat) (x0 : Nat) (x1 : Int32) (x2 : Int32) (z : ds_St) : ds_call (d + 1) j_Chart_isOfRank [.ref x0, .int x1, .int x2] z = ds_nn (ds_Rw ds_c_Chart_isOfRank ds_u_Chart_isOfRank (ds_call d) 0 [some (.ref x0), some (.int x1), some (.int x2)] [] z) := rfl
set_option maxRecDepth 100000 in
theorem c_Chart_isWar (d : Nat) (x0 : Nat) (x1 : Int32) (x2 : Int32) (z : ds_St) : ds_call (d + 1) j_Chart_isWar [.ref x0, .int x1, .int x2] z = ds_nn (ds_Rw ds_c_Chart_isWar ds_u_Chart_isWar (ds_call d) 0 [some (.ref x0), some (.int x1), some (.int x2)] [] z) := rfl
set_option maxRecDepth 100000 in
theorem c_Chart_islandAt (d : Nat) (x0 : Nat) (x1 : Int32) (z : ds_St) : ds_call (d + 1) j_Chart_islandAt [.ref x0, .int x1] z = ds_nn (ds_Rw ds_c_Chart_islandAt ds_u_Chart_islandAt (ds_call d) 0 [some (.ref x0), some (.int x1)] [] z) := rfl
set_option maxRecDepth 100000 in
theorem c_Chart_longestBehind (d : Nat) (x0 : Nat) (x1 : Int32) (z : ds_St) : ds_call (d + 1) j_Chart_longestBehind [.ref x0, .int x1] z = ds_nn (ds_Rw ds_c_Chart_longestBehind ds_u_Chart_longestBehind (ds_call d) 0 [some (.ref x0), some (.int x1), none, none, none] [] z) := rfl
set_option maxRecDepth 100000 in
theorem c_Chart_longestRun (d : Nat) (x0 : Nat) (z : ds_St) : ds_call (d + 1) j_Chart_longestRun [.ref x0] z = ds_nn (ds_Rw ds_c_Chart_longestRun ds_u_Chart_longestRun (ds_call d) 0 [some (.ref x0), none, none, none, none] [] z) := rfl
set_option maxRecDepth 100000 in
theorem c_Chart_mates (d : Nat) (x0 : Nat) (x1 : Int32) (z : ds_St) : ds_call (d + 1) j_Chart_mates [.ref x0, .int x1] z = ds_nn (ds_Rw ds_c_Chart_mates ds_u_Chart_mates (ds_call d) 0 [some (.ref x0), some (.int x1), none, none, none] [] z) := rfl
set_option maxRecDepth 100000 in
theorem c_Chart_mostPeople (d : Nat) (x0 : Nat) (z : ds_St) : ds_call (d + 1) j_Chart_mostPeople [.ref x0] z = ds_nn (ds_Rw ds_c_Chart_mostPeople ds_u_Chart_mostPeople (ds_call d) 0 [some (.ref x0), none, none, none, none, none] [] z) := rfl
set_option maxRecDepth 100000 in
theorem c_Chart_personsAt (d : Nat) (x0 : Nat) (x1 : Int32) (z : ds_St) : ds_call (d + 1) j_Chart_personsAt [.ref x0, .int x1] z = ds_nn (ds_Rw ds_c_Chart_personsAt ds_u_Chart_personsAt (ds_call d) 0 [some (.ref x0), some (.int x1), none, none] [] z) := rfl
set_option maxRecDepth 100000 in
theorem c_Chart_placeBit (d : Nat) (x0 : Nat) (x1 : Int32) (z : ds_St) : ds_call (d + 1) j_Chart_placeBit [.ref x0, .int x1] z = ds_nn (ds_Rw ds_c_Chart_placeBit ds_u_Chart_placeBit (ds_call d) 0 [some (.ref x0), some (.int x1), none] [] z) := rfl
set_option maxRecDepth 100000 in
theorem c_Chart_placesOfGood (d : Nat) (x0 : Nat) (x1 : Int32) (z : ds_St) : ds_call (d + 1) j_Chart_placesOfGood [.ref x0, .int x1] z = ds_nn (ds_Rw ds_c_Chart_placesOfGood ds_u_Chart_placesOfGood (ds_call d) 0 [some (.ref x0), some (.int x1), none, none] [] z) := rfl
set_option maxRecDepth 100000 in
theorem c_Chart_placesWithoutJokers (d : Nat) (x0 : Nat) (z : ds_St) : ds_call (d + 1) j_Chart_placesWithoutJokers [.ref x0] z = ds_nn (ds_Rw ds_c_Chart_placesWithoutJokers ds_u_Chart_placesWithoutJokers (ds_call d) 0 [some (.ref x0), none, none] [] z) := rfl
set_option maxRecDepth 100000 in
theorem c_Chart_rankAbove (d : Nat) (x0 : Nat) (x1 : Int32) (z : ds_St) : ds_call (d + 1) j_Chart_rankAbove [.ref x0, .int x1] z = ds_nn (ds_Rw ds_c_Chart_rankAbove ds_u_Chart_rankAbove (ds_call d) 0 [some (.ref x0), some (.int x1)] [] z) := rfl
set_option maxRecDepth 100000 in
theorem c_Chart_runIsland (d : Nat) (x0 : Nat) (x1 : Int32) (z : ds_St) : ds_call (d + 1) j_Chart_runIsland [.ref x0, .int x1] z = ds_nn (ds_Rw ds_c_Chart_runIsland ds_u_Chart_runIsland (ds_call d) 0 [some (.ref x0), some (.int x1), none, none, none] [] z) := rfl
set_option maxRecDepth 100000 in
theorem c_Chart_show (d : Nat) (x0 : Nat) (x1 : Nat) (x2 : Nat) (z : ds_St) : ds_call (d + 1) j_Chart_show [.ref x0, .ref x1, .ref x2] z = ds_nn (ds_Rw ds_c_Chart_show ds_u_Chart_show (ds_call d) 0 [some (.ref x0), some (.ref x1), some (.ref x2), none] [] z) := rfl
set_option maxRecDepth 100000 in
theorem c_Chart_touching (d : Nat) (x0 : Nat) (x1 : Int32) (x2 : Int32) (z : ds_St) : ds_call (d + 1) j_Chart_touching [.ref x0, .int x1, .int x2] z = ds_nn (ds_Rw ds_c_Chart_touching ds_u_Chart_touching (ds_call d) 0 [some (.ref x0), some (.int x1), some (.int x2)] [] z) := rfl
set_option maxRecDepth 100000 in
theorem c_Chart_tradeBetween (d : Nat) (x0 : Nat) (x1 : Int32) (x2 : Int32) (z : ds_St) : ds_call (d + 1) j_Chart_tradeBetween [.ref x0, .int x1, .int x2] z = ds_nn (ds_Rw ds_c_Chart_tradeBetween ds_u_Chart_tradeBetween (ds_call d) 0 [some (.ref x0), some (.int x1), some (.int x2)] [] z) := rfl
set_option maxRecDepth 100000 in
theorem c_Chart_tradesOf (d : Nat) (x0 : Nat) (x1 : Int32) (z : ds_St) : ds_call (d + 1) j_Chart_tradesOf [.ref x0, .int x1] z = ds_nn (ds_Rw ds_c_Chart_tradesOf ds_u_Chart_tradesOf (ds_call d) 0 [some (.ref x0), some (.int x1), none, none] [] z) := rfl
set_option maxRecDepth 100000 in
theorem c_Deck_cardAt (d : Nat) (x0 : Nat) (x1 : Int32) (z : ds_St) : ds_call (d + 1) j_Deck_cardAt [.ref x0, .int x1] z = ds_nn (ds_Rw ds_c_Deck_cardAt ds_u_Deck_cardAt (ds_call d) 0 [some (.ref x0), some (.int x1)] [] z) := rfl
set_option maxRecDepth 100000 in
theorem c_Deck_isOrdered (d : Nat) (x0 : Nat) (z : ds_St) : ds_call (d + 1) j_Deck_isOrdered [.ref x0] z = ds_nn (ds_Rw ds_c_Deck_isOrdered ds_u_Deck_isOrdered (ds_call d) 0 [some (.ref x0), none] [] z) := rfl
set_option maxRecDepth 100000 in
theorem c_Deck_makeMove (d : Nat) (x0 : Nat) (x1 : Int32) (z : ds_St) : ds_call (d + 1) j_Deck_makeMove [.ref x0, .int x1] z = ds_nn (ds_Rw ds_c_Deck_makeMove ds_u_Deck_makeMove (ds_call d) 0 [some (.ref x0), some (.int x1), none] [] z) := rfl
set_option maxRecDepth 100000 in
theorem c_Deck_order (d : Nat) (x0 : Nat) (x1 : Int32) (z : ds_St) : ds_call (d + 1) j_Deck_order [.ref x0, .int x1] z = ds_nn (ds_Rw ds_c_Deck_order ds_u_Deck_order (ds_call d) 0 [some (.ref x0), some (.int x1), none] [] z) := rfl
set_option maxRecDepth 100000 in
theorem c_Deck_placeOf (d : Nat) (x0 : Nat) (x1 : Int32) (z : ds_St) : ds_call (d + 1) j_Deck_placeOf [.ref x0, .int x1] z = ds_nn (ds_Rw ds_c_Deck_placeOf ds_u_Deck_placeOf (ds_call d) 0 [some (.ref x0), some (.int x1), none] [] z) := rfl
set_option maxRecDepth 100000 in
theorem c_Deck_putUnder (d : Nat) (x0 : Nat) (z : ds_St) : ds_call (d + 1) j_Deck_putUnder [.ref x0] z = ds_nn (ds_Rw ds_c_Deck_putUnder ds_u_Deck_putUnder (ds_call d) 0 [some (.ref x0)] [] z) := rfl
set_option maxRecDepth 100000 in
theorem c_Deck_readFrom (d : Nat) (x0 : Nat) (x1 : Nat) (x2 : Int32) (z : ds_St) : ds_call (d + 1) j_Deck_readFrom [.ref x0, .ref x1, .int x2] z = ds_nn (ds_Rw ds_c_Deck_readFrom ds_u_Deck_readFrom (ds_call d) 0 [some (.ref x0), some (.ref x1), some (.int x2), none] [] z) := rfl
set_option maxRecDepth 100000 in
theorem c_Deck_swap (d : Nat) (x0 : Nat) (x1 : Int32) (x2 : Int32) (z : ds_St) : ds_call (d + 1) j_Deck_swap [.ref x0, .int x1, .int x2] z = ds_nn (ds_Rw ds_c_Deck_swap ds_u_Deck_swap (ds_call d) 0 [some (.ref x0), some (.int x1), some (.int x2), none] [] z) := rfl
set_option maxRecDepth 100000 in
theorem c_Deck_take (d : Nat) (x0 : Nat) (x1 : Nat) (z : ds_St) : ds_call (d + 1) j_Deck_take [.ref x0, .ref x1] z = ds_nn (ds_Rw ds_c_Deck_take ds_u_Deck_take (ds_call d) 0 [some (.ref x0), some (.ref x1)] [] z) := rfl
set_option maxRecDepth 100000 in
theorem c_Deck_takeOut (d : Nat) (x0 : Nat) (x1 : Int32) (z : ds_St) : ds_call (d + 1) j_Deck_takeOut [.ref x0, .int x1] z = ds_nn (ds_Rw ds_c_Deck_takeOut ds_u_Deck_takeOut (ds_call d) 0 [some (.ref x0), some (.int x1), none] [] z) := rfl
set_option maxRecDepth 100000 in
theorem c_Deck_writeTo (d : Nat) (x0 : Nat) (x1 : Nat) (x2 : Int32) (z : ds_St) : ds_call (d + 1) j_Deck_writeTo [.ref x0, .ref x1, .int x2] z = ds_nn (ds_Rw ds_c_Deck_writeTo ds_u_Deck_writeTo (ds_call d) 0 [some (.ref x0), some (.ref x1), some (.int x2), none] [] z) := rfl
set_option maxRecDepth 100000 in
theorem c_Game_countRests (d : Nat) (x0 : Nat) (z : ds_St) : ds_call (d + 1) j_Game_countRests [.ref x0] z = ds_nn (ds_Rw ds_c_Game_countRests ds_u_Game_countRests (ds_call d) 0 [some (.ref x0), none, none, none] [] z) := rfl
set_option maxRecDepth 100000 in
theorem c_Game_firstRest (d : Nat) (x0 : Nat) (z : ds_St) : ds_call (d + 1) j_Game_firstRest [.ref x0] z = ds_nn (ds_Rw ds_c_Game_firstRest ds_u_Game_firstRest (ds_call d) 0 [some (.ref x0), none, none] [] z) := rfl
set_option maxRecDepth 100000 in
theorem c_Game_gainOf (d : Nat) (x0 : Nat) (x1 : Int32) (x2 : Int32) (z : ds_St) : ds_call (d + 1) j_Game_gainOf [.ref x0, .int x1, .int x2] z = ds_nn (ds_Rw ds_c_Game_gainOf ds_u_Game_gainOf (ds_call d) 0 [some (.ref x0), some (.int x1), some (.int x2)] [] z) := rfl
set_option maxRecDepth 100000 in
theorem c_Game_isRest (d : Nat) (x0 : Nat) (x1 : Int32) (x2 : Int32) (z : ds_St) : ds_call (d + 1) j_Game_isRest [.ref x0, .int x1, .int x2] z = ds_nn (ds_Rw ds_c_Game_isRest ds_u_Game_isRest (ds_call d) 0 [some (.ref x0), some (.int x1), some (.int x2), none, none] [] z) := rfl
set_option maxRecDepth 100000 in
theorem c_Game_setGain (d : Nat) (x0 : Nat) (x1 : Int32) (x2 : Int32) (x3 : Int32) (z : ds_St) : ds_call (d + 1) j_Game_setGain [.ref x0, .int x1, .int x2, .int x3] z = ds_nn (ds_Rw ds_c_Game_setGain ds_u_Game_setGain (ds_call d) 0 [some (.ref x0), some (.int x1), some (.int x2), some (.int x3)] [] z) := rfl
set_option maxRecDepth 100000 in
theorem c_Reader_advance (d : Nat) (x0 : Nat) (z : ds_St) : ds_call (d + 1) j_Reader_advance [.ref x0] z = ds_nn (ds_Rw ds_c_Reader_advance ds_u_Reader_advance (ds_call d) 0 [some (.ref x0), none] [] z) := rfl
set_option maxRecDepth 100000 in
theorem c_Reader_blame (d : Nat) (x0 : Nat) (x1 : Int32) (z : ds_St) : ds_call (d + 1) j_Reader_blame [.ref x0, .int x1] z = ds_nn (ds_Rw ds_c_Reader_blame ds_u_Reader_blame (ds_call d) 0 [some (.ref x0), some (.int x1)] [] z) := rfl
set_option maxRecDepth 100000 in
theorem c_Reader_byteAt (d : Nat) (x0 : Nat) (x1 : Int32) (z : ds_St) : ds_call (d + 1) j_Reader_byteAt [.ref x0, .int x1] z = ds_nn (ds_Rw ds_c_Reader_byteAt ds_u_Reader_byteAt (ds_call d) 0 [some (.ref x0), some (.int x1)] [] z) := rfl
set_option maxRecDepth 100000 in
theorem c_Reader_checkLine (d : Nat) (x0 : Nat) (x1 : Int32) (x2 : Int32) (z : ds_St) : ds_call (d + 1) j_Reader_checkLine [.ref x0, .int x1, .int x2] z = ds_nn (ds_Rw ds_c_Reader_checkLine ds_u_Reader_checkLine (ds_call d) 0 [some (.ref x0), some (.int x1), some (.int x2)] [] z) := rfl
set_option maxRecDepth 100000 in
theorem c_Reader_goesOn (d : Nat) (x0 : Nat) (z : ds_St) : ds_call (d + 1) j_Reader_goesOn [.ref x0] z = ds_nn (ds_Rw ds_c_Reader_goesOn ds_u_Reader_goesOn (ds_call d) 0 [some (.ref x0)] [] z) := rfl
set_option maxRecDepth 100000 in
theorem c_Reader_handOver (d : Nat) (x0 : Nat) (x1 : Nat) (z : ds_St) : ds_call (d + 1) j_Reader_handOver [.ref x0, .ref x1] z = ds_nn (ds_Rw ds_c_Reader_handOver ds_u_Reader_handOver (ds_call d) 0 [some (.ref x0), some (.ref x1), none] [] z) := rfl
set_option maxRecDepth 100000 in
theorem c_Reader_isAtName (d : Nat) (x0 : Nat) (z : ds_St) : ds_call (d + 1) j_Reader_isAtName [.ref x0] z = ds_nn (ds_Rw ds_c_Reader_isAtName ds_u_Reader_isAtName (ds_call d) 0 [some (.ref x0)] [] z) := rfl
set_option maxRecDepth 100000 in
theorem c_Reader_isDigit (d : Nat) (x0 : Int32) (z : ds_St) : ds_call (d + 1) j_Reader_isDigit [.int x0] z = ds_nn (ds_Rw ds_c_Reader_isDigit ds_u_Reader_isDigit (ds_call d) 0 [some (.int x0)] [] z) := rfl
set_option maxRecDepth 100000 in
theorem c_Reader_isFull (d : Nat) (x0 : Nat) (x1 : Int32) (z : ds_St) : ds_call (d + 1) j_Reader_isFull [.ref x0, .int x1] z = ds_nn (ds_Rw ds_c_Reader_isFull ds_u_Reader_isFull (ds_call d) 0 [some (.ref x0), some (.int x1)] [] z) := rfl
set_option maxRecDepth 100000 in
theorem c_Reader_isLetter (d : Nat) (x0 : Int32) (z : ds_St) : ds_call (d + 1) j_Reader_isLetter [.int x0] z = ds_nn (ds_Rw ds_c_Reader_isLetter ds_u_Reader_isLetter (ds_call d) 0 [some (.int x0)] [] z) := rfl
set_option maxRecDepth 100000 in
theorem c_Reader_lengthen (d : Nat) (x0 : Nat) (x1 : Int32) (z : ds_St) : ds_call (d + 1) j_Reader_lengthen [.ref x0, .int x1] z = ds_nn (ds_Rw ds_c_Reader_lengthen ds_u_Reader_lengthen (ds_call d) 0 [some (.ref x0), some (.int x1), none] [] z) := rfl
set_option maxRecDepth 100000 in
theorem c_Reader_namedIsland (d : Nat) (x0 : Nat) (z : ds_St) : ds_call (d + 1) j_Reader_namedIsland [.ref x0] z = ds_nn (ds_Rw ds_c_Reader_namedIsland ds_u_Reader_namedIsland (ds_call d) 0 [some (.ref x0), none] [] z) := rfl
set_option maxRecDepth 100000 in
theorem c_Reader_owner (d : Nat) (x0 : Nat) (z : ds_St) : ds_call (d + 1) j_Reader_owner [.ref x0] z = ds_nn (ds_Rw ds_c_Reader_owner ds_u_Reader_owner (ds_call d) 0 [some (.ref x0), none] [] z) := rfl
set_option maxRecDepth 100000 in
theorem c_Reader_place (d : Nat) (x0 : Nat) (z : ds_St) : ds_call (d + 1) j_Reader_place [.ref x0] z = ds_nn (ds_Rw ds_c_Reader_place ds_u_Reader_place (ds_call d) 0 [some (.ref x0)] [] z) := rfl
set_option maxRecDepth 100000 in
theorem c_Reader_readFamily (d : Nat) (x0 : Nat) (z : ds_St) : ds_call (d + 1) j_Reader_readFamily [.ref x0] z = ds_nn (ds_Rw ds_c_Reader_readFamily ds_u_Reader_readFamily (ds_call d) 0 [some (.ref x0), none] [] z) := rfl
set_option maxRecDepth 100000 in
theorem c_Reader_readIsland (d : Nat) (x0 : Nat) (z : ds_St) : ds_call (d + 1) j_Reader_readIsland [.ref x0] z = ds_nn (ds_Rw ds_c_Reader_readIsland ds_u_Reader_readIsland (ds_call d) 0 [some (.ref x0), none, none, none, none] [] z) := rfl
set_option maxRecDepth 100000 in
theorem c_Reader_readLine (d : Nat) (x0 : Nat) (x1 : Int32) (z : ds_St) : ds_call (d + 1) j_Reader_readLine [.ref x0, .int x1] z = ds_nn (ds_Rw ds_c_Reader_readLine ds_u_Reader_readLine (ds_call d) 0 [some (.ref x0), some (.int x1), none] [] z) := rfl
set_option maxRecDepth 100000 in
theorem c_Reader_readOneOf (d : Nat) (x0 : Nat) (x1 : Nat) (z : ds_St) : ds_call (d + 1) j_Reader_readOneOf [.ref x0, .ref x1] z = ds_nn (ds_Rw ds_c_Reader_readOneOf ds_u_Reader_readOneOf (ds_call d) 0 [some (.ref x0), some (.ref x1), none] [] z) := rfl
set_option maxRecDepth 100000 in
theorem c_Reader_readSea (d : Nat) (x0 : Nat) (z : ds_St) : ds_call (d + 1) j_Reader_readSea [.ref x0] z = ds_nn (ds_Rw ds_c_Reader_readSea ds_u_Reader_readSea (ds_call d) 0 [some (.ref x0)] [] z) := rfl
set_option maxRecDepth 100000 in
theorem c_Reader_readShows (d : Nat) (x0 : Nat) (z : ds_St) : ds_call (d + 1) j_Reader_readShows [.ref x0] z = ds_nn (ds_Rw ds_c_Reader_readShows ds_u_Reader_readShows (ds_call d) 0 [some (.ref x0), none, none] [] z) := rfl
set_option maxRecDepth 100000 in
theorem c_Reader_readText (d : Nat) (x0 : Nat) (x1 : Int32) (z : ds_St) : ds_call (d + 1) j_Reader_readText [.ref x0, .int x1] z = ds_nn (ds_Rw ds_c_Reader_readText ds_u_Reader_readText (ds_call d) 0 [some (.ref x0), some (.int x1), none, none] [] z) := rfl
set_option maxRecDepth 100000 in
theorem c_Reader_readWhole (d : Nat) (x0 : Nat) (x1 : Int32) (x2 : Int32) (z : ds_St) : ds_call (d + 1) j_Reader_readWhole [.ref x0, .int x1, .int x2] z = ds_nn (ds_Rw ds_c_Reader_readWhole ds_u_Reader_readWhole (ds_call d) 0 [some (.ref x0), some (.int x1), some (.int x2), none] [] z) := rfl
set_option maxRecDepth 100000 in
theorem c_Reader_readWish (d : Nat) (x0 : Nat) (z : ds_St) : ds_call (d + 1) j_Reader_readWish [.ref x0] z = ds_nn (ds_Rw ds_c_Reader_readWish ds_u_Reader_readWish (ds_call d) 0 [some (.ref x0), none, none] [] z) := rfl
set_option maxRecDepth 100000 in
theorem c_Reader_takeWhole (d : Nat) (x0 : Nat) (z : ds_St) : ds_call (d + 1) j_Reader_takeWhole [.ref x0] z = ds_nn (ds_Rw ds_c_Reader_takeWhole ds_u_Reader_takeWhole (ds_call d) 0 [some (.ref x0)] [] z) := rfl
set_option maxRecDepth 100000 in
theorem c_Reader_takeWord (d : Nat) (x0 : Nat) (z : ds_St) : ds_call (d + 1) j_Reader_takeWord [.ref x0] z = ds_nn (ds_Rw ds_c_Reader_takeWord ds_u_Reader_takeWord (ds_call d) 0 [some (.ref x0)] [] z) := rfl
set_option maxRecDepth 100000 in
theorem c_Reader_tellName (d : Nat) (x0 : Nat) (x1 : Int32) (z : ds_St) : ds_call (d + 1) j_Reader_tellName [.ref x0, .int x1] z = ds_nn (ds_Rw ds_c_Reader_tellName ds_u_Reader_tellName (ds_call d) 0 [some (.ref x0), some (.int x1)] [] z) := rfl
set_option maxRecDepth 100000 in
theorem c_Search_bringThree (d : Nat) (x0 : Nat) (x1 : Nat) (x2 : Int32) (x3 : Int32) (x4 : Int32) (x5 : Int32) (z : ds_St) : ds_call (d + 1) j_Search_bringThree [.ref x0, .ref x1, .int x2, .int x3, .int x4, .int x5] z = ds_nn (ds_Rw ds_c_Search_bringThree ds_u_Search_bringThree (ds_call d) 0 [some (.ref x0), some (.ref x1), some (.int x2), some (.int x3), some (.int x4), some (.int x5)] [] z) := rfl
set_option maxRecDepth 100000 in
theorem c_Search_bringTo (d : Nat) (x0 : Nat) (x1 : Int32) (x2 : Int32) (x3 : Int32) (z : ds_St) : ds_call (d + 1) j_Search_bringTo [.ref x0, .int x1, .int x2, .int x3] z = ds_nn (ds_Rw ds_c_Search_bringTo ds_u_Search_bringTo (ds_call d) 0 [some (.ref x0), some (.int x1), some (.int x2), some (.int x3)] [] z) := rfl
set_option maxRecDepth 100000 in
theorem c_Search_bringTogether (d : Nat) (x0 : Nat) (x1 : Nat) (x2 : Int32) (x3 : Int32) (x4 : Int32) (z : ds_St) : ds_call (d + 1) j_Search_bringTogether [.ref x0, .ref x1, .int x2, .int x3, .int x4] z = ds_nn (ds_Rw ds_c_Search_bringTogether ds_u_Search_bringTogether (ds_call d) 0 [some (.ref x0), some (.ref x1), some (.int x2), some (.int x3), some (.int x4)] [] z) := rfl
set_option maxRecDepth 100000 in
theorem c_Search_canBe (d : Nat) (x0 : Nat) (z : ds_St) : ds_call (d + 1) j_Search_canBe [.ref x0] z = ds_nn (ds_Rw ds_c_Search_canBe ds_u_Search_canBe (ds_call d) 0 [some (.ref x0), none, none] [] z) := rfl
set_option maxRecDepth 100000 in
theorem c_Search_isGoal (d : Nat) (x0 : Nat) (x1 : Int32) (z : ds_St) : ds_call (d + 1) j_Search_isGoal [.ref x0, .int x1] z = ds_nn (ds_Rw ds_c_Search_isGoal ds_u_Search_isGoal (ds_call d) 0 [some (.ref x0), some (.int x1), none, none, none] [] z) := rfl
set_option maxRecDepth 100000 in
theorem c_Search_length (d : Nat) (x0 : Nat) (z : ds_St) : ds_call (d + 1) j_Search_length [.ref x0] z = ds_nn (ds_Rw ds_c_Search_length ds_u_Search_length (ds_call d) 0 [some (.ref x0), none, none] [] z) := rfl
set_option maxRecDepth 100000 in
theorem c_Search_moveOf (d : Nat) (x0 : Nat) (x1 : Int32) (z : ds_St) : ds_call (d + 1) j_Search_moveOf [.ref x0, .int x1] z = ds_nn (ds_Rw ds_c_Search_moveOf ds_u_Search_moveOf (ds_call d) 0 [some (.ref x0), some (.int x1), none, none] [] z) := rfl
set_option maxRecDepth 100000 in
theorem c_Search_pairs (d : Nat) (x0 : Nat) (x1 : Int32) (x2 : Int32) (z : ds_St) : ds_call (d + 1) j_Search_pairs [.ref x0, .int x1, .int x2] z = ds_nn (ds_Rw ds_c_Search_pairs ds_u_Search_pairs (ds_call d) 0 [some (.ref x0), some (.int x1), some (.int x2)] [] z) := rfl
set_option maxRecDepth 100000 in
theorem c_Search_queueNext (d : Nat) (x0 : Nat) (x1 : Int32) (x2 : Int32) (z : ds_St) : ds_call (d + 1) j_Search_queueNext [.ref x0, .int x1, .int x2] z = ds_nn (ds_Rw ds_c_Search_queueNext ds_u_Search_queueNext (ds_call d) 0 [some (.ref x0), some (.int x1), some (.int x2), none, none, none] [] z) := rfl
set_option maxRecDepth 100000 in
theorem c_Search_seek (d : Nat) (x0 : Nat) (x1 : Int32) (x2 : Int32) (z : ds_St) : ds_call (d + 1) j_Search_seek [.ref x0, .int x1, .int x2] z = ds_nn (ds_Rw ds_c_Search_seek ds_u_Search_seek (ds_call d) 0 [some (.ref x0), some (.int x1), some (.int x2), none, none, none] [] z) := rfl
set_option maxRecDepth 100000 in
theorem c_Search_stateBehind (d : Nat) (x0 : Nat) (x1 : Int32) (x2 : Int32) (z : ds_St) : ds_call (d + 1) j_Search_stateBehind [.ref x0, .int x1, .int x2] z = ds_nn (ds_Rw ds_c_Search_stateBehind ds_u_Search_stateBehind (ds_call d) 0 [some (.ref x0), some (.int x1), some (.int x2), none, none, none, none] [] z) := rfl
set_option maxRecDepth 100000 in
theorem c_Shelf_empty (d : Nat) (x0 : Nat) (z : ds_St) : ds_call (d + 1) j_Shelf_empty [.ref x0] z = ds_nn (ds_Rw ds_c_Shelf_empty ds_u_Shelf_empty (ds_call d) 0 [some (.ref x0)] [] z) := rfl
set_option maxRecDepth 100000 in
theorem c_Shelf_popInto (d : Nat) (x0 : Nat) (x1 : Nat) (z : ds_St) : ds_call (d + 1) j_Shelf_popInto [.ref x0, .ref x1] z = ds_nn (ds_Rw ds_c_Shelf_popInto ds_u_Shelf_popInto (ds_call d) 0 [some (.ref x0), some (.ref x1)] [] z) := rfl
set_option maxRecDepth 100000 in
theorem c_Shelf_pushOver (d : Nat) (x0 : Nat) (x1 : Nat) (z : ds_St) : ds_call (d + 1) j_Shelf_pushOver [.ref x0, .ref x1] z = ds_nn (ds_Rw ds_c_Shelf_pushOver ds_u_Shelf_pushOver (ds_call d) 0 [some (.ref x0), some (.ref x1)] [] z) := rfl
set_option maxRecDepth 100000 in
theorem c_Shelf_readInto (d : Nat) (x0 : Nat) (x1 : Int32) (x2 : Nat) (z : ds_St) : ds_call (d + 1) j_Shelf_readInto [.ref x0, .int x1, .ref x2] z = ds_nn (ds_Rw ds_c_Shelf_readInto ds_u_Shelf_readInto (ds_call d) 0 [some (.ref x0), some (.int x1), some (.ref x2)] [] z) := rfl
set_option maxRecDepth 100000 in
theorem c_Shelf_startOf (d : Nat) (x0 : Nat) (x1 : Int32) (z : ds_St) : ds_call (d + 1) j_Shelf_startOf [.ref x0, .int x1] z = ds_nn (ds_Rw ds_c_Shelf_startOf ds_u_Shelf_startOf (ds_call d) 0 [some (.ref x0), some (.int x1)] [] z) := rfl
set_option maxRecDepth 100000 in
theorem c_Told_addFamily (d : Nat) (x0 : Nat) (x1 : Int32) (z : ds_St) : ds_call (d + 1) j_Told_addFamily [.ref x0, .int x1] z = ds_nn (ds_Rw ds_c_Told_addFamily ds_u_Told_addFamily (ds_call d) 0 [some (.ref x0), some (.int x1)] [] z) := rfl
set_option maxRecDepth 100000 in
theorem c_Told_addIsland (d : Nat) (x0 : Nat) (x1 : Int32) (x2 : Int32) (x3 : Int32) (x4 : Int32) (z : ds_St) : ds_call (d + 1) j_Told_addIsland [.ref x0, .int x1, .int x2, .int x3, .int x4] z = ds_nn (ds_Rw ds_c_Told_addIsland ds_u_Told_addIsland (ds_call d) 0 [some (.ref x0), some (.int x1), some (.int x2), some (.int x3), some (.int x4)] [] z) := rfl
set_option maxRecDepth 100000 in
theorem c_Told_addShows (d : Nat) (x0 : Nat) (x1 : Int32) (x2 : Int32) (z : ds_St) : ds_call (d + 1) j_Told_addShows [.ref x0, .int x1, .int x2] z = ds_nn (ds_Rw ds_c_Told_addShows ds_u_Told_addShows (ds_call d) 0 [some (.ref x0), some (.int x1), some (.int x2)] [] z) := rfl
set_option maxRecDepth 100000 in
theorem c_Told_addWish (d : Nat) (x0 : Nat) (x1 : Int32) (x2 : Int32) (z : ds_St) : ds_call (d + 1) j_Told_addWish [.ref x0, .int x1, .int x2] z = ds_nn (ds_Rw ds_c_Told_addWish ds_u_Told_addWish (ds_call d) 0 [some (.ref x0), some (.int x1), some (.int x2)] [] z) := rfl
set_option maxRecDepth 100000 in
theorem c_Told_areNear (d : Nat) (x0 : Nat) (x1 : Int32) (x2 : Int32) (z : ds_St) : ds_call (d + 1) j_Told_areNear [.ref x0, .int x1, .int x2] z = ds_nn (ds_Rw ds_c_Told_areNear ds_u_Told_areNear (ds_call d) 0 [some (.ref x0), some (.int x1), some (.int x2)] [] z) := rfl
set_option maxRecDepth 100000 in
theorem c_Told_forget (d : Nat) (x0 : Nat) (z : ds_St) : ds_call (d + 1) j_Told_forget [.ref x0] z = ds_nn (ds_Rw ds_c_Told_forget ds_u_Told_forget (ds_call d) 0 [some (.ref x0)] [] z) := rfl
set_option maxRecDepth 100000 in
theorem c_Told_hasWish (d : Nat) (x0 : Nat) (x1 : Int32) (x2 : Int32) (z : ds_St) : ds_call (d + 1) j_Told_hasWish [.ref x0, .int x1, .int x2] z = ds_nn (ds_Rw ds_c_Told_hasWish ds_u_Told_hasWish (ds_call d) 0 [some (.ref x0), some (.int x1), some (.int x2), none, none, none] [] z) := rfl
set_option maxRecDepth 100000 in
theorem c_Told_isCorner (d : Nat) (x0 : Nat) (x1 : Int32) (z : ds_St) : ds_call (d + 1) j_Told_isCorner [.ref x0, .int x1] z = ds_nn (ds_Rw ds_c_Told_isCorner ds_u_Told_isCorner (ds_call d) 0 [some (.ref x0), some (.int x1)] [] z) := rfl
set_option maxRecDepth 100000 in
theorem c_Told_isJoker (d : Nat) (x0 : Nat) (x1 : Int32) (z : ds_St) : ds_call (d + 1) j_Told_isJoker [.ref x0, .int x1] z = ds_nn (ds_Rw ds_c_Told_isJoker ds_u_Told_isJoker (ds_call d) 0 [some (.ref x0), some (.int x1)] [] z) := rfl
set_option maxRecDepth 100000 in
theorem c_Told_neighbours (d : Nat) (x0 : Nat) (x1 : Int32) (x2 : Int32) (z : ds_St) : ds_call (d + 1) j_Told_neighbours [.ref x0, .int x1, .int x2] z = ds_nn (ds_Rw ds_c_Told_neighbours ds_u_Told_neighbours (ds_call d) 0 [some (.ref x0), some (.int x1), some (.int x2)] [] z) := rfl
set_option maxRecDepth 100000 in
theorem c_Told_room (d : Nat) (x0 : Nat) (z : ds_St) : ds_call (d + 1) j_Told_room [.ref x0] z = ds_nn (ds_Rw ds_c_Told_room ds_u_Told_room (ds_call d) 0 [some (.ref x0)] [] z) := rfl
set_option maxRecDepth 100000 in
theorem c_Told_settle (d : Nat) (x0 : Nat) (z : ds_St) : ds_call (d + 1) j_Told_settle [.ref x0] z = ds_nn (ds_Rw ds_c_Told_settle ds_u_Told_settle (ds_call d) 0 [some (.ref x0), none, none] [] z) := rfl
set_option maxRecDepth 100000 in
theorem c_Told_worth (d : Nat) (x0 : Nat) (x1 : Int32) (x2 : Int32) (z : ds_St) : ds_call (d + 1) j_Told_worth [.ref x0, .int x1, .int x2] z = ds_nn (ds_Rw ds_c_Told_worth ds_u_Told_worth (ds_call d) 0 [some (.ref x0), some (.int x1), some (.int x2), none, none, none] [] z) := rfl
set_option maxRecDepth 100000 in
theorem c_Sea_addPlan (d : Nat) (x0 : Nat) (x1 : Int32) (z : ds_St) : ds_call (d + 1) j_Sea_addPlan [.ref x0, .int x1] z = ds_nn (ds_Rw ds_c_Sea_addPlan ds_u_Sea_addPlan (ds_call d) 0 [some (.ref x0), some (.int x1), none] [] z) := rfl
set_option maxRecDepth 100000 in
theorem c_Sea_again (d : Nat) (x0 : Nat) (z : ds_St) : ds_call (d + 1) j_Sea_again [.ref x0] z = ds_nn (ds_Rw ds_c_Sea_again ds_u_Sea_again (ds_call d) 0 [some (.ref x0), none] [] z) := rfl
set_option maxRecDepth 100000 in
theorem c_Sea_alike (d : Nat) (x0 : Nat) (x1 : Int32) (x2 : Int32) (z : ds_St) : ds_call (d + 1) j_Sea_alike [.ref x0, .int x1, .int x2] z = ds_nn (ds_Rw ds_c_Sea_alike ds_u_Sea_alike (ds_call d) 0 [some (.ref x0), some (.int x1), some (.int x2), none] [] z) := rfl
set_option maxRecDepth 100000 in
theorem c_Sea_answer (d : Nat) (x0 : Nat) (x1 : Int32) (z : ds_St) : ds_call (d + 1) j_Sea_answer [.ref x0, .int x1] z = ds_nn (ds_Rw ds_c_Sea_answer ds_u_Sea_answer (ds_call d) 0 [some (.ref x0), some (.int x1)] [] z) := rfl
set_option maxRecDepth 100000 in
theorem c_Sea_back (d : Nat) (x0 : Nat) (x1 : Int32) (z : ds_St) : ds_call (d + 1) j_Sea_back [.ref x0, .int x1] z = ds_nn (ds_Rw ds_c_Sea_back ds_u_Sea_back (ds_call d) 0 [some (.ref x0), some (.int x1)] [] z) := rfl
set_option maxRecDepth 100000 in
theorem c_Sea_beside (d : Nat) (x0 : Nat) (x1 : Int32) (z : ds_St) : ds_call (d + 1) j_Sea_beside [.ref x0, .int x1] z = ds_nn (ds_Rw ds_c_Sea_beside ds_u_Sea_beside (ds_call d) 0 [some (.ref x0), some (.int x1)] [] z) := rfl
set_option maxRecDepth 100000 in
theorem c_Sea_best (d : Nat) (x0 : Nat) (z : ds_St) : ds_call (d + 1) j_Sea_best [.ref x0] z = ds_nn (ds_Rw ds_c_Sea_best ds_u_Sea_best (ds_call d) 0 [some (.ref x0)] [] z) := rfl
set_option maxRecDepth 100000 in
theorem c_Sea_bestMove (d : Nat) (x0 : Nat) (z : ds_St) : ds_call (d + 1) j_Sea_bestMove [.ref x0] z = ds_nn (ds_Rw ds_c_Sea_bestMove ds_u_Sea_bestMove (ds_call d) 0 [some (.ref x0), none, none, none, none] [] z) := rfl
set_option maxRecDepth 100000 in
theorem c_Sea_bestTrades (d : Nat) (x0 : Nat) (z : ds_St) : ds_call (d + 1) j_Sea_bestTrades [.ref x0] z = ds_nn (ds_Rw ds_c_Sea_bestTrades ds_u_Sea_bestTrades (ds_call d) 0 [some (.ref x0)] [] z) := rfl
set_option maxRecDepth 100000 in
theorem c_Sea_bestTwo (d : Nat) (x0 : Nat) (z : ds_St) : ds_call (d + 1) j_Sea_bestTwo [.ref x0] z = ds_nn (ds_Rw ds_c_Sea_bestTwo ds_u_Sea_bestTwo (ds_call d) 0 [some (.ref x0), none, none, none, none, none] [] z) := rfl
set_option maxRecDepth 100000 in
theorem c_Sea_can (d : Nat) (x0 : Nat) (x1 : Int32) (x2 : Int32) (z : ds_St) : ds_call (d + 1) j_Sea_can [.ref x0, .int x1, .int x2] z = ds_nn (ds_Rw ds_c_Sea_can ds_u_Sea_can (ds_call d) 0 [some (.ref x0), some (.int x1), some (.int x2), none, none] [] z) := rfl
set_option maxRecDepth 100000 in
theorem c_Sea_card (d : Nat) (x0 : Nat) (x1 : Int32) (z : ds_St) : ds_call (d + 1) j_Sea_card [.ref x0, .int x1] z = ds_nn (ds_Rw ds_c_Sea_card ds_u_Sea_card (ds_call d) 0 [some (.ref x0), some (.int x1)] [] z) := rfl
set_option maxRecDepth 100000 in
theorem c_Sea_chartOf (d : Nat) (x0 : Nat) (x1 : Nat) (z : ds_St) : ds_call (d + 1) j_Sea_chartOf [.ref x0, .ref x1] z = ds_nn (ds_Rw ds_c_Sea_chartOf ds_u_Sea_chartOf (ds_call d) 0 [some (.ref x0), some (.ref x1)] [] z) := rfl
set_option maxRecDepth 100000 in
theorem c_Sea_choice (d : Nat) (x0 : Nat) (x1 : Int64) (z : ds_St) : ds_call (d + 1) j_Sea_choice [.ref x0, .long x1] z = ds_nn (ds_Rw ds_c_Sea_choice ds_u_Sea_choice (ds_call d) 0 [some (.ref x0), some (.long x1), none, none, none, none, none, none] [] z) := rfl
set_option maxRecDepth 100000 in
theorem c_Sea_crowd (d : Nat) (x0 : Nat) (z : ds_St) : ds_call (d + 1) j_Sea_crowd [.ref x0] z = ds_nn (ds_Rw ds_c_Sea_crowd ds_u_Sea_crowd (ds_call d) 0 [some (.ref x0)] [] z) := rfl
set_option maxRecDepth 100000 in
theorem c_Sea_cycle (d : Nat) (x0 : Nat) (x1 : Int32) (z : ds_St) : ds_call (d + 1) j_Sea_cycle [.ref x0, .int x1] z = ds_nn (ds_Rw ds_c_Sea_cycle ds_u_Sea_cycle (ds_call d) 0 [some (.ref x0), some (.int x1), none] [] z) := rfl
set_option maxRecDepth 100000 in
theorem c_Sea_deal (d : Nat) (x0 : Nat) (x1 : Int32) (z : ds_St) : ds_call (d + 1) j_Sea_deal [.ref x0, .int x1] z = ds_nn (ds_Rw ds_c_Sea_deal ds_u_Sea_deal (ds_call d) 0 [some (.ref x0), some (.int x1)] [] z) := rfl
set_option maxRecDepth 100000 in
theorem c_Sea_decade (d : Nat) (x0 : Nat) (x1 : Int32) (x2 : Int32) (z : ds_St) : ds_call (d + 1) j_Sea_decade [.ref x0, .int x1, .int x2] z = ds_nn (ds_Rw ds_c_Sea_decade ds_u_Sea_decade (ds_call d) 0 [some (.ref x0), some (.int x1), some (.int x2)] [] z) := rfl
set_option maxRecDepth 100000 in
theorem c_Sea_decadeOf (d : Nat) (x0 : Nat) (x1 : Int32) (x2 : Int32) (x3 : Int32) (z : ds_St) : ds_call (d + 1) j_Sea_decadeOf [.ref x0, .int x1, .int x2, .int x3] z = ds_nn (ds_Rw ds_c_Sea_decadeOf ds_u_Sea_decadeOf (ds_call d) 0 [some (.ref x0), some (.int x1), some (.int x2), some (.int x3)] [] z) := rfl
set_option maxRecDepth 100000 in
theorem c_Sea_decadeWishes (d : Nat) (x0 : Nat) (x1 : Int32) (x2 : Int32) (z : ds_St) : ds_call (d + 1) j_Sea_decadeWishes [.ref x0, .int x1, .int x2] z = ds_nn (ds_Rw ds_c_Sea_decadeWishes ds_u_Sea_decadeWishes (ds_call d) 0 [some (.ref x0), some (.int x1), some (.int x2)] [] z) := rfl
set_option maxRecDepth 100000 in
theorem c_Sea_exchange (d : Nat) (x0 : Nat) (z : ds_St) : ds_call (d + 1) j_Sea_exchange [.ref x0] z = ds_nn (ds_Rw ds_c_Sea_exchange ds_u_Sea_exchange (ds_call d) 0 [some (.ref x0), none, none, none, none, none] [] z) := rfl
set_option maxRecDepth 100000 in
theorem c_Sea_fault (d : Nat) (x0 : Nat) (z : ds_St) : ds_call (d + 1) j_Sea_fault [.ref x0] z = ds_nn (ds_Rw ds_c_Sea_fault ds_u_Sea_fault (ds_call d) 0 [some (.ref x0)] [] z) := rfl
set_option maxRecDepth 100000 in
theorem c_Sea_feed (d : Nat) (x0 : Nat) (x1 : Int32) (x2 : Int32) (x3 : Int32) (x4 : Int32) (x5 : Int32) (z : ds_St) : ds_call (d + 1) j_Sea_feed [.ref x0, .int x1, .int x2, .int x3, .int x4, .int x5] z = ds_nn (ds_Rw ds_c_Sea_feed ds_u_Sea_feed (ds_call d) 0 [some (.ref x0), some (.int x1), some (.int x2), some (.int x3), some (.int x4), some (.int x5)] [] z) := rfl
set_option maxRecDepth 100000 in
theorem c_Sea_fewest (d : Nat) (x0 : Nat) (x1 : Int32) (x2 : Int32) (z : ds_St) : ds_call (d + 1) j_Sea_fewest [.ref x0, .int x1, .int x2] z = ds_nn (ds_Rw ds_c_Sea_fewest ds_u_Sea_fewest (ds_call d) 0 [some (.ref x0), some (.int x1), some (.int x2)] [] z) := rfl
set_option maxRecDepth 100000 in
theorem c_Sea_fitAt (d : Nat) (x0 : Nat) (x1 : Int32) (x2 : Int32) (z : ds_St) : ds_call (d + 1) j_Sea_fitAt [.ref x0, .int x1, .int x2] z = ds_nn (ds_Rw ds_c_Sea_fitAt ds_u_Sea_fitAt (ds_call d) 0 [some (.ref x0), some (.int x1), some (.int x2), none, none] [] z) := rfl
set_option maxRecDepth 100000 in
theorem c_Sea_fits (d : Nat) (x0 : Nat) (x1 : Int32) (z : ds_St) : ds_call (d + 1) j_Sea_fits [.ref x0, .int x1] z = ds_nn (ds_Rw ds_c_Sea_fits ds_u_Sea_fits (ds_call d) 0 [some (.ref x0), some (.int x1), none, none, none] [] z) := rfl
set_option maxRecDepth 100000 in
theorem c_Sea_foundMove (d : Nat) (x0 : Nat) (x1 : Int32) (z : ds_St) : ds_call (d + 1) j_Sea_foundMove [.ref x0, .int x1] z = ds_nn (ds_Rw ds_c_Sea_foundMove ds_u_Sea_foundMove (ds_call d) 0 [some (.ref x0), some (.int x1)] [] z) := rfl
set_option maxRecDepth 100000 in
theorem c_Sea_gain (d : Nat) (x0 : Nat) (x1 : Int32) (x2 : Int32) (x3 : Int32) (x4 : Int32) (z : ds_St) : ds_call (d + 1) j_Sea_gain [.ref x0, .int x1, .int x2, .int x3, .int x4] z = ds_nn (ds_Rw ds_c_Sea_gain ds_u_Sea_gain (ds_call d) 0 [some (.ref x0), some (.int x1), some (.int x2), some (.int x3), some (.int x4)] [] z) := rfl
set_option maxRecDepth 100000 in
theorem c_Sea_gainBy (d : Nat) (x0 : Nat) (x1 : Int32) (x2 : Int32) (x3 : Int32) (x4 : Int32) (z : ds_St) : ds_call (d + 1) j_Sea_gainBy [.ref x0, .int x1, .int x2, .int x3, .int x4] z = ds_nn (ds_Rw ds_c_Sea_gainBy ds_u_Sea_gainBy (ds_call d) 0 [some (.ref x0), some (.int x1), some (.int x2), some (.int x3), some (.int x4)] [] z) := rfl
set_option maxRecDepth 100000 in
theorem c_Sea_goesTo (d : Nat) (x0 : Int32) (x1 : Int32) (x2 : Int32) (z : ds_St) : ds_call (d + 1) j_Sea_goesTo [.int x0, .int x1, .int x2] z = ds_nn (ds_Rw ds_c_Sea_goesTo ds_u_Sea_goesTo (ds_call d) 0 [some (.int x0), some (.int x1), some (.int x2), none] [] z) := rfl
set_option maxRecDepth 100000 in
theorem c_Sea_greatestDivisor (d : Nat) (x0 : Int64) (x2 : Int64) (z : ds_St) : ds_call (d + 1) j_Sea_greatestDivisor [.long x0, .long x2] z = ds_nn (ds_Rw ds_c_Sea_greatestDivisor ds_u_Sea_greatestDivisor (ds_call d) 0 [some (.long x0), none, some (.long x2), none, none, none, none, none, none, none, none] [] z) := rfl
set_option maxRecDepth 100000 in
theorem c_Sea_hasSea (d : Nat) (x0 : Nat) (z : ds_St) : ds_call (d + 1) j_Sea_hasSea [.ref x0] z = ds_nn (ds_Rw ds_c_Sea_hasSea ds_u_Sea_hasSea (ds_call d) 0 [some (.ref x0)] [] z) := rfl
set_option maxRecDepth 100000 in
theorem c_Sea_image (d : Nat) (x0 : Nat) (z : ds_St) : ds_call (d + 1) j_Sea_image [.ref x0] z = ds_nn (ds_Rw ds_c_Sea_image ds_u_Sea_image (ds_call d) 0 [some (.ref x0)] [] z) := rfl
set_option maxRecDepth 100000 in
theorem c_Sea_inSea (d : Nat) (x0 : Nat) (x1 : Int32) (x2 : Int32) (x3 : Int32) (z : ds_St) : ds_call (d + 1) j_Sea_inSea [.ref x0, .int x1, .int x2, .int x3] z = ds_nn (ds_Rw ds_c_Sea_inSea ds_u_Sea_inSea (ds_call d) 0 [some (.ref x0), some (.int x1), some (.int x2), some (.int x3)] [] z) := rfl
set_option maxRecDepth 100000 in
theorem c_Sea_isDecade (d : Nat) (x0 : Int32) (x1 : Int32) (z : ds_St) : ds_call (d + 1) j_Sea_isDecade [.int x0, .int x1] z = ds_nn (ds_Rw ds_c_Sea_isDecade ds_u_Sea_isDecade (ds_call d) 0 [some (.int x0), some (.int x1)] [] z) := rfl
set_option maxRecDepth 100000 in
theorem c_Sea_isGood (d : Nat) (x0 : Int32) (z : ds_St) : ds_call (d + 1) j_Sea_isGood [.int x0] z = ds_nn (ds_Rw ds_c_Sea_isGood ds_u_Sea_isGood (ds_call d) 0 [some (.int x0)] [] z) := rfl
set_option maxRecDepth 100000 in
theorem c_Sea_isInDeck (d : Nat) (x0 : Nat) (x1 : Int32) (z : ds_St) : ds_call (d + 1) j_Sea_isInDeck [.ref x0, .int x1] z = ds_nn (ds_Rw ds_c_Sea_isInDeck ds_u_Sea_isInDeck (ds_call d) 0 [some (.ref x0), some (.int x1)] [] z) := rfl
set_option maxRecDepth 100000 in
theorem c_Sea_isIsland (d : Nat) (x0 : Nat) (x1 : Int32) (z : ds_St) : ds_call (d + 1) j_Sea_isIsland [.ref x0, .int x1] z = ds_nn (ds_Rw ds_c_Sea_isIsland ds_u_Sea_isIsland (ds_call d) 0 [some (.ref x0), some (.int x1)] [] z) := rfl
set_option maxRecDepth 100000 in
theorem c_Sea_isMove (d : Nat) (x0 : Nat) (x1 : Int32) (z : ds_St) : ds_call (d + 1) j_Sea_isMove [.ref x0, .int x1] z = ds_nn (ds_Rw ds_c_Sea_isMove ds_u_Sea_isMove (ds_call d) 0 [some (.ref x0), some (.int x1)] [] z) := rfl
set_option maxRecDepth 100000 in
theorem c_Sea_isPlace (d : Nat) (x0 : Nat) (x1 : Int32) (z : ds_St) : ds_call (d + 1) j_Sea_isPlace [.ref x0, .int x1] z = ds_nn (ds_Rw ds_c_Sea_isPlace ds_u_Sea_isPlace (ds_call d) 0 [some (.ref x0), some (.int x1)] [] z) := rfl
set_option maxRecDepth 100000 in
theorem c_Sea_island (d : Nat) (x0 : Nat) (x1 : Int32) (x2 : Int32) (z : ds_St) : ds_call (d + 1) j_Sea_island [.ref x0, .int x1, .int x2] z = ds_nn (ds_Rw ds_c_Sea_island ds_u_Sea_island (ds_call d) 0 [some (.ref x0), some (.int x1), some (.int x2)] [] z) := rfl
set_option maxRecDepth 100000 in
theorem c_Sea_journey (d : Nat) (x0 : Nat) (x1 : Int32) (x2 : Int32) (z : ds_St) : ds_call (d + 1) j_Sea_journey [.ref x0, .int x1, .int x2] z = ds_nn (ds_Rw ds_c_Sea_journey ds_u_Sea_journey (ds_call d) 0 [some (.ref x0), some (.int x1), some (.int x2), none] [] z) := rfl
set_option maxRecDepth 100000 in
theorem c_Sea_judge (d : Nat) (x0 : Nat) (z : ds_St) : ds_call (d + 1) j_Sea_judge [.ref x0] z = ds_nn (ds_Rw ds_c_Sea_judge ds_u_Sea_judge (ds_call d) 0 [some (.ref x0), none] [] z) := rfl
set_option maxRecDepth 100000 in
theorem c_Sea_lay (d : Nat) (x0 : Nat) (z : ds_St) : ds_call (d + 1) j_Sea_lay [.ref x0] z = ds_nn (ds_Rw ds_c_Sea_lay ds_u_Sea_lay (ds_call d) 0 [some (.ref x0)] [] z) := rfl
set_option maxRecDepth 100000 in
theorem c_Sea_led (d : Nat) (x0 : Nat) (x1 : Int32) (z : ds_St) : ds_call (d + 1) j_Sea_led [.ref x0, .int x1] z = ds_nn (ds_Rw ds_c_Sea_led ds_u_Sea_led (ds_call d) 0 [some (.ref x0), some (.int x1), none, none] [] z) := rfl
set_option maxRecDepth 100000 in
theorem c_Sea_look (d : Nat) (x0 : Nat) (x1 : Int32) (z : ds_St) : ds_call (d + 1) j_Sea_look [.ref x0, .int x1] z = ds_nn (ds_Rw ds_c_Sea_look ds_u_Sea_look (ds_call d) 0 [some (.ref x0), some (.int x1)] [] z) := rfl
set_option maxRecDepth 100000 in
theorem c_Sea_lowestTerms (d : Nat) (x0 : Int64) (x2 : Int64) (x4 : Int32) (z : ds_St) : ds_call (d + 1) j_Sea_lowestTerms [.long x0, .long x2, .int x4] z = ds_nn (ds_Rw ds_c_Sea_lowestTerms ds_u_Sea_lowestTerms (ds_call d) 0 [some (.long x0), none, some (.long x2), none, some (.int x4), none, none] [] z) := rfl
set_option maxRecDepth 100000 in
theorem c_Sea_makePlan (d : Nat) (x0 : Nat) (x1 : Int32) (z : ds_St) : ds_call (d + 1) j_Sea_makePlan [.ref x0, .int x1] z = ds_nn (ds_Rw ds_c_Sea_makePlan ds_u_Sea_makePlan (ds_call d) 0 [some (.ref x0), some (.int x1)] [] z) := rfl
set_option maxRecDepth 100000 in
theorem c_Sea_makeTwo (d : Nat) (x0 : Nat) (x1 : Int32) (x2 : Int32) (z : ds_St) : ds_call (d + 1) j_Sea_makeTwo [.ref x0, .int x1, .int x2] z = ds_nn (ds_Rw ds_c_Sea_makeTwo ds_u_Sea_makeTwo (ds_call d) 0 [some (.ref x0), some (.int x1), some (.int x2)] [] z) := rfl
set_option maxRecDepth 100000 in
theorem c_Sea_moveAt (d : Nat) (x0 : Nat) (x1 : Int32) (x2 : Int32) (x3 : Int32) (z : ds_St) : ds_call (d + 1) j_Sea_moveAt [.ref x0, .int x1, .int x2, .int x3] z = ds_nn (ds_Rw ds_c_Sea_moveAt ds_u_Sea_moveAt (ds_call d) 0 [some (.ref x0), some (.int x1), some (.int x2), some (.int x3)] [] z) := rfl
set_option maxRecDepth 100000 in
theorem c_Sea_moveOfRow (d : Nat) (x0 : Nat) (x1 : Int32) (x2 : Int32) (z : ds_St) : ds_call (d + 1) j_Sea_moveOfRow [.ref x0, .int x1, .int x2] z = ds_nn (ds_Rw ds_c_Sea_moveOfRow ds_u_Sea_moveOfRow (ds_call d) 0 [some (.ref x0), some (.int x1), some (.int x2), none, none, none] [] z) := rfl
set_option maxRecDepth 100000 in
theorem c_Sea_movesOf (d : Nat) (x0 : Int32) (z : ds_St) : ds_call (d + 1) j_Sea_movesOf [.int x0] z = ds_nn (ds_Rw ds_c_Sea_movesOf ds_u_Sea_movesOf (ds_call d) 0 [some (.int x0)] [] z) := rfl
set_option maxRecDepth 100000 in
theorem c_Sea_nearest (d : Nat) (x0 : Nat) (x1 : Int32) (x2 : Int32) (z : ds_St) : ds_call (d + 1) j_Sea_nearest [.ref x0, .int x1, .int x2] z = ds_nn (ds_Rw ds_c_Sea_nearest ds_u_Sea_nearest (ds_call d) 0 [some (.ref x0), some (.int x1), some (.int x2), none] [] z) := rfl
set_option maxRecDepth 100000 in
theorem c_Sea_odds (d : Nat) (x0 : Nat) (x1 : Int32) (x2 : Int32) (x3 : Int32) (x4 : Int32) (z : ds_St) : ds_call (d + 1) j_Sea_odds [.ref x0, .int x1, .int x2, .int x3, .int x4] z = ds_nn (ds_Rw ds_c_Sea_odds ds_u_Sea_odds (ds_call d) 0 [some (.ref x0), some (.int x1), some (.int x2), some (.int x3), some (.int x4)] [] z) := rfl
set_option maxRecDepth 100000 in
theorem c_Sea_palm (d : Nat) (x0 : Nat) (x1 : Int32) (z : ds_St) : ds_call (d + 1) j_Sea_palm [.ref x0, .int x1] z = ds_nn (ds_Rw ds_c_Sea_palm ds_u_Sea_palm (ds_call d) 0 [some (.ref x0), some (.int x1)] [] z) := rfl
set_option maxRecDepth 100000 in
theorem c_Sea_people (d : Nat) (x0 : Nat) (x1 : Int32) (z : ds_St) : ds_call (d + 1) j_Sea_people [.ref x0, .int x1] z = ds_nn (ds_Rw ds_c_Sea_people ds_u_Sea_people (ds_call d) 0 [some (.ref x0), some (.int x1), none] [] z) := rfl
set_option maxRecDepth 100000 in
theorem c_Sea_placesNext (d : Nat) (x0 : Nat) (x1 : Int32) (z : ds_St) : ds_call (d + 1) j_Sea_placesNext [.ref x0, .int x1] z = ds_nn (ds_Rw ds_c_Sea_placesNext ds_u_Sea_placesNext (ds_call d) 0 [some (.ref x0), some (.int x1), none, none, none] [] z) := rfl
set_option maxRecDepth 100000 in
theorem c_Sea_planned (d : Nat) (x0 : Nat) (x1 : Int32) (x2 : Int32) (z : ds_St) : ds_call (d + 1) j_Sea_planned [.ref x0, .int x1, .int x2] z = ds_nn (ds_Rw ds_c_Sea_planned ds_u_Sea_planned (ds_call d) 0 [some (.ref x0), some (.int x1), some (.int x2)] [] z) := rfl
set_option maxRecDepth 100000 in
theorem c_Sea_plannedTrades (d : Nat) (x0 : Nat) (x1 : Int32) (z : ds_St) : ds_call (d + 1) j_Sea_plannedTrades [.ref x0, .int x1] z = ds_nn (ds_Rw ds_c_Sea_plannedTrades ds_u_Sea_plannedTrades (ds_call d) 0 [some (.ref x0), some (.int x1)] [] z) := rfl
set_option maxRecDepth 100000 in
theorem c_Sea_playGame (d : Nat) (x0 : Nat) (x1 : Int32) (x2 : Int32) (z : ds_St) : ds_call (d + 1) j_Sea_playGame [.ref x0, .int x1, .int x2] z = ds_nn (ds_Rw ds_c_Sea_playGame ds_u_Sea_playGame (ds_call d) 0 [some (.ref x0), some (.int x1), some (.int x2), none, none] [] z) := rfl
set_option maxRecDepth 100000 in
theorem c_Sea_put (d : Nat) (x0 : Nat) (x1 : Int32) (x2 : Int32) (z : ds_St) : ds_call (d + 1) j_Sea_put [.ref x0, .int x1, .int x2] z = ds_nn (ds_Rw ds_c_Sea_put ds_u_Sea_put (ds_call d) 0 [some (.ref x0), some (.int x1), some (.int x2)] [] z) := rfl
set_option maxRecDepth 100000 in
theorem c_Sea_reckonChances (d : Nat) (x0 : Nat) (x1 : Int32) (x2 : Int32) (z : ds_St) : ds_call (d + 1) j_Sea_reckonChances [.ref x0, .int x1, .int x2] z = ds_nn (ds_Rw ds_c_Sea_reckonChances ds_u_Sea_reckonChances (ds_call d) 0 [some (.ref x0), some (.int x1), some (.int x2), none] [] z) := rfl
set_option maxRecDepth 100000 in
theorem c_Sea_refuse (d : Nat) (x0 : Nat) (x1 : Int32) (z : ds_St) : ds_call (d + 1) j_Sea_refuse [.ref x0, .int x1] z = ds_nn (ds_Rw ds_c_Sea_refuse ds_u_Sea_refuse (ds_call d) 0 [some (.ref x0), some (.int x1)] [] z) := rfl
set_option maxRecDepth 100000 in
theorem c_Sea_rest (d : Nat) (x0 : Nat) (x1 : Int32) (x2 : Int32) (z : ds_St) : ds_call (d + 1) j_Sea_rest [.ref x0, .int x1, .int x2] z = ds_nn (ds_Rw ds_c_Sea_rest ds_u_Sea_rest (ds_call d) 0 [some (.ref x0), some (.int x1), some (.int x2)] [] z) := rfl
set_option maxRecDepth 100000 in
theorem c_Sea_rests (d : Nat) (x0 : Nat) (x1 : Int32) (x2 : Int32) (z : ds_St) : ds_call (d + 1) j_Sea_rests [.ref x0, .int x1, .int x2] z = ds_nn (ds_Rw ds_c_Sea_rests ds_u_Sea_rests (ds_call d) 0 [some (.ref x0), some (.int x1), some (.int x2)] [] z) := rfl
set_option maxRecDepth 100000 in
theorem c_Sea_rowFits (d : Nat) (x0 : Nat) (x1 : Int32) (x2 : Int32) (z : ds_St) : ds_call (d + 1) j_Sea_rowFits [.ref x0, .int x1, .int x2] z = ds_nn (ds_Rw ds_c_Sea_rowFits ds_u_Sea_rowFits (ds_call d) 0 [some (.ref x0), some (.int x1), some (.int x2), none, none, none] [] z) := rfl
set_option maxRecDepth 100000 in
theorem c_Sea_rowsOfMoves (d : Nat) (x0 : Nat) (x1 : Int32) (z : ds_St) : ds_call (d + 1) j_Sea_rowsOfMoves [.ref x0, .int x1] z = ds_nn (ds_Rw ds_c_Sea_rowsOfMoves ds_u_Sea_rowsOfMoves (ds_call d) 0 [some (.ref x0), some (.int x1), none, none] [] z) := rfl
set_option maxRecDepth 100000 in
theorem c_Sea_run (d : Nat) (x0 : Nat) (z : ds_St) : ds_call (d + 1) j_Sea_run [.ref x0] z = ds_nn (ds_Rw ds_c_Sea_run ds_u_Sea_run (ds_call d) 0 [some (.ref x0)] [] z) := rfl
set_option maxRecDepth 100000 in
theorem c_Sea_runAt (d : Nat) (x0 : Nat) (x1 : Int32) (z : ds_St) : ds_call (d + 1) j_Sea_runAt [.ref x0, .int x1] z = ds_nn (ds_Rw ds_c_Sea_runAt ds_u_Sea_runAt (ds_call d) 0 [some (.ref x0), some (.int x1)] [] z) := rfl
set_option maxRecDepth 100000 in
theorem c_Sea_sea (d : Nat) (x0 : Nat) (x1 : Int32) (z : ds_St) : ds_call (d + 1) j_Sea_sea [.ref x0, .int x1] z = ds_nn (ds_Rw ds_c_Sea_sea ds_u_Sea_sea (ds_call d) 0 [some (.ref x0), some (.int x1)] [] z) := rfl
set_option maxRecDepth 100000 in
theorem c_Sea_size (d : Nat) (x0 : Nat) (x1 : Int32) (z : ds_St) : ds_call (d + 1) j_Sea_size [.ref x0, .int x1] z = ds_nn (ds_Rw ds_c_Sea_size ds_u_Sea_size (ds_call d) 0 [some (.ref x0), some (.int x1)] [] z) := rfl
set_option maxRecDepth 100000 in
theorem c_Sea_spell (d : Nat) (x0 : Int64) (x2 : Int32) (z : ds_St) : ds_call (d + 1) j_Sea_spell [.long x0, .int x2] z = ds_nn (ds_Rw ds_c_Sea_spell ds_u_Sea_spell (ds_call d) 0 [some (.long x0), none, some (.int x2)] [] z) := rfl
set_option maxRecDepth 100000 in
theorem c_Sea_sumYears (d : Nat) (x0 : Nat) (x1 : Int32) (x2 : Int32) (x3 : Int32) (x4 : Int32) (z : ds_St) : ds_call (d + 1) j_Sea_sumYears [.ref x0, .int x1, .int x2, .int x3, .int x4] z = ds_nn (ds_Rw ds_c_Sea_sumYears ds_u_Sea_sumYears (ds_call d) 0 [some (.ref x0), some (.int x1), some (.int x2), some (.int x3), some (.int x4), none, none, none, none, none] [] z) := rfl
set_option maxRecDepth 100000 in
theorem c_Sea_three (d : Nat) (x0 : Nat) (x1 : Int32) (x2 : Int32) (x3 : Int32) (z : ds_St) : ds_call (d + 1) j_Sea_three [.ref x0, .int x1, .int x2, .int x3] z = ds_nn (ds_Rw ds_c_Sea_three ds_u_Sea_three (ds_call d) 0 [some (.ref x0), some (.int x1), some (.int x2), some (.int x3)] [] z) := rfl
set_option maxRecDepth 100000 in
theorem c_Sea_together (d : Nat) (x0 : Nat) (x1 : Int32) (x2 : Int32) (z : ds_St) : ds_call (d + 1) j_Sea_together [.ref x0, .int x1, .int x2] z = ds_nn (ds_Rw ds_c_Sea_together ds_u_Sea_together (ds_call d) 0 [some (.ref x0), some (.int x1), some (.int x2)] [] z) := rfl
set_option maxRecDepth 100000 in
theorem c_Sea_togetherAt (d : Nat) (x0 : Nat) (x1 : Int32) (x2 : Int32) (x3 : Int32) (z : ds_St) : ds_call (d + 1) j_Sea_togetherAt [.ref x0, .int x1, .int x2, .int x3] z = ds_nn (ds_Rw ds_c_Sea_togetherAt ds_u_Sea_togetherAt (ds_call d) 0 [some (.ref x0), some (.int x1), some (.int x2), some (.int x3)] [] z) := rfl
set_option maxRecDepth 100000 in
theorem c_Sea_trade (d : Nat) (x0 : Nat) (x1 : Int32) (x2 : Int32) (z : ds_St) : ds_call (d + 1) j_Sea_trade [.ref x0, .int x1, .int x2] z = ds_nn (ds_Rw ds_c_Sea_trade ds_u_Sea_trade (ds_call d) 0 [some (.ref x0), some (.int x1), some (.int x2)] [] z) := rfl
set_option maxRecDepth 100000 in
theorem c_Sea_trades (d : Nat) (x0 : Nat) (z : ds_St) : ds_call (d + 1) j_Sea_trades [.ref x0] z = ds_nn (ds_Rw ds_c_Sea_trades ds_u_Sea_trades (ds_call d) 0 [some (.ref x0)] [] z) := rfl
set_option maxRecDepth 100000 in
theorem c_Sea_tradesBy (d : Nat) (x0 : Nat) (x1 : Int32) (z : ds_St) : ds_call (d + 1) j_Sea_tradesBy [.ref x0, .int x1] z = ds_nn (ds_Rw ds_c_Sea_tradesBy ds_u_Sea_tradesBy (ds_call d) 0 [some (.ref x0), some (.int x1)] [] z) := rfl
set_option maxRecDepth 100000 in
theorem c_Sea_trouble (d : Nat) (x0 : Nat) (z : ds_St) : ds_call (d + 1) j_Sea_trouble [.ref x0] z = ds_nn (ds_Rw ds_c_Sea_trouble ds_u_Sea_trouble (ds_call d) 0 [some (.ref x0)] [] z) := rfl
set_option maxRecDepth 100000 in
theorem c_Sea_undo (d : Nat) (x0 : Nat) (z : ds_St) : ds_call (d + 1) j_Sea_undo [.ref x0] z = ds_nn (ds_Rw ds_c_Sea_undo ds_u_Sea_undo (ds_call d) 0 [some (.ref x0)] [] z) := rfl
set_option maxRecDepth 100000 in
theorem c_Sea_wars (d : Nat) (x0 : Nat) (z : ds_St) : ds_call (d + 1) j_Sea_wars [.ref x0] z = ds_nn (ds_Rw ds_c_Sea_wars ds_u_Sea_wars (ds_call d) 0 [some (.ref x0)] [] z) := rfl
set_option maxRecDepth 100000 in
theorem c_Sea_where (d : Nat) (x0 : Nat) (z : ds_St) : ds_call (d + 1) j_Sea_where [.ref x0] z = ds_nn (ds_Rw ds_c_Sea_where ds_u_Sea_where (ds_call d) 0 [some (.ref x0)] [] z) := rfl
set_option maxRecDepth 100000 in
theorem c_Sea_wishes (d : Nat) (x0 : Nat) (z : ds_St) : ds_call (d + 1) j_Sea_wishes [.ref x0] z = ds_nn (ds_Rw ds_c_Sea_wishes ds_u_Sea_wishes (ds_call d) 0 [some (.ref x0)] [] z) := rfl
set_option maxRecDepth 100000 in
theorem c_Sea_yearOf (d : Nat) (x0 : Nat) (x1 : Int32) (x2 : Int32) (z : ds_St) : ds_call (d + 1) j_Sea_yearOf [.ref x0, .int x1, .int x2] z = ds_nn (ds_Rw ds_c_Sea_yearOf ds_u_Sea_yearOf (ds_call d) 0 [some (.ref x0), some (.int x1), some (.int x2), none] [] z) := rfl
set_option maxRecDepth 100000 in
theorem c_Mod_after (d : Nat) (x0 : Nat) (x1 : Nat) (x2 : Int32) (x3 : Int32) (z : ds_St) : ds_call (d + 1) j_Mod_after [.ref x0, .ref x1, .int x2, .int x3] z = ds_nn (ds_Rw ds_c_Mod_after ds_u_Mod_after (ds_call d) 0 [some (.ref x0), some (.ref x1), some (.int x2), some (.int x3)] [] z) := rfl
set_option maxRecDepth 100000 in
theorem c_Mod_again (d : Nat) (x0 : Nat) (z : ds_St) : ds_call (d + 1) j_Mod_again [.ref x0] z = ds_nn (ds_Rw ds_c_Mod_again ds_u_Mod_again (ds_call d) 0 [some (.ref x0)] [] z) := rfl
set_option maxRecDepth 100000 in
theorem c_Mod_alike (d : Nat) (x0 : Nat) (x1 : Int32) (x2 : Int32) (z : ds_St) : ds_call (d + 1) j_Mod_alike [.ref x0, .int x1, .int x2] z = ds_nn (ds_Rw ds_c_Mod_alike ds_u_Mod_alike (ds_call d) 0 [some (.ref x0), some (.int x1), some (.int x2), none, none, none, none, none, none] [] z) := rfl
set_option maxRecDepth 100000 in
theorem c_Mod_allWays (d : Nat) (x0 : Nat) (x1 : Int32) (z : ds_St) : ds_call (d + 1) j_Mod_allWays [.ref x0, .int x1] z = ds_nn (ds_Rw ds_c_Mod_allWays ds_u_Mod_allWays (ds_call d) 0 [some (.ref x0), some (.int x1), none, none, none] [] z) := rfl
set_option maxRecDepth 100000 in
theorem c_Mod_areBeside (d : Nat) (x0 : Nat) (x1 : Int32) (x2 : Int32) (x3 : Int32) (z : ds_St) : ds_call (d + 1) j_Mod_areBeside [.ref x0, .int x1, .int x2, .int x3] z = ds_nn (ds_Rw ds_c_Mod_areBeside ds_u_Mod_areBeside (ds_call d) 0 [some (.ref x0), some (.int x1), some (.int x2), some (.int x3), none, none] [] z) := rfl
set_option maxRecDepth 100000 in
theorem c_Mod_areGoods (d : Nat) (x0 : Nat) (x1 : Int32) (x2 : Int32) (z : ds_St) : ds_call (d + 1) j_Mod_areGoods [.ref x0, .int x1, .int x2] z = ds_nn (ds_Rw ds_c_Mod_areGoods ds_u_Mod_areGoods (ds_call d) 0 [some (.ref x0), some (.int x1), some (.int x2)] [] z) := rfl
set_option maxRecDepth 100000 in
theorem c_Mod_back (d : Nat) (x0 : Nat) (x1 : Int32) (z : ds_St) : ds_call (d + 1) j_Mod_back [.ref x0, .int x1] z = ds_nn (ds_Rw ds_c_Mod_back ds_u_Mod_back (ds_call d) 0 [some (.ref x0), some (.int x1)] [] z) := rfl
set_option maxRecDepth 100000 in
theorem c_Mod_beBeside (d : Nat) (x0 : Nat) (x1 : Nat) (x2 : Int32) (x3 : Int32) (z : ds_St) : ds_call (d + 1) j_Mod_beBeside [.ref x0, .ref x1, .int x2, .int x3] z = ds_nn (ds_Rw ds_c_Mod_beBeside ds_u_Mod_beBeside (ds_call d) 0 [some (.ref x0), some (.ref x1), some (.int x2), some (.int x3)] [] z) := rfl
set_option maxRecDepth 100000 in
theorem c_Mod_begins (d : Nat) (x0 : Nat) (x1 : Nat) (x2 : Int32) (z : ds_St) : ds_call (d + 1) j_Mod_begins [.ref x0, .ref x1, .int x2] z = ds_nn (ds_Rw ds_c_Mod_begins ds_u_Mod_begins (ds_call d) 0 [some (.ref x0), some (.ref x1), some (.int x2)] [] z) := rfl
set_option maxRecDepth 100000 in
theorem c_Mod_beside (d : Nat) (x0 : Nat) (x1 : Int32) (z : ds_St) : ds_call (d + 1) j_Mod_beside [.ref x0, .int x1] z = ds_nn (ds_Rw ds_c_Mod_beside ds_u_Mod_beside (ds_call d) 0 [some (.ref x0), some (.int x1), none, none] [] z) := rfl
set_option maxRecDepth 100000 in
theorem c_Mod_best (d : Nat) (x0 : Nat) (z : ds_St) : ds_call (d + 1) j_Mod_best [.ref x0] z = ds_nn (ds_Rw ds_c_Mod_best ds_u_Mod_best (ds_call d) 0 [some (.ref x0)] [] z) := rfl
set_option maxRecDepth 100000 in
theorem c_Mod_bestMove (d : Nat) (x0 : Nat) (z : ds_St) : ds_call (d + 1) j_Mod_bestMove [.ref x0] z = ds_nn (ds_Rw ds_c_Mod_bestMove ds_u_Mod_bestMove (ds_call d) 0 [some (.ref x0), none, none] [] z) := rfl
set_option maxRecDepth 100000 in
theorem c_Mod_bestTrades (d : Nat) (x0 : Nat) (z : ds_St) : ds_call (d + 1) j_Mod_bestTrades [.ref x0] z = ds_nn (ds_Rw ds_c_Mod_bestTrades ds_u_Mod_bestTrades (ds_call d) 0 [some (.ref x0)] [] z) := rfl
set_option maxRecDepth 100000 in
theorem c_Mod_bestTwo (d : Nat) (x0 : Nat) (z : ds_St) : ds_call (d + 1) j_Mod_bestTwo [.ref x0] z = ds_nn (ds_Rw ds_c_Mod_bestTwo ds_u_Mod_bestTwo (ds_call d) 0 [some (.ref x0), none, none, none, none, none] [] z) := rfl
set_option maxRecDepth 100000 in
theorem c_Mod_can (d : Nat) (x0 : Nat) (x1 : Int32) (x2 : Int32) (z : ds_St) : ds_call (d + 1) j_Mod_can [.ref x0, .int x1, .int x2] z = ds_nn (ds_Rw ds_c_Mod_can ds_u_Mod_can (ds_call d) 0 [some (.ref x0), some (.int x1), some (.int x2), none, none, none, none, none] [] z) := rfl
set_option maxRecDepth 100000 in
theorem c_Mod_card (d : Nat) (x0 : Nat) (x1 : Int32) (z : ds_St) : ds_call (d + 1) j_Mod_card [.ref x0, .int x1] z = ds_nn (ds_Rw ds_c_Mod_card ds_u_Mod_card (ds_call d) 0 [some (.ref x0), some (.int x1)] [] z) := rfl
set_option maxRecDepth 100000 in
theorem c_Mod_copy (d : Nat) (x0 : Nat) (x1 : Int32) (x2 : Nat) (x3 : Int32) (x4 : Int32) (z : ds_St) : ds_call (d + 1) j_Mod_copy [.ref x0, .int x1, .ref x2, .int x3, .int x4] z = ds_nn (ds_Rw ds_c_Mod_copy ds_u_Mod_copy (ds_call d) 0 [some (.ref x0), some (.int x1), some (.ref x2), some (.int x3), some (.int x4), none] [] z) := rfl
set_option maxRecDepth 100000 in
theorem c_Mod_crowd (d : Nat) (x0 : Nat) (z : ds_St) : ds_call (d + 1) j_Mod_crowd [.ref x0] z = ds_nn (ds_Rw ds_c_Mod_crowd ds_u_Mod_crowd (ds_call d) 0 [some (.ref x0), none, none, none, none] [] z) := rfl
set_option maxRecDepth 100000 in
theorem c_Mod_cycle (d : Nat) (x0 : Nat) (x1 : Int32) (z : ds_St) : ds_call (d + 1) j_Mod_cycle [.ref x0, .int x1] z = ds_nn (ds_Rw ds_c_Mod_cycle ds_u_Mod_cycle (ds_call d) 0 [some (.ref x0), some (.int x1)] [] z) := rfl
set_option maxRecDepth 100000 in
theorem c_Mod_deal (d : Nat) (x0 : Nat) (x1 : Int32) (z : ds_St) : ds_call (d + 1) j_Mod_deal [.ref x0, .int x1] z = ds_nn (ds_Rw ds_c_Mod_deal ds_u_Mod_deal (ds_call d) 0 [some (.ref x0), some (.int x1)] [] z) := rfl
set_option maxRecDepth 100000 in
theorem c_Mod_decade (d : Nat) (x0 : Nat) (x1 : Int32) (x2 : Int32) (z : ds_St) : ds_call (d + 1) j_Mod_decade [.ref x0, .int x1, .int x2] z = ds_nn (ds_Rw ds_c_Mod_decade ds_u_Mod_decade (ds_call d) 0 [some (.ref x0), some (.int x1), some (.int x2), none] [] z) := rfl
set_option maxRecDepth 100000 in
theorem c_Mod_decadeOf (d : Nat) (x0 : Nat) (x1 : Int32) (x2 : Int32) (x3 : Int32) (z : ds_St) : ds_call (d + 1) j_Mod_decadeOf [.ref x0, .int x1, .int x2, .int x3] z = ds_nn (ds_Rw ds_c_Mod_decadeOf ds_u_Mod_decadeOf (ds_call d) 0 [some (.ref x0), some (.int x1), some (.int x2), some (.int x3), none] [] z) := rfl
set_option maxRecDepth 100000 in
theorem c_Mod_decadeWhy (d : Nat) (x0 : Nat) (x1 : Int32) (x2 : Int32) (x3 : Int32) (z : ds_St) : ds_call (d + 1) j_Mod_decadeWhy [.ref x0, .int x1, .int x2, .int x3] z = ds_nn (ds_Rw ds_c_Mod_decadeWhy ds_u_Mod_decadeWhy (ds_call d) 0 [some (.ref x0), some (.int x1), some (.int x2), some (.int x3)] [] z) := rfl
set_option maxRecDepth 100000 in
theorem c_Mod_decadeWishes (d : Nat) (x0 : Nat) (x1 : Int32) (x2 : Int32) (z : ds_St) : ds_call (d + 1) j_Mod_decadeWishes [.ref x0, .int x1, .int x2] z = ds_nn (ds_Rw ds_c_Mod_decadeWishes ds_u_Mod_decadeWishes (ds_call d) 0 [some (.ref x0), some (.int x1), some (.int x2), none] [] z) := rfl
set_option maxRecDepth 100000 in
theorem c_Mod_exchange (d : Nat) (x0 : Nat) (z : ds_St) : ds_call (d + 1) j_Mod_exchange [.ref x0] z = ds_nn (ds_Rw ds_c_Mod_exchange ds_u_Mod_exchange (ds_call d) 0 [some (.ref x0), none, none, none, none, none] [] z) := rfl
set_option maxRecDepth 100000 in
theorem c_Mod_familyLine (d : Nat) (x0 : Nat) (z : ds_St) : ds_call (d + 1) j_Mod_familyLine [.ref x0] z = ds_nn (ds_Rw ds_c_Mod_familyLine ds_u_Mod_familyLine (ds_call d) 0 [some (.ref x0), none, none, none] [] z) := rfl
set_option maxRecDepth 100000 in
theorem c_Mod_fault (d : Nat) (x0 : Nat) (z : ds_St) : ds_call (d + 1) j_Mod_fault [.ref x0] z = ds_nn (ds_Rw ds_c_Mod_fault ds_u_Mod_fault (ds_call d) 0 [some (.ref x0)] [] z) := rfl
set_option maxRecDepth 100000 in
theorem c_Mod_feed (d : Nat) (x0 : Nat) (x1 : Int32) (x2 : Int32) (x3 : Int32) (x4 : Int32) (x5 : Int32) (z : ds_St) : ds_call (d + 1) j_Mod_feed [.ref x0, .int x1, .int x2, .int x3, .int x4, .int x5] z = ds_nn (ds_Rw ds_c_Mod_feed ds_u_Mod_feed (ds_call d) 0 [some (.ref x0), some (.int x1), some (.int x2), some (.int x3), some (.int x4), some (.int x5), none, none] [] z) := rfl
set_option maxRecDepth 100000 in
theorem c_Mod_fewest (d : Nat) (x0 : Nat) (x1 : Int32) (x2 : Int32) (z : ds_St) : ds_call (d + 1) j_Mod_fewest [.ref x0, .int x1, .int x2] z = ds_nn (ds_Rw ds_c_Mod_fewest ds_u_Mod_fewest (ds_call d) 0 [some (.ref x0), some (.int x1), some (.int x2)] [] z) := rfl
set_option maxRecDepth 100000 in
theorem c_Mod_find (d : Nat) (x0 : Nat) (z : ds_St) : ds_call (d + 1) j_Mod_find [.ref x0] z = ds_nn (ds_Rw ds_c_Mod_find ds_u_Mod_find (ds_call d) 0 [some (.ref x0), none, none, none] [] z) := rfl
set_option maxRecDepth 100000 in
theorem c_Mod_fitAt (d : Nat) (x0 : Nat) (x1 : Int32) (x2 : Int32) (z : ds_St) : ds_call (d + 1) j_Mod_fitAt [.ref x0, .int x1, .int x2] z = ds_nn (ds_Rw ds_c_Mod_fitAt ds_u_Mod_fitAt (ds_call d) 0 [some (.ref x0), some (.int x1), some (.int x2)] [] z) := rfl
set_option maxRecDepth 100000 in
theorem c_Mod_fits (d : Nat) (x0 : Nat) (x1 : Int32) (z : ds_St) : ds_call (d + 1) j_Mod_fits [.ref x0, .int x1] z = ds_nn (ds_Rw ds_c_Mod_fits ds_u_Mod_fits (ds_call d) 0 [some (.ref x0), some (.int x1)] [] z) := rfl
set_option maxRecDepth 100000 in
theorem c_Mod_gain (d : Nat) (x0 : Nat) (x1 : Int32) (x2 : Int32) (x3 : Int32) (x4 : Int32) (z : ds_St) : ds_call (d + 1) j_Mod_gain [.ref x0, .int x1, .int x2, .int x3, .int x4] z = ds_nn (ds_Rw ds_c_Mod_gain ds_u_Mod_gain (ds_call d) 0 [some (.ref x0), some (.int x1), some (.int x2), some (.int x3), some (.int x4)] [] z) := rfl
set_option maxRecDepth 100000 in
theorem c_Mod_gainOf (d : Nat) (x0 : Nat) (x1 : Int32) (x2 : Int32) (x3 : Int32) (x4 : Int32) (z : ds_St) : ds_call (d + 1) j_Mod_gainOf [.ref x0, .int x1, .int x2, .int x3, .int x4] z = ds_nn (ds_Rw ds_c_Mod_gainOf ds_u_Mod_gainOf (ds_call d) 0 [some (.ref x0), some (.int x1), some (.int x2), some (.int x3), some (.int x4)] [] z) := rfl
set_option maxRecDepth 100000 in
theorem c_Mod_goThrough (d : Nat) (x0 : Nat) (x1 : Int32) (x2 : Int32) (x3 : Int32) (z : ds_St) : ds_call (d + 1) j_Mod_goThrough [.ref x0, .int x1, .int x2, .int x3] z = ds_nn (ds_Rw ds_c_Mod_goThrough ds_u_Mod_goThrough (ds_call d) 0 [some (.ref x0), some (.int x1), some (.int x2), some (.int x3), none, none, none] [] z) := rfl
set_option maxRecDepth 100000 in
theorem c_Mod_goesTo (d : Nat) (x0 : Int32) (x1 : Int32) (x2 : Int32) (z : ds_St) : ds_call (d + 1) j_Mod_goesTo [.int x0, .int x1, .int x2] z = ds_nn (ds_Rw ds_c_Mod_goesTo ds_u_Mod_goesTo (ds_call d) 0 [some (.int x0), some (.int x1), some (.int x2), none, none] [] z) := rfl
set_option maxRecDepth 100000 in
theorem c_Mod_good (d : Nat) (x0 : Nat) (z : ds_St) : ds_call (d + 1) j_Mod_good [.ref x0] z = ds_nn (ds_Rw ds_c_Mod_good ds_u_Mod_good (ds_call d) 0 [some (.ref x0)] [] z) := rfl
set_option maxRecDepth 100000 in
theorem c_Mod_goodPassed (d : Nat) (x0 : Nat) (z : ds_St) : ds_call (d + 1) j_Mod_goodPassed [.ref x0] z = ds_nn (ds_Rw ds_c_Mod_goodPassed ds_u_Mod_goodPassed (ds_call d) 0 [some (.ref x0)] [] z) := rfl
set_option maxRecDepth 100000 in
theorem c_Mod_hasBit (d : Nat) (x0 : Int32) (x1 : Int32) (z : ds_St) : ds_call (d + 1) j_Mod_hasBit [.int x0, .int x1] z = ds_nn (ds_Rw ds_c_Mod_hasBit ds_u_Mod_hasBit (ds_call d) 0 [some (.int x0), some (.int x1)] [] z) := rfl
set_option maxRecDepth 100000 in
theorem c_Mod_image (d : Nat) (x0 : Nat) (z : ds_St) : ds_call (d + 1) j_Mod_image [.ref x0] z = ds_nn (ds_Rw ds_c_Mod_image ds_u_Mod_image (ds_call d) 0 [some (.ref x0)] [] z) := rfl
set_option maxRecDepth 100000 in
theorem c_Mod_in (d : Nat) (x0 : Int32) (x1 : Int32) (x2 : Int32) (z : ds_St) : ds_call (d + 1) j_Mod_in [.int x0, .int x1, .int x2] z = ds_nn (ds_Rw ds_c_Mod_in ds_u_Mod_in (ds_call d) 0 [some (.int x0), some (.int x1), some (.int x2)] [] z) := rfl
set_option maxRecDepth 100000 in
theorem c_Mod_inSea (d : Nat) (x0 : Nat) (x1 : Int32) (x2 : Int32) (x3 : Int32) (z : ds_St) : ds_call (d + 1) j_Mod_inSea [.ref x0, .int x1, .int x2, .int x3] z = ds_nn (ds_Rw ds_c_Mod_inSea ds_u_Mod_inSea (ds_call d) 0 [some (.ref x0), some (.int x1), some (.int x2), some (.int x3), none, none, none] [] z) := rfl
set_option maxRecDepth 100000 in
theorem c_Mod_isCorner (d : Nat) (x0 : Nat) (x1 : Int32) (z : ds_St) : ds_call (d + 1) j_Mod_isCorner [.ref x0, .int x1] z = ds_nn (ds_Rw ds_c_Mod_isCorner ds_u_Mod_isCorner (ds_call d) 0 [some (.ref x0), some (.int x1), none, none] [] z) := rfl
set_option maxRecDepth 100000 in
theorem c_Mod_isDigit (d : Nat) (x0 : Int32) (z : ds_St) : ds_call (d + 1) j_Mod_isDigit [.int x0] z = ds_nn (ds_Rw ds_c_Mod_isDigit ds_u_Mod_isDigit (ds_call d) 0 [some (.int x0)] [] z) := rfl
set_option maxRecDepth 100000 in
theorem c_Mod_isGoal (d : Nat) (x0 : Nat) (x1 : Int32) (z : ds_St) : ds_call (d + 1) j_Mod_isGoal [.ref x0, .int x1] z = ds_nn (ds_Rw ds_c_Mod_isGoal ds_u_Mod_isGoal (ds_call d) 0 [some (.ref x0), some (.int x1), none, none, none, none] [] z) := rfl
set_option maxRecDepth 100000 in
theorem c_Mod_isInDeck (d : Nat) (x0 : Nat) (x1 : Int32) (z : ds_St) : ds_call (d + 1) j_Mod_isInDeck [.ref x0, .int x1] z = ds_nn (ds_Rw ds_c_Mod_isInDeck ds_u_Mod_isInDeck (ds_call d) 0 [some (.ref x0), some (.int x1)] [] z) := rfl
set_option maxRecDepth 100000 in
theorem c_Mod_isInSea (d : Nat) (x0 : Nat) (x1 : Nat) (x2 : Int32) (z : ds_St) : ds_call (d + 1) j_Mod_isInSea [.ref x0, .ref x1, .int x2] z = ds_nn (ds_Rw ds_c_Mod_isInSea ds_u_Mod_isInSea (ds_call d) 0 [some (.ref x0), some (.ref x1), some (.int x2)] [] z) := rfl
set_option maxRecDepth 100000 in
theorem c_Mod_isIsland (d : Nat) (x0 : Nat) (x1 : Int32) (z : ds_St) : ds_call (d + 1) j_Mod_isIsland [.ref x0, .int x1] z = ds_nn (ds_Rw ds_c_Mod_isIsland ds_u_Mod_isIsland (ds_call d) 0 [some (.ref x0), some (.int x1)] [] z) := rfl
set_option maxRecDepth 100000 in
theorem c_Mod_isJoker (d : Nat) (x0 : Nat) (x1 : Int32) (z : ds_St) : ds_call (d + 1) j_Mod_isJoker [.ref x0, .int x1] z = ds_nn (ds_Rw ds_c_Mod_isJoker ds_u_Mod_isJoker (ds_call d) 0 [some (.ref x0), some (.int x1)] [] z) := rfl
set_option maxRecDepth 100000 in
theorem c_Mod_isMove (d : Nat) (x0 : Nat) (x1 : Int32) (z : ds_St) : ds_call (d + 1) j_Mod_isMove [.ref x0, .int x1] z = ds_nn (ds_Rw ds_c_Mod_isMove ds_u_Mod_isMove (ds_call d) 0 [some (.ref x0), some (.int x1)] [] z) := rfl
set_option maxRecDepth 100000 in
theorem c_Mod_isNot (d : Nat) (x0 : Nat) (x1 : Int32) (z : ds_St) : ds_call (d + 1) j_Mod_isNot [.ref x0, .int x1] z = ds_nn (ds_Rw ds_c_Mod_isNot ds_u_Mod_isNot (ds_call d) 0 [some (.ref x0), some (.int x1)] [] z) := rfl
set_option maxRecDepth 100000 in
theorem c_Mod_isRest (d : Nat) (x0 : Nat) (x1 : Int32) (x2 : Int32) (z : ds_St) : ds_call (d + 1) j_Mod_isRest [.ref x0, .int x1, .int x2] z = ds_nn (ds_Rw ds_c_Mod_isRest ds_u_Mod_isRest (ds_call d) 0 [some (.ref x0), some (.int x1), some (.int x2), none, none] [] z) := rfl
set_option maxRecDepth 100000 in
theorem c_Mod_isShown (d : Nat) (x0 : Nat) (x1 : Nat) (x2 : Int32) (z : ds_St) : ds_call (d + 1) j_Mod_isShown [.ref x0, .ref x1, .int x2] z = ds_nn (ds_Rw ds_c_Mod_isShown ds_u_Mod_isShown (ds_call d) 0 [some (.ref x0), some (.ref x1), some (.int x2), none] [] z) := rfl
set_option maxRecDepth 100000 in
theorem c_Mod_isSmall (d : Nat) (x0 : Int32) (z : ds_St) : ds_call (d + 1) j_Mod_isSmall [.int x0] z = ds_nn (ds_Rw ds_c_Mod_isSmall ds_u_Mod_isSmall (ds_call d) 0 [some (.int x0)] [] z) := rfl
set_option maxRecDepth 100000 in
theorem c_Mod_isWord (d : Nat) (x0 : Nat) (x1 : Nat) (z : ds_St) : ds_call (d + 1) j_Mod_isWord [.ref x0, .ref x1] z = ds_nn (ds_Rw ds_c_Mod_isWord ds_u_Mod_isWord (ds_call d) 0 [some (.ref x0), some (.ref x1), none, none] [] z) := rfl
set_option maxRecDepth 100000 in
theorem c_Mod_island (d : Nat) (x0 : Nat) (x1 : Int32) (x2 : Int32) (z : ds_St) : ds_call (d + 1) j_Mod_island [.ref x0, .int x1, .int x2] z = ds_nn (ds_Rw ds_c_Mod_island ds_u_Mod_island (ds_call d) 0 [some (.ref x0), some (.int x1), some (.int x2)] [] z) := rfl
set_option maxRecDepth 100000 in
theorem c_Mod_islandHere (d : Nat) (x0 : Nat) (z : ds_St) : ds_call (d + 1) j_Mod_islandHere [.ref x0] z = ds_nn (ds_Rw ds_c_Mod_islandHere ds_u_Mod_islandHere (ds_call d) 0 [some (.ref x0), none] [] z) := rfl
set_option maxRecDepth 100000 in
theorem c_Mod_islandLine (d : Nat) (x0 : Nat) (z : ds_St) : ds_call (d + 1) j_Mod_islandLine [.ref x0] z = ds_nn (ds_Rw ds_c_Mod_islandLine ds_u_Mod_islandLine (ds_call d) 0 [some (.ref x0), none] [] z) := rfl
set_option maxRecDepth 100000 in
theorem c_Mod_islandPassed (d : Nat) (x0 : Nat) (z : ds_St) : ds_call (d + 1) j_Mod_islandPassed [.ref x0] z = ds_nn (ds_Rw ds_c_Mod_islandPassed ds_u_Mod_islandPassed (ds_call d) 0 [some (.ref x0), none] [] z) := rfl
set_option maxRecDepth 100000 in
theorem c_Mod_journey (d : Nat) (x0 : Nat) (x1 : Int32) (x2 : Int32) (z : ds_St) : ds_call (d + 1) j_Mod_journey [.ref x0, .int x1, .int x2] z = ds_nn (ds_Rw ds_c_Mod_journey ds_u_Mod_journey (ds_call d) 0 [some (.ref x0), some (.int x1), some (.int x2)] [] z) := rfl
set_option maxRecDepth 100000 in
theorem c_Mod_judge (d : Nat) (x0 : Nat) (z : ds_St) : ds_call (d + 1) j_Mod_judge [.ref x0] z = ds_nn (ds_Rw ds_c_Mod_judge ds_u_Mod_judge (ds_call d) 0 [some (.ref x0), none] [] z) := rfl
set_option maxRecDepth 100000 in
theorem c_Mod_lay (d : Nat) (x0 : Nat) (z : ds_St) : ds_call (d + 1) j_Mod_lay [.ref x0] z = ds_nn (ds_Rw ds_c_Mod_lay ds_u_Mod_lay (ds_call d) 0 [some (.ref x0)] [] z) := rfl
set_option maxRecDepth 100000 in
theorem c_Mod_layBridges (d : Nat) (x0 : Nat) (x1 : Int32) (z : ds_St) : ds_call (d + 1) j_Mod_layBridges [.ref x0, .int x1] z = ds_nn (ds_Rw ds_c_Mod_layBridges ds_u_Mod_layBridges (ds_call d) 0 [some (.ref x0), some (.int x1), none, none, none] [] z) := rfl
set_option maxRecDepth 100000 in
theorem c_Mod_layDeck (d : Nat) (x0 : Nat) (x1 : Nat) (z : ds_St) : ds_call (d + 1) j_Mod_layDeck [.ref x0, .ref x1] z = ds_nn (ds_Rw ds_c_Mod_layDeck ds_u_Mod_layDeck (ds_call d) 0 [some (.ref x0), some (.ref x1), none] [] z) := rfl
set_option maxRecDepth 100000 in
theorem c_Mod_layPlan (d : Nat) (x0 : Nat) (x1 : Int32) (z : ds_St) : ds_call (d + 1) j_Mod_layPlan [.ref x0, .int x1] z = ds_nn (ds_Rw ds_c_Mod_layPlan ds_u_Mod_layPlan (ds_call d) 0 [some (.ref x0), some (.int x1), none] [] z) := rfl
set_option maxRecDepth 100000 in
theorem c_Mod_layWays (d : Nat) (x0 : Nat) (x1 : Int32) (x2 : Int32) (z : ds_St) : ds_call (d + 1) j_Mod_layWays [.ref x0, .int x1, .int x2] z = ds_nn (ds_Rw ds_c_Mod_layWays ds_u_Mod_layWays (ds_call d) 0 [some (.ref x0), some (.int x1), some (.int x2), none] [] z) := rfl
set_option maxRecDepth 100000 in
theorem c_Mod_led (d : Nat) (x0 : Nat) (x1 : Int32) (z : ds_St) : ds_call (d + 1) j_Mod_led [.ref x0, .int x1] z = ds_nn (ds_Rw ds_c_Mod_led ds_u_Mod_led (ds_call d) 0 [some (.ref x0), some (.int x1), none, none] [] z) := rfl
set_option maxRecDepth 100000 in
theorem c_Mod_look (d : Nat) (x0 : Nat) (x1 : Int32) (z : ds_St) : ds_call (d + 1) j_Mod_look [.ref x0, .int x1] z = ds_nn (ds_Rw ds_c_Mod_look ds_u_Mod_look (ds_call d) 0 [some (.ref x0), some (.int x1)] [] z) := rfl
set_option maxRecDepth 100000 in
theorem c_Mod_lowest (d : Nat) (x0 : Int64) (x2 : Int64) (x4 : Int32) (z : ds_St) : ds_call (d + 1) j_Mod_lowest [.long x0, .long x2, .int x4] z = ds_nn (ds_Rw ds_c_Mod_lowest ds_u_Mod_lowest (ds_call d) 0 [some (.long x0), none, some (.long x2), none, some (.int x4), none, none, none, none, none, none] [] z) := rfl
set_option maxRecDepth 100000 in
theorem c_Mod_makes (d : Nat) (x0 : Nat) (x1 : Nat) (x2 : Int32) (z : ds_St) : ds_call (d + 1) j_Mod_makes [.ref x0, .ref x1, .int x2] z = ds_nn (ds_Rw ds_c_Mod_makes ds_u_Mod_makes (ds_call d) 0 [some (.ref x0), some (.ref x1), some (.int x2), none] [] z) := rfl
set_option maxRecDepth 100000 in
theorem c_Mod_moveAt (d : Nat) (x0 : Nat) (x1 : Int32) (x2 : Int32) (x3 : Int32) (z : ds_St) : ds_call (d + 1) j_Mod_moveAt [.ref x0, .int x1, .int x2, .int x3] z = ds_nn (ds_Rw ds_c_Mod_moveAt ds_u_Mod_moveAt (ds_call d) 0 [some (.ref x0), some (.int x1), some (.int x2), some (.int x3)] [] z) := rfl
set_option maxRecDepth 100000 in
theorem c_Mod_moveOfWay (d : Nat) (x0 : Nat) (x1 : Int32) (z : ds_St) : ds_call (d + 1) j_Mod_moveOfWay [.ref x0, .int x1] z = ds_nn (ds_Rw ds_c_Mod_moveOfWay ds_u_Mod_moveOfWay (ds_call d) 0 [some (.ref x0), some (.int x1), none, none, none] [] z) := rfl
set_option maxRecDepth 100000 in
theorem c_Mod_moved (d : Nat) (x0 : Nat) (x1 : Int32) (x2 : Int32) (z : ds_St) : ds_call (d + 1) j_Mod_moved [.ref x0, .int x1, .int x2] z = ds_nn (ds_Rw ds_c_Mod_moved ds_u_Mod_moved (ds_call d) 0 [some (.ref x0), some (.int x1), some (.int x2), none, none, none] [] z) := rfl
set_option maxRecDepth 100000 in
theorem c_Mod_movesOf (d : Nat) (x0 : Nat) (x1 : Nat) (z : ds_St) : ds_call (d + 1) j_Mod_movesOf [.ref x0, .ref x1] z = ds_nn (ds_Rw ds_c_Mod_movesOf ds_u_Mod_movesOf (ds_call d) 0 [some (.ref x0), some (.ref x1)] [] z) := rfl
set_option maxRecDepth 100000 in
theorem c_Mod_must (d : Nat) (x0 : Nat) (x1 : Nat) (z : ds_St) : ds_call (d + 1) j_Mod_must [.ref x0, .ref x1] z = ds_nn (ds_Rw ds_c_Mod_must ds_u_Mod_must (ds_call d) 0 [some (.ref x0), some (.ref x1)] [] z) := rfl
set_option maxRecDepth 100000 in
theorem c_Mod_mustName (d : Nat) (x0 : Nat) (z : ds_St) : ds_call (d + 1) j_Mod_mustName [.ref x0] z = ds_nn (ds_Rw ds_c_Mod_mustName ds_u_Mod_mustName (ds_call d) 0 [some (.ref x0)] [] z) := rfl
set_option maxRecDepth 100000 in
theorem c_Mod_nearest (d : Nat) (x0 : Nat) (x1 : Int32) (x2 : Int32) (z : ds_St) : ds_call (d + 1) j_Mod_nearest [.ref x0, .int x1, .int x2] z = ds_nn (ds_Rw ds_c_Mod_nearest ds_u_Mod_nearest (ds_call d) 0 [some (.ref x0), some (.int x1), some (.int x2), none, none] [] z) := rfl
set_option maxRecDepth 100000 in
theorem c_Mod_newName (d : Nat) (x0 : Nat) (x1 : Int32) (z : ds_St) : ds_call (d + 1) j_Mod_newName [.ref x0, .int x1] z = ds_nn (ds_Rw ds_c_Mod_newName ds_u_Mod_newName (ds_call d) 0 [some (.ref x0), some (.int x1), none] [] z) := rfl
set_option maxRecDepth 100000 in
theorem c_Mod_next (d : Nat) (x0 : Nat) (z : ds_St) : ds_call (d + 1) j_Mod_next [.ref x0] z = ds_nn (ds_Rw ds_c_Mod_next ds_u_Mod_next (ds_call d) 0 [some (.ref x0), none, none, none] [] z) := rfl
set_option maxRecDepth 100000 in
theorem c_Mod_no (d : Nat) (x0 : Nat) (x1 : Int32) (z : ds_St) : ds_call (d + 1) j_Mod_no [.ref x0, .int x1] z = ds_nn (ds_Rw ds_c_Mod_no ds_u_Mod_no (ds_call d) 0 [some (.ref x0), some (.int x1)] [] z) := rfl
set_option maxRecDepth 100000 in
theorem c_Mod_note (d : Nat) (x0 : Nat) (z : ds_St) : ds_call (d + 1) j_Mod_note [.ref x0] z = ds_nn (ds_Rw ds_c_Mod_note ds_u_Mod_note (ds_call d) 0 [some (.ref x0), none] [] z) := rfl
set_option maxRecDepth 100000 in
theorem c_Mod_number (d : Nat) (x0 : Nat) (x1 : Int32) (x2 : Int32) (z : ds_St) : ds_call (d + 1) j_Mod_number [.ref x0, .int x1, .int x2] z = ds_nn (ds_Rw ds_c_Mod_number ds_u_Mod_number (ds_call d) 0 [some (.ref x0), some (.int x1), some (.int x2), none] [] z) := rfl
set_option maxRecDepth 100000 in
theorem c_Mod_odds (d : Nat) (x0 : Nat) (x1 : Int32) (x2 : Int32) (x3 : Int32) (x4 : Int32) (z : ds_St) : ds_call (d + 1) j_Mod_odds [.ref x0, .int x1, .int x2, .int x3, .int x4] z = ds_nn (ds_Rw ds_c_Mod_odds ds_u_Mod_odds (ds_call d) 0 [some (.ref x0), some (.int x1), some (.int x2), some (.int x3), some (.int x4)] [] z) := rfl
set_option maxRecDepth 100000 in
theorem c_Mod_of (d : Nat) (x0 : Nat) (x1 : Int32) (x2 : Int32) (z : ds_St) : ds_call (d + 1) j_Mod_of [.ref x0, .int x1, .int x2] z = ds_nn (ds_Rw ds_c_Mod_of ds_u_Mod_of (ds_call d) 0 [some (.ref x0), some (.int x1), some (.int x2)] [] z) := rfl
set_option maxRecDepth 100000 in
theorem c_Mod_oneMore (d : Nat) (x0 : Nat) (z : ds_St) : ds_call (d + 1) j_Mod_oneMore [.ref x0] z = ds_nn (ds_Rw ds_c_Mod_oneMore ds_u_Mod_oneMore (ds_call d) 0 [some (.ref x0), none, none] [] z) := rfl
set_option maxRecDepth 100000 in
theorem c_Mod_oneOf (d : Nat) (x0 : Nat) (x1 : Nat) (x2 : Nat) (x3 : Nat) (x4 : Nat) (z : ds_St) : ds_call (d + 1) j_Mod_oneOf [.ref x0, .ref x1, .ref x2, .ref x3, .ref x4] z = ds_nn (ds_Rw ds_c_Mod_oneOf ds_u_Mod_oneOf (ds_call d) 0 [some (.ref x0), some (.ref x1), some (.ref x2), some (.ref x3), some (.ref x4), none] [] z) := rfl
set_option maxRecDepth 100000 in
theorem c_Mod_palm (d : Nat) (x0 : Nat) (x1 : Int32) (z : ds_St) : ds_call (d + 1) j_Mod_palm [.ref x0, .int x1] z = ds_nn (ds_Rw ds_c_Mod_palm ds_u_Mod_palm (ds_call d) 0 [some (.ref x0), some (.int x1), none, none] [] z) := rfl
set_option maxRecDepth 100000 in
theorem c_Mod_people (d : Nat) (x0 : Nat) (x1 : Int32) (z : ds_St) : ds_call (d + 1) j_Mod_people [.ref x0, .int x1] z = ds_nn (ds_Rw ds_c_Mod_people ds_u_Mod_people (ds_call d) 0 [some (.ref x0), some (.int x1), none, none] [] z) := rfl
set_option maxRecDepth 100000 in
theorem c_Mod_placeIn (d : Nat) (x0 : Nat) (x1 : Int32) (z : ds_St) : ds_call (d + 1) j_Mod_placeIn [.ref x0, .int x1] z = ds_nn (ds_Rw ds_c_Mod_placeIn ds_u_Mod_placeIn (ds_call d) 0 [some (.ref x0), some (.int x1), none] [] z) := rfl
set_option maxRecDepth 100000 in
theorem c_Mod_planWhy (d : Nat) (x0 : Nat) (x1 : Int32) (z : ds_St) : ds_call (d + 1) j_Mod_planWhy [.ref x0, .int x1] z = ds_nn (ds_Rw ds_c_Mod_planWhy ds_u_Mod_planWhy (ds_call d) 0 [some (.ref x0), some (.int x1)] [] z) := rfl
set_option maxRecDepth 100000 in
theorem c_Mod_planned (d : Nat) (x0 : Nat) (x1 : Int32) (x2 : Int32) (z : ds_St) : ds_call (d + 1) j_Mod_planned [.ref x0, .int x1, .int x2] z = ds_nn (ds_Rw ds_c_Mod_planned ds_u_Mod_planned (ds_call d) 0 [some (.ref x0), some (.int x1), some (.int x2)] [] z) := rfl
set_option maxRecDepth 100000 in
theorem c_Mod_plannedTrades (d : Nat) (x0 : Nat) (x1 : Int32) (z : ds_St) : ds_call (d + 1) j_Mod_plannedTrades [.ref x0, .int x1] z = ds_nn (ds_Rw ds_c_Mod_plannedTrades ds_u_Mod_plannedTrades (ds_call d) 0 [some (.ref x0), some (.int x1), none] [] z) := rfl
set_option maxRecDepth 100000 in
theorem c_Mod_readLine (d : Nat) (x0 : Nat) (z : ds_St) : ds_call (d + 1) j_Mod_readLine [.ref x0] z = ds_nn (ds_Rw ds_c_Mod_readLine ds_u_Mod_readLine (ds_call d) 0 [some (.ref x0)] [] z) := rfl
set_option maxRecDepth 100000 in
theorem c_Mod_rest (d : Nat) (x0 : Nat) (x1 : Int32) (x2 : Int32) (z : ds_St) : ds_call (d + 1) j_Mod_rest [.ref x0, .int x1, .int x2] z = ds_nn (ds_Rw ds_c_Mod_rest ds_u_Mod_rest (ds_call d) 0 [some (.ref x0), some (.int x1), some (.int x2)] [] z) := rfl
set_option maxRecDepth 100000 in
theorem c_Mod_rests (d : Nat) (x0 : Nat) (x1 : Int32) (x2 : Int32) (z : ds_St) : ds_call (d + 1) j_Mod_rests [.ref x0, .int x1, .int x2] z = ds_nn (ds_Rw ds_c_Mod_rests ds_u_Mod_rests (ds_call d) 0 [some (.ref x0), some (.int x1), some (.int x2)] [] z) := rfl
set_option maxRecDepth 100000 in
theorem c_Mod_restsOf (d : Nat) (x0 : Nat) (x1 : Int32) (x2 : Int32) (z : ds_St) : ds_call (d + 1) j_Mod_restsOf [.ref x0, .int x1, .int x2] z = ds_nn (ds_Rw ds_c_Mod_restsOf ds_u_Mod_restsOf (ds_call d) 0 [some (.ref x0), some (.int x1), some (.int x2), none, none, none] [] z) := rfl
set_option maxRecDepth 100000 in
theorem c_Mod_room (d : Nat) (x0 : Nat) (z : ds_St) : ds_call (d + 1) j_Mod_room [.ref x0] z = ds_nn (ds_Rw ds_c_Mod_room ds_u_Mod_room (ds_call d) 0 [some (.ref x0)] [] z) := rfl
set_option maxRecDepth 100000 in
theorem c_Mod_run (d : Nat) (x0 : Nat) (z : ds_St) : ds_call (d + 1) j_Mod_run [.ref x0] z = ds_nn (ds_Rw ds_c_Mod_run ds_u_Mod_run (ds_call d) 0 [some (.ref x0)] [] z) := rfl
set_option maxRecDepth 100000 in
theorem c_Mod_runAt (d : Nat) (x0 : Nat) (x1 : Int32) (z : ds_St) : ds_call (d + 1) j_Mod_runAt [.ref x0, .int x1] z = ds_nn (ds_Rw ds_c_Mod_runAt ds_u_Mod_runAt (ds_call d) 0 [some (.ref x0), some (.int x1), none, none, none, none] [] z) := rfl
set_option maxRecDepth 100000 in
theorem c_Mod_runFrom (d : Nat) (x0 : Nat) (x1 : Int32) (z : ds_St) : ds_call (d + 1) j_Mod_runFrom [.ref x0, .int x1] z = ds_nn (ds_Rw ds_c_Mod_runFrom ds_u_Mod_runFrom (ds_call d) 0 [some (.ref x0), some (.int x1), none, none, none] [] z) := rfl
set_option maxRecDepth 100000 in
theorem c_Mod_runNow (d : Nat) (x0 : Nat) (z : ds_St) : ds_call (d + 1) j_Mod_runNow [.ref x0] z = ds_nn (ds_Rw ds_c_Mod_runNow ds_u_Mod_runNow (ds_call d) 0 [some (.ref x0), none, none] [] z) := rfl
set_option maxRecDepth 100000 in
theorem c_Mod_same (d : Nat) (x0 : Nat) (x1 : Int32) (x2 : Int32) (z : ds_St) : ds_call (d + 1) j_Mod_same [.ref x0, .int x1, .int x2] z = ds_nn (ds_Rw ds_c_Mod_same ds_u_Mod_same (ds_call d) 0 [some (.ref x0), some (.int x1), some (.int x2), none, none, none] [] z) := rfl
set_option maxRecDepth 100000 in
theorem c_Mod_sea (d : Nat) (x0 : Nat) (x1 : Int32) (z : ds_St) : ds_call (d + 1) j_Mod_sea [.ref x0, .int x1] z = ds_nn (ds_Rw ds_c_Mod_sea ds_u_Mod_sea (ds_call d) 0 [some (.ref x0), some (.int x1), none] [] z) := rfl
set_option maxRecDepth 100000 in
theorem c_Mod_seaLine (d : Nat) (x0 : Nat) (z : ds_St) : ds_call (d + 1) j_Mod_seaLine [.ref x0] z = ds_nn (ds_Rw ds_c_Mod_seaLine ds_u_Mod_seaLine (ds_call d) 0 [some (.ref x0)] [] z) := rfl
set_option maxRecDepth 100000 in
theorem c_Mod_seek (d : Nat) (x0 : Nat) (x1 : Int32) (x2 : Int32) (x3 : Int32) (z : ds_St) : ds_call (d + 1) j_Mod_seek [.ref x0, .int x1, .int x2, .int x3] z = ds_nn (ds_Rw ds_c_Mod_seek ds_u_Mod_seek (ds_call d) 0 [some (.ref x0), some (.int x1), some (.int x2), some (.int x3), none, none, none, none] [] z) := rfl
set_option maxRecDepth 100000 in
theorem c_Mod_seekFits (d : Nat) (x0 : Nat) (x1 : Int32) (z : ds_St) : ds_call (d + 1) j_Mod_seekFits [.ref x0, .int x1] z = ds_nn (ds_Rw ds_c_Mod_seekFits ds_u_Mod_seekFits (ds_call d) 0 [some (.ref x0), some (.int x1)] [] z) := rfl
set_option maxRecDepth 100000 in
theorem c_Mod_seekPlace (d : Nat) (x0 : Nat) (x1 : Int32) (x2 : Int32) (z : ds_St) : ds_call (d + 1) j_Mod_seekPlace [.ref x0, .int x1, .int x2] z = ds_nn (ds_Rw ds_c_Mod_seekPlace ds_u_Mod_seekPlace (ds_call d) 0 [some (.ref x0), some (.int x1), some (.int x2)] [] z) := rfl
set_option maxRecDepth 100000 in
theorem c_Mod_seekTwo (d : Nat) (x0 : Nat) (x1 : Int32) (x2 : Int32) (z : ds_St) : ds_call (d + 1) j_Mod_seekTwo [.ref x0, .int x1, .int x2] z = ds_nn (ds_Rw ds_c_Mod_seekTwo ds_u_Mod_seekTwo (ds_call d) 0 [some (.ref x0), some (.int x1), some (.int x2)] [] z) := rfl
set_option maxRecDepth 100000 in
theorem c_Mod_showsLine (d : Nat) (x0 : Nat) (z : ds_St) : ds_call (d + 1) j_Mod_showsLine [.ref x0] z = ds_nn (ds_Rw ds_c_Mod_showsLine ds_u_Mod_showsLine (ds_call d) 0 [some (.ref x0), none] [] z) := rfl
set_option maxRecDepth 100000 in
theorem c_Mod_size (d : Nat) (x0 : Nat) (x1 : Int32) (z : ds_St) : ds_call (d + 1) j_Mod_size [.ref x0, .int x1] z = ds_nn (ds_Rw ds_c_Mod_size ds_u_Mod_size (ds_call d) 0 [some (.ref x0), some (.int x1)] [] z) := rfl
set_option maxRecDepth 100000 in
theorem c_Mod_stateOf (d : Nat) (x0 : Nat) (x1 : Int32) (x2 : Int32) (x3 : Int32) (z : ds_St) : ds_call (d + 1) j_Mod_stateOf [.ref x0, .int x1, .int x2, .int x3] z = ds_nn (ds_Rw ds_c_Mod_stateOf ds_u_Mod_stateOf (ds_call d) 0 [some (.ref x0), some (.int x1), some (.int x2), some (.int x3)] [] z) := rfl
set_option maxRecDepth 100000 in
theorem c_Mod_takesWord (d : Nat) (x0 : Nat) (x1 : Nat) (z : ds_St) : ds_call (d + 1) j_Mod_takesWord [.ref x0, .ref x1] z = ds_nn (ds_Rw ds_c_Mod_takesWord ds_u_Mod_takesWord (ds_call d) 0 [some (.ref x0), some (.ref x1)] [] z) := rfl
set_option maxRecDepth 100000 in
theorem c_Mod_three (d : Nat) (x0 : Nat) (x1 : Int32) (x2 : Int32) (x3 : Int32) (z : ds_St) : ds_call (d + 1) j_Mod_three [.ref x0, .int x1, .int x2, .int x3] z = ds_nn (ds_Rw ds_c_Mod_three ds_u_Mod_three (ds_call d) 0 [some (.ref x0), some (.int x1), some (.int x2), some (.int x3)] [] z) := rfl
set_option maxRecDepth 100000 in
theorem c_Mod_thrown (d : Nat) (x0 : Nat) (z : ds_St) : ds_call (d + 1) j_Mod_thrown [.ref x0] z = ds_nn (ds_Rw ds_c_Mod_thrown ds_u_Mod_thrown (ds_call d) 0 [some (.ref x0)] [] z) := rfl
set_option maxRecDepth 100000 in
theorem c_Mod_together (d : Nat) (x0 : Nat) (x1 : Int32) (x2 : Int32) (z : ds_St) : ds_call (d + 1) j_Mod_together [.ref x0, .int x1, .int x2] z = ds_nn (ds_Rw ds_c_Mod_together ds_u_Mod_together (ds_call d) 0 [some (.ref x0), some (.int x1), some (.int x2)] [] z) := rfl
set_option maxRecDepth 100000 in
theorem c_Mod_togetherAt (d : Nat) (x0 : Nat) (x1 : Int32) (x2 : Int32) (x3 : Int32) (z : ds_St) : ds_call (d + 1) j_Mod_togetherAt [.ref x0, .int x1, .int x2, .int x3] z = ds_nn (ds_Rw ds_c_Mod_togetherAt ds_u_Mod_togetherAt (ds_call d) 0 [some (.ref x0), some (.int x1), some (.int x2), some (.int x3)] [] z) := rfl
set_option maxRecDepth 100000 in
theorem c_Mod_trade (d : Nat) (x0 : Nat) (x1 : Int32) (x2 : Int32) (z : ds_St) : ds_call (d + 1) j_Mod_trade [.ref x0, .int x1, .int x2] z = ds_nn (ds_Rw ds_c_Mod_trade ds_u_Mod_trade (ds_call d) 0 [some (.ref x0), some (.int x1), some (.int x2)] [] z) := rfl
set_option maxRecDepth 100000 in
theorem c_Mod_tradeOf (d : Nat) (x0 : Nat) (x1 : Nat) (x2 : Int32) (x3 : Int32) (z : ds_St) : ds_call (d + 1) j_Mod_tradeOf [.ref x0, .ref x1, .int x2, .int x3] z = ds_nn (ds_Rw ds_c_Mod_tradeOf ds_u_Mod_tradeOf (ds_call d) 0 [some (.ref x0), some (.ref x1), some (.int x2), some (.int x3)] [] z) := rfl
set_option maxRecDepth 100000 in
theorem c_Mod_trades (d : Nat) (x0 : Nat) (z : ds_St) : ds_call (d + 1) j_Mod_trades [.ref x0] z = ds_nn (ds_Rw ds_c_Mod_trades ds_u_Mod_trades (ds_call d) 0 [some (.ref x0)] [] z) := rfl
set_option maxRecDepth 100000 in
theorem c_Mod_tradesBy (d : Nat) (x0 : Nat) (x1 : Int32) (x2 : Int32) (z : ds_St) : ds_call (d + 1) j_Mod_tradesBy [.ref x0, .int x1, .int x2] z = ds_nn (ds_Rw ds_c_Mod_tradesBy ds_u_Mod_tradesBy (ds_call d) 0 [some (.ref x0), some (.int x1), some (.int x2)] [] z) := rfl
set_option maxRecDepth 100000 in
theorem c_Mod_tradesIn (d : Nat) (x0 : Nat) (x1 : Nat) (x2 : Int32) (z : ds_St) : ds_call (d + 1) j_Mod_tradesIn [.ref x0, .ref x1, .int x2] z = ds_nn (ds_Rw ds_c_Mod_tradesIn ds_u_Mod_tradesIn (ds_call d) 0 [some (.ref x0), some (.ref x1), some (.int x2), none, none, none] [] z) := rfl
set_option maxRecDepth 100000 in
theorem c_Mod_trouble (d : Nat) (x0 : Nat) (z : ds_St) : ds_call (d + 1) j_Mod_trouble [.ref x0] z = ds_nn (ds_Rw ds_c_Mod_trouble ds_u_Mod_trouble (ds_call d) 0 [some (.ref x0)] [] z) := rfl
set_option maxRecDepth 100000 in
theorem c_Mod_tryFits (d : Nat) (x0 : Nat) (x1 : Int32) (z : ds_St) : ds_call (d + 1) j_Mod_tryFits [.ref x0, .int x1] z = ds_nn (ds_Rw ds_c_Mod_tryFits ds_u_Mod_tryFits (ds_call d) 0 [some (.ref x0), some (.int x1), none, none] [] z) := rfl
set_option maxRecDepth 100000 in
theorem c_Mod_undo (d : Nat) (x0 : Nat) (z : ds_St) : ds_call (d + 1) j_Mod_undo [.ref x0] z = ds_nn (ds_Rw ds_c_Mod_undo ds_u_Mod_undo (ds_call d) 0 [some (.ref x0)] [] z) := rfl
set_option maxRecDepth 100000 in
theorem c_Mod_wars (d : Nat) (x0 : Nat) (z : ds_St) : ds_call (d + 1) j_Mod_wars [.ref x0] z = ds_nn (ds_Rw ds_c_Mod_wars ds_u_Mod_wars (ds_call d) 0 [some (.ref x0), none, none, none] [] z) := rfl
set_option maxRecDepth 100000 in
theorem c_Mod_wayLong (d : Nat) (x0 : Nat) (z : ds_St) : ds_call (d + 1) j_Mod_wayLong [.ref x0] z = ds_nn (ds_Rw ds_c_Mod_wayLong ds_u_Mod_wayLong (ds_call d) 0 [some (.ref x0), none, none] [] z) := rfl
set_option maxRecDepth 100000 in
theorem c_Mod_where (d : Nat) (x0 : Nat) (z : ds_St) : ds_call (d + 1) j_Mod_where [.ref x0] z = ds_nn (ds_Rw ds_c_Mod_where ds_u_Mod_where (ds_call d) 0 [some (.ref x0)] [] z) := rfl
set_option maxRecDepth 100000 in
theorem c_Mod_wishLine (d : Nat) (x0 : Nat) (z : ds_St) : ds_call (d + 1) j_Mod_wishLine [.ref x0] z = ds_nn (ds_Rw ds_c_Mod_wishLine ds_u_Mod_wishLine (ds_call d) 0 [some (.ref x0), none, none, none, none, none, none] [] z) := rfl
set_option maxRecDepth 100000 in
theorem c_Mod_wishes (d : Nat) (x0 : Nat) (z : ds_St) : ds_call (d + 1) j_Mod_wishes [.ref x0] z = ds_nn (ds_Rw ds_c_Mod_wishes ds_u_Mod_wishes (ds_call d) 0 [some (.ref x0)] [] z) := rfl
set_option maxRecDepth 100000 in
theorem c_Mod_wishesIn (d : Nat) (x0 : Nat) (x1 : Nat) (z : ds_St) : ds_call (d + 1) j_Mod_wishesIn [.ref x0, .ref x1] z = ds_nn (ds_Rw ds_c_Mod_wishesIn ds_u_Mod_wishesIn (ds_call d) 0 [some (.ref x0), some (.ref x1), none, none] [] z) := rfl
set_option maxRecDepth 100000 in
theorem c_Mod_wrong (d : Nat) (x0 : Nat) (x1 : Int32) (x2 : Int32) (z : ds_St) : ds_call (d + 1) j_Mod_wrong [.ref x0, .int x1, .int x2] z = ds_nn (ds_Rw ds_c_Mod_wrong ds_u_Mod_wrong (ds_call d) 0 [some (.ref x0), some (.int x1), some (.int x2)] [] z) := rfl
set_option maxRecDepth 100000 in
theorem c_Math_abs (d : Nat) (x0 : Int32) (z : ds_St) : ds_call (d + 1) j_Math_abs [.int x0] z = ds_nn (ds_Rw ds_c_Math_abs ds_u_Math_abs (ds_call d) 0 [some (.int x0)] [] z) := rfl
set_option maxRecDepth 100000 in
theorem c_Math_floorMod (d : Nat) (x0 : Int32) (x1 : Int32) (z : ds_St) : ds_call (d + 1) j_Math_floorMod [.int x0, .int x1] z = ds_nn (ds_Rw ds_c_Math_floorMod ds_u_Math_floorMod (ds_call d) 0 [some (.int x0), some (.int x1), none] [] z) := rfl
set_option maxRecDepth 100000 in
theorem c_Math_max (d : Nat) (x0 : Int32) (x1 : Int32) (z : ds_St) : ds_call (d + 1) j_Math_max [.int x0, .int x1] z = ds_nn (ds_Rw ds_c_Math_max ds_u_Math_max (ds_call d) 0 [some (.int x0), some (.int x1)] [] z) := rfl
set_option maxRecDepth 100000 in
theorem c_Math_maxL (d : Nat) (x0 : Int64) (x2 : Int64) (z : ds_St) : ds_call (d + 1) j_Math_maxL [.long x0, .long x2] z = ds_nn (ds_Rw ds_c_Math_maxL ds_u_Math_maxL (ds_call d) 0 [some (.long x0), none, some (.long x2), none] [] z) := rfl
set_option maxRecDepth 100000 in
theorem c_Math_min (d : Nat) (x0 : Int32) (x1 : Int32) (z : ds_St) : ds_call (d + 1) j_Math_min [.int x0, .int x1] z = ds_nn (ds_Rw ds_c_Math_min ds_u_Math_min (ds_call d) 0 [some (.int x0), some (.int x1)] [] z) := rfl
set_option maxRecDepth 100000 in
theorem c_Math_minL (d : Nat) (x0 : Int64) (x2 : Int64) (z : ds_St) : ds_call (d + 1) j_Math_minL [.long x0, .long x2] z = ds_nn (ds_Rw ds_c_Math_minL ds_u_Math_minL (ds_call d) 0 [some (.long x0), none, some (.long x2), none] [] z) := rfl
set_option maxRecDepth 100000 in
theorem c_Integer_bitCount (d : Nat) (x0 : Int32) (z : ds_St) : ds_call (d + 1) j_Integer_bitCount [.int x0] z = ds_nn (ds_Rw ds_c_Integer_bitCount ds_u_Integer_bitCount (ds_call d) 0 [some (.int x0)] [] z) := rfl
set_option maxRecDepth 100000 in
theorem c_Arrays_fill (d : Nat) (x0 : Nat) (x1 : Int32) (z : ds_St) : ds_call (d + 1) j_Arrays_fill [.ref x0, .int x1] z = ds_nn (ds_Rw ds_c_Arrays_fill ds_u_Arrays_fill (ds_call d) 0 [some (.ref x0), some (.int x1), none, none] [] z) := rfl
set_option maxRecDepth 100000 in
theorem c_Arrays_fillL (d : Nat) (x0 : Nat) (x1 : Int64) (z : ds_St) : ds_call (d + 1) j_Arrays_fillL [.ref x0, .long x1] z = ds_nn (ds_Rw ds_c_Arrays_fillL ds_u_Arrays_fillL (ds_call d) 0 [some (.ref x0), some (.long x1), none, none, none] [] z) := rfl
