theorem ds_picks {big : List Cond} (ws : List Cond) (ps : List Nat) (hp : ws = ps.filterMap (fun i => big[i]?)) : ∀ w ∈ ws, w ∈ big := by
  intro w hw
  rw [hp] at hw
  obtain ⟨i, -, hi⟩ := List.mem_filterMap.mp hw
  exact List.mem_of_getElem? hi
set_option maxRecDepth 100000 in
theorem ds_fl_in : ∀ w ∈ ds_fl.map ds_flw, w ∈ lw_tbl := ds_picks _ [443, 444, 445, 446, 447, 448, 449, 450, 451, 452, 453, 454, 455, 270, 193, 196, 198, 201, 204, 324, 208, 221, 223, 225, 322, 396, 433, 182, 185, 188, 191, 214, 210, 414, 392, 393, 394, 395, 342, 343, 344, 345, 321, 228, 199, 180, 202, 212, 216, 218, 205, 318, 319, 320, 323, 412, 413, 268, 269, 271, 272, 273, 274, 275, 276, 277, 278, 279, 280, 281, 194, 207, 213, 220, 181, 184, 187, 190, 361, 362, 363, 364, 365, 366, 367, 368, 227, 431, 432, 429, 430, 179, 183, 186, 189, 192, 195, 197, 200, 203, 206, 209, 211, 215, 217, 219, 222, 224, 226, 1418, 1427, 1429, 1432, 1433, 1434, 1435, 1436, 1439, 1440, 1441, 1442, 1443, 1444, 1445, 1448, 1449, 1450, 1451, 1452, 1457, 1417, 1428, 1419, 1420, 1422, 1421, 1425, 1424, 1423, 1430, 1426, 1431, 1437, 1438, 1447, 1446, 1453, 1454, 1456, 1455, 1458, 1459, 1460, 1461] rfl
theorem ds_fc {α : Type} {P : α → Prop} {a : α} {l : List α} (h : P a) (t : ∀ x ∈ l, P x) : ∀ x ∈ a :: l, P x := List.forall_mem_cons.mpr ⟨h, t⟩
theorem ds_fn {α : Type} {P : α → Prop} : ∀ x ∈ ([] : List α), P x := fun _ h => absurd h List.not_mem_nil
def ds_PC (e : ds_MT) : Prop := Cond.code e.1 e.2.1 e.2.2.1 e.2.2.2.1 ∈ lw_tbl
set_option maxRecDepth 100000 in
theorem ds_pc_Chances_add : ds_PC ds_m_Chances_add := List.mem_of_getElem? (i := 1056) rfl
set_option maxRecDepth 100000 in
theorem ds_pc_Chances_begin : ds_PC ds_m_Chances_begin := List.mem_of_getElem? (i := 1041) rfl
set_option maxRecDepth 100000 in
theorem ds_pc_Chances_difference : ds_PC ds_m_Chances_difference := List.mem_of_getElem? (i := 1084) rfl
set_option maxRecDepth 100000 in
theorem ds_pc_Chances_goOn : ds_PC ds_m_Chances_goOn := List.mem_of_getElem? (i := 1049) rfl
set_option maxRecDepth 100000 in
theorem ds_pc_Chances_rowsAhead : ds_PC ds_m_Chances_rowsAhead := List.mem_of_getElem? (i := 1075) rfl
set_option maxRecDepth 100000 in
theorem ds_pc_Chances_rowsTo : ds_PC ds_m_Chances_rowsTo := List.mem_of_getElem? (i := 1060) rfl
set_option maxRecDepth 100000 in
theorem ds_pc_Chart_allTrades : ds_PC ds_m_Chart_allTrades := List.mem_of_getElem? (i := 823) rfl
set_option maxRecDepth 100000 in
theorem ds_pc_Chart_besidePlaces : ds_PC ds_m_Chart_besidePlaces := List.mem_of_getElem? (i := 795) rfl
set_option maxRecDepth 100000 in
theorem ds_pc_Chart_bridges : ds_PC ds_m_Chart_bridges := List.mem_of_getElem? (i := 902) rfl
set_option maxRecDepth 100000 in
theorem ds_pc_Chart_countWars : ds_PC ds_m_Chart_countWars := List.mem_of_getElem? (i := 844) rfl
set_option maxRecDepth 100000 in
theorem ds_pc_Chart_countWishes : ds_PC ds_m_Chart_countWishes := List.mem_of_getElem? (i := 914) rfl
set_option maxRecDepth 100000 in
theorem ds_pc_Chart_firstOfLength : ds_PC ds_m_Chart_firstOfLength := List.mem_of_getElem? (i := 893) rfl
set_option maxRecDepth 100000 in
theorem ds_pc_Chart_isJokerAt : ds_PC ds_m_Chart_isJokerAt := List.mem_of_getElem? (i := 852) rfl
set_option maxRecDepth 100000 in
theorem ds_pc_Chart_isOfRank : ds_PC ds_m_Chart_isOfRank := List.mem_of_getElem? (i := 870) rfl
set_option maxRecDepth 100000 in
theorem ds_pc_Chart_isWar : ds_PC ds_m_Chart_isWar := List.mem_of_getElem? (i := 848) rfl
set_option maxRecDepth 100000 in
theorem ds_pc_Chart_islandAt : ds_PC ds_m_Chart_islandAt := List.mem_of_getElem? (i := 799) rfl
set_option maxRecDepth 100000 in
theorem ds_pc_Chart_longestBehind : ds_PC ds_m_Chart_longestBehind := List.mem_of_getElem? (i := 874) rfl
set_option maxRecDepth 100000 in
theorem ds_pc_Chart_longestRun : ds_PC ds_m_Chart_longestRun := List.mem_of_getElem? (i := 865) rfl
set_option maxRecDepth 100000 in
theorem ds_pc_Chart_mates : ds_PC ds_m_Chart_mates := List.mem_of_getElem? (i := 786) rfl
set_option maxRecDepth 100000 in
theorem ds_pc_Chart_mostPeople : ds_PC ds_m_Chart_mostPeople := List.mem_of_getElem? (i := 923) rfl
set_option maxRecDepth 100000 in
theorem ds_pc_Chart_personsAt : ds_PC ds_m_Chart_personsAt := List.mem_of_getElem? (i := 927) rfl
set_option maxRecDepth 100000 in
theorem ds_pc_Chart_placeBit : ds_PC ds_m_Chart_placeBit := List.mem_of_getElem? (i := 790) rfl
set_option maxRecDepth 100000 in
theorem ds_pc_Chart_placesOfGood : ds_PC ds_m_Chart_placesOfGood := List.mem_of_getElem? (i := 938) rfl
set_option maxRecDepth 100000 in
theorem ds_pc_Chart_placesWithoutJokers : ds_PC ds_m_Chart_placesWithoutJokers := List.mem_of_getElem? (i := 906) rfl
set_option maxRecDepth 100000 in
theorem ds_pc_Chart_rankAbove : ds_PC ds_m_Chart_rankAbove := List.mem_of_getElem? (i := 879) rfl
set_option maxRecDepth 100000 in
theorem ds_pc_Chart_runIsland : ds_PC ds_m_Chart_runIsland := List.mem_of_getElem? (i := 888) rfl
set_option maxRecDepth 100000 in
theorem ds_pc_Chart_show : ds_PC ds_m_Chart_show := List.mem_of_getElem? (i := 778) rfl
set_option maxRecDepth 100000 in
theorem ds_pc_Chart_touching : ds_PC ds_m_Chart_touching := List.mem_of_getElem? (i := 807) rfl
set_option maxRecDepth 100000 in
theorem ds_pc_Chart_tradeBetween : ds_PC ds_m_Chart_tradeBetween := List.mem_of_getElem? (i := 831) rfl
set_option maxRecDepth 100000 in
theorem ds_pc_Chart_tradesOf : ds_PC ds_m_Chart_tradesOf := List.mem_of_getElem? (i := 827) rfl
set_option maxRecDepth 100000 in
theorem ds_pc_Deck_cardAt : ds_PC ds_m_Deck_cardAt := List.mem_of_getElem? (i := 766) rfl
set_option maxRecDepth 100000 in
theorem ds_pc_Deck_isOrdered : ds_PC ds_m_Deck_isOrdered := List.mem_of_getElem? (i := 1009) rfl
set_option maxRecDepth 100000 in
theorem ds_pc_Deck_makeMove : ds_PC ds_m_Deck_makeMove := List.mem_of_getElem? (i := 959) rfl
set_option maxRecDepth 100000 in
theorem ds_pc_Deck_order : ds_PC ds_m_Deck_order := List.mem_of_getElem? (i := 724) rfl
set_option maxRecDepth 100000 in
theorem ds_pc_Deck_placeOf : ds_PC ds_m_Deck_placeOf := List.mem_of_getElem? (i := 753) rfl
set_option maxRecDepth 100000 in
theorem ds_pc_Deck_putUnder : ds_PC ds_m_Deck_putUnder := List.mem_of_getElem? (i := 1308) rfl
set_option maxRecDepth 100000 in
theorem ds_pc_Deck_readFrom : ds_PC ds_m_Deck_readFrom := List.mem_of_getElem? (i := 1324) rfl
set_option maxRecDepth 100000 in
theorem ds_pc_Deck_swap : ds_PC ds_m_Deck_swap := List.mem_of_getElem? (i := 1207) rfl
set_option maxRecDepth 100000 in
theorem ds_pc_Deck_take : ds_PC ds_m_Deck_take := List.mem_of_getElem? (i := 1187) rfl
set_option maxRecDepth 100000 in
theorem ds_pc_Deck_takeOut : ds_PC ds_m_Deck_takeOut := List.mem_of_getElem? (i := 1299) rfl
set_option maxRecDepth 100000 in
theorem ds_pc_Deck_writeTo : ds_PC ds_m_Deck_writeTo := List.mem_of_getElem? (i := 1291) rfl
set_option maxRecDepth 100000 in
theorem ds_pc_Game_countRests : ds_PC ds_m_Game_countRests := List.mem_of_getElem? (i := 1233) rfl
set_option maxRecDepth 100000 in
theorem ds_pc_Game_firstRest : ds_PC ds_m_Game_firstRest := List.mem_of_getElem? (i := 1250) rfl
set_option maxRecDepth 100000 in
theorem ds_pc_Game_gainOf : ds_PC ds_m_Game_gainOf := List.mem_of_getElem? (i := 1241) rfl
set_option maxRecDepth 100000 in
theorem ds_pc_Game_isRest : ds_PC ds_m_Game_isRest := List.mem_of_getElem? (i := 1237) rfl
set_option maxRecDepth 100000 in
theorem ds_pc_Game_setGain : ds_PC ds_m_Game_setGain := List.mem_of_getElem? (i := 1228) rfl
set_option maxRecDepth 100000 in
theorem ds_pc_Reader_advance : ds_PC ds_m_Reader_advance := List.mem_of_getElem? (i := 513) rfl
set_option maxRecDepth 100000 in
theorem ds_pc_Reader_blame : ds_PC ds_m_Reader_blame := List.mem_of_getElem? (i := 600) rfl
set_option maxRecDepth 100000 in
theorem ds_pc_Reader_byteAt : ds_PC ds_m_Reader_byteAt := List.mem_of_getElem? (i := 517) rfl
set_option maxRecDepth 100000 in
theorem ds_pc_Reader_checkLine : ds_PC ds_m_Reader_checkLine := List.mem_of_getElem? (i := 596) rfl
set_option maxRecDepth 100000 in
theorem ds_pc_Reader_goesOn : ds_PC ds_m_Reader_goesOn := List.mem_of_getElem? (i := 693) rfl
set_option maxRecDepth 100000 in
theorem ds_pc_Reader_handOver : ds_PC ds_m_Reader_handOver := List.mem_of_getElem? (i := 720) rfl
set_option maxRecDepth 100000 in
theorem ds_pc_Reader_isAtName : ds_PC ds_m_Reader_isAtName := List.mem_of_getElem? (i := 633) rfl
set_option maxRecDepth 100000 in
theorem ds_pc_Reader_isDigit : ds_PC ds_m_Reader_isDigit := List.mem_of_getElem? (i := 531) rfl
set_option maxRecDepth 100000 in
theorem ds_pc_Reader_isFull : ds_PC ds_m_Reader_isFull := List.mem_of_getElem? (i := 604) rfl
set_option maxRecDepth 100000 in
theorem ds_pc_Reader_isLetter : ds_PC ds_m_Reader_isLetter := List.mem_of_getElem? (i := 520) rfl
set_option maxRecDepth 100000 in
theorem ds_pc_Reader_lengthen : ds_PC ds_m_Reader_lengthen := List.mem_of_getElem? (i := 490) rfl
set_option maxRecDepth 100000 in
theorem ds_pc_Reader_namedIsland : ds_PC ds_m_Reader_namedIsland := List.mem_of_getElem? (i := 668) rfl
set_option maxRecDepth 100000 in
theorem ds_pc_Reader_owner : ds_PC ds_m_Reader_owner := List.mem_of_getElem? (i := 637) rfl
set_option maxRecDepth 100000 in
theorem ds_pc_Reader_place : ds_PC ds_m_Reader_place := List.mem_of_getElem? (i := 716) rfl
set_option maxRecDepth 100000 in
theorem ds_pc_Reader_readFamily : ds_PC ds_m_Reader_readFamily := List.mem_of_getElem? (i := 655) rfl
set_option maxRecDepth 100000 in
theorem ds_pc_Reader_readIsland : ds_PC ds_m_Reader_readIsland := List.mem_of_getElem? (i := 625) rfl
set_option maxRecDepth 100000 in
theorem ds_pc_Reader_readLine : ds_PC ds_m_Reader_readLine := List.mem_of_getElem? (i := 539) rfl
set_option maxRecDepth 100000 in
theorem ds_pc_Reader_readOneOf : ds_PC ds_m_Reader_readOneOf := List.mem_of_getElem? (i := 613) rfl
set_option maxRecDepth 100000 in
theorem ds_pc_Reader_readSea : ds_PC ds_m_Reader_readSea := List.mem_of_getElem? (i := 608) rfl
set_option maxRecDepth 100000 in
theorem ds_pc_Reader_readShows : ds_PC ds_m_Reader_readShows := List.mem_of_getElem? (i := 681) rfl
set_option maxRecDepth 100000 in
theorem ds_pc_Reader_readText : ds_PC ds_m_Reader_readText := List.mem_of_getElem? (i := 502) rfl
set_option maxRecDepth 100000 in
theorem ds_pc_Reader_readWhole : ds_PC ds_m_Reader_readWhole := List.mem_of_getElem? (i := 617) rfl
set_option maxRecDepth 100000 in
theorem ds_pc_Reader_readWish : ds_PC ds_m_Reader_readWish := List.mem_of_getElem? (i := 664) rfl
set_option maxRecDepth 100000 in
theorem ds_pc_Reader_takeWhole : ds_PC ds_m_Reader_takeWhole := List.mem_of_getElem? (i := 535) rfl
set_option maxRecDepth 100000 in
theorem ds_pc_Reader_takeWord : ds_PC ds_m_Reader_takeWord := List.mem_of_getElem? (i := 524) rfl
set_option maxRecDepth 100000 in
theorem ds_pc_Reader_tellName : ds_PC ds_m_Reader_tellName := List.mem_of_getElem? (i := 629) rfl
set_option maxRecDepth 100000 in
theorem ds_pc_Search_bringThree : ds_PC ds_m_Search_bringThree := List.mem_of_getElem? (i := 1171) rfl
set_option maxRecDepth 100000 in
theorem ds_pc_Search_bringTo : ds_PC ds_m_Search_bringTo := List.mem_of_getElem? (i := 1099) rfl
set_option maxRecDepth 100000 in
theorem ds_pc_Search_bringTogether : ds_PC ds_m_Search_bringTogether := List.mem_of_getElem? (i := 1159) rfl
set_option maxRecDepth 100000 in
theorem ds_pc_Search_canBe : ds_PC ds_m_Search_canBe := List.mem_of_getElem? (i := 1109) rfl
set_option maxRecDepth 100000 in
theorem ds_pc_Search_isGoal : ds_PC ds_m_Search_isGoal := List.mem_of_getElem? (i := 1120) rfl
set_option maxRecDepth 100000 in
theorem ds_pc_Search_length : ds_PC ds_m_Search_length := List.mem_of_getElem? (i := 1138) rfl
set_option maxRecDepth 100000 in
theorem ds_pc_Search_moveOf : ds_PC ds_m_Search_moveOf := List.mem_of_getElem? (i := 1150) rfl
set_option maxRecDepth 100000 in
theorem ds_pc_Search_pairs : ds_PC ds_m_Search_pairs := List.mem_of_getElem? (i := 1124) rfl
set_option maxRecDepth 100000 in
theorem ds_pc_Search_queueNext : ds_PC ds_m_Search_queueNext := List.mem_of_getElem? (i := 1128) rfl
set_option maxRecDepth 100000 in
theorem ds_pc_Search_seek : ds_PC ds_m_Search_seek := List.mem_of_getElem? (i := 1103) rfl
set_option maxRecDepth 100000 in
theorem ds_pc_Search_stateBehind : ds_PC ds_m_Search_stateBehind := List.mem_of_getElem? (i := 1133) rfl
set_option maxRecDepth 100000 in
theorem ds_pc_Shelf_empty : ds_PC ds_m_Shelf_empty := List.mem_of_getElem? (i := 728) rfl
set_option maxRecDepth 100000 in
theorem ds_pc_Shelf_popInto : ds_PC ds_m_Shelf_popInto := List.mem_of_getElem? (i := 1316) rfl
set_option maxRecDepth 100000 in
theorem ds_pc_Shelf_pushOver : ds_PC ds_m_Shelf_pushOver := List.mem_of_getElem? (i := 1283) rfl
set_option maxRecDepth 100000 in
theorem ds_pc_Shelf_readInto : ds_PC ds_m_Shelf_readInto := List.mem_of_getElem? (i := 1320) rfl
set_option maxRecDepth 100000 in
theorem ds_pc_Shelf_startOf : ds_PC ds_m_Shelf_startOf := List.mem_of_getElem? (i := 1287) rfl
set_option maxRecDepth 100000 in
theorem ds_pc_Told_addFamily : ds_PC ds_m_Told_addFamily := List.mem_of_getElem? (i := 660) rfl
set_option maxRecDepth 100000 in
theorem ds_pc_Told_addIsland : ds_PC ds_m_Told_addIsland := List.mem_of_getElem? (i := 650) rfl
set_option maxRecDepth 100000 in
theorem ds_pc_Told_addShows : ds_PC ds_m_Told_addShows := List.mem_of_getElem? (i := 689) rfl
set_option maxRecDepth 100000 in
theorem ds_pc_Told_addWish : ds_PC ds_m_Told_addWish := List.mem_of_getElem? (i := 677) rfl
set_option maxRecDepth 100000 in
theorem ds_pc_Told_areNear : ds_PC ds_m_Told_areNear := List.mem_of_getElem? (i := 835) rfl
set_option maxRecDepth 100000 in
theorem ds_pc_Told_forget : ds_PC ds_m_Told_forget := List.mem_of_getElem? (i := 509) rfl
set_option maxRecDepth 100000 in
theorem ds_pc_Told_hasWish : ds_PC ds_m_Told_hasWish := List.mem_of_getElem? (i := 672) rfl
set_option maxRecDepth 100000 in
theorem ds_pc_Told_isCorner : ds_PC ds_m_Told_isCorner := List.mem_of_getElem? (i := 709) rfl
set_option maxRecDepth 100000 in
theorem ds_pc_Told_isJoker : ds_PC ds_m_Told_isJoker := List.mem_of_getElem? (i := 856) rfl
set_option maxRecDepth 100000 in
theorem ds_pc_Told_neighbours : ds_PC ds_m_Told_neighbours := List.mem_of_getElem? (i := 705) rfl
set_option maxRecDepth 100000 in
theorem ds_pc_Told_room : ds_PC ds_m_Told_room := List.mem_of_getElem? (i := 685) rfl
set_option maxRecDepth 100000 in
theorem ds_pc_Told_settle : ds_PC ds_m_Told_settle := List.mem_of_getElem? (i := 697) rfl
set_option maxRecDepth 100000 in
theorem ds_pc_Told_worth : ds_PC ds_m_Told_worth := List.mem_of_getElem? (i := 811) rfl
set_option maxRecDepth 100000 in
theorem ds_pc_Sea_addPlan : ds_PC ds_m_Sea_addPlan := List.mem_of_getElem? (i := 955) rfl
set_option maxRecDepth 100000 in
theorem ds_pc_Sea_again : ds_PC ds_m_Sea_again := List.mem_of_getElem? (i := 1005) rfl
set_option maxRecDepth 100000 in
theorem ds_pc_Sea_alike : ds_PC ds_m_Sea_alike := List.mem_of_getElem? (i := 1080) rfl
set_option maxRecDepth 100000 in
theorem ds_pc_Sea_answer : ds_PC ds_m_Sea_answer := List.mem_of_getElem? (i := 732) rfl
set_option maxRecDepth 100000 in
theorem ds_pc_Sea_back : ds_PC ds_m_Sea_back := List.mem_of_getElem? (i := 1332) rfl
set_option maxRecDepth 100000 in
theorem ds_pc_Sea_beside : ds_PC ds_m_Sea_beside := List.mem_of_getElem? (i := 770) rfl
set_option maxRecDepth 100000 in
theorem ds_pc_Sea_best : ds_PC ds_m_Sea_best := List.mem_of_getElem? (i := 1175) rfl
set_option maxRecDepth 100000 in
theorem ds_pc_Sea_bestMove : ds_PC ds_m_Sea_bestMove := List.mem_of_getElem? (i := 1179) rfl
set_option maxRecDepth 100000 in
theorem ds_pc_Sea_bestTrades : ds_PC ds_m_Sea_bestTrades := List.mem_of_getElem? (i := 1191) rfl
set_option maxRecDepth 100000 in
theorem ds_pc_Sea_bestTwo : ds_PC ds_m_Sea_bestTwo := List.mem_of_getElem? (i := 1195) rfl
set_option maxRecDepth 100000 in
theorem ds_pc_Sea_can : ds_PC ds_m_Sea_can := List.mem_of_getElem? (i := 1021) rfl
set_option maxRecDepth 100000 in
theorem ds_pc_Sea_card : ds_PC ds_m_Sea_card := List.mem_of_getElem? (i := 758) rfl
set_option maxRecDepth 100000 in
theorem ds_pc_Sea_chartOf : ds_PC ds_m_Sea_chartOf := List.mem_of_getElem? (i := 774) rfl
set_option maxRecDepth 100000 in
theorem ds_pc_Sea_choice : ds_PC ds_m_Sea_choice := List.mem_of_getElem? (i := 543) rfl
set_option maxRecDepth 100000 in
theorem ds_pc_Sea_crowd : ds_PC ds_m_Sea_crowd := List.mem_of_getElem? (i := 919) rfl
set_option maxRecDepth 100000 in
theorem ds_pc_Sea_cycle : ds_PC ds_m_Sea_cycle := List.mem_of_getElem? (i := 1013) rfl
set_option maxRecDepth 100000 in
theorem ds_pc_Sea_deal : ds_PC ds_m_Sea_deal := List.mem_of_getElem? (i := 1279) rfl
set_option maxRecDepth 100000 in
theorem ds_pc_Sea_decade : ds_PC ds_m_Sea_decade := List.mem_of_getElem? (i := 1254) rfl
set_option maxRecDepth 100000 in
theorem ds_pc_Sea_decadeOf : ds_PC ds_m_Sea_decadeOf := List.mem_of_getElem? (i := 1275) rfl
set_option maxRecDepth 100000 in
theorem ds_pc_Sea_decadeWishes : ds_PC ds_m_Sea_decadeWishes := List.mem_of_getElem? (i := 1271) rfl
set_option maxRecDepth 100000 in
theorem ds_pc_Sea_exchange : ds_PC ds_m_Sea_exchange := List.mem_of_getElem? (i := 1203) rfl
set_option maxRecDepth 100000 in
theorem ds_pc_Sea_fault : ds_PC ds_m_Sea_fault := List.mem_of_getElem? (i := 736) rfl
set_option maxRecDepth 100000 in
theorem ds_pc_Sea_feed : ds_PC ds_m_Sea_feed := List.mem_of_getElem? (i := 486) rfl
set_option maxRecDepth 100000 in
theorem ds_pc_Sea_fewest : ds_PC ds_m_Sea_fewest := List.mem_of_getElem? (i := 1095) rfl
set_option maxRecDepth 100000 in
theorem ds_pc_Sea_fitAt : ds_PC ds_m_Sea_fitAt := List.mem_of_getElem? (i := 1001) rfl
set_option maxRecDepth 100000 in
theorem ds_pc_Sea_fits : ds_PC ds_m_Sea_fits := List.mem_of_getElem? (i := 981) rfl
set_option maxRecDepth 100000 in
theorem ds_pc_Sea_foundMove : ds_PC ds_m_Sea_foundMove := List.mem_of_getElem? (i := 1146) rfl
set_option maxRecDepth 100000 in
theorem ds_pc_Sea_gain : ds_PC ds_m_Sea_gain := List.mem_of_getElem? (i := 1211) rfl
set_option maxRecDepth 100000 in
theorem ds_pc_Sea_gainBy : ds_PC ds_m_Sea_gainBy := List.mem_of_getElem? (i := 1215) rfl
set_option maxRecDepth 100000 in
theorem ds_pc_Sea_goesTo : ds_PC ds_m_Sea_goesTo := List.mem_of_getElem? (i := 965) rfl
set_option maxRecDepth 100000 in
theorem ds_pc_Sea_greatestDivisor : ds_PC ds_m_Sea_greatestDivisor := List.mem_of_getElem? (i := 1066) rfl
set_option maxRecDepth 100000 in
theorem ds_pc_Sea_hasSea : ds_PC ds_m_Sea_hasSea := List.mem_of_getElem? (i := 819) rfl
set_option maxRecDepth 100000 in
theorem ds_pc_Sea_image : ds_PC ds_m_Sea_image := List.mem_of_getElem? (i := 1328) rfl
set_option maxRecDepth 100000 in
theorem ds_pc_Sea_inSea : ds_PC ds_m_Sea_inSea := List.mem_of_getElem? (i := 1070) rfl
set_option maxRecDepth 100000 in
theorem ds_pc_Sea_isDecade : ds_PC ds_m_Sea_isDecade := List.mem_of_getElem? (i := 1257) rfl
set_option maxRecDepth 100000 in
theorem ds_pc_Sea_isGood : ds_PC ds_m_Sea_isGood := List.mem_of_getElem? (i := 934) rfl
set_option maxRecDepth 100000 in
theorem ds_pc_Sea_isInDeck : ds_PC ds_m_Sea_isInDeck := List.mem_of_getElem? (i := 1025) rfl
set_option maxRecDepth 100000 in
theorem ds_pc_Sea_isIsland : ds_PC ds_m_Sea_isIsland := List.mem_of_getElem? (i := 748) rfl
set_option maxRecDepth 100000 in
theorem ds_pc_Sea_isMove : ds_PC ds_m_Sea_isMove := List.mem_of_getElem? (i := 1017) rfl
set_option maxRecDepth 100000 in
theorem ds_pc_Sea_isPlace : ds_PC ds_m_Sea_isPlace := List.mem_of_getElem? (i := 762) rfl
set_option maxRecDepth 100000 in
theorem ds_pc_Sea_island : ds_PC ds_m_Sea_island := List.mem_of_getElem? (i := 744) rfl
set_option maxRecDepth 100000 in
theorem ds_pc_Sea_journey : ds_PC ds_m_Sea_journey := List.mem_of_getElem? (i := 897) rfl
set_option maxRecDepth 100000 in
theorem ds_pc_Sea_judge : ds_PC ds_m_Sea_judge := List.mem_of_getElem? (i := 977) rfl
set_option maxRecDepth 100000 in
theorem ds_pc_Sea_lay : ds_PC ds_m_Sea_lay := List.mem_of_getElem? (i := 1304) rfl
set_option maxRecDepth 100000 in
theorem ds_pc_Sea_led : ds_PC ds_m_Sea_led := List.mem_of_getElem? (i := 1349) rfl
set_option maxRecDepth 100000 in
theorem ds_pc_Sea_look : ds_PC ds_m_Sea_look := List.mem_of_getElem? (i := 640) rfl
set_option maxRecDepth 100000 in
theorem ds_pc_Sea_lowestTerms : ds_PC ds_m_Sea_lowestTerms := List.mem_of_getElem? (i := 1063) rfl
set_option maxRecDepth 100000 in
theorem ds_pc_Sea_makePlan : ds_PC ds_m_Sea_makePlan := List.mem_of_getElem? (i := 951) rfl
set_option maxRecDepth 100000 in
theorem ds_pc_Sea_makeTwo : ds_PC ds_m_Sea_makeTwo := List.mem_of_getElem? (i := 1199) rfl
set_option maxRecDepth 100000 in
theorem ds_pc_Sea_moveAt : ds_PC ds_m_Sea_moveAt := List.mem_of_getElem? (i := 1142) rfl
set_option maxRecDepth 100000 in
theorem ds_pc_Sea_moveOfRow : ds_PC ds_m_Sea_moveOfRow := List.mem_of_getElem? (i := 996) rfl
set_option maxRecDepth 100000 in
theorem ds_pc_Sea_movesOf : ds_PC ds_m_Sea_movesOf := List.mem_of_getElem? (i := 988) rfl
set_option maxRecDepth 100000 in
theorem ds_pc_Sea_nearest : ds_PC ds_m_Sea_nearest := List.mem_of_getElem? (i := 931) rfl
set_option maxRecDepth 100000 in
theorem ds_pc_Sea_odds : ds_PC ds_m_Sea_odds := List.mem_of_getElem? (i := 1033) rfl
set_option maxRecDepth 100000 in
theorem ds_pc_Sea_palm : ds_PC ds_m_Sea_palm := List.mem_of_getElem? (i := 1295) rfl
set_option maxRecDepth 100000 in
theorem ds_pc_Sea_people : ds_PC ds_m_Sea_people := List.mem_of_getElem? (i := 942) rfl
set_option maxRecDepth 100000 in
theorem ds_pc_Sea_placesNext : ds_PC ds_m_Sea_placesNext := List.mem_of_getElem? (i := 1029) rfl
set_option maxRecDepth 100000 in
theorem ds_pc_Sea_planned : ds_PC ds_m_Sea_planned := List.mem_of_getElem? (i := 947) rfl
set_option maxRecDepth 100000 in
theorem ds_pc_Sea_plannedTrades : ds_PC ds_m_Sea_plannedTrades := List.mem_of_getElem? (i := 973) rfl
set_option maxRecDepth 100000 in
theorem ds_pc_Sea_playGame : ds_PC ds_m_Sea_playGame := List.mem_of_getElem? (i := 1224) rfl
set_option maxRecDepth 100000 in
theorem ds_pc_Sea_put : ds_PC ds_m_Sea_put := List.mem_of_getElem? (i := 643) rfl
set_option maxRecDepth 100000 in
theorem ds_pc_Sea_reckonChances : ds_PC ds_m_Sea_reckonChances := List.mem_of_getElem? (i := 1037) rfl
set_option maxRecDepth 100000 in
theorem ds_pc_Sea_refuse : ds_PC ds_m_Sea_refuse := List.mem_of_getElem? (i := 498) rfl
set_option maxRecDepth 100000 in
theorem ds_pc_Sea_rest : ds_PC ds_m_Sea_rest := List.mem_of_getElem? (i := 1246) rfl
set_option maxRecDepth 100000 in
theorem ds_pc_Sea_rests : ds_PC ds_m_Sea_rests := List.mem_of_getElem? (i := 1220) rfl
set_option maxRecDepth 100000 in
theorem ds_pc_Sea_rowFits : ds_PC ds_m_Sea_rowFits := List.mem_of_getElem? (i := 992) rfl
set_option maxRecDepth 100000 in
theorem ds_pc_Sea_rowsOfMoves : ds_PC ds_m_Sea_rowsOfMoves := List.mem_of_getElem? (i := 985) rfl
set_option maxRecDepth 100000 in
theorem ds_pc_Sea_run : ds_PC ds_m_Sea_run := List.mem_of_getElem? (i := 861) rfl
set_option maxRecDepth 100000 in
theorem ds_pc_Sea_runAt : ds_PC ds_m_Sea_runAt := List.mem_of_getElem? (i := 884) rfl
set_option maxRecDepth 100000 in
theorem ds_pc_Sea_sea : ds_PC ds_m_Sea_sea := List.mem_of_getElem? (i := 494) rfl
set_option maxRecDepth 100000 in
theorem ds_pc_Sea_size : ds_PC ds_m_Sea_size := List.mem_of_getElem? (i := 1337) rfl
set_option maxRecDepth 100000 in
theorem ds_pc_Sea_spell : ds_PC ds_m_Sea_spell := List.mem_of_getElem? (i := 527) rfl
set_option maxRecDepth 100000 in
theorem ds_pc_Sea_sumYears : ds_PC ds_m_Sea_sumYears := List.mem_of_getElem? (i := 1262) rfl
set_option maxRecDepth 100000 in
theorem ds_pc_Sea_three : ds_PC ds_m_Sea_three := List.mem_of_getElem? (i := 1167) rfl
set_option maxRecDepth 100000 in
theorem ds_pc_Sea_together : ds_PC ds_m_Sea_together := List.mem_of_getElem? (i := 1155) rfl
set_option maxRecDepth 100000 in
theorem ds_pc_Sea_togetherAt : ds_PC ds_m_Sea_togetherAt := List.mem_of_getElem? (i := 1163) rfl
set_option maxRecDepth 100000 in
theorem ds_pc_Sea_trade : ds_PC ds_m_Sea_trade := List.mem_of_getElem? (i := 803) rfl
set_option maxRecDepth 100000 in
theorem ds_pc_Sea_trades : ds_PC ds_m_Sea_trades := List.mem_of_getElem? (i := 815) rfl
set_option maxRecDepth 100000 in
theorem ds_pc_Sea_tradesBy : ds_PC ds_m_Sea_tradesBy := List.mem_of_getElem? (i := 1183) rfl
set_option maxRecDepth 100000 in
theorem ds_pc_Sea_trouble : ds_PC ds_m_Sea_trouble := List.mem_of_getElem? (i := 1341) rfl
set_option maxRecDepth 100000 in
theorem ds_pc_Sea_undo : ds_PC ds_m_Sea_undo := List.mem_of_getElem? (i := 1312) rfl
set_option maxRecDepth 100000 in
theorem ds_pc_Sea_wars : ds_PC ds_m_Sea_wars := List.mem_of_getElem? (i := 840) rfl
set_option maxRecDepth 100000 in
theorem ds_pc_Sea_where : ds_PC ds_m_Sea_where := List.mem_of_getElem? (i := 740) rfl
set_option maxRecDepth 100000 in
theorem ds_pc_Sea_wishes : ds_PC ds_m_Sea_wishes := List.mem_of_getElem? (i := 910) rfl
set_option maxRecDepth 100000 in
theorem ds_pc_Sea_yearOf : ds_PC ds_m_Sea_yearOf := List.mem_of_getElem? (i := 1267) rfl
set_option maxRecDepth 100000 in
theorem ds_pc_Mod_after : ds_PC ds_m_Mod_after := List.mem_of_getElem? (i := 1613) rfl
set_option maxRecDepth 100000 in
theorem ds_pc_Mod_again : ds_PC ds_m_Mod_again := List.mem_of_getElem? (i := 1872) rfl
set_option maxRecDepth 100000 in
theorem ds_pc_Mod_alike : ds_PC ds_m_Mod_alike := List.mem_of_getElem? (i := 1926) rfl
set_option maxRecDepth 100000 in
theorem ds_pc_Mod_allWays : ds_PC ds_m_Mod_allWays := List.mem_of_getElem? (i := 1915) rfl
set_option maxRecDepth 100000 in
theorem ds_pc_Mod_areBeside : ds_PC ds_m_Mod_areBeside := List.mem_of_getElem? (i := 1741) rfl
set_option maxRecDepth 100000 in
theorem ds_pc_Mod_areGoods : ds_PC ds_m_Mod_areGoods := List.mem_of_getElem? (i := 2011) rfl
set_option maxRecDepth 100000 in
theorem ds_pc_Mod_back : ds_PC ds_m_Mod_back := List.mem_of_getElem? (i := 2085) rfl
set_option maxRecDepth 100000 in
theorem ds_pc_Mod_beBeside : ds_PC ds_m_Mod_beBeside := List.mem_of_getElem? (i := 1737) rfl
set_option maxRecDepth 100000 in
theorem ds_pc_Mod_begins : ds_PC ds_m_Mod_begins := List.mem_of_getElem? (i := 1647) rfl
set_option maxRecDepth 100000 in
theorem ds_pc_Mod_beside : ds_PC ds_m_Mod_beside := List.mem_of_getElem? (i := 1733) rfl
set_option maxRecDepth 100000 in
theorem ds_pc_Mod_best : ds_PC ds_m_Mod_best := List.mem_of_getElem? (i := 1983) rfl
set_option maxRecDepth 100000 in
theorem ds_pc_Mod_bestMove : ds_PC ds_m_Mod_bestMove := List.mem_of_getElem? (i := 1987) rfl
set_option maxRecDepth 100000 in
theorem ds_pc_Mod_bestTrades : ds_PC ds_m_Mod_bestTrades := List.mem_of_getElem? (i := 1995) rfl
set_option maxRecDepth 100000 in
theorem ds_pc_Mod_bestTwo : ds_PC ds_m_Mod_bestTwo := List.mem_of_getElem? (i := 1999) rfl
set_option maxRecDepth 100000 in
theorem ds_pc_Mod_can : ds_PC ds_m_Mod_can := List.mem_of_getElem? (i := 1892) rfl
set_option maxRecDepth 100000 in
theorem ds_pc_Mod_card : ds_PC ds_m_Mod_card := List.mem_of_getElem? (i := 1729) rfl
set_option maxRecDepth 100000 in
theorem ds_pc_Mod_copy : ds_PC ds_m_Mod_copy := List.mem_of_getElem? (i := 1698) rfl
set_option maxRecDepth 100000 in
theorem ds_pc_Mod_crowd : ds_PC ds_m_Mod_crowd := List.mem_of_getElem? (i := 1821) rfl
set_option maxRecDepth 100000 in
theorem ds_pc_Mod_cycle : ds_PC ds_m_Mod_cycle := List.mem_of_getElem? (i := 1880) rfl
set_option maxRecDepth 100000 in
theorem ds_pc_Mod_deal : ds_PC ds_m_Mod_deal := List.mem_of_getElem? (i := 2057) rfl
set_option maxRecDepth 100000 in
theorem ds_pc_Mod_decade : ds_PC ds_m_Mod_decade := List.mem_of_getElem? (i := 2035) rfl
set_option maxRecDepth 100000 in
theorem ds_pc_Mod_decadeOf : ds_PC ds_m_Mod_decadeOf := List.mem_of_getElem? (i := 2053) rfl
set_option maxRecDepth 100000 in
theorem ds_pc_Mod_decadeWhy : ds_PC ds_m_Mod_decadeWhy := List.mem_of_getElem? (i := 2039) rfl
set_option maxRecDepth 100000 in
theorem ds_pc_Mod_decadeWishes : ds_PC ds_m_Mod_decadeWishes := List.mem_of_getElem? (i := 2049) rfl
set_option maxRecDepth 100000 in
theorem ds_pc_Mod_exchange : ds_PC ds_m_Mod_exchange := List.mem_of_getElem? (i := 2003) rfl
set_option maxRecDepth 100000 in
theorem ds_pc_Mod_familyLine : ds_PC ds_m_Mod_familyLine := List.mem_of_getElem? (i := 1675) rfl
set_option maxRecDepth 100000 in
theorem ds_pc_Mod_fault : ds_PC ds_m_Mod_fault := List.mem_of_getElem? (i := 1706) rfl
set_option maxRecDepth 100000 in
theorem ds_pc_Mod_feed : ds_PC ds_m_Mod_feed := List.mem_of_getElem? (i := 1560) rfl
set_option maxRecDepth 100000 in
theorem ds_pc_Mod_fewest : ds_PC ds_m_Mod_fewest := List.mem_of_getElem? (i := 1931) rfl
set_option maxRecDepth 100000 in
theorem ds_pc_Mod_find : ds_PC ds_m_Mod_find := List.mem_of_getElem? (i := 1666) rfl
set_option maxRecDepth 100000 in
theorem ds_pc_Mod_fitAt : ds_PC ds_m_Mod_fitAt := List.mem_of_getElem? (i := 1868) rfl
set_option maxRecDepth 100000 in
theorem ds_pc_Mod_fits : ds_PC ds_m_Mod_fits := List.mem_of_getElem? (i := 1856) rfl
set_option maxRecDepth 100000 in
theorem ds_pc_Mod_gain : ds_PC ds_m_Mod_gain := List.mem_of_getElem? (i := 2007) rfl
set_option maxRecDepth 100000 in
theorem ds_pc_Mod_gainOf : ds_PC ds_m_Mod_gainOf := List.mem_of_getElem? (i := 2015) rfl
set_option maxRecDepth 100000 in
theorem ds_pc_Mod_goThrough : ds_PC ds_m_Mod_goThrough := List.mem_of_getElem? (i := 2044) rfl
set_option maxRecDepth 100000 in
theorem ds_pc_Mod_goesTo : ds_PC ds_m_Mod_goesTo := List.mem_of_getElem? (i := 1836) rfl
set_option maxRecDepth 100000 in
theorem ds_pc_Mod_good : ds_PC ds_m_Mod_good := List.mem_of_getElem? (i := 1568) rfl
set_option maxRecDepth 100000 in
theorem ds_pc_Mod_goodPassed : ds_PC ds_m_Mod_goodPassed := List.mem_of_getElem? (i := 1631) rfl
set_option maxRecDepth 100000 in
theorem ds_pc_Mod_hasBit : ds_PC ds_m_Mod_hasBit := List.mem_of_getElem? (i := 1899) rfl
set_option maxRecDepth 100000 in
theorem ds_pc_Mod_image : ds_PC ds_m_Mod_image := List.mem_of_getElem? (i := 2081) rfl
set_option maxRecDepth 100000 in
theorem ds_pc_Mod_in : ds_PC ds_m_Mod_in := List.mem_of_getElem? (i := 1571) rfl
set_option maxRecDepth 100000 in
theorem ds_pc_Mod_inSea : ds_PC ds_m_Mod_inSea := List.mem_of_getElem? (i := 1922) rfl
set_option maxRecDepth 100000 in
theorem ds_pc_Mod_isCorner : ds_PC ds_m_Mod_isCorner := List.mem_of_getElem? (i := 1749) rfl
set_option maxRecDepth 100000 in
theorem ds_pc_Mod_isDigit : ds_PC ds_m_Mod_isDigit := List.mem_of_getElem? (i := 1589) rfl
set_option maxRecDepth 100000 in
theorem ds_pc_Mod_isGoal : ds_PC ds_m_Mod_isGoal := List.mem_of_getElem? (i := 1947) rfl
set_option maxRecDepth 100000 in
theorem ds_pc_Mod_isInDeck : ds_PC ds_m_Mod_isInDeck := List.mem_of_getElem? (i := 1896) rfl
set_option maxRecDepth 100000 in
theorem ds_pc_Mod_isInSea : ds_PC ds_m_Mod_isInSea := List.mem_of_getElem? (i := 1789) rfl
set_option maxRecDepth 100000 in
theorem ds_pc_Mod_isIsland : ds_PC ds_m_Mod_isIsland := List.mem_of_getElem? (i := 1718) rfl
set_option maxRecDepth 100000 in
theorem ds_pc_Mod_isJoker : ds_PC ds_m_Mod_isJoker := List.mem_of_getElem? (i := 1761) rfl
set_option maxRecDepth 100000 in
theorem ds_pc_Mod_isMove : ds_PC ds_m_Mod_isMove := List.mem_of_getElem? (i := 1884) rfl
set_option maxRecDepth 100000 in
theorem ds_pc_Mod_isNot : ds_PC ds_m_Mod_isNot := List.mem_of_getElem? (i := 2073) rfl
set_option maxRecDepth 100000 in
theorem ds_pc_Mod_isRest : ds_PC ds_m_Mod_isRest := List.mem_of_getElem? (i := 2027) rfl
set_option maxRecDepth 100000 in
theorem ds_pc_Mod_isShown : ds_PC ds_m_Mod_isShown := List.mem_of_getElem? (i := 1852) rfl
set_option maxRecDepth 100000 in
theorem ds_pc_Mod_isSmall : ds_PC ds_m_Mod_isSmall := List.mem_of_getElem? (i := 1586) rfl
set_option maxRecDepth 100000 in
theorem ds_pc_Mod_isWord : ds_PC ds_m_Mod_isWord := List.mem_of_getElem? (i := 1598) rfl
set_option maxRecDepth 100000 in
theorem ds_pc_Mod_island : ds_PC ds_m_Mod_island := List.mem_of_getElem? (i := 1714) rfl
set_option maxRecDepth 100000 in
theorem ds_pc_Mod_islandHere : ds_PC ds_m_Mod_islandHere := List.mem_of_getElem? (i := 1691) rfl
set_option maxRecDepth 100000 in
theorem ds_pc_Mod_islandLine : ds_PC ds_m_Mod_islandLine := List.mem_of_getElem? (i := 1651) rfl
set_option maxRecDepth 100000 in
theorem ds_pc_Mod_islandPassed : ds_PC ds_m_Mod_islandPassed := List.mem_of_getElem? (i := 1687) rfl
set_option maxRecDepth 100000 in
theorem ds_pc_Mod_journey : ds_PC ds_m_Mod_journey := List.mem_of_getElem? (i := 1797) rfl
set_option maxRecDepth 100000 in
theorem ds_pc_Mod_judge : ds_PC ds_m_Mod_judge := List.mem_of_getElem? (i := 1848) rfl
set_option maxRecDepth 100000 in
theorem ds_pc_Mod_lay : ds_PC ds_m_Mod_lay := List.mem_of_getElem? (i := 2069) rfl
set_option maxRecDepth 100000 in
theorem ds_pc_Mod_layBridges : ds_PC ds_m_Mod_layBridges := List.mem_of_getElem? (i := 1801) rfl
set_option maxRecDepth 100000 in
theorem ds_pc_Mod_layDeck : ds_PC ds_m_Mod_layDeck := List.mem_of_getElem? (i := 1702) rfl
set_option maxRecDepth 100000 in
theorem ds_pc_Mod_layPlan : ds_PC ds_m_Mod_layPlan := List.mem_of_getElem? (i := 1829) rfl
set_option maxRecDepth 100000 in
theorem ds_pc_Mod_layWays : ds_PC ds_m_Mod_layWays := List.mem_of_getElem? (i := 1907) rfl
set_option maxRecDepth 100000 in
theorem ds_pc_Mod_led : ds_PC ds_m_Mod_led := List.mem_of_getElem? (i := 2089) rfl
set_option maxRecDepth 100000 in
theorem ds_pc_Mod_look : ds_PC ds_m_Mod_look := List.mem_of_getElem? (i := 1583) rfl
set_option maxRecDepth 100000 in
theorem ds_pc_Mod_lowest : ds_PC ds_m_Mod_lowest := List.mem_of_getElem? (i := 1918) rfl
set_option maxRecDepth 100000 in
theorem ds_pc_Mod_makes : ds_PC ds_m_Mod_makes := List.mem_of_getElem? (i := 1833) rfl
set_option maxRecDepth 100000 in
theorem ds_pc_Mod_moveAt : ds_PC ds_m_Mod_moveAt := List.mem_of_getElem? (i := 1959) rfl
set_option maxRecDepth 100000 in
theorem ds_pc_Mod_moveOfWay : ds_PC ds_m_Mod_moveOfWay := List.mem_of_getElem? (i := 1963) rfl
set_option maxRecDepth 100000 in
theorem ds_pc_Mod_moved : ds_PC ds_m_Mod_moved := List.mem_of_getElem? (i := 1951) rfl
set_option maxRecDepth 100000 in
theorem ds_pc_Mod_movesOf : ds_PC ds_m_Mod_movesOf := List.mem_of_getElem? (i := 1888) rfl
set_option maxRecDepth 100000 in
theorem ds_pc_Mod_must : ds_PC ds_m_Mod_must := List.mem_of_getElem? (i := 1617) rfl
set_option maxRecDepth 100000 in
theorem ds_pc_Mod_mustName : ds_PC ds_m_Mod_mustName := List.mem_of_getElem? (i := 1659) rfl
set_option maxRecDepth 100000 in
theorem ds_pc_Mod_nearest : ds_PC ds_m_Mod_nearest := List.mem_of_getElem? (i := 1805) rfl
set_option maxRecDepth 100000 in
theorem ds_pc_Mod_newName : ds_PC ds_m_Mod_newName := List.mem_of_getElem? (i := 1655) rfl
set_option maxRecDepth 100000 in
theorem ds_pc_Mod_next : ds_PC ds_m_Mod_next := List.mem_of_getElem? (i := 1579) rfl
set_option maxRecDepth 100000 in
theorem ds_pc_Mod_no : ds_PC ds_m_Mod_no := List.mem_of_getElem? (i := 1575) rfl
set_option maxRecDepth 100000 in
theorem ds_pc_Mod_note : ds_PC ds_m_Mod_note := List.mem_of_getElem? (i := 2061) rfl
set_option maxRecDepth 100000 in
theorem ds_pc_Mod_number : ds_PC ds_m_Mod_number := List.mem_of_getElem? (i := 1625) rfl
set_option maxRecDepth 100000 in
theorem ds_pc_Mod_odds : ds_PC ds_m_Mod_odds := List.mem_of_getElem? (i := 1903) rfl
set_option maxRecDepth 100000 in
theorem ds_pc_Mod_of : ds_PC ds_m_Mod_of := List.mem_of_getElem? (i := 1722) rfl
set_option maxRecDepth 100000 in
theorem ds_pc_Mod_oneMore : ds_PC ds_m_Mod_oneMore := List.mem_of_getElem? (i := 1911) rfl
set_option maxRecDepth 100000 in
theorem ds_pc_Mod_oneOf : ds_PC ds_m_Mod_oneOf := List.mem_of_getElem? (i := 1639) rfl
set_option maxRecDepth 100000 in
theorem ds_pc_Mod_palm : ds_PC ds_m_Mod_palm := List.mem_of_getElem? (i := 2065) rfl
set_option maxRecDepth 100000 in
theorem ds_pc_Mod_people : ds_PC ds_m_Mod_people := List.mem_of_getElem? (i := 1817) rfl
set_option maxRecDepth 100000 in
theorem ds_pc_Mod_placeIn : ds_PC ds_m_Mod_placeIn := List.mem_of_getElem? (i := 1725) rfl
set_option maxRecDepth 100000 in
theorem ds_pc_Mod_planWhy : ds_PC ds_m_Mod_planWhy := List.mem_of_getElem? (i := 1844) rfl
set_option maxRecDepth 100000 in
theorem ds_pc_Mod_planned : ds_PC ds_m_Mod_planned := List.mem_of_getElem? (i := 1825) rfl
set_option maxRecDepth 100000 in
theorem ds_pc_Mod_plannedTrades : ds_PC ds_m_Mod_plannedTrades := List.mem_of_getElem? (i := 1840) rfl
set_option maxRecDepth 100000 in
theorem ds_pc_Mod_readLine : ds_PC ds_m_Mod_readLine := List.mem_of_getElem? (i := 1593) rfl
set_option maxRecDepth 100000 in
theorem ds_pc_Mod_rest : ds_PC ds_m_Mod_rest := List.mem_of_getElem? (i := 2031) rfl
set_option maxRecDepth 100000 in
theorem ds_pc_Mod_rests : ds_PC ds_m_Mod_rests := List.mem_of_getElem? (i := 2019) rfl
set_option maxRecDepth 100000 in
theorem ds_pc_Mod_restsOf : ds_PC ds_m_Mod_restsOf := List.mem_of_getElem? (i := 2023) rfl
set_option maxRecDepth 100000 in
theorem ds_pc_Mod_room : ds_PC ds_m_Mod_room := List.mem_of_getElem? (i := 1745) rfl
set_option maxRecDepth 100000 in
theorem ds_pc_Mod_run : ds_PC ds_m_Mod_run := List.mem_of_getElem? (i := 1777) rfl
set_option maxRecDepth 100000 in
theorem ds_pc_Mod_runAt : ds_PC ds_m_Mod_runAt := List.mem_of_getElem? (i := 1793) rfl
set_option maxRecDepth 100000 in
theorem ds_pc_Mod_runFrom : ds_PC ds_m_Mod_runFrom := List.mem_of_getElem? (i := 1785) rfl
set_option maxRecDepth 100000 in
theorem ds_pc_Mod_runNow : ds_PC ds_m_Mod_runNow := List.mem_of_getElem? (i := 1781) rfl
set_option maxRecDepth 100000 in
theorem ds_pc_Mod_same : ds_PC ds_m_Mod_same := List.mem_of_getElem? (i := 1876) rfl
set_option maxRecDepth 100000 in
theorem ds_pc_Mod_sea : ds_PC ds_m_Mod_sea := List.mem_of_getElem? (i := 1564) rfl
set_option maxRecDepth 100000 in
theorem ds_pc_Mod_seaLine : ds_PC ds_m_Mod_seaLine := List.mem_of_getElem? (i := 1604) rfl
set_option maxRecDepth 100000 in
theorem ds_pc_Mod_seek : ds_PC ds_m_Mod_seek := List.mem_of_getElem? (i := 1943) rfl
set_option maxRecDepth 100000 in
theorem ds_pc_Mod_seekFits : ds_PC ds_m_Mod_seekFits := List.mem_of_getElem? (i := 1860) rfl
set_option maxRecDepth 100000 in
theorem ds_pc_Mod_seekPlace : ds_PC ds_m_Mod_seekPlace := List.mem_of_getElem? (i := 1935) rfl
set_option maxRecDepth 100000 in
theorem ds_pc_Mod_seekTwo : ds_PC ds_m_Mod_seekTwo := List.mem_of_getElem? (i := 1971) rfl
set_option maxRecDepth 100000 in
theorem ds_pc_Mod_showsLine : ds_PC ds_m_Mod_showsLine := List.mem_of_getElem? (i := 1695) rfl
set_option maxRecDepth 100000 in
theorem ds_pc_Mod_size : ds_PC ds_m_Mod_size := List.mem_of_getElem? (i := 2093) rfl
set_option maxRecDepth 100000 in
theorem ds_pc_Mod_stateOf : ds_PC ds_m_Mod_stateOf := List.mem_of_getElem? (i := 1939) rfl
set_option maxRecDepth 100000 in
theorem ds_pc_Mod_takesWord : ds_PC ds_m_Mod_takesWord := List.mem_of_getElem? (i := 1621) rfl
set_option maxRecDepth 100000 in
theorem ds_pc_Mod_three : ds_PC ds_m_Mod_three := List.mem_of_getElem? (i := 1979) rfl
set_option maxRecDepth 100000 in
theorem ds_pc_Mod_thrown : ds_PC ds_m_Mod_thrown := List.mem_of_getElem? (i := 1556) rfl
set_option maxRecDepth 100000 in
theorem ds_pc_Mod_together : ds_PC ds_m_Mod_together := List.mem_of_getElem? (i := 1967) rfl
set_option maxRecDepth 100000 in
theorem ds_pc_Mod_togetherAt : ds_PC ds_m_Mod_togetherAt := List.mem_of_getElem? (i := 1975) rfl
set_option maxRecDepth 100000 in
theorem ds_pc_Mod_trade : ds_PC ds_m_Mod_trade := List.mem_of_getElem? (i := 1753) rfl
set_option maxRecDepth 100000 in
theorem ds_pc_Mod_tradeOf : ds_PC ds_m_Mod_tradeOf := List.mem_of_getElem? (i := 1757) rfl
set_option maxRecDepth 100000 in
theorem ds_pc_Mod_trades : ds_PC ds_m_Mod_trades := List.mem_of_getElem? (i := 1765) rfl
set_option maxRecDepth 100000 in
theorem ds_pc_Mod_tradesBy : ds_PC ds_m_Mod_tradesBy := List.mem_of_getElem? (i := 1991) rfl
set_option maxRecDepth 100000 in
theorem ds_pc_Mod_tradesIn : ds_PC ds_m_Mod_tradesIn := List.mem_of_getElem? (i := 1769) rfl
set_option maxRecDepth 100000 in
theorem ds_pc_Mod_trouble : ds_PC ds_m_Mod_trouble := List.mem_of_getElem? (i := 2097) rfl
set_option maxRecDepth 100000 in
theorem ds_pc_Mod_tryFits : ds_PC ds_m_Mod_tryFits := List.mem_of_getElem? (i := 1864) rfl
set_option maxRecDepth 100000 in
theorem ds_pc_Mod_undo : ds_PC ds_m_Mod_undo := List.mem_of_getElem? (i := 2077) rfl
set_option maxRecDepth 100000 in
theorem ds_pc_Mod_wars : ds_PC ds_m_Mod_wars := List.mem_of_getElem? (i := 1773) rfl
set_option maxRecDepth 100000 in
theorem ds_pc_Mod_wayLong : ds_PC ds_m_Mod_wayLong := List.mem_of_getElem? (i := 1955) rfl
set_option maxRecDepth 100000 in
theorem ds_pc_Mod_where : ds_PC ds_m_Mod_where := List.mem_of_getElem? (i := 1710) rfl
set_option maxRecDepth 100000 in
theorem ds_pc_Mod_wishLine : ds_PC ds_m_Mod_wishLine := List.mem_of_getElem? (i := 1683) rfl
set_option maxRecDepth 100000 in
theorem ds_pc_Mod_wishes : ds_PC ds_m_Mod_wishes := List.mem_of_getElem? (i := 1809) rfl
set_option maxRecDepth 100000 in
theorem ds_pc_Mod_wishesIn : ds_PC ds_m_Mod_wishesIn := List.mem_of_getElem? (i := 1813) rfl
set_option maxRecDepth 100000 in
theorem ds_pc_Mod_wrong : ds_PC ds_m_Mod_wrong := List.mem_of_getElem? (i := 1608) rfl
set_option maxRecDepth 100000 in
theorem ds_pc_Math_abs : ds_PC ds_m_Math_abs := List.mem_of_getElem? (i := 712) rfl
set_option maxRecDepth 100000 in
theorem ds_pc_Math_floorMod : ds_PC ds_m_Math_floorMod := List.mem_of_getElem? (i := 968) rfl
set_option maxRecDepth 100000 in
theorem ds_pc_Math_max : ds_PC ds_m_Math_max := List.mem_of_getElem? (i := 428) rfl
set_option maxRecDepth 100000 in
theorem ds_pc_Math_maxL : ds_PC ds_m_Math_maxL := List.mem_of_getElem? (i := 1087) rfl
set_option maxRecDepth 100000 in
theorem ds_pc_Math_min : ds_PC ds_m_Math_min := List.mem_of_getElem? (i := 505) rfl
set_option maxRecDepth 100000 in
theorem ds_pc_Math_minL : ds_PC ds_m_Math_minL := List.mem_of_getElem? (i := 1090) rfl
set_option maxRecDepth 100000 in
theorem ds_pc_Integer_bitCount : ds_PC ds_m_Integer_bitCount := List.mem_of_getElem? (i := 1113) rfl
set_option maxRecDepth 100000 in
theorem ds_pc_Arrays_fill : ds_PC ds_m_Arrays_fill := List.mem_of_getElem? (i := 700) rfl
set_option maxRecDepth 100000 in
theorem ds_pc_Arrays_fillL : ds_PC ds_m_Arrays_fillL := List.mem_of_getElem? (i := 1045) rfl
set_option maxRecDepth 100000 in
theorem ds_mc_in : ∀ e ∈ ds_mt, ds_PC e := ds_fc ds_pc_Chances_add <| ds_fc ds_pc_Chances_begin <| ds_fc ds_pc_Chances_difference <| ds_fc ds_pc_Chances_goOn <| ds_fc ds_pc_Chances_rowsAhead <| ds_fc ds_pc_Chances_rowsTo <| ds_fc ds_pc_Chart_allTrades <| ds_fc ds_pc_Chart_besidePlaces <| ds_fc ds_pc_Chart_bridges <| ds_fc ds_pc_Chart_countWars <| ds_fc ds_pc_Chart_countWishes <| ds_fc ds_pc_Chart_firstOfLength <| ds_fc ds_pc_Chart_isJokerAt <| ds_fc ds_pc_Chart_isOfRank <| ds_fc ds_pc_Chart_isWar <| ds_fc ds_pc_Chart_islandAt <| ds_fc ds_pc_Chart_longestBehind <| ds_fc ds_pc_Chart_longestRun <| ds_fc ds_pc_Chart_mates <| ds_fc ds_pc_Chart_mostPeople <| ds_fc ds_pc_Chart_personsAt <| ds_fc ds_pc_Chart_placeBit <| ds_fc ds_pc_Chart_placesOfGood <| ds_fc ds_pc_Chart_placesWithoutJokers <| ds_fc ds_pc_Chart_rankAbove <| ds_fc ds_pc_Chart_runIsland <| ds_fc ds_pc_Chart_show <| ds_fc ds_pc_Chart_touching <| ds_fc ds_pc_Chart_tradeBetween <| ds_fc ds_pc_Chart_tradesOf <| ds_fc ds_pc_Deck_cardAt <| ds_fc ds_pc_Deck_isOrdered <| ds_fc ds_pc_Deck_makeMove <| ds_fc ds_pc_Deck_order <| ds_fc ds_pc_Deck_placeOf <| ds_fc ds_pc_Deck_putUnder <| ds_fc ds_pc_Deck_readFrom <| ds_fc ds_pc_Deck_swap <| ds_fc ds_pc_Deck_take <| ds_fc ds_pc_Deck_takeOut <| ds_fc ds_pc_Deck_writeTo <| ds_fc ds_pc_Game_countRests <| ds_fc ds_pc_Game_firstRest <| ds_fc ds_pc_Game_gainOf <| ds_fc ds_pc_Game_isRest <| ds_fc ds_pc_Game_setGain <| ds_fc ds_pc_Reader_advance <| ds_fc ds_pc_Reader_blame <| ds_fc ds_pc_Reader_byteAt <| ds_fc ds_pc_Reader_checkLine <| ds_fc ds_pc_Reader_goesOn <| ds_fc ds_pc_Reader_handOver <| ds_fc ds_pc_Reader_isAtName <| ds_fc ds_pc_Reader_isDigit <| ds_fc ds_pc_Reader_isFull <| ds_fc ds_pc_Reader_isLetter <| ds_fc ds_pc_Reader_lengthen <| ds_fc ds_pc_Reader_namedIsland <| ds_fc ds_pc_Reader_owner <| ds_fc ds_pc_Reader_place <| ds_fc ds_pc_Reader_readFamily <| ds_fc ds_pc_Reader_readIsland <| ds_fc ds_pc_Reader_readLine <| ds_fc ds_pc_Reader_readOneOf <| ds_fc ds_pc_Reader_readSea <| ds_fc ds_pc_Reader_readShows <| ds_fc ds_pc_Reader_readText <| ds_fc ds_pc_Reader_readWhole <| ds_fc ds_pc_Reader_readWish <| ds_fc ds_pc_Reader_takeWhole <| ds_fc ds_pc_Reader_takeWord <| ds_fc ds_pc_Reader_tellName <| ds_fc ds_pc_Search_bringThree <| ds_fc ds_pc_Search_bringTo <| ds_fc ds_pc_Search_bringTogether <| ds_fc ds_pc_Search_canBe <| ds_fc ds_pc_Search_isGoal <| ds_fc ds_pc_Search_length <| ds_fc ds_pc_Search_moveOf <| ds_fc ds_pc_Search_pairs <| ds_fc ds_pc_Search_queueNext <| ds_fc ds_pc_Search_seek <| ds_fc ds_pc_Search_stateBehind <| ds_fc ds_pc_Shelf_empty <| ds_fc ds_pc_Shelf_popInto <| ds_fc ds_pc_Shelf_pushOver <| ds_fc ds_pc_Shelf_readInto <| ds_fc ds_pc_Shelf_startOf <| ds_fc ds_pc_Told_addFamily <| ds_fc ds_pc_Told_addIsland <| ds_fc ds_pc_Told_addShows <| ds_fc ds_pc_Told_addWish <| ds_fc ds_pc_Told_areNear <| ds_fc ds_pc_Told_forget <| ds_fc ds_pc_Told_hasWish <| ds_fc ds_pc_Told_isCorner <| ds_fc ds_pc_Told_isJoker <| ds_fc ds_pc_Told_neighbours <| ds_fc ds_pc_Told_room <| ds_fc ds_pc_Told_settle <| ds_fc ds_pc_Told_worth <| ds_fc ds_pc_Sea_addPlan <| ds_fc ds_pc_Sea_again <| ds_fc ds_pc_Sea_alike <| ds_fc ds_pc_Sea_answer <| ds_fc ds_pc_Sea_back <| ds_fc ds_pc_Sea_beside <| ds_fc ds_pc_Sea_best <| ds_fc ds_pc_Sea_bestMove <| ds_fc ds_pc_Sea_bestTrades <| ds_fc ds_pc_Sea_bestTwo <| ds_fc ds_pc_Sea_can <| ds_fc ds_pc_Sea_card <| ds_fc ds_pc_Sea_chartOf <| ds_fc ds_pc_Sea_choice <| ds_fc ds_pc_Sea_crowd <| ds_fc ds_pc_Sea_cycle <| ds_fc ds_pc_Sea_deal <| ds_fc ds_pc_Sea_decade <| ds_fc ds_pc_Sea_decadeOf <| ds_fc ds_pc_Sea_decadeWishes <| ds_fc ds_pc_Sea_exchange <| ds_fc ds_pc_Sea_fault <| ds_fc ds_pc_Sea_feed <| ds_fc ds_pc_Sea_fewest <| ds_fc ds_pc_Sea_fitAt <| ds_fc ds_pc_Sea_fits <| ds_fc ds_pc_Sea_foundMove <| ds_fc ds_pc_Sea_gain <| ds_fc ds_pc_Sea_gainBy <| ds_fc ds_pc_Sea_goesTo <| ds_fc ds_pc_Sea_greatestDivisor <| ds_fc ds_pc_Sea_hasSea <| ds_fc ds_pc_Sea_image <| ds_fc ds_pc_Sea_inSea <| ds_fc ds_pc_Sea_isDecade <| ds_fc ds_pc_Sea_isGood <| ds_fc ds_pc_Sea_isInDeck <| ds_fc ds_pc_Sea_isIsland <| ds_fc ds_pc_Sea_isMove <| ds_fc ds_pc_Sea_isPlace <| ds_fc ds_pc_Sea_island <| ds_fc ds_pc_Sea_journey <| ds_fc ds_pc_Sea_judge <| ds_fc ds_pc_Sea_lay <| ds_fc ds_pc_Sea_led <| ds_fc ds_pc_Sea_look <| ds_fc ds_pc_Sea_lowestTerms <| ds_fc ds_pc_Sea_makePlan <| ds_fc ds_pc_Sea_makeTwo <| ds_fc ds_pc_Sea_moveAt <| ds_fc ds_pc_Sea_moveOfRow <| ds_fc ds_pc_Sea_movesOf <| ds_fc ds_pc_Sea_nearest <| ds_fc ds_pc_Sea_odds <| ds_fc ds_pc_Sea_palm <| ds_fc ds_pc_Sea_people <| ds_fc ds_pc_Sea_placesNext <| ds_fc ds_pc_Sea_planned <| ds_fc ds_pc_Sea_plannedTrades <| ds_fc ds_pc_Sea_playGame <| ds_fc ds_pc_Sea_put <| ds_fc ds_pc_Sea_reckonChances <| ds_fc ds_pc_Sea_refuse <| ds_fc ds_pc_Sea_rest <| ds_fc ds_pc_Sea_rests <| ds_fc ds_pc_Sea_rowFits <| ds_fc ds_pc_Sea_rowsOfMoves <| ds_fc ds_pc_Sea_run <| ds_fc ds_pc_Sea_runAt <| ds_fc ds_pc_Sea_sea <| ds_fc ds_pc_Sea_size <| ds_fc ds_pc_Sea_spell <| ds_fc ds_pc_Sea_sumYears <| ds_fc ds_pc_Sea_three <| ds_fc ds_pc_Sea_together <| ds_fc ds_pc_Sea_togetherAt <| ds_fc ds_pc_Sea_trade <| ds_fc ds_pc_Sea_trades <| ds_fc ds_pc_Sea_tradesBy <| ds_fc ds_pc_Sea_trouble <| ds_fc ds_pc_Sea_undo <| ds_fc ds_pc_Sea_wars <| ds_fc ds_pc_Sea_where <| ds_fc ds_pc_Sea_wishes <| ds_fc ds_pc_Sea_yearOf <| ds_fc ds_pc_Mod_after <| ds_fc ds_pc_Mod_again <| ds_fc ds_pc_Mod_alike <| ds_fc ds_pc_Mod_allWays <| ds_fc ds_pc_Mod_areBeside <| ds_fc ds_pc_Mod_areGoods <| ds_fc ds_pc_Mod_back <| ds_fc ds_pc_Mod_beBeside <| ds_fc ds_pc_Mod_begins <| ds_fc ds_pc_Mod_beside <| ds_fc ds_pc_Mod_best <| ds_fc ds_pc_Mod_bestMove <| ds_fc ds_pc_Mod_bestTrades <| ds_fc ds_pc_Mod_bestTwo <| ds_fc ds_pc_Mod_can <| ds_fc ds_pc_Mod_card <| ds_fc ds_pc_Mod_copy <| ds_fc ds_pc_Mod_crowd <| ds_fc ds_pc_Mod_cycle <| ds_fc ds_pc_Mod_deal <| ds_fc ds_pc_Mod_decade <| ds_fc ds_pc_Mod_decadeOf <| ds_fc ds_pc_Mod_decadeWhy <| ds_fc ds_pc_Mod_decadeWishes <| ds_fc ds_pc_Mod_exchange <| ds_fc ds_pc_Mod_familyLine <| ds_fc ds_pc_Mod_fault <| ds_fc ds_pc_Mod_feed <| ds_fc ds_pc_Mod_fewest <| ds_fc ds_pc_Mod_find <| ds_fc ds_pc_Mod_fitAt <| ds_fc ds_pc_Mod_fits <| ds_fc ds_pc_Mod_gain <| ds_fc ds_pc_Mod_gainOf <| ds_fc ds_pc_Mod_goThrough <| ds_fc ds_pc_Mod_goesTo <| ds_fc ds_pc_Mod_good <| ds_fc ds_pc_Mod_goodPassed <| ds_fc ds_pc_Mod_hasBit <| ds_fc ds_pc_Mod_image <| ds_fc ds_pc_Mod_in <| ds_fc ds_pc_Mod_inSea <| ds_fc ds_pc_Mod_isCorner <| ds_fc ds_pc_Mod_isDigit <| ds_fc ds_pc_Mod_isGoal <| ds_fc ds_pc_Mod_isInDeck <| ds_fc ds_pc_Mod_isInSea <| ds_fc ds_pc_Mod_isIsland <| ds_fc ds_pc_Mod_isJoker <| ds_fc ds_pc_Mod_isMove <| ds_fc ds_pc_Mod_isNot <| ds_fc ds_pc_Mod_isRest <| ds_fc ds_pc_Mod_isShown <| ds_fc ds_pc_Mod_isSmall <| ds_fc ds_pc_Mod_isWord <| ds_fc ds_pc_Mod_island <| ds_fc ds_pc_Mod_islandHere <| ds_fc ds_pc_Mod_islandLine <| ds_fc ds_pc_Mod_islandPassed <| ds_fc ds_pc_Mod_journey <| ds_fc ds_pc_Mod_judge <| ds_fc ds_pc_Mod_lay <| ds_fc ds_pc_Mod_layBridges <| ds_fc ds_pc_Mod_layDeck <| ds_fc ds_pc_Mod_layPlan <| ds_fc ds_pc_Mod_layWays <| ds_fc ds_pc_Mod_led <| ds_fc ds_pc_Mod_look <| ds_fc ds_pc_Mod_lowest <| ds_fc ds_pc_Mod_makes <| ds_fc ds_pc_Mod_moveAt <| ds_fc ds_pc_Mod_moveOfWay <| ds_fc ds_pc_Mod_moved <| ds_fc ds_pc_Mod_movesOf <| ds_fc ds_pc_Mod_must <| ds_fc ds_pc_Mod_mustName <| ds_fc ds_pc_Mod_nearest <| ds_fc ds_pc_Mod_newName <| ds_fc ds_pc_Mod_next <| ds_fc ds_pc_Mod_no <| ds_fc ds_pc_Mod_note <| ds_fc ds_pc_Mod_number <| ds_fc ds_pc_Mod_odds <| ds_fc ds_pc_Mod_of <| ds_fc ds_pc_Mod_oneMore <| ds_fc ds_pc_Mod_oneOf <| ds_fc ds_pc_Mod_palm <| ds_fc ds_pc_Mod_people <| ds_fc ds_pc_Mod_placeIn <| ds_fc ds_pc_Mod_planWhy <| ds_fc ds_pc_Mod_planned <| ds_fc ds_pc_Mod_plannedTrades <| ds_fc ds_pc_Mod_readLine <| ds_fc ds_pc_Mod_rest <| ds_fc ds_pc_Mod_rests <| ds_fc ds_pc_Mod_restsOf <| ds_fc ds_pc_Mod_room <| ds_fc ds_pc_Mod_run <| ds_fc ds_pc_Mod_runAt <| ds_fc ds_pc_Mod_runFrom <| ds_fc ds_pc_Mod_runNow <| ds_fc ds_pc_Mod_same <| ds_fc ds_pc_Mod_sea <| ds_fc ds_pc_Mod_seaLine <| ds_fc ds_pc_Mod_seek <| ds_fc ds_pc_Mod_seekFits <| ds_fc ds_pc_Mod_seekPlace <| ds_fc ds_pc_Mod_seekTwo <| ds_fc ds_pc_Mod_showsLine <| ds_fc ds_pc_Mod_size <| ds_fc ds_pc_Mod_stateOf <| ds_fc ds_pc_Mod_takesWord <| ds_fc ds_pc_Mod_three <| ds_fc ds_pc_Mod_thrown <| ds_fc ds_pc_Mod_together <| ds_fc ds_pc_Mod_togetherAt <| ds_fc ds_pc_Mod_trade <| ds_fc ds_pc_Mod_tradeOf <| ds_fc ds_pc_Mod_trades <| ds_fc ds_pc_Mod_tradesBy <| ds_fc ds_pc_Mod_tradesIn <| ds_fc ds_pc_Mod_trouble <| ds_fc ds_pc_Mod_tryFits <| ds_fc ds_pc_Mod_undo <| ds_fc ds_pc_Mod_wars <| ds_fc ds_pc_Mod_wayLong <| ds_fc ds_pc_Mod_where <| ds_fc ds_pc_Mod_wishLine <| ds_fc ds_pc_Mod_wishes <| ds_fc ds_pc_Mod_wishesIn <| ds_fc ds_pc_Mod_wrong <| ds_fc ds_pc_Math_abs <| ds_fc ds_pc_Math_floorMod <| ds_fc ds_pc_Math_max <| ds_fc ds_pc_Math_maxL <| ds_fc ds_pc_Math_min <| ds_fc ds_pc_Math_minL <| ds_fc ds_pc_Integer_bitCount <| ds_fc ds_pc_Arrays_fill <| ds_fc ds_pc_Arrays_fillL <| ds_fn
set_option maxRecDepth 100000 in
theorem ds_mi_in : ∀ w ∈ ds_mt.map (fun e => Cond.initialized e.1.cls), w ∈ lw_tbl := ds_picks _ [143, 143, 143, 143, 143, 143, 141, 141, 141, 141, 141, 141, 141, 141, 141, 141, 141, 141, 141, 141, 141, 141, 141, 141, 141, 141, 141, 141, 141, 141, 140, 140, 140, 140, 140, 140, 140, 140, 140, 140, 140, 144, 144, 144, 144, 144, 138, 138, 138, 138, 138, 138, 138, 138, 138, 138, 138, 138, 138, 138, 138, 138, 138, 138, 138, 138, 138, 138, 138, 138, 138, 138, 142, 142, 142, 142, 142, 142, 142, 142, 142, 142, 142, 145, 145, 145, 145, 145, 139, 139, 139, 139, 139, 139, 139, 139, 139, 139, 139, 139, 139, 137, 137, 137, 137, 137, 137, 137, 137, 137, 137, 137, 137, 137, 137, 137, 137, 137, 137, 137, 137, 137, 137, 137, 137, 137, 137, 137, 137, 137, 137, 137, 137, 137, 137, 137, 137, 137, 137, 137, 137, 137, 137, 137, 137, 137, 137, 137, 137, 137, 137, 137, 137, 137, 137, 137, 137, 137, 137, 137, 137, 137, 137, 137, 137, 137, 137, 137, 137, 137, 137, 137, 137, 137, 137, 137, 137, 137, 137, 137, 137, 137, 137, 137, 137, 137, 147, 147, 147, 147, 147, 147, 147, 147, 147, 147, 147, 147, 147, 147, 147, 147, 147, 147, 147, 147, 147, 147, 147, 147, 147, 147, 147, 147, 147, 147, 147, 147, 147, 147, 147, 147, 147, 147, 147, 147, 147, 147, 147, 147, 147, 147, 147, 147, 147, 147, 147, 147, 147, 147, 147, 147, 147, 147, 147, 147, 147, 147, 147, 147, 147, 147, 147, 147, 147, 147, 147, 147, 147, 147, 147, 147, 147, 147, 147, 147, 147, 147, 147, 147, 147, 147, 147, 147, 147, 147, 147, 147, 147, 147, 147, 147, 147, 147, 147, 147, 147, 147, 147, 147, 147, 147, 147, 147, 147, 147, 147, 147, 147, 147, 147, 147, 147, 147, 147, 147, 147, 147, 147, 147, 147, 147, 147, 147, 147, 147, 147, 146, 146, 146, 146, 146, 146, 154, 152, 152] rfl
def ds_yj (j : Nat) : MethodName := (ds_mt.getD j ds_m_Sea_look).1
def ds_mlv : List (String × Nat × Nat × Nat × Nat) := ds_ml.filter fun q => Nat.beq q.2.2.2.2 0
def ds_mls : List (String × Nat × Nat × Nat × Nat) := ds_ml.filter fun q => Nat.beq q.2.2.2.2 1
def ds_mln : List (String × Nat × Nat × Nat × Nat) := ds_ml.filter fun q => Nat.beq q.2.2.2.2 2
set_option maxRecDepth 100000 in
theorem ds_mv_in : ∀ w ∈ ds_mlv.map (fun q => Cond.methodLink q.1 q.2.1 (ds_yj q.2.2.1)), w ∈ lw_tbl := ds_picks _ [487, 495, 499, 713, 717, 721, 725, 729, 745, 750, 759, 763, 771, 783, 804, 808, 816, 820, 841, 862, 885, 898, 899, 911, 920, 935, 943, 948, 982, 989, 993, 952, 1006, 1014, 956, 1022, 1026, 1034, 1057, 1071, 1072, 1038, 1081, 1046, 1096, 1135, 1143, 1156, 1168, 1176, 1180, 1196, 1184, 1204, 1212, 1221, 1230, 1247, 1259, 1280, 1296, 1305, 1313, 1333, 775, 1147, 1216, 1225, 1264, 1053, 1076, 779, 781, 796, 853, 787, 792, 824, 828, 832, 836, 845, 849, 915, 867, 871, 875, 876, 889, 890, 903, 924, 1300, 1238, 1234, 506, 510, 536, 690, 597, 694, 514, 521, 532, 593, 605, 622, 652, 661, 678, 601, 610, 614, 626, 647, 657, 665, 669, 674, 682, 686, 630, 634, 1100, 1106, 1117, 1125, 1130, 1121, 1151, 1284, 1288, 1317, 1321, 701, 702, 706, 1346, 483, 1557, 491, 1561, 733, 1703, 737, 1707, 741, 1711, 755, 1726, 767, 1730, 800, 1750, 812, 1762, 837, 1770, 858, 1774, 881, 1790, 894, 1794, 907, 1806, 916, 1818, 928, 1802, 939, 1814, 944, 1822, 970, 1837, 974, 1845, 978, 1853, 998, 1865, 1002, 1869, 1010, 1877, 1018, 1889, 1030, 1900, 1067, 1919, 1077, 1923, 1092, 1928, 1139, 1956, 1152, 1964, 1160, 1972, 1164, 1976, 1172, 1980, 1188, 1992, 1192, 1996, 1200, 2000, 1208, 2004, 1217, 2016, 1243, 2028, 1251, 2032, 1268, 2046, 1272, 2050, 1276, 2054, 1292, 2062, 1301, 2066, 1309, 2074, 1325, 2078, 1329, 2082, 2086, 1553, 1334, 2090, 1338, 2094, 1580, 1595, 1576, 1618, 1605, 1656, 1663, 1688, 1614, 1622, 1636, 1565, 1572, 1590, 1699, 1601, 1644, 1648, 1672, 1680, 1692, 1610, 1628, 1652, 1684, 1742, 1746, 1738, 1719, 1758, 1734, 1754, 1715, 1766, 1786, 1782, 1778, 1798, 1810, 1830, 1826, 1841, 1849, 1861, 1857, 1873, 1885, 1881, 1908, 1893, 1904, 1912, 1936, 1944, 1948, 1952, 1940, 1932, 1960, 1968, 1988, 1984, 2008, 2012, 2024, 2020, 2036, 2041, 2058, 2070] rfl
set_option maxRecDepth 100000 in
theorem ds_mvi_in : ∀ w ∈ ds_mlv.map (fun q => Cond.instanceMethod (ds_yj q.2.2.1)), w ∈ lw_tbl := ds_picks _ [488, 497, 500, 714, 718, 722, 726, 731, 747, 751, 761, 764, 773, 784, 805, 809, 818, 821, 842, 863, 886, 788, 900, 912, 921, 936, 925, 950, 984, 991, 995, 954, 1007, 1016, 957, 1024, 1028, 1036, 1058, 683, 1073, 1039, 1082, 1047, 1097, 1136, 1145, 1157, 1169, 1178, 1182, 1198, 1185, 1205, 1214, 1223, 1231, 1248, 1261, 1281, 1297, 1306, 1314, 1318, 776, 1148, 825, 1226, 1266, 1055, 1058, 683, 764, 798, 854, 788, 794, 825, 830, 833, 809, 847, 851, 805, 869, 873, 784, 878, 863, 892, 905, 925, 764, 1240, 1236, 507, 512, 538, 692, 599, 695, 516, 523, 534, 595, 607, 624, 654, 663, 680, 603, 612, 616, 628, 648, 658, 667, 670, 675, 683, 687, 632, 636, 1102, 1108, 1119, 1127, 1132, 1123, 1136, 1286, 1289, 1318, 1322, 683, 704, 708, 1347, 484, 1558, 492, 1562, 734, 1704, 738, 1708, 742, 1712, 756, 1727, 768, 1731, 801, 1751, 813, 1763, 838, 1771, 859, 1775, 882, 1791, 895, 1795, 908, 1807, 917, 1819, 929, 1803, 940, 1815, 945, 1823, 971, 1838, 975, 1846, 979, 1854, 999, 1866, 1003, 1870, 1011, 1878, 1019, 1890, 1031, 1901, 1068, 1920, 1078, 1924, 1093, 1929, 1140, 1957, 1153, 1965, 1161, 1973, 1165, 1977, 1173, 1981, 1189, 1993, 1193, 1997, 1201, 2001, 1209, 2005, 1218, 2017, 1244, 2029, 1252, 2033, 1269, 2047, 1273, 2051, 1277, 2055, 1293, 2063, 1302, 2067, 1310, 2075, 1326, 2079, 1330, 2083, 2087, 1554, 1335, 2091, 1339, 2095, 1582, 1597, 1578, 1620, 1607, 1658, 1665, 1690, 1616, 1624, 1638, 1567, 1574, 1592, 1701, 1603, 1646, 1650, 1674, 1682, 1694, 1612, 1630, 1654, 1686, 1744, 1748, 1740, 1721, 1760, 1736, 1756, 1717, 1768, 1788, 1784, 1780, 1800, 1812, 1832, 1828, 1843, 1851, 1863, 1859, 1875, 1887, 1883, 1910, 1895, 1906, 1914, 1938, 1946, 1950, 1954, 1942, 1934, 1962, 1970, 1990, 1986, 2010, 2014, 2026, 2022, 2038, 2043, 2060, 2072] rfl
set_option maxRecDepth 100000 in
theorem ds_mvs_in : ∀ w ∈ ds_mlv.map (fun q => Cond.selects (ds_yj q.2.2.1).cls (ds_yj q.2.2.1) (ds_yj q.2.2.1)), w ∈ lw_tbl := ds_picks _ [489, 0, 501, 715, 719, 723, 727, 23, 24, 752, 25, 765, 26, 785, 806, 810, 29, 822, 843, 864, 887, 789, 901, 913, 922, 937, 926, 38, 40, 41, 42, 39, 1008, 43, 958, 44, 45, 46, 1059, 684, 1074, 1040, 1083, 1048, 1098, 1137, 54, 1158, 1170, 55, 56, 57, 1186, 1206, 58, 59, 1232, 1249, 62, 1282, 1298, 1307, 1315, 1319, 777, 1149, 826, 1227, 63, 47, 1059, 684, 765, 28, 855, 789, 27, 826, 30, 834, 810, 31, 32, 806, 33, 34, 785, 35, 864, 36, 37, 926, 765, 61, 60, 508, 1, 5, 20, 7, 696, 2, 3, 4, 6, 9, 12, 16, 17, 19, 8, 10, 11, 13, 649, 659, 18, 671, 676, 684, 688, 14, 15, 48, 49, 50, 52, 53, 51, 1137, 64, 1290, 1319, 1323, 684, 21, 22, 1348, 485, 1559, 493, 1563, 735, 1705, 739, 1709, 743, 1713, 757, 1728, 769, 1732, 802, 1752, 814, 1764, 839, 1772, 860, 1776, 883, 1792, 896, 1796, 909, 1808, 918, 1820, 930, 1804, 941, 1816, 946, 1824, 972, 1839, 976, 1847, 980, 1855, 1000, 1867, 1004, 1871, 1012, 1879, 1020, 1891, 1032, 1902, 1069, 1921, 1079, 1925, 1094, 1930, 1141, 1958, 1154, 1966, 1162, 1974, 1166, 1978, 1174, 1982, 1190, 1994, 1194, 1998, 1202, 2002, 1210, 2006, 1219, 2018, 1245, 2030, 1253, 2034, 1270, 2048, 1274, 2052, 1278, 2056, 1294, 2064, 1303, 2068, 1311, 2076, 1327, 2080, 1331, 2084, 2088, 1555, 1336, 2092, 1340, 2096, 69, 71, 68, 76, 73, 83, 84, 88, 75, 77, 79, 66, 67, 70, 90, 72, 80, 81, 85, 86, 89, 74, 78, 82, 87, 95, 96, 94, 92, 98, 93, 97, 91, 99, 102, 101, 100, 103, 104, 106, 105, 107, 108, 110, 109, 111, 113, 112, 116, 114, 115, 117, 119, 121, 122, 123, 120, 118, 124, 125, 127, 126, 128, 129, 131, 130, 132, 133, 134, 135] rfl
set_option maxRecDepth 100000 in
theorem ds_ms_in : ∀ w ∈ ds_mls.map (fun q => Cond.methodLink q.1 q.2.1 (ds_yj q.2.2.1)), w ∈ lw_tbl := ds_picks _ [749, 932, 1061, 986, 1255, 997, 966, 1064, 592, 1042, 1043, 1085, 1088, 780, 857, 866, 880, 503, 518, 529, 1104, 1111, 426, 698, 710, 1584, 1587, 1569, 1696, 1834, 1723, 1897, 1916] rfl
set_option maxRecDepth 100000 in
theorem ds_mst_in : ∀ w ∈ ds_mls.map (fun q => Cond.static (ds_yj q.2.2.1)), w ∈ lw_tbl := ds_picks _ [639, 933, 1062, 987, 1256, 964, 967, 1065, 526, 504, 1044, 1086, 1089, 504, 711, 699, 427, 504, 519, 530, 699, 1112, 427, 699, 711, 1585, 1588, 1570, 1697, 1835, 1724, 1898, 1917] rfl
set_option maxRecDepth 100000 in
theorem ds_mn_in : ∀ w ∈ ds_mln.map (fun q => Cond.methodLinkNest q.1 q.2.1 (ds_yj q.2.2.1) "DealtSea"), w ∈ lw_tbl := ds_picks _ [1051, 1052, 782, 791, 754, 963, 969, 1229, 1242, 525, 541, 638, 641, 1105, 1110, 1129, 1134, 651, 673] rfl
set_option maxRecDepth 100000 in
theorem ds_mnt_in : ∀ w ∈ ds_mln.map (fun q => Cond.static (ds_yj q.2.2.1)), w ∈ lw_tbl := ds_picks _ [987, 964, 642, 639, 639, 964, 642, 642, 639, 526, 542, 639, 642, 642, 639, 987, 964, 642, 639] rfl
