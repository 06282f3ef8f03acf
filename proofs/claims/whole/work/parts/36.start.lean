/-! what the start gives: the classes, the links to nest mates, the texts -/
def ds_tm (i : Nat) : Term := .string (ds_tl.getD i ("", 0, 0)).1 (ds_tl.getD i ("", 0, 0)).2.1
def ds_tmv (i : Nat) : Term := .field (ds_tm i) "java/lang/String" "value" "[B"
def ds_txc (i : Nat) : List Cond := [.exactly (ds_tm i) "java/lang/String", .eq (.field (ds_tm i) "java/lang/String" "coder" "B") (.int 0), .arrayOf (ds_tmv i) .byte, .eq (.length (ds_tmv i)) (.int (Int32.ofNat (ds_txt.getD i []).length))] ++
  (List.range (ds_txt.getD i []).length).map fun j => .eq (.elem (ds_tmv i) (.int (Int32.ofNat j))) (.int (Int32.ofNat ((ds_txt.getD i []).getD j 0)))
set_option maxRecDepth 100000 in
theorem ds_txc_0 : ∀ w ∈ ds_txc 0, w ∈ flatC (Jvm.Cond.and given_1 narrow_1) := ds_picks _ [21, 22, 23, 24, 25, 26, 27, 28, 29, 30, 31, 32, 33, 34, 35, 36, 37, 38, 39, 40, 41, 42, 43, 44, 45, 46, 47, 48, 49, 50, 51, 52] rfl
set_option maxRecDepth 100000 in
theorem ds_txc_1 : ∀ w ∈ ds_txc 1, w ∈ flatC (Jvm.Cond.and given_1 narrow_1) := ds_picks _ [53, 54, 55, 56, 57, 58, 59, 60] rfl
set_option maxRecDepth 100000 in
theorem ds_txc_2 : ∀ w ∈ ds_txc 2, w ∈ flatC (Jvm.Cond.and given_1 narrow_1) := ds_picks _ [61, 62, 63, 64, 65, 66, 67, 68] rfl
set_option maxRecDepth 100000 in
theorem ds_txc_3 : ∀ w ∈ ds_txc 3, w ∈ flatC (Jvm.Cond.and given_1 narrow_1) := ds_picks _ [69, 70, 71, 72, 73, 74, 75, 76, 77, 78] rfl
set_option maxRecDepth 100000 in
theorem ds_txc_4 : ∀ w ∈ ds_txc 4, w ∈ flatC (Jvm.Cond.and given_1 narrow_1) := ds_picks _ [79, 80, 81, 82, 83, 84, 85, 86, 87, 88, 89, 90, 91, 92, 93, 94, 95, 96, 97, 98, 99, 100, 101, 102] rfl
set_option maxRecDepth 100000 in
theorem ds_txc_5 : ∀ w ∈ ds_txc 5, w ∈ flatC (Jvm.Cond.and given_1 narrow_1) := ds_picks _ [103, 104, 105, 106, 107, 108, 109, 110, 111, 112, 113, 114, 115] rfl
set_option maxRecDepth 100000 in
theorem ds_txc_6 : ∀ w ∈ ds_txc 6, w ∈ flatC (Jvm.Cond.and given_1 narrow_1) := ds_picks _ [116, 117, 118, 119, 120, 121, 122, 123, 124, 125, 126, 127, 128, 129, 130, 131, 132, 133, 134, 135, 136, 137] rfl
set_option maxRecDepth 100000 in
theorem ds_txc_7 : ∀ w ∈ ds_txc 7, w ∈ flatC (Jvm.Cond.and given_1 narrow_1) := ds_picks _ [138, 139, 140, 141, 142, 143, 144, 145] rfl
set_option maxRecDepth 100000 in
theorem ds_txc_8 : ∀ w ∈ ds_txc 8, w ∈ flatC (Jvm.Cond.and given_1 narrow_1) := ds_picks _ [146, 147, 148, 149, 150, 151, 152, 153, 154, 155] rfl
set_option maxRecDepth 100000 in
theorem ds_txc_9 : ∀ w ∈ ds_txc 9, w ∈ flatC (Jvm.Cond.and given_1 narrow_1) := ds_picks _ [156, 157, 158, 159, 160, 161, 162, 163, 164, 165, 166, 167, 168, 169, 170, 171, 172, 173, 174] rfl
set_option maxRecDepth 100000 in
theorem ds_txc_10 : ∀ w ∈ ds_txc 10, w ∈ flatC (Jvm.Cond.and given_1 narrow_1) := ds_picks _ [175, 176, 177, 178, 179, 180, 181] rfl
set_option maxRecDepth 100000 in
theorem ds_txc_11 : ∀ w ∈ ds_txc 11, w ∈ flatC (Jvm.Cond.and given_1 narrow_1) := ds_picks _ [182, 183, 184, 185, 186, 187, 188, 189] rfl
set_option maxRecDepth 100000 in
theorem ds_txc_12 : ∀ w ∈ ds_txc 12, w ∈ flatC (Jvm.Cond.and given_1 narrow_1) := ds_picks _ [191, 192, 193, 194, 195, 196, 197, 198] rfl
set_option maxRecDepth 100000 in
theorem ds_txc_13 : ∀ w ∈ ds_txc 13, w ∈ flatC (Jvm.Cond.and given_1 narrow_1) := ds_picks _ [200, 201, 202, 203, 204, 205, 206, 207, 208, 209] rfl
set_option maxRecDepth 100000 in
theorem ds_txc_14 : ∀ w ∈ ds_txc 14, w ∈ flatC (Jvm.Cond.and given_1 narrow_1) := ds_picks _ [211, 212, 213, 214, 215, 216, 217, 218, 219] rfl
set_option maxRecDepth 100000 in
theorem ds_txc_15 : ∀ w ∈ ds_txc 15, w ∈ flatC (Jvm.Cond.and given_1 narrow_1) := ds_picks _ [220, 221, 222, 223, 224, 225, 226, 227] rfl
set_option maxRecDepth 100000 in
theorem ds_txc_16 : ∀ w ∈ ds_txc 16, w ∈ flatC (Jvm.Cond.and given_1 narrow_1) := ds_picks _ [228, 229, 230, 231, 232, 233, 234, 235] rfl
set_option maxRecDepth 100000 in
theorem ds_txc_17 : ∀ w ∈ ds_txc 17, w ∈ flatC (Jvm.Cond.and given_1 narrow_1) := ds_picks _ [236, 237, 238, 239, 240, 241, 242, 243] rfl
set_option maxRecDepth 100000 in
theorem ds_txc_18 : ∀ w ∈ ds_txc 18, w ∈ flatC (Jvm.Cond.and given_1 narrow_1) := ds_picks _ [244, 245, 246, 247, 248, 249, 250, 251] rfl
set_option maxRecDepth 100000 in
theorem ds_txc_19 : ∀ w ∈ ds_txc 19, w ∈ flatC (Jvm.Cond.and given_1 narrow_1) := ds_picks _ [252, 253, 254, 255, 256, 257, 258, 259] rfl
set_option maxRecDepth 100000 in
theorem ds_txc_20 : ∀ w ∈ ds_txc 20, w ∈ flatC (Jvm.Cond.and given_1 narrow_1) := ds_picks _ [260, 261, 262, 263] rfl
set_option maxRecDepth 100000 in
theorem ds_txc_21 : ∀ w ∈ ds_txc 21, w ∈ flatC (Jvm.Cond.and given_1 narrow_1) := ds_picks _ [264, 265, 266, 267, 268, 269, 270, 271, 272, 273] rfl
set_option maxRecDepth 100000 in
theorem ds_txc_22 : ∀ w ∈ ds_txc 22, w ∈ flatC (Jvm.Cond.and given_1 narrow_1) := ds_picks _ [274, 275, 276, 277, 278, 279, 280, 281, 282, 283] rfl
set_option maxRecDepth 100000 in
theorem ds_txc_23 : ∀ w ∈ ds_txc 23, w ∈ flatC (Jvm.Cond.and given_1 narrow_1) := ds_picks _ [284, 285, 286, 287, 288, 289, 290, 291] rfl
set_option maxRecDepth 100000 in
theorem ds_txc_24 : ∀ w ∈ ds_txc 24, w ∈ flatC (Jvm.Cond.and given_1 narrow_1) := ds_picks _ [292, 293, 294, 295, 296, 297, 298, 299, 300] rfl
set_option maxRecDepth 100000 in
theorem ds_txc_25 : ∀ w ∈ ds_txc 25, w ∈ flatC (Jvm.Cond.and given_1 narrow_1) := ds_picks _ [301, 302, 303, 304, 305, 306, 307, 308, 309] rfl
set_option maxRecDepth 100000 in
theorem ds_txc_26 : ∀ w ∈ ds_txc 26, w ∈ flatC (Jvm.Cond.and given_1 narrow_1) := ds_picks _ [310, 311, 312, 313, 314, 315, 316, 317, 318, 319] rfl
set_option maxRecDepth 100000 in
theorem ds_txc_27 : ∀ w ∈ ds_txc 27, w ∈ flatC (Jvm.Cond.and given_1 narrow_1) := ds_picks _ [320, 321, 322, 323, 324, 325, 326, 327, 328] rfl
set_option maxRecDepth 100000 in
theorem ds_txc_28 : ∀ w ∈ ds_txc 28, w ∈ flatC (Jvm.Cond.and given_1 narrow_1) := ds_picks _ [329, 330, 331, 332, 333, 334, 335, 336] rfl
set_option maxRecDepth 100000 in
theorem ds_txc_29 : ∀ w ∈ ds_txc 29, w ∈ flatC (Jvm.Cond.and given_1 narrow_1) := ds_picks _ [338, 339, 340, 341, 342, 343, 344, 345, 346, 347] rfl
set_option maxRecDepth 100000 in
theorem ds_txc_30 : ∀ w ∈ ds_txc 30, w ∈ flatC (Jvm.Cond.and given_1 narrow_1) := ds_picks _ [349, 350, 351, 352, 353, 354, 355] rfl
set_option maxRecDepth 100000 in
theorem ds_txc_31 : ∀ w ∈ ds_txc 31, w ∈ flatC (Jvm.Cond.and given_1 narrow_1) := ds_picks _ [356, 357, 358, 359, 360, 361] rfl
set_option maxRecDepth 100000 in
theorem ds_txc_32 : ∀ w ∈ ds_txc 32, w ∈ flatC (Jvm.Cond.and given_1 narrow_1) := ds_picks _ [362, 363, 364, 365, 366, 367, 368, 369] rfl
set_option maxRecDepth 100000 in
theorem ds_txc_33 : ∀ w ∈ ds_txc 33, w ∈ flatC (Jvm.Cond.and given_1 narrow_1) := ds_picks _ [370, 371, 372, 373, 374, 375, 376] rfl
theorem ds_txc_in : ∀ i, i < 34 → ∀ w ∈ ds_txc i, w ∈ flatC (Jvm.Cond.and given_1 narrow_1) := by
  intro i hi
  match i, hi with
  | 0, _ => exact ds_txc_0
  | 1, _ => exact ds_txc_1
  | 2, _ => exact ds_txc_2
  | 3, _ => exact ds_txc_3
  | 4, _ => exact ds_txc_4
  | 5, _ => exact ds_txc_5
  | 6, _ => exact ds_txc_6
  | 7, _ => exact ds_txc_7
  | 8, _ => exact ds_txc_8
  | 9, _ => exact ds_txc_9
  | 10, _ => exact ds_txc_10
  | 11, _ => exact ds_txc_11
  | 12, _ => exact ds_txc_12
  | 13, _ => exact ds_txc_13
  | 14, _ => exact ds_txc_14
  | 15, _ => exact ds_txc_15
  | 16, _ => exact ds_txc_16
  | 17, _ => exact ds_txc_17
  | 18, _ => exact ds_txc_18
  | 19, _ => exact ds_txc_19
  | 20, _ => exact ds_txc_20
  | 21, _ => exact ds_txc_21
  | 22, _ => exact ds_txc_22
  | 23, _ => exact ds_txc_23
  | 24, _ => exact ds_txc_24
  | 25, _ => exact ds_txc_25
  | 26, _ => exact ds_txc_26
  | 27, _ => exact ds_txc_27
  | 28, _ => exact ds_txc_28
  | 29, _ => exact ds_txc_29
  | 30, _ => exact ds_txc_30
  | 31, _ => exact ds_txc_31
  | 32, _ => exact ds_txc_32
  | 33, _ => exact ds_txc_33
  | n + 34, h => exact absurd h (by omega)
set_option maxRecDepth 100000 in
theorem ds_tsr_all : ∀ w ∈ (List.range 34).map (fun i => Cond.stringRef (ds_tl.getD i ("", 0, 0)).1 (ds_tl.getD i ("", 0, 0)).2.1 (ds_tx.getD i "")), w ∈ lw_tbl := ds_picks _ [540, 609, 618, 619, 620, 621, 644, 645, 646, 656, 1594, 1609, 1626, 1627, 1632, 1633, 1634, 1635, 1640, 1641, 1642, 1643, 1660, 1661, 1662, 1667, 1668, 1669, 1670, 1671, 1676, 1677, 1678, 1679] rfl
set_option maxRecDepth 100000 in
theorem ds_w_comp : (Jvm.Cond.eq (Jvm.Term.static "java/lang/String" "COMPACT_STRINGS" "Z") (Jvm.Term.int (1 : Int32))) ∈ flatC (Jvm.Cond.and given_1 narrow_1) := List.mem_of_getElem? (i := 4) rfl
set_option maxRecDepth 100000 in
theorem ds_w_sio : (Jvm.Cond.isRef (Jvm.Term.static "jdk/internal/util/Preconditions" "SIOOBE_FORMATTER" "Ljava/util/function/BiFunction;")) ∈ flatC (Jvm.Cond.and given_1 narrow_1) := List.mem_of_getElem? (i := 5) rfl
