/-! links: which field, method, constant, text an instruction names; each a word of the tables -/
def ds_cnm : List String := ["DealtSea$Chances", "DealtSea$Chart", "DealtSea$Deck", "DealtSea$Game", "DealtSea$Reader", "DealtSea$Search", "DealtSea$Shelf", "DealtSea$Told", "DealtSea", "DealtSeaModel"]
def ds_f3 {α : Type} : List (String × Nat × α) → String → Nat → Option α
  | [], _, _ => none
  | q :: r, own, i => if q.2.1 = i ∧ q.1 = own then some q.2.2 else ds_f3 r own i
def ds_fl : List (String × Nat × Nat) := [("DealtSea", 10, 512), ("DealtSea", 19, 513), ("DealtSea", 26, 514), ("DealtSea", 30, 515), ("DealtSea", 36, 516), ("DealtSea", 43, 517), ("DealtSea", 50, 518), ("DealtSea", 57, 519), ("DealtSea", 66, 520), ("DealtSea", 70, 521), ("DealtSea", 73, 522), ("DealtSea", 77, 523), ("DealtSea", 80, 524), ("DealtSea", 83, 257), ("DealtSea", 104, 452), ("DealtSea", 120, 453), ("DealtSea", 128, 454), ("DealtSea", 131, 455), ("DealtSea", 134, 456), ("DealtSea", 137, 131), ("DealtSea", 201, 457), ("DealtSea", 207, 462), ("DealtSea", 210, 463), ("DealtSea", 213, 464), ("DealtSea", 234, 130), ("DealtSea", 254, 3), ("DealtSea", 345, 387), ("DealtSea", 358, 448), ("DealtSea", 361, 449), ("DealtSea", 364, 450), ("DealtSea", 367, 451), ("DealtSea", 370, 459), ("DealtSea", 378, 458), ("DealtSea", 391, 193), ("DealtSea$Chances", 9, 0), ("DealtSea$Chances", 15, 1), ("DealtSea$Chances", 18, 2), ("DealtSea$Chances", 22, 3), ("DealtSea$Chart", 12, 64), ("DealtSea$Chart", 18, 65), ("DealtSea$Chart", 22, 66), ("DealtSea$Chart", 26, 67), ("DealtSea$Chart", 33, 130), ("DealtSea$Chart", 63, 465), ("DealtSea$Chart", 75, 454), ("DealtSea$Chart", 81, 448), ("DealtSea$Chart", 97, 455), ("DealtSea$Chart", 103, 459), ("DealtSea$Chart", 106, 460), ("DealtSea$Chart", 109, 461), ("DealtSea$Chart", 142, 456), ("DealtSea$Deck", 9, 128), ("DealtSea$Deck", 15, 129), ("DealtSea$Deck", 18, 130), ("DealtSea$Deck", 22, 131), ("DealtSea$Game", 9, 192), ("DealtSea$Game", 15, 193), ("DealtSea$Reader", 9, 256), ("DealtSea$Reader", 15, 257), ("DealtSea$Reader", 22, 258), ("DealtSea$Reader", 26, 259), ("DealtSea$Reader", 29, 260), ("DealtSea$Reader", 32, 261), ("DealtSea$Reader", 35, 262), ("DealtSea$Reader", 38, 263), ("DealtSea$Reader", 42, 264), ("DealtSea$Reader", 45, 265), ("DealtSea$Reader", 48, 266), ("DealtSea$Reader", 51, 267), ("DealtSea$Reader", 55, 268), ("DealtSea$Reader", 79, 452), ("DealtSea$Reader", 138, 457), ("DealtSea$Reader", 141, 459), ("DealtSea$Reader", 144, 462), ("DealtSea$Reader", 156, 448), ("DealtSea$Reader", 160, 449), ("DealtSea$Reader", 166, 450), ("DealtSea$Reader", 170, 451), ("DealtSea$Search", 11, 320), ("DealtSea$Search", 15, 321), ("DealtSea$Search", 18, 322), ("DealtSea$Search", 21, 323), ("DealtSea$Search", 24, 324), ("DealtSea$Search", 28, 325), ("DealtSea$Search", 31, 326), ("DealtSea$Search", 34, 327), ("DealtSea$Search", 41, 465), ("DealtSea$Shelf", 9, 386), ("DealtSea$Shelf", 15, 387), ("DealtSea$Shelf", 24, 384), ("DealtSea$Shelf", 27, 385), ("DealtSea$Told", 9, 448), ("DealtSea$Told", 15, 449), ("DealtSea$Told", 18, 450), ("DealtSea$Told", 21, 451), ("DealtSea$Told", 24, 452), ("DealtSea$Told", 27, 453), ("DealtSea$Told", 31, 454), ("DealtSea$Told", 34, 455), ("DealtSea$Told", 37, 456), ("DealtSea$Told", 40, 457), ("DealtSea$Told", 43, 458), ("DealtSea$Told", 46, 459), ("DealtSea$Told", 49, 460), ("DealtSea$Told", 52, 461), ("DealtSea$Told", 55, 462), ("DealtSea$Told", 58, 463), ("DealtSea$Told", 61, 464), ("DealtSea$Told", 64, 465), ("DealtSeaModel", 7, 577), ("DealtSeaModel", 13, 586), ("DealtSeaModel", 17, 588), ("DealtSeaModel", 20, 591), ("DealtSeaModel", 23, 592), ("DealtSeaModel", 26, 593), ("DealtSeaModel", 29, 594), ("DealtSeaModel", 32, 595), ("DealtSeaModel", 35, 598), ("DealtSeaModel", 38, 599), ("DealtSeaModel", 41, 600), ("DealtSeaModel", 44, 601), ("DealtSeaModel", 47, 602), ("DealtSeaModel", 50, 603), ("DealtSeaModel", 53, 604), ("DealtSeaModel", 56, 607), ("DealtSeaModel", 60, 608), ("DealtSeaModel", 63, 609), ("DealtSeaModel", 66, 610), ("DealtSeaModel", 69, 611), ("DealtSeaModel", 72, 616), ("DealtSeaModel", 75, 576), ("DealtSeaModel", 78, 587), ("DealtSeaModel", 81, 578), ("DealtSeaModel", 84, 579), ("DealtSeaModel", 87, 581), ("DealtSeaModel", 94, 580), ("DealtSeaModel", 97, 584), ("DealtSeaModel", 100, 583), ("DealtSeaModel", 103, 582), ("DealtSeaModel", 113, 589), ("DealtSeaModel", 117, 585), ("DealtSeaModel", 204, 590), ("DealtSeaModel", 207, 596), ("DealtSeaModel", 210, 597), ("DealtSeaModel", 342, 606), ("DealtSeaModel", 345, 605), ("DealtSeaModel", 387, 612), ("DealtSeaModel", 390, 613), ("DealtSeaModel", 393, 615), ("DealtSeaModel", 399, 614), ("DealtSeaModel", 436, 617), ("DealtSeaModel", 445, 618), ("DealtSeaModel", 448, 619), ("DealtSeaModel", 451, 620)]
def ds_Tk (f : Nat) : String × String × String × Bool := match vwCl[f / 64]? with
  | some q => q.2.1 (f % 64)
  | none => ("", "", "", true)
def ds_flw (q : String × Nat × Nat) : Cond := .fieldLink q.1 q.2.1 (ds_Tk q.2.2).1 (ds_Tk q.2.2).2.1 (ds_Tk q.2.2).2.2.1
/-- own, place in the pool, method, how it is called; 0 virtual, 1 static, 2 static of a nest mate, 3 .. 5 a text's length, charAt, arraycopy -/
def ds_ml : List (String × Nat × Nat × Nat × Nat) := [("DealtSea", 86, 56, 258, 0), ("DealtSea", 89, 163, 530, 0), ("DealtSea", 93, 66, 274, 0), ("DealtSea", 96, 59, 273, 0), ("DealtSea", 100, 51, 306, 0), ("DealtSea", 107, 33, 130, 0), ("DealtSea", 110, 83, 385, 0), ("DealtSea", 113, 104, 530, 0), ("DealtSea", 116, 138, 530, 0), ("DealtSea", 124, 146, 6354, 1), ("DealtSea", 140, 34, 146, 0), ("DealtSea", 143, 140, 530, 0), ("DealtSea", 146, 30, 146, 0), ("DealtSea", 149, 113, 562, 0), ("DealtSea", 153, 18, 82, 0), ("DealtSea", 156, 27, 83, 0), ("DealtSea", 160, 100, 467, 0), ("DealtSea", 164, 132, 529, 0), ("DealtSea", 168, 6, 81, 0), ("DealtSea", 171, 9, 81, 0), ("DealtSea", 174, 17, 81, 0), ("DealtSea", 177, 25, 82, 0), ("DealtSea", 180, 21, 82, 0), ("DealtSea", 183, 8, 83, 0), ("DealtSea", 186, 10, 81, 0), ("DealtSea", 189, 19, 81, 0), ("DealtSea", 192, 136, 6353, 1), ("DealtSea", 195, 22, 82, 0), ("DealtSea", 198, 20, 82, 0), ("DealtSea", 204, 148, 514, 0), ("DealtSea", 216, 167, 530, 0), ("DealtSea", 219, 166, 531, 0), ("DealtSea", 222, 151, 531, 0), ("DealtSea", 225, 101, 514, 0), ("DealtSea", 228, 31, 145, 0), ("DealtSea", 231, 139, 530, 0), ("DealtSea", 237, 32, 130, 0), ("DealtSea", 240, 137, 530, 0), ("DealtSea", 243, 157, 530, 0), ("DealtSea", 246, 162, 515, 0), ("DealtSea", 250, 5, 34, 0), ("DealtSea", 258, 147, 6371, 1), ("DealtSea", 262, 98, 465, 0), ("DealtSea", 265, 4, 34, 0), ("DealtSea", 268, 1, 3, 0), ("DealtSea", 271, 2, 33, 0), ("DealtSea", 277, 3, 1, 0), ("DealtSea", 280, 73, 324, 0), ("DealtSea", 284, 77, 337, 0), ("DealtSea", 287, 127, 530, 0), ("DealtSea", 290, 74, 325, 0), ("DealtSea", 294, 72, 326, 0), ("DealtSea", 298, 108, 529, 0), ("DealtSea", 301, 179, 530, 0), ("DealtSea", 304, 152, 6353, 1), ("DealtSea", 307, 149, 515, 0), ("DealtSea", 310, 38, 130, 0), ("DealtSea", 314, 37, 131, 0), ("DealtSea", 317, 129, 533, 0), ("DealtSea", 321, 160, 515, 0), ("DealtSea", 324, 41, 209, 0), ("DealtSea", 327, 42, 209, 0), ("DealtSea", 330, 135, 6354, 1), ("DealtSea", 333, 173, 533, 0), ("DealtSea", 336, 85, 386, 0), ("DealtSea", 339, 39, 130, 0), ("DealtSea", 342, 35, 129, 0), ("DealtSea", 348, 84, 386, 0), ("DealtSea", 351, 86, 387, 0), ("DealtSea", 374, 26, 67, 0), ("DealtSea", 381, 130, 6355, 1), ("DealtSea", 385, 78, 338, 0), ("DealtSea", 388, 29, 82, 0), ("DealtSea", 394, 45, 196, 0), ("DealtSea", 398, 185, 531, 0), ("DealtSea", 401, 318, 6354, 1), ("DealtSea", 406, 131, 6370, 1), ("DealtSea", 412, 0, 0, 3), ("DealtSea", 415, 0, 0, 4), ("DealtSea", 419, 172, 6370, 1), ("DealtSea$Chances", 26, 321, 6354, 1), ("DealtSea$Chances", 32, 325, 6338, 1), ("DealtSea$Chances", 38, 0, 0, 5), ("DealtSea$Chances", 44, 152, 6353, 2), ("DealtSea$Chances", 48, 130, 6355, 2), ("DealtSea$Chances", 52, 0, 3, 0), ("DealtSea$Chances", 56, 5, 34, 0), ("DealtSea$Chances", 60, 320, 6370, 1), ("DealtSea$Chances", 64, 322, 6370, 1), ("DealtSea$Chart", 29, 98, 465, 0), ("DealtSea$Chart", 38, 321, 6354, 1), ("DealtSea$Chart", 44, 30, 146, 0), ("DealtSea$Chart", 48, 161, 6339, 2), ("DealtSea$Chart", 52, 146, 6354, 2), ("DealtSea$Chart", 56, 15, 82, 0), ("DealtSea$Chart", 59, 96, 466, 0), ("DealtSea$Chart", 66, 21, 82, 0), ("DealtSea$Chart", 69, 7, 82, 0), ("DealtSea$Chart", 72, 29, 82, 0), ("DealtSea$Chart", 78, 28, 83, 0), ("DealtSea$Chart", 84, 92, 467, 0), ("DealtSea$Chart", 88, 100, 467, 0), ("DealtSea$Chart", 91, 14, 83, 0), ("DealtSea$Chart", 94, 12, 82, 0), ("DealtSea$Chart", 100, 317, 6353, 1), ("DealtSea$Chart", 112, 27, 83, 0), ("DealtSea$Chart", 115, 324, 6338, 1), ("DealtSea$Chart", 121, 13, 83, 0), ("DealtSea$Chart", 124, 16, 82, 0), ("DealtSea$Chart", 127, 319, 6354, 1), ("DealtSea$Chart", 130, 18, 82, 0), ("DealtSea$Chart", 133, 24, 82, 0), ("DealtSea$Chart", 136, 17, 81, 0), ("DealtSea$Chart", 139, 11, 83, 0), ("DealtSea$Chart", 145, 23, 81, 0), ("DealtSea$Chart", 148, 20, 82, 0), ("DealtSea$Deck", 25, 146, 6354, 2), ("DealtSea$Deck", 29, 0, 0, 5), ("DealtSea$Deck", 35, 130, 6355, 2), ("DealtSea$Deck", 39, 161, 6339, 2), ("DealtSea$Deck", 43, 30, 146, 0), ("DealtSea$Game", 19, 161, 6339, 2), ("DealtSea$Game", 23, 146, 6354, 2), ("DealtSea$Game", 27, 43, 211, 0), ("DealtSea$Game", 31, 44, 211, 0), ("DealtSea$Reader", 59, 321, 6354, 1), ("DealtSea$Reader", 65, 93, 449, 0), ("DealtSea$Reader", 68, 46, 257, 0), ("DealtSea$Reader", 71, 62, 258, 0), ("DealtSea$Reader", 75, 50, 273, 0), ("DealtSea$Reader", 82, 47, 258, 0), ("DealtSea$Reader", 86, 99, 449, 0), ("DealtSea$Reader", 89, 48, 274, 0), ("DealtSea$Reader", 93, 55, 6353, 1), ("DealtSea$Reader", 97, 70, 257, 0), ("DealtSea$Reader", 100, 53, 6353, 1), ("DealtSea$Reader", 103, 69, 257, 0), ("DealtSea$Reader", 106, 172, 6370, 2), ("DealtSea$Reader", 112, 114, 6354, 2), ("DealtSea$Reader", 116, 49, 259, 0), ("DealtSea$Reader", 120, 64, 257, 0), ("DealtSea$Reader", 123, 61, 257, 0), ("DealtSea$Reader", 126, 60, 257, 0), ("DealtSea$Reader", 129, 68, 257, 0), ("DealtSea$Reader", 132, 65, 257, 0), ("DealtSea$Reader", 135, 54, 274, 0), ("DealtSea$Reader", 149, 63, 274, 0), ("DealtSea$Reader", 153, 67, 275, 0), ("DealtSea$Reader", 173, 71, 258, 0), ("DealtSea$Reader", 182, 89, 453, 0), ("DealtSea$Reader", 188, 88, 450, 0), ("DealtSea$Reader", 191, 57, 273, 0), ("DealtSea$Reader", 195, 94, 467, 0), ("DealtSea$Reader", 199, 91, 451, 0), ("DealtSea$Reader", 203, 98, 465, 0), ("DealtSea$Reader", 206, 90, 451, 0), ("DealtSea$Reader", 209, 146, 6354, 2), ("DealtSea$Reader", 213, 52, 273, 0), ("DealtSea$Reader", 216, 58, 273, 0), ("DealtSea$Reader", 219, 161, 6339, 2), ("DealtSea$Search", 37, 81, 323, 0), ("DealtSea$Search", 44, 324, 6338, 1), ("DealtSea$Search", 50, 161, 6339, 2), ("DealtSea$Search", 54, 75, 337, 0), ("DealtSea$Search", 58, 146, 6354, 2), ("DealtSea$Search", 62, 76, 338, 0), ("DealtSea$Search", 66, 80, 339, 0), ("DealtSea$Search", 70, 323, 6353, 1), ("DealtSea$Search", 76, 152, 6353, 2), ("DealtSea$Search", 79, 82, 339, 0), ("DealtSea$Search", 82, 130, 6355, 2), ("DealtSea$Search", 86, 79, 339, 0), ("DealtSea$Search", 89, 77, 337, 0), ("DealtSea$Shelf", 18, 319, 6354, 1), ("DealtSea$Shelf", 31, 87, 402, 0), ("DealtSea$Shelf", 35, 40, 131, 0), ("DealtSea$Shelf", 41, 86, 387, 0), ("DealtSea$Shelf", 45, 36, 131, 0), ("DealtSea$Told", 67, 161, 6339, 2), ("DealtSea$Told", 71, 146, 6354, 2), ("DealtSea$Told", 75, 324, 6338, 1), ("DealtSea$Told", 81, 98, 465, 0), ("DealtSea$Told", 85, 97, 467, 0), ("DealtSea$Told", 89, 95, 466, 0), ("DealtSea$Told", 93, 317, 6353, 1), ("DealtSeaLaw", 7, 145, 530, 0), ("DealtSeaLaw", 19, 123, 534, 0), ("DealtSeaLaw", 23, 213, 598, 0), ("DealtSeaLaw", 24, 170, 530, 0), ("DealtSeaLaw", 27, 288, 594, 0), ("DealtSeaLaw", 28, 122, 529, 0), ("DealtSeaLaw", 32, 212, 593, 0), ("DealtSeaLaw", 33, 183, 529, 0), ("DealtSeaLaw", 36, 312, 593, 0), ("DealtSeaLaw", 37, 141, 531, 0), ("DealtSeaLaw", 41, 241, 595, 0), ("DealtSeaLaw", 42, 112, 530, 0), ("DealtSeaLaw", 45, 201, 594, 0), ("DealtSeaLaw", 46, 106, 530, 0), ("DealtSeaLaw", 49, 195, 594, 0), ("DealtSeaLaw", 50, 177, 531, 0), ("DealtSeaLaw", 53, 302, 595, 0), ("DealtSeaLaw", 54, 178, 529, 0), ("DealtSeaLaw", 57, 304, 593, 0), ("DealtSeaLaw", 58, 182, 529, 0), ("DealtSeaLaw", 61, 310, 593, 0), ("DealtSeaLaw", 62, 168, 529, 0), ("DealtSeaLaw", 65, 283, 593, 0), ("DealtSeaLaw", 66, 169, 530, 0), ("DealtSeaLaw", 69, 284, 594, 0), ("DealtSeaLaw", 70, 142, 531, 0), ("DealtSeaLaw", 73, 245, 595, 0), ("DealtSeaLaw", 74, 184, 529, 0), ("DealtSeaLaw", 77, 314, 593, 0), ("DealtSeaLaw", 78, 115, 529, 0), ("DealtSeaLaw", 81, 203, 593, 0), ("DealtSeaLaw", 82, 153, 531, 0), ("DealtSeaLaw", 85, 262, 595, 0), ("DealtSeaLaw", 86, 156, 530, 0), ("DealtSeaLaw", 89, 273, 594, 0), ("DealtSeaLaw", 90, 158, 531, 0), ("DealtSeaLaw", 93, 276, 595, 0), ("DealtSeaLaw", 94, 159, 530, 0), ("DealtSeaLaw", 97, 277, 594, 0), ("DealtSeaLaw", 98, 143, 529, 0), ("DealtSeaLaw", 101, 246, 593, 0), ("DealtSeaLaw", 102, 126, 530, 0), ("DealtSeaLaw", 105, 217, 594, 0), ("DealtSeaLaw", 106, 125, 531, 0), ("DealtSeaLaw", 109, 216, 595, 0), ("DealtSeaLaw", 110, 102, 529, 0), ("DealtSeaLaw", 113, 187, 593, 0), ("DealtSeaLaw", 114, 116, 530, 0), ("DealtSeaLaw", 117, 204, 594, 0), ("DealtSeaLaw", 118, 111, 531, 0), ("DealtSeaLaw", 121, 200, 595, 0), ("DealtSeaLaw", 122, 154, 549, 0), ("DealtSeaLaw", 126, 268, 613, 0), ("DealtSeaLaw", 127, 134, 548, 0), ("DealtSeaLaw", 131, 227, 612, 0), ("DealtSeaLaw", 132, 103, 531, 0), ("DealtSeaLaw", 135, 188, 595, 0), ("DealtSeaLaw", 136, 124, 531, 0), ("DealtSeaLaw", 139, 214, 595, 0), ("DealtSeaLaw", 140, 150, 532, 0), ("DealtSeaLaw", 144, 256, 596, 0), ("DealtSeaLaw", 145, 175, 531, 0), ("DealtSeaLaw", 148, 300, 595, 0), ("DealtSeaLaw", 149, 176, 532, 0), ("DealtSeaLaw", 152, 301, 596, 0), ("DealtSeaLaw", 153, 174, 532, 0), ("DealtSeaLaw", 156, 298, 596, 0), ("DealtSeaLaw", 157, 107, 529, 0), ("DealtSeaLaw", 160, 196, 593, 0), ("DealtSeaLaw", 161, 109, 529, 0), ("DealtSeaLaw", 164, 198, 593, 0), ("DealtSeaLaw", 165, 110, 529, 0), ("DealtSeaLaw", 168, 199, 593, 0), ("DealtSeaLaw", 169, 121, 529, 0), ("DealtSeaLaw", 172, 210, 593, 0), ("DealtSeaLaw", 173, 128, 533, 0), ("DealtSeaLaw", 177, 218, 597, 0), ("DealtSeaLaw", 178, 165, 531, 0), ("DealtSeaLaw", 181, 280, 595, 0), ("DealtSeaLaw", 182, 164, 531, 0), ("DealtSeaLaw", 185, 279, 595, 0), ("DealtSeaLaw", 186, 118, 531, 0), ("DealtSeaLaw", 189, 206, 595, 0), ("DealtSeaLaw", 190, 120, 531, 0), ("DealtSeaLaw", 193, 209, 595, 0), ("DealtSeaLaw", 194, 119, 532, 0), ("DealtSeaLaw", 197, 207, 596, 0), ("DealtSeaLaw", 198, 117, 530, 0), ("DealtSeaLaw", 201, 205, 594, 0), ("DealtSeaLaw", 202, 155, 530, 0), ("DealtSeaLaw", 205, 272, 594, 0), ("DealtSeaLaw", 206, 144, 529, 0), ("DealtSeaLaw", 210, 247, 593, 0), ("DealtSeaLaw", 211, 181, 529, 0), ("DealtSeaLaw", 214, 309, 593, 0), ("DealtSeaLaw", 215, 133, 529, 0), ("DealtSeaLaw", 218, 225, 593, 0), ("DealtSeaLaw", 219, 105, 530, 0), ("DealtSeaLaw", 223, 192, 594, 0), ("DealtSeaLaw", 229, 252, 594, 0), ("DealtSeaLaw", 230, 299, 593, 0), ("DealtSeaLaw", 233, 171, 530, 0), ("DealtSeaLaw", 236, 295, 594, 0), ("DealtSeaLaw", 237, 180, 529, 0), ("DealtSeaLaw", 240, 307, 593, 0), ("DealtSeaModel", 90, 253, 594, 0), ("DealtSeaModel", 106, 239, 6353, 1), ("DealtSeaModel", 110, 229, 6353, 1), ("DealtSeaModel", 120, 0, 0, 3), ("DealtSeaModel", 126, 0, 0, 4), ("DealtSeaModel", 130, 240, 594, 0), ("DealtSeaModel", 134, 264, 577, 0), ("DealtSeaModel", 137, 297, 594, 0), ("DealtSeaModel", 140, 316, 579, 0), ("DealtSeaModel", 154, 261, 577, 0), ("DealtSeaModel", 157, 215, 593, 0), ("DealtSeaModel", 160, 226, 6355, 1), ("DealtSeaModel", 164, 242, 593, 0), ("DealtSeaModel", 167, 260, 578, 0), ("DealtSeaModel", 171, 267, 595, 0), ("DealtSeaModel", 183, 271, 597, 0), ("DealtSeaModel", 187, 222, 577, 0), ("DealtSeaModel", 190, 265, 594, 0), ("DealtSeaModel", 193, 278, 577, 0), ("DealtSeaModel", 196, 202, 6341, 1), ("DealtSeaModel", 200, 249, 578, 0), ("DealtSeaModel", 213, 289, 577, 0), ("DealtSeaModel", 216, 194, 595, 0), ("DealtSeaModel", 220, 243, 577, 0), ("DealtSeaModel", 223, 211, 577, 0), ("DealtSeaModel", 226, 313, 577, 0), ("DealtSeaModel", 229, 294, 577, 0), ("DealtSeaModel", 234, 186, 596, 0), ("DealtSeaModel", 242, 223, 593, 0), ("DealtSeaModel", 251, 263, 578, 0), ("DealtSeaModel", 272, 244, 593, 0), ("DealtSeaModel", 275, 221, 6355, 1), ("DealtSeaModel", 279, 282, 593, 0), ("DealtSeaModel", 282, 228, 594, 0), ("DealtSeaModel", 285, 274, 6354, 1), ("DealtSeaModel", 289, 190, 596, 0), ("DealtSeaModel", 292, 269, 595, 0), ("DealtSeaModel", 295, 234, 594, 0), ("DealtSeaModel", 298, 193, 596, 0), ("DealtSeaModel", 302, 303, 596, 0), ("DealtSeaModel", 306, 233, 594, 0), ("DealtSeaModel", 309, 306, 595, 0), ("DealtSeaModel", 312, 232, 595, 0), ("DealtSeaModel", 316, 285, 594, 0), ("DealtSeaModel", 319, 286, 593, 0), ("DealtSeaModel", 322, 248, 578, 0), ("DealtSeaModel", 325, 315, 594, 0), ("DealtSeaModel", 329, 255, 579, 0), ("DealtSeaModel", 333, 250, 578, 0), ("DealtSeaModel", 336, 275, 594, 0), ("DealtSeaModel", 339, 238, 595, 0), ("DealtSeaModel", 348, 308, 578, 0), ("DealtSeaModel", 351, 291, 578, 0), ("DealtSeaModel", 354, 287, 595, 0), ("DealtSeaModel", 358, 259, 594, 0), ("DealtSeaModel", 361, 235, 594, 0), ("DealtSeaModel", 364, 270, 577, 0), ("DealtSeaModel", 367, 231, 594, 0), ("DealtSeaModel", 370, 224, 6354, 1), ("DealtSeaModel", 374, 251, 579, 0), ("DealtSeaModel", 377, 189, 610, 0), ("DealtSeaModel", 381, 254, 6371, 1), ("DealtSeaModel", 396, 296, 596, 0), ("DealtSeaModel", 402, 230, 594, 0), ("DealtSeaModel", 405, 258, 595, 0), ("DealtSeaModel", 408, 311, 593, 0), ("DealtSeaModel", 411, 290, 596, 0), ("DealtSeaModel", 414, 292, 595, 0), ("DealtSeaModel", 417, 257, 594, 0), ("DealtSeaModel", 420, 293, 595, 0), ("DealtSeaModel", 423, 305, 595, 0), ("DealtSeaModel", 426, 197, 593, 0), ("DealtSeaModel", 429, 191, 595, 0), ("DealtSeaModel", 432, 219, 597, 0), ("DealtSeaModel", 439, 237, 595, 0), ("DealtSeaModel", 442, 281, 595, 0), ("DealtSeaModel", 456, 208, 596, 0), ("DealtSeaModel", 460, 220, 580, 0), ("DealtSeaModel", 464, 266, 577, 0), ("DealtSeaModel", 467, 236, 594, 0)]
def ds_kl : List (String × Nat × Int) := [("DealtSea", 373, 65536), ("DealtSea", 397, 65537), ("DealtSeaModel", 454, 65537), ("DealtSeaModel", 455, 65536), ("java/lang/Integer", 265, 1431655765), ("java/lang/Integer", 266, 858993459), ("java/lang/Integer", 267, 252645135)]
def ds_Ll : List (String × Nat × Nat) := [("DealtSea", 275, 100), ("DealtSea", 410, 32), ("DealtSeaModel", 385, 100)]
def ds_tl : List (String × Nat × Nat) := [("DealtSea$Reader", 110, 0), ("DealtSea$Reader", 147, 1), ("DealtSea$Reader", 158, 2), ("DealtSea$Reader", 162, 3), ("DealtSea$Reader", 164, 4), ("DealtSea$Reader", 168, 5), ("DealtSea$Reader", 176, 6), ("DealtSea$Reader", 178, 7), ("DealtSea$Reader", 180, 8), ("DealtSea$Reader", 186, 9), ("DealtSeaModel", 144, 10), ("DealtSeaModel", 232, 11), ("DealtSeaModel", 238, 12), ("DealtSeaModel", 240, 13), ("DealtSeaModel", 175, 14), ("DealtSeaModel", 177, 15), ("DealtSeaModel", 179, 16), ("DealtSeaModel", 181, 17), ("DealtSeaModel", 245, 18), ("DealtSeaModel", 247, 19), ("DealtSeaModel", 249, 20), ("DealtSeaModel", 146, 21), ("DealtSeaModel", 148, 22), ("DealtSeaModel", 150, 23), ("DealtSeaModel", 152, 24), ("DealtSeaModel", 255, 25), ("DealtSeaModel", 257, 26), ("DealtSeaModel", 259, 27), ("DealtSeaModel", 261, 28), ("DealtSeaModel", 263, 29), ("DealtSeaModel", 265, 30), ("DealtSeaModel", 267, 31), ("DealtSeaModel", 268, 32), ("DealtSeaModel", 270, 33)]
def ds_tx : List String := ["sea island family wish shows", "wide", "high", "trumps", "sheep fish wool salt", "calm tide", "plain marked joker", "rank", "people", "out in turn cut", "sea", "wide", "high", "trumps", "sheep", "fish", "wool", "salt", "calm", "tide", "", "island", "family", "wish", "shows", "plain", "marked", "joker", "rank", "people", "out", "in", "turn", "cut"]
/-- an instruction with its operands resolved -/
def ds_res (own : String) (zr lw : Bool) (pc : Nat) (raw : Instr) : Instr := match raw with
  | .iload_n k => .iload k.val
  | .lload_n k => .lload k.val
  | .aload_n k => .aload k.val
  | .istore_n k => .istore k.val
  | .lstore_n k => .lstore k.val
  | .astore_n k => .astore k.val
  | .iconst n => .iconst n
  | .bipush n => if (Int8.ofInt n).toInt32 = ds_k n then .iconst n else .nop
  | .sipush n => if (Int16.ofInt n).toInt32 = ds_k n then .iconst n else .nop
  | .lconst k => .ldc2_w k.val
  | .ldc i => match ds_f3 ds_kl own i with
    | some n => .iconst n
    | none => match ds_f3 ds_tl own i with
      | some t => .ldc t
      | none => .nop
  | .ldc_w i => match ds_f3 ds_kl own i with
    | some n => .iconst n
    | none => match ds_f3 ds_tl own i with
      | some t => .ldc t
      | none => .nop
  | .ldc2_w i => match ds_f3 ds_Ll own i with
    | some n => .ldc2_w n
    | none => .nop
  | .goto o => if 0 ≤ (pc : Int) + o then .goto ((pc : Int) + o) else .nop
  | .ifCond c o => if 0 ≤ (pc : Int) + o then .ifCond c ((pc : Int) + o) else .nop
  | .if_icmp c o => if 0 ≤ (pc : Int) + o then .if_icmp c ((pc : Int) + o) else .nop
  | .tableswitch d lo hi offs => if 0 ≤ (pc : Int) + d ∧ 0 ≤ lo ∧ hi < 1000 ∧ hi + 1 = lo + offs.size ∧ (∀ o ∈ offs.toList, 0 ≤ (pc : Int) + o) then .tableswitch ((pc : Int) + d) lo hi (offs.toList.map fun o => (pc : Int) + o).toArray else .nop
  | .getfield i => match ds_f3 ds_fl own i with
    | some f => .getfield f
    | none => .nop
  | .putfield i => match ds_f3 ds_fl own i with
    | some f => if (ds_Tk f).2.2.2 = false then .putfield f else .nop
    | none => .nop
  | .invokevirtual i => match ds_f3 ds_ml own i with
    | some (j, c, 0) => .invokeinterface j c
    | some (_, _, 3) => .instanceof 0
    | some (_, _, 4) => .instanceof 1
    | _ => .nop
  | .invokestatic i => match ds_f3 ds_ml own i with
    | some (j, c, 1) => .invokeinterface j c
    | some (j, c, 2) => .invokeinterface j c
    | some (_, _, 5) => .instanceof 2
    | _ => .nop
  | .ireturn => bif zr then .dreturn else .ireturn
  | .iaload => bif lw then .caload else .iaload
  | .arraylength => bif lw then .castore else .arraylength
  | .new _ => .new 0
  | .iload i => .iload i
  | .lload i => .lload i
  | .aload i => .aload i
  | .istore i => .istore i
  | .lstore i => .lstore i
  | .astore i => .astore i
  | .iinc i n => bif lw then .jsr 0 else .iinc i n
  | .iadd => .iadd | .isub => .isub | .imul => .imul | .idiv => .idiv | .irem => .irem | .iand => .iand | .ior => .ior | .ixor => .ixor
  | .ishl => .ishl | .ishr => .ishr | .iushr => .iushr | .ineg => .ineg | .i2l => .i2l | .i2b => .i2b | .l2i => .l2i
  | .ladd => .ladd | .lsub => .lsub | .lmul => .lmul | .ldiv => .ldiv | .lrem => .lrem | .lcmp => .lcmp
  | .pop => .pop | .dup => .dup | .dup2 => .dup2
  | .baload => .baload | .iastore => .iastore | .bastore => .bastore | .laload => .laload | .lastore => .lastore
  | .lreturn => .lreturn | .areturn => .areturn | .return_ => .return_
  | _ => .nop
def ds_len (raw : Instr) (len : Nat) : Bool := match raw with
  | .iload_n _ | .lload_n _ | .aload_n _ | .istore_n _ | .lstore_n _ | .astore_n _ | .iconst _ | .lconst _ => Nat.beq len 1
  | .bipush _ | .ldc _ | .iload _ | .lload _ | .aload _ | .istore _ | .lstore _ | .astore _ => Nat.beq len 2
  | .sipush _ | .ldc_w _ | .ldc2_w _ | .goto _ | .ifCond _ _ | .if_icmp _ _ | .getfield _ | .putfield _ | .invokevirtual _ | .invokestatic _ | .iinc _ _ | .new _ => Nat.beq len 3
  | .tableswitch _ _ _ _ => true
  | _ => Nat.beq len 1
def ds_ck (own : String) (zr lw : Bool) (bytes : ByteArray) (cd : ds_Code) : Bool := cd.all fun q => match decode bytes q.1 with
  | .ok (raw, len) => decide (len = q.2.2) && ds_len raw len && decide (ds_res own zr lw q.1 raw = q.2.1)
  | _ => false
theorem ds_k_Chances_add : ds_ck "DealtSea$Chances" false false prog_2_method_4_code ds_c_Chances_add = true := by decide +kernel
theorem ds_k_Chances_begin : ds_ck "DealtSea$Chances" false false prog_2_method_2_code ds_c_Chances_begin = true := by decide +kernel
theorem ds_k_Chances_difference : ds_ck "DealtSea$Chances" false false prog_2_method_7_code ds_c_Chances_difference = true := by decide +kernel
theorem ds_k_Chances_goOn : ds_ck "DealtSea$Chances" false false prog_2_method_3_code ds_c_Chances_goOn = true := by decide +kernel
theorem ds_k_Chances_rowsAhead : ds_ck "DealtSea$Chances" false false prog_2_method_6_code ds_c_Chances_rowsAhead = true := by decide +kernel
theorem ds_k_Chances_rowsTo : ds_ck "DealtSea$Chances" false false prog_2_method_5_code ds_c_Chances_rowsTo = true := by decide +kernel
theorem ds_k_Chart_allTrades : ds_ck "DealtSea$Chart" false false prog_3_method_9_code ds_c_Chart_allTrades = true := by decide +kernel
theorem ds_k_Chart_besidePlaces : ds_ck "DealtSea$Chart" false false prog_3_method_6_code ds_c_Chart_besidePlaces = true := by decide +kernel
theorem ds_k_Chart_bridges : ds_ck "DealtSea$Chart" false false prog_3_method_24_code ds_c_Chart_bridges = true := by decide +kernel
theorem ds_k_Chart_countWars : ds_ck "DealtSea$Chart" false false prog_3_method_12_code ds_c_Chart_countWars = true := by decide +kernel
theorem ds_k_Chart_countWishes : ds_ck "DealtSea$Chart" false false prog_3_method_14_code ds_c_Chart_countWishes = true := by decide +kernel
theorem ds_k_Chart_firstOfLength : ds_ck "DealtSea$Chart" false false prog_3_method_20_code ds_c_Chart_firstOfLength = true := by decide +kernel
theorem ds_k_Chart_isJokerAt : ds_ck "DealtSea$Chart" true false prog_3_method_4_code ds_c_Chart_isJokerAt = true := by decide +kernel
theorem ds_k_Chart_isOfRank : ds_ck "DealtSea$Chart" true false prog_3_method_16_code ds_c_Chart_isOfRank = true := by decide +kernel
theorem ds_k_Chart_isWar : ds_ck "DealtSea$Chart" true false prog_3_method_13_code ds_c_Chart_isWar = true := by decide +kernel
theorem ds_k_Chart_islandAt : ds_ck "DealtSea$Chart" false false prog_3_method_3_code ds_c_Chart_islandAt = true := by decide +kernel
theorem ds_k_Chart_longestBehind : ds_ck "DealtSea$Chart" false false prog_3_method_18_code ds_c_Chart_longestBehind = true := by decide +kernel
theorem ds_k_Chart_longestRun : ds_ck "DealtSea$Chart" false false prog_3_method_15_code ds_c_Chart_longestRun = true := by decide +kernel
theorem ds_k_Chart_mates : ds_ck "DealtSea$Chart" false false prog_3_method_7_code ds_c_Chart_mates = true := by decide +kernel
theorem ds_k_Chart_mostPeople : ds_ck "DealtSea$Chart" false false prog_3_method_25_code ds_c_Chart_mostPeople = true := by decide +kernel
theorem ds_k_Chart_personsAt : ds_ck "DealtSea$Chart" false false prog_3_method_23_code ds_c_Chart_personsAt = true := by decide +kernel
theorem ds_k_Chart_placeBit : ds_ck "DealtSea$Chart" false false prog_3_method_5_code ds_c_Chart_placeBit = true := by decide +kernel
theorem ds_k_Chart_placesOfGood : ds_ck "DealtSea$Chart" false false prog_3_method_22_code ds_c_Chart_placesOfGood = true := by decide +kernel
theorem ds_k_Chart_placesWithoutJokers : ds_ck "DealtSea$Chart" false false prog_3_method_21_code ds_c_Chart_placesWithoutJokers = true := by decide +kernel
theorem ds_k_Chart_rankAbove : ds_ck "DealtSea$Chart" false false prog_3_method_17_code ds_c_Chart_rankAbove = true := by decide +kernel
theorem ds_k_Chart_runIsland : ds_ck "DealtSea$Chart" false false prog_3_method_19_code ds_c_Chart_runIsland = true := by decide +kernel
theorem ds_k_Chart_show : ds_ck "DealtSea$Chart" false false prog_3_method_2_code ds_c_Chart_show = true := by decide +kernel
theorem ds_k_Chart_touching : ds_ck "DealtSea$Chart" true false prog_3_method_8_code ds_c_Chart_touching = true := by decide +kernel
theorem ds_k_Chart_tradeBetween : ds_ck "DealtSea$Chart" false false prog_3_method_11_code ds_c_Chart_tradeBetween = true := by decide +kernel
theorem ds_k_Chart_tradesOf : ds_ck "DealtSea$Chart" false false prog_3_method_10_code ds_c_Chart_tradesOf = true := by decide +kernel
theorem ds_k_Deck_cardAt : ds_ck "DealtSea$Deck" false false prog_4_method_5_code ds_c_Deck_cardAt = true := by decide +kernel
theorem ds_k_Deck_isOrdered : ds_ck "DealtSea$Deck" true false prog_4_method_3_code ds_c_Deck_isOrdered = true := by decide +kernel
theorem ds_k_Deck_makeMove : ds_ck "DealtSea$Deck" false false prog_4_method_7_code ds_c_Deck_makeMove = true := by decide +kernel
theorem ds_k_Deck_order : ds_ck "DealtSea$Deck" false false prog_4_method_2_code ds_c_Deck_order = true := by decide +kernel
theorem ds_k_Deck_placeOf : ds_ck "DealtSea$Deck" false false prog_4_method_6_code ds_c_Deck_placeOf = true := by decide +kernel
theorem ds_k_Deck_putUnder : ds_ck "DealtSea$Deck" false false prog_4_method_10_code ds_c_Deck_putUnder = true := by decide +kernel
theorem ds_k_Deck_readFrom : ds_ck "DealtSea$Deck" false false prog_4_method_12_code ds_c_Deck_readFrom = true := by decide +kernel
theorem ds_k_Deck_swap : ds_ck "DealtSea$Deck" false false prog_4_method_8_code ds_c_Deck_swap = true := by decide +kernel
theorem ds_k_Deck_take : ds_ck "DealtSea$Deck" false false prog_4_method_4_code ds_c_Deck_take = true := by decide +kernel
theorem ds_k_Deck_takeOut : ds_ck "DealtSea$Deck" false false prog_4_method_9_code ds_c_Deck_takeOut = true := by decide +kernel
theorem ds_k_Deck_writeTo : ds_ck "DealtSea$Deck" false false prog_4_method_11_code ds_c_Deck_writeTo = true := by decide +kernel
theorem ds_k_Game_countRests : ds_ck "DealtSea$Game" false false prog_5_method_5_code ds_c_Game_countRests = true := by decide +kernel
theorem ds_k_Game_firstRest : ds_ck "DealtSea$Game" false false prog_5_method_6_code ds_c_Game_firstRest = true := by decide +kernel
theorem ds_k_Game_gainOf : ds_ck "DealtSea$Game" false false prog_5_method_3_code ds_c_Game_gainOf = true := by decide +kernel
theorem ds_k_Game_isRest : ds_ck "DealtSea$Game" true false prog_5_method_4_code ds_c_Game_isRest = true := by decide +kernel
theorem ds_k_Game_setGain : ds_ck "DealtSea$Game" false false prog_5_method_2_code ds_c_Game_setGain = true := by decide +kernel
theorem ds_k_Reader_advance : ds_ck "DealtSea$Reader" false false prog_6_method_11_code ds_c_Reader_advance = true := by decide +kernel
theorem ds_k_Reader_blame : ds_ck "DealtSea$Reader" false false prog_6_method_7_code ds_c_Reader_blame = true := by decide +kernel
theorem ds_k_Reader_byteAt : ds_ck "DealtSea$Reader" false false prog_6_method_8_code ds_c_Reader_byteAt = true := by decide +kernel
theorem ds_k_Reader_checkLine : ds_ck "DealtSea$Reader" false false prog_6_method_15_code ds_c_Reader_checkLine = true := by decide +kernel
theorem ds_k_Reader_goesOn : ds_ck "DealtSea$Reader" true false prog_6_method_6_code ds_c_Reader_goesOn = true := by decide +kernel
theorem ds_k_Reader_handOver : ds_ck "DealtSea$Reader" false false prog_6_method_4_code ds_c_Reader_handOver = true := by decide +kernel
theorem ds_k_Reader_isAtName : ds_ck "DealtSea$Reader" true false prog_6_method_24_code ds_c_Reader_isAtName = true := by decide +kernel
theorem ds_k_Reader_isDigit : ds_ck "DealtSea$Reader" true false prog_6_method_10_code ds_c_Reader_isDigit = true := by decide +kernel
theorem ds_k_Reader_isFull : ds_ck "DealtSea$Reader" true false prog_6_method_16_code ds_c_Reader_isFull = true := by decide +kernel
theorem ds_k_Reader_isLetter : ds_ck "DealtSea$Reader" true false prog_6_method_9_code ds_c_Reader_isLetter = true := by decide +kernel
theorem ds_k_Reader_lengthen : ds_ck "DealtSea$Reader" false false prog_6_method_2_code ds_c_Reader_lengthen = true := by decide +kernel
theorem ds_k_Reader_namedIsland : ds_ck "DealtSea$Reader" false false prog_6_method_27_code ds_c_Reader_namedIsland = true := by decide +kernel
theorem ds_k_Reader_owner : ds_ck "DealtSea$Reader" false false prog_6_method_25_code ds_c_Reader_owner = true := by decide +kernel
theorem ds_k_Reader_place : ds_ck "DealtSea$Reader" false false prog_6_method_3_code ds_c_Reader_place = true := by decide +kernel
theorem ds_k_Reader_readFamily : ds_ck "DealtSea$Reader" false false prog_6_method_19_code ds_c_Reader_readFamily = true := by decide +kernel
theorem ds_k_Reader_readIsland : ds_ck "DealtSea$Reader" false false prog_6_method_18_code ds_c_Reader_readIsland = true := by decide +kernel
theorem ds_k_Reader_readLine : ds_ck "DealtSea$Reader" false false prog_6_method_14_code ds_c_Reader_readLine = true := by decide +kernel
theorem ds_k_Reader_readOneOf : ds_ck "DealtSea$Reader" false false prog_6_method_22_code ds_c_Reader_readOneOf = true := by decide +kernel
theorem ds_k_Reader_readSea : ds_ck "DealtSea$Reader" false false prog_6_method_17_code ds_c_Reader_readSea = true := by decide +kernel
theorem ds_k_Reader_readShows : ds_ck "DealtSea$Reader" false false prog_6_method_21_code ds_c_Reader_readShows = true := by decide +kernel
theorem ds_k_Reader_readText : ds_ck "DealtSea$Reader" false false prog_6_method_5_code ds_c_Reader_readText = true := by decide +kernel
theorem ds_k_Reader_readWhole : ds_ck "DealtSea$Reader" false false prog_6_method_23_code ds_c_Reader_readWhole = true := by decide +kernel
theorem ds_k_Reader_readWish : ds_ck "DealtSea$Reader" false false prog_6_method_20_code ds_c_Reader_readWish = true := by decide +kernel
theorem ds_k_Reader_takeWhole : ds_ck "DealtSea$Reader" false false prog_6_method_13_code ds_c_Reader_takeWhole = true := by decide +kernel
theorem ds_k_Reader_takeWord : ds_ck "DealtSea$Reader" false false prog_6_method_12_code ds_c_Reader_takeWord = true := by decide +kernel
theorem ds_k_Reader_tellName : ds_ck "DealtSea$Reader" false false prog_6_method_26_code ds_c_Reader_tellName = true := by decide +kernel
theorem ds_k_Search_bringThree : ds_ck "DealtSea$Search" false false prog_7_method_4_code ds_c_Search_bringThree = true := by decide +kernel
theorem ds_k_Search_bringTo : ds_ck "DealtSea$Search" false false prog_7_method_2_code ds_c_Search_bringTo = true := by decide +kernel
theorem ds_k_Search_bringTogether : ds_ck "DealtSea$Search" false false prog_7_method_3_code ds_c_Search_bringTogether = true := by decide +kernel
theorem ds_k_Search_canBe : ds_ck "DealtSea$Search" true false prog_7_method_6_code ds_c_Search_canBe = true := by decide +kernel
theorem ds_k_Search_isGoal : ds_ck "DealtSea$Search" true false prog_7_method_9_code ds_c_Search_isGoal = true := by decide +kernel
theorem ds_k_Search_length : ds_ck "DealtSea$Search" false false prog_7_method_11_code ds_c_Search_length = true := by decide +kernel
theorem ds_k_Search_moveOf : ds_ck "DealtSea$Search" false false prog_7_method_12_code ds_c_Search_moveOf = true := by decide +kernel
theorem ds_k_Search_pairs : ds_ck "DealtSea$Search" false false prog_7_method_10_code ds_c_Search_pairs = true := by decide +kernel
theorem ds_k_Search_queueNext : ds_ck "DealtSea$Search" false false prog_7_method_7_code ds_c_Search_queueNext = true := by decide +kernel
theorem ds_k_Search_seek : ds_ck "DealtSea$Search" false false prog_7_method_5_code ds_c_Search_seek = true := by decide +kernel
theorem ds_k_Search_stateBehind : ds_ck "DealtSea$Search" false false prog_7_method_8_code ds_c_Search_stateBehind = true := by decide +kernel
theorem ds_k_Shelf_empty : ds_ck "DealtSea$Shelf" false false prog_8_method_2_code ds_c_Shelf_empty = true := by decide +kernel
theorem ds_k_Shelf_popInto : ds_ck "DealtSea$Shelf" false false prog_8_method_5_code ds_c_Shelf_popInto = true := by decide +kernel
theorem ds_k_Shelf_pushOver : ds_ck "DealtSea$Shelf" false false prog_8_method_4_code ds_c_Shelf_pushOver = true := by decide +kernel
theorem ds_k_Shelf_readInto : ds_ck "DealtSea$Shelf" false false prog_8_method_6_code ds_c_Shelf_readInto = true := by decide +kernel
theorem ds_k_Shelf_startOf : ds_ck "DealtSea$Shelf" false false prog_8_method_3_code ds_c_Shelf_startOf = true := by decide +kernel
theorem ds_k_Told_addFamily : ds_ck "DealtSea$Told" false false prog_9_method_5_code ds_c_Told_addFamily = true := by decide +kernel
theorem ds_k_Told_addIsland : ds_ck "DealtSea$Told" false false prog_9_method_4_code ds_c_Told_addIsland = true := by decide +kernel
theorem ds_k_Told_addShows : ds_ck "DealtSea$Told" false false prog_9_method_7_code ds_c_Told_addShows = true := by decide +kernel
theorem ds_k_Told_addWish : ds_ck "DealtSea$Told" false false prog_9_method_6_code ds_c_Told_addWish = true := by decide +kernel
theorem ds_k_Told_areNear : ds_ck "DealtSea$Told" true false prog_9_method_12_code ds_c_Told_areNear = true := by decide +kernel
theorem ds_k_Told_forget : ds_ck "DealtSea$Told" false false prog_9_method_2_code ds_c_Told_forget = true := by decide +kernel
theorem ds_k_Told_hasWish : ds_ck "DealtSea$Told" true false prog_9_method_8_code ds_c_Told_hasWish = true := by decide +kernel
theorem ds_k_Told_isCorner : ds_ck "DealtSea$Told" true false prog_9_method_11_code ds_c_Told_isCorner = true := by decide +kernel
theorem ds_k_Told_isJoker : ds_ck "DealtSea$Told" true false prog_9_method_13_code ds_c_Told_isJoker = true := by decide +kernel
theorem ds_k_Told_neighbours : ds_ck "DealtSea$Told" true false prog_9_method_10_code ds_c_Told_neighbours = true := by decide +kernel
theorem ds_k_Told_room : ds_ck "DealtSea$Told" false false prog_9_method_3_code ds_c_Told_room = true := by decide +kernel
theorem ds_k_Told_settle : ds_ck "DealtSea$Told" false false prog_9_method_9_code ds_c_Told_settle = true := by decide +kernel
theorem ds_k_Told_worth : ds_ck "DealtSea$Told" false false prog_9_method_14_code ds_c_Told_worth = true := by decide +kernel
theorem ds_k_Sea_addPlan : ds_ck "DealtSea" false false prog_1_method_65_code ds_c_Sea_addPlan = true := by decide +kernel
theorem ds_k_Sea_again : ds_ck "DealtSea" false false prog_1_method_24_code ds_c_Sea_again = true := by decide +kernel
theorem ds_k_Sea_alike : ds_ck "DealtSea" false false prog_1_method_29_code ds_c_Sea_alike = true := by decide +kernel
theorem ds_k_Sea_answer : ds_ck "DealtSea" false false prog_1_method_55_code ds_c_Sea_answer = true := by decide +kernel
theorem ds_k_Sea_back : ds_ck "DealtSea" true false prog_1_method_50_code ds_c_Sea_back = true := by decide +kernel
theorem ds_k_Sea_beside : ds_ck "DealtSea" false false prog_1_method_8_code ds_c_Sea_beside = true := by decide +kernel
theorem ds_k_Sea_best : ds_ck "DealtSea" false false prog_1_method_35_code ds_c_Sea_best = true := by decide +kernel
theorem ds_k_Sea_bestMove : ds_ck "DealtSea" false false prog_1_method_73_code ds_c_Sea_bestMove = true := by decide +kernel
theorem ds_k_Sea_bestTrades : ds_ck "DealtSea" false false prog_1_method_36_code ds_c_Sea_bestTrades = true := by decide +kernel
theorem ds_k_Sea_bestTwo : ds_ck "DealtSea" false false prog_1_method_37_code ds_c_Sea_bestTwo = true := by decide +kernel
theorem ds_k_Sea_can : ds_ck "DealtSea" false false prog_1_method_26_code ds_c_Sea_can = true := by decide +kernel
theorem ds_k_Sea_card : ds_ck "DealtSea" false false prog_1_method_7_code ds_c_Sea_card = true := by decide +kernel
theorem ds_k_Sea_chartOf : ds_ck "DealtSea" false false prog_1_method_63_code ds_c_Sea_chartOf = true := by decide +kernel
theorem ds_k_Sea_choice : ds_ck "DealtSea" false false prog_1_method_86_code ds_c_Sea_choice = true := by decide +kernel
theorem ds_k_Sea_crowd : ds_ck "DealtSea" false false prog_1_method_16_code ds_c_Sea_crowd = true := by decide +kernel
theorem ds_k_Sea_cycle : ds_ck "DealtSea" false false prog_1_method_25_code ds_c_Sea_cycle = true := by decide +kernel
theorem ds_k_Sea_deal : ds_ck "DealtSea" false false prog_1_method_45_code ds_c_Sea_deal = true := by decide +kernel
theorem ds_k_Sea_decade : ds_ck "DealtSea" false false prog_1_method_42_code ds_c_Sea_decade = true := by decide +kernel
theorem ds_k_Sea_decadeOf : ds_ck "DealtSea" false false prog_1_method_44_code ds_c_Sea_decadeOf = true := by decide +kernel
theorem ds_k_Sea_decadeWishes : ds_ck "DealtSea" false false prog_1_method_43_code ds_c_Sea_decadeWishes = true := by decide +kernel
theorem ds_k_Sea_exchange : ds_ck "DealtSea" false false prog_1_method_38_code ds_c_Sea_exchange = true := by decide +kernel
theorem ds_k_Sea_fault : ds_ck "DealtSea" false false prog_1_method_4_code ds_c_Sea_fault = true := by decide +kernel
theorem ds_k_Sea_feed : ds_ck "DealtSea" false false prog_1_method_2_code ds_c_Sea_feed = true := by decide +kernel
theorem ds_k_Sea_fewest : ds_ck "DealtSea" false false prog_1_method_30_code ds_c_Sea_fewest = true := by decide +kernel
theorem ds_k_Sea_fitAt : ds_ck "DealtSea" false false prog_1_method_23_code ds_c_Sea_fitAt = true := by decide +kernel
theorem ds_k_Sea_fits : ds_ck "DealtSea" false false prog_1_method_22_code ds_c_Sea_fits = true := by decide +kernel
theorem ds_k_Sea_foundMove : ds_ck "DealtSea" false false prog_1_method_71_code ds_c_Sea_foundMove = true := by decide +kernel
theorem ds_k_Sea_gain : ds_ck "DealtSea" false false prog_1_method_39_code ds_c_Sea_gain = true := by decide +kernel
theorem ds_k_Sea_gainBy : ds_ck "DealtSea" false false prog_1_method_75_code ds_c_Sea_gainBy = true := by decide +kernel
theorem ds_k_Sea_goesTo : ds_ck "DealtSea" false false prog_1_method_82_code ds_c_Sea_goesTo = true := by decide +kernel
theorem ds_k_Sea_greatestDivisor : ds_ck "DealtSea" false false prog_1_method_84_code ds_c_Sea_greatestDivisor = true := by decide +kernel
theorem ds_k_Sea_hasSea : ds_ck "DealtSea" true false prog_1_method_56_code ds_c_Sea_hasSea = true := by decide +kernel
theorem ds_k_Sea_image : ds_ck "DealtSea" false false prog_1_method_49_code ds_c_Sea_image = true := by decide +kernel
theorem ds_k_Sea_inSea : ds_ck "DealtSea" false false prog_1_method_28_code ds_c_Sea_inSea = true := by decide +kernel
theorem ds_k_Sea_isDecade : ds_ck "DealtSea" true false prog_1_method_62_code ds_c_Sea_isDecade = true := by decide +kernel
theorem ds_k_Sea_isGood : ds_ck "DealtSea" true false prog_1_method_61_code ds_c_Sea_isGood = true := by decide +kernel
theorem ds_k_Sea_isInDeck : ds_ck "DealtSea" true false prog_1_method_58_code ds_c_Sea_isInDeck = true := by decide +kernel
theorem ds_k_Sea_isIsland : ds_ck "DealtSea" true false prog_1_method_57_code ds_c_Sea_isIsland = true := by decide +kernel
theorem ds_k_Sea_isMove : ds_ck "DealtSea" true false prog_1_method_60_code ds_c_Sea_isMove = true := by decide +kernel
theorem ds_k_Sea_isPlace : ds_ck "DealtSea" true false prog_1_method_59_code ds_c_Sea_isPlace = true := by decide +kernel
theorem ds_k_Sea_island : ds_ck "DealtSea" false false prog_1_method_6_code ds_c_Sea_island = true := by decide +kernel
theorem ds_k_Sea_journey : ds_ck "DealtSea" false false prog_1_method_14_code ds_c_Sea_journey = true := by decide +kernel
theorem ds_k_Sea_judge : ds_ck "DealtSea" false false prog_1_method_21_code ds_c_Sea_judge = true := by decide +kernel
theorem ds_k_Sea_lay : ds_ck "DealtSea" true false prog_1_method_47_code ds_c_Sea_lay = true := by decide +kernel
theorem ds_k_Sea_led : ds_ck "DealtSea" false false prog_1_method_51_code ds_c_Sea_led = true := by decide +kernel
theorem ds_k_Sea_look : ds_ck "DealtSea" false false prog_1_method_79_code ds_c_Sea_look = true := by decide +kernel
theorem ds_k_Sea_lowestTerms : ds_ck "DealtSea" false false prog_1_method_83_code ds_c_Sea_lowestTerms = true := by decide +kernel
theorem ds_k_Sea_makePlan : ds_ck "DealtSea" false false prog_1_method_64_code ds_c_Sea_makePlan = true := by decide +kernel
theorem ds_k_Sea_makeTwo : ds_ck "DealtSea" false false prog_1_method_74_code ds_c_Sea_makeTwo = true := by decide +kernel
theorem ds_k_Sea_moveAt : ds_ck "DealtSea" false false prog_1_method_31_code ds_c_Sea_moveAt = true := by decide +kernel
theorem ds_k_Sea_moveOfRow : ds_ck "DealtSea" false false prog_1_method_68_code ds_c_Sea_moveOfRow = true := by decide +kernel
theorem ds_k_Sea_movesOf : ds_ck "DealtSea" false false prog_1_method_81_code ds_c_Sea_movesOf = true := by decide +kernel
theorem ds_k_Sea_nearest : ds_ck "DealtSea" false false prog_1_method_17_code ds_c_Sea_nearest = true := by decide +kernel
theorem ds_k_Sea_odds : ds_ck "DealtSea" false false prog_1_method_27_code ds_c_Sea_odds = true := by decide +kernel
theorem ds_k_Sea_palm : ds_ck "DealtSea" false false prog_1_method_46_code ds_c_Sea_palm = true := by decide +kernel
theorem ds_k_Sea_people : ds_ck "DealtSea" false false prog_1_method_18_code ds_c_Sea_people = true := by decide +kernel
theorem ds_k_Sea_placesNext : ds_ck "DealtSea" false false prog_1_method_69_code ds_c_Sea_placesNext = true := by decide +kernel
theorem ds_k_Sea_planned : ds_ck "DealtSea" false false prog_1_method_19_code ds_c_Sea_planned = true := by decide +kernel
theorem ds_k_Sea_plannedTrades : ds_ck "DealtSea" false false prog_1_method_20_code ds_c_Sea_plannedTrades = true := by decide +kernel
theorem ds_k_Sea_playGame : ds_ck "DealtSea" false false prog_1_method_76_code ds_c_Sea_playGame = true := by decide +kernel
theorem ds_k_Sea_put : ds_ck "DealtSea" false false prog_1_method_80_code ds_c_Sea_put = true := by decide +kernel
theorem ds_k_Sea_reckonChances : ds_ck "DealtSea" false false prog_1_method_70_code ds_c_Sea_reckonChances = true := by decide +kernel
theorem ds_k_Sea_refuse : ds_ck "DealtSea" false false prog_1_method_54_code ds_c_Sea_refuse = true := by decide +kernel
theorem ds_k_Sea_rest : ds_ck "DealtSea" false false prog_1_method_41_code ds_c_Sea_rest = true := by decide +kernel
theorem ds_k_Sea_rests : ds_ck "DealtSea" false false prog_1_method_40_code ds_c_Sea_rests = true := by decide +kernel
theorem ds_k_Sea_rowFits : ds_ck "DealtSea" true false prog_1_method_67_code ds_c_Sea_rowFits = true := by decide +kernel
theorem ds_k_Sea_rowsOfMoves : ds_ck "DealtSea" false false prog_1_method_66_code ds_c_Sea_rowsOfMoves = true := by decide +kernel
theorem ds_k_Sea_run : ds_ck "DealtSea" false false prog_1_method_12_code ds_c_Sea_run = true := by decide +kernel
theorem ds_k_Sea_runAt : ds_ck "DealtSea" false false prog_1_method_13_code ds_c_Sea_runAt = true := by decide +kernel
theorem ds_k_Sea_sea : ds_ck "DealtSea" false false prog_1_method_3_code ds_c_Sea_sea = true := by decide +kernel
theorem ds_k_Sea_size : ds_ck "DealtSea" false false prog_1_method_52_code ds_c_Sea_size = true := by decide +kernel
theorem ds_k_Sea_spell : ds_ck "DealtSea" false false prog_1_method_85_code ds_c_Sea_spell = true := by decide +kernel
theorem ds_k_Sea_sumYears : ds_ck "DealtSea" false false prog_1_method_77_code ds_c_Sea_sumYears = true := by decide +kernel
theorem ds_k_Sea_three : ds_ck "DealtSea" false false prog_1_method_34_code ds_c_Sea_three = true := by decide +kernel
theorem ds_k_Sea_together : ds_ck "DealtSea" false false prog_1_method_32_code ds_c_Sea_together = true := by decide +kernel
theorem ds_k_Sea_togetherAt : ds_ck "DealtSea" false false prog_1_method_33_code ds_c_Sea_togetherAt = true := by decide +kernel
theorem ds_k_Sea_trade : ds_ck "DealtSea" false false prog_1_method_9_code ds_c_Sea_trade = true := by decide +kernel
theorem ds_k_Sea_trades : ds_ck "DealtSea" false false prog_1_method_10_code ds_c_Sea_trades = true := by decide +kernel
theorem ds_k_Sea_tradesBy : ds_ck "DealtSea" false false prog_1_method_72_code ds_c_Sea_tradesBy = true := by decide +kernel
theorem ds_k_Sea_trouble : ds_ck "DealtSea" false false prog_1_method_53_code ds_c_Sea_trouble = true := by decide +kernel
theorem ds_k_Sea_undo : ds_ck "DealtSea" true false prog_1_method_48_code ds_c_Sea_undo = true := by decide +kernel
theorem ds_k_Sea_wars : ds_ck "DealtSea" false false prog_1_method_11_code ds_c_Sea_wars = true := by decide +kernel
theorem ds_k_Sea_where : ds_ck "DealtSea" false false prog_1_method_5_code ds_c_Sea_where = true := by decide +kernel
theorem ds_k_Sea_wishes : ds_ck "DealtSea" false false prog_1_method_15_code ds_c_Sea_wishes = true := by decide +kernel
theorem ds_k_Sea_yearOf : ds_ck "DealtSea" false false prog_1_method_78_code ds_c_Sea_yearOf = true := by decide +kernel
theorem ds_k_Mod_after : ds_ck "DealtSeaModel" false false prog_11_method_25_code ds_c_Mod_after = true := by decide +kernel
theorem ds_k_Mod_again : ds_ck "DealtSeaModel" false false prog_11_method_81_code ds_c_Mod_again = true := by decide +kernel
theorem ds_k_Mod_alike : ds_ck "DealtSeaModel" false false prog_11_method_91_code ds_c_Mod_alike = true := by decide +kernel
theorem ds_k_Mod_allWays : ds_ck "DealtSeaModel" false false prog_11_method_88_code ds_c_Mod_allWays = true := by decide +kernel
theorem ds_k_Mod_areBeside : ds_ck "DealtSeaModel" true false prog_11_method_47_code ds_c_Mod_areBeside = true := by decide +kernel
theorem ds_k_Mod_areGoods : ds_ck "DealtSeaModel" true false prog_11_method_112_code ds_c_Mod_areGoods = true := by decide +kernel
theorem ds_k_Mod_back : ds_ck "DealtSeaModel" true false prog_11_method_129_code ds_c_Mod_back = true := by decide +kernel
theorem ds_k_Mod_beBeside : ds_ck "DealtSeaModel" true false prog_11_method_48_code ds_c_Mod_beBeside = true := by decide +kernel
theorem ds_k_Mod_begins : ds_ck "DealtSeaModel" true false prog_11_method_30_code ds_c_Mod_begins = true := by decide +kernel
theorem ds_k_Mod_beside : ds_ck "DealtSeaModel" false false prog_11_method_55_code ds_c_Mod_beside = true := by decide +kernel
theorem ds_k_Mod_best : ds_ck "DealtSeaModel" false false prog_11_method_107_code ds_c_Mod_best = true := by decide +kernel
theorem ds_k_Mod_bestMove : ds_ck "DealtSeaModel" false false prog_11_method_106_code ds_c_Mod_bestMove = true := by decide +kernel
theorem ds_k_Mod_bestTrades : ds_ck "DealtSeaModel" false false prog_11_method_108_code ds_c_Mod_bestTrades = true := by decide +kernel
theorem ds_k_Mod_bestTwo : ds_ck "DealtSeaModel" false false prog_11_method_109_code ds_c_Mod_bestTwo = true := by decide +kernel
theorem ds_k_Mod_can : ds_ck "DealtSeaModel" false false prog_11_method_87_code ds_c_Mod_can = true := by decide +kernel
theorem ds_k_Mod_card : ds_ck "DealtSeaModel" false false prog_11_method_54_code ds_c_Mod_card = true := by decide +kernel
theorem ds_k_Mod_copy : ds_ck "DealtSeaModel" false false prog_11_method_8_code ds_c_Mod_copy = true := by decide +kernel
theorem ds_k_Mod_crowd : ds_ck "DealtSeaModel" false false prog_11_method_69_code ds_c_Mod_crowd = true := by decide +kernel
theorem ds_k_Mod_cycle : ds_ck "DealtSeaModel" false false prog_11_method_83_code ds_c_Mod_cycle = true := by decide +kernel
theorem ds_k_Mod_deal : ds_ck "DealtSeaModel" false false prog_11_method_124_code ds_c_Mod_deal = true := by decide +kernel
theorem ds_k_Mod_decade : ds_ck "DealtSeaModel" false false prog_11_method_120_code ds_c_Mod_decade = true := by decide +kernel
theorem ds_k_Mod_decadeOf : ds_ck "DealtSeaModel" false false prog_11_method_122_code ds_c_Mod_decadeOf = true := by decide +kernel
theorem ds_k_Mod_decadeWhy : ds_ck "DealtSeaModel" false false prog_11_method_119_code ds_c_Mod_decadeWhy = true := by decide +kernel
theorem ds_k_Mod_decadeWishes : ds_ck "DealtSeaModel" false false prog_11_method_121_code ds_c_Mod_decadeWishes = true := by decide +kernel
theorem ds_k_Mod_exchange : ds_ck "DealtSeaModel" false false prog_11_method_110_code ds_c_Mod_exchange = true := by decide +kernel
theorem ds_k_Mod_familyLine : ds_ck "DealtSeaModel" false false prog_11_method_34_code ds_c_Mod_familyLine = true := by decide +kernel
theorem ds_k_Mod_fault : ds_ck "DealtSeaModel" false false prog_11_method_37_code ds_c_Mod_fault = true := by decide +kernel
theorem ds_k_Mod_feed : ds_ck "DealtSeaModel" false false prog_11_method_10_code ds_c_Mod_feed = true := by decide +kernel
theorem ds_k_Mod_fewest : ds_ck "DealtSeaModel" false false prog_11_method_99_code ds_c_Mod_fewest = true := by decide +kernel
theorem ds_k_Mod_find : ds_ck "DealtSeaModel" false false prog_11_method_20_code ds_c_Mod_find = true := by decide +kernel
theorem ds_k_Mod_fitAt : ds_ck "DealtSeaModel" false false prog_11_method_79_code ds_c_Mod_fitAt = true := by decide +kernel
theorem ds_k_Mod_fits : ds_ck "DealtSeaModel" false false prog_11_method_78_code ds_c_Mod_fits = true := by decide +kernel
theorem ds_k_Mod_gain : ds_ck "DealtSeaModel" false false prog_11_method_113_code ds_c_Mod_gain = true := by decide +kernel
theorem ds_k_Mod_gainOf : ds_ck "DealtSeaModel" false false prog_11_method_111_code ds_c_Mod_gainOf = true := by decide +kernel
theorem ds_k_Mod_goThrough : ds_ck "DealtSeaModel" false false prog_11_method_118_code ds_c_Mod_goThrough = true := by decide +kernel
theorem ds_k_Mod_goesTo : ds_ck "DealtSeaModel" false false prog_11_method_41_code ds_c_Mod_goesTo = true := by decide +kernel
theorem ds_k_Mod_good : ds_ck "DealtSeaModel" false false prog_11_method_3_code ds_c_Mod_good = true := by decide +kernel
theorem ds_k_Mod_goodPassed : ds_ck "DealtSeaModel" false false prog_11_method_27_code ds_c_Mod_goodPassed = true := by decide +kernel
theorem ds_k_Mod_hasBit : ds_ck "DealtSeaModel" true false prog_11_method_7_code ds_c_Mod_hasBit = true := by decide +kernel
theorem ds_k_Mod_image : ds_ck "DealtSeaModel" false false prog_11_method_128_code ds_c_Mod_image = true := by decide +kernel
theorem ds_k_Mod_in : ds_ck "DealtSeaModel" true false prog_11_method_6_code ds_c_Mod_in = true := by decide +kernel
theorem ds_k_Mod_inSea : ds_ck "DealtSeaModel" false false prog_11_method_90_code ds_c_Mod_inSea = true := by decide +kernel
theorem ds_k_Mod_isCorner : ds_ck "DealtSeaModel" true false prog_11_method_46_code ds_c_Mod_isCorner = true := by decide +kernel
theorem ds_k_Mod_isDigit : ds_ck "DealtSeaModel" true false prog_11_method_13_code ds_c_Mod_isDigit = true := by decide +kernel
theorem ds_k_Mod_isGoal : ds_ck "DealtSeaModel" true false prog_11_method_93_code ds_c_Mod_isGoal = true := by decide +kernel
theorem ds_k_Mod_isInDeck : ds_ck "DealtSeaModel" true false prog_11_method_86_code ds_c_Mod_isInDeck = true := by decide +kernel
theorem ds_k_Mod_isInSea : ds_ck "DealtSeaModel" true false prog_11_method_59_code ds_c_Mod_isInSea = true := by decide +kernel
theorem ds_k_Mod_isIsland : ds_ck "DealtSeaModel" true false prog_11_method_39_code ds_c_Mod_isIsland = true := by decide +kernel
theorem ds_k_Mod_isJoker : ds_ck "DealtSeaModel" true false prog_11_method_49_code ds_c_Mod_isJoker = true := by decide +kernel
theorem ds_k_Mod_isMove : ds_ck "DealtSeaModel" true false prog_11_method_82_code ds_c_Mod_isMove = true := by decide +kernel
theorem ds_k_Mod_isNot : ds_ck "DealtSeaModel" true false prog_11_method_5_code ds_c_Mod_isNot = true := by decide +kernel
theorem ds_k_Mod_isRest : ds_ck "DealtSeaModel" true false prog_11_method_114_code ds_c_Mod_isRest = true := by decide +kernel
theorem ds_k_Mod_isShown : ds_ck "DealtSeaModel" true false prog_11_method_74_code ds_c_Mod_isShown = true := by decide +kernel
theorem ds_k_Mod_isSmall : ds_ck "DealtSeaModel" true false prog_11_method_12_code ds_c_Mod_isSmall = true := by decide +kernel
theorem ds_k_Mod_isWord : ds_ck "DealtSeaModel" true false prog_11_method_16_code ds_c_Mod_isWord = true := by decide +kernel
theorem ds_k_Mod_island : ds_ck "DealtSeaModel" false false prog_11_method_53_code ds_c_Mod_island = true := by decide +kernel
theorem ds_k_Mod_islandHere : ds_ck "DealtSeaModel" false false prog_11_method_22_code ds_c_Mod_islandHere = true := by decide +kernel
theorem ds_k_Mod_islandLine : ds_ck "DealtSeaModel" false false prog_11_method_33_code ds_c_Mod_islandLine = true := by decide +kernel
theorem ds_k_Mod_islandPassed : ds_ck "DealtSeaModel" false false prog_11_method_23_code ds_c_Mod_islandPassed = true := by decide +kernel
theorem ds_k_Mod_journey : ds_ck "DealtSeaModel" false false prog_11_method_65_code ds_c_Mod_journey = true := by decide +kernel
theorem ds_k_Mod_judge : ds_ck "DealtSeaModel" false false prog_11_method_75_code ds_c_Mod_judge = true := by decide +kernel
theorem ds_k_Mod_lay : ds_ck "DealtSeaModel" true false prog_11_method_126_code ds_c_Mod_lay = true := by decide +kernel
theorem ds_k_Mod_layBridges : ds_ck "DealtSeaModel" false false prog_11_method_64_code ds_c_Mod_layBridges = true := by decide +kernel
theorem ds_k_Mod_layDeck : ds_ck "DealtSeaModel" false false prog_11_method_29_code ds_c_Mod_layDeck = true := by decide +kernel
theorem ds_k_Mod_layPlan : ds_ck "DealtSeaModel" false false prog_11_method_70_code ds_c_Mod_layPlan = true := by decide +kernel
theorem ds_k_Mod_layWays : ds_ck "DealtSeaModel" false false prog_11_method_84_code ds_c_Mod_layWays = true := by decide +kernel
theorem ds_k_Mod_led : ds_ck "DealtSeaModel" false false prog_11_method_130_code ds_c_Mod_led = true := by decide +kernel
theorem ds_k_Mod_look : ds_ck "DealtSeaModel" false false prog_11_method_11_code ds_c_Mod_look = true := by decide +kernel
theorem ds_k_Mod_lowest : ds_ck "DealtSeaModel" false false prog_11_method_9_code ds_c_Mod_lowest = true := by decide +kernel
theorem ds_k_Mod_makes : ds_ck "DealtSeaModel" false false prog_11_method_42_code ds_c_Mod_makes = true := by decide +kernel
theorem ds_k_Mod_moveAt : ds_ck "DealtSeaModel" false false prog_11_method_100_code ds_c_Mod_moveAt = true := by decide +kernel
theorem ds_k_Mod_moveOfWay : ds_ck "DealtSeaModel" false false prog_11_method_97_code ds_c_Mod_moveOfWay = true := by decide +kernel
theorem ds_k_Mod_moved : ds_ck "DealtSeaModel" false false prog_11_method_94_code ds_c_Mod_moved = true := by decide +kernel
theorem ds_k_Mod_movesOf : ds_ck "DealtSeaModel" false false prog_11_method_43_code ds_c_Mod_movesOf = true := by decide +kernel
theorem ds_k_Mod_must : ds_ck "DealtSeaModel" false false prog_11_method_18_code ds_c_Mod_must = true := by decide +kernel
theorem ds_k_Mod_mustName : ds_ck "DealtSeaModel" false false prog_11_method_19_code ds_c_Mod_mustName = true := by decide +kernel
theorem ds_k_Mod_nearest : ds_ck "DealtSeaModel" false false prog_11_method_66_code ds_c_Mod_nearest = true := by decide +kernel
theorem ds_k_Mod_newName : ds_ck "DealtSeaModel" false false prog_11_method_21_code ds_c_Mod_newName = true := by decide +kernel
theorem ds_k_Mod_next : ds_ck "DealtSeaModel" false false prog_11_method_14_code ds_c_Mod_next = true := by decide +kernel
theorem ds_k_Mod_no : ds_ck "DealtSeaModel" false false prog_11_method_4_code ds_c_Mod_no = true := by decide +kernel
theorem ds_k_Mod_note : ds_ck "DealtSeaModel" false false prog_11_method_123_code ds_c_Mod_note = true := by decide +kernel
theorem ds_k_Mod_number : ds_ck "DealtSeaModel" false false prog_11_method_24_code ds_c_Mod_number = true := by decide +kernel
theorem ds_k_Mod_odds : ds_ck "DealtSeaModel" false false prog_11_method_89_code ds_c_Mod_odds = true := by decide +kernel
theorem ds_k_Mod_of : ds_ck "DealtSeaModel" false false prog_11_method_40_code ds_c_Mod_of = true := by decide +kernel
theorem ds_k_Mod_oneMore : ds_ck "DealtSeaModel" false false prog_11_method_85_code ds_c_Mod_oneMore = true := by decide +kernel
theorem ds_k_Mod_oneOf : ds_ck "DealtSeaModel" false false prog_11_method_26_code ds_c_Mod_oneOf = true := by decide +kernel
theorem ds_k_Mod_palm : ds_ck "DealtSeaModel" false false prog_11_method_125_code ds_c_Mod_palm = true := by decide +kernel
theorem ds_k_Mod_people : ds_ck "DealtSeaModel" false false prog_11_method_68_code ds_c_Mod_people = true := by decide +kernel
theorem ds_k_Mod_placeIn : ds_ck "DealtSeaModel" false false prog_11_method_44_code ds_c_Mod_placeIn = true := by decide +kernel
theorem ds_k_Mod_planWhy : ds_ck "DealtSeaModel" false false prog_11_method_71_code ds_c_Mod_planWhy = true := by decide +kernel
theorem ds_k_Mod_planned : ds_ck "DealtSeaModel" false false prog_11_method_72_code ds_c_Mod_planned = true := by decide +kernel
theorem ds_k_Mod_plannedTrades : ds_ck "DealtSeaModel" false false prog_11_method_73_code ds_c_Mod_plannedTrades = true := by decide +kernel
theorem ds_k_Mod_readLine : ds_ck "DealtSeaModel" false false prog_11_method_31_code ds_c_Mod_readLine = true := by decide +kernel
theorem ds_k_Mod_rest : ds_ck "DealtSeaModel" false false prog_11_method_117_code ds_c_Mod_rest = true := by decide +kernel
theorem ds_k_Mod_rests : ds_ck "DealtSeaModel" false false prog_11_method_116_code ds_c_Mod_rests = true := by decide +kernel
theorem ds_k_Mod_restsOf : ds_ck "DealtSeaModel" false false prog_11_method_115_code ds_c_Mod_restsOf = true := by decide +kernel
theorem ds_k_Mod_room : ds_ck "DealtSeaModel" false false prog_11_method_45_code ds_c_Mod_room = true := by decide +kernel
theorem ds_k_Mod_run : ds_ck "DealtSeaModel" false false prog_11_method_62_code ds_c_Mod_run = true := by decide +kernel
theorem ds_k_Mod_runAt : ds_ck "DealtSeaModel" false false prog_11_method_63_code ds_c_Mod_runAt = true := by decide +kernel
theorem ds_k_Mod_runFrom : ds_ck "DealtSeaModel" false false prog_11_method_60_code ds_c_Mod_runFrom = true := by decide +kernel
theorem ds_k_Mod_runNow : ds_ck "DealtSeaModel" false false prog_11_method_61_code ds_c_Mod_runNow = true := by decide +kernel
theorem ds_k_Mod_same : ds_ck "DealtSeaModel" false false prog_11_method_80_code ds_c_Mod_same = true := by decide +kernel
theorem ds_k_Mod_sea : ds_ck "DealtSeaModel" false false prog_11_method_28_code ds_c_Mod_sea = true := by decide +kernel
theorem ds_k_Mod_seaLine : ds_ck "DealtSeaModel" false false prog_11_method_32_code ds_c_Mod_seaLine = true := by decide +kernel
theorem ds_k_Mod_seek : ds_ck "DealtSeaModel" true false prog_11_method_95_code ds_c_Mod_seek = true := by decide +kernel
theorem ds_k_Mod_seekFits : ds_ck "DealtSeaModel" false false prog_11_method_77_code ds_c_Mod_seekFits = true := by decide +kernel
theorem ds_k_Mod_seekPlace : ds_ck "DealtSeaModel" true false prog_11_method_98_code ds_c_Mod_seekPlace = true := by decide +kernel
theorem ds_k_Mod_seekTwo : ds_ck "DealtSeaModel" true false prog_11_method_101_code ds_c_Mod_seekTwo = true := by decide +kernel
theorem ds_k_Mod_showsLine : ds_ck "DealtSeaModel" false false prog_11_method_36_code ds_c_Mod_showsLine = true := by decide +kernel
theorem ds_k_Mod_size : ds_ck "DealtSeaModel" false false prog_11_method_131_code ds_c_Mod_size = true := by decide +kernel
theorem ds_k_Mod_stateOf : ds_ck "DealtSeaModel" false false prog_11_method_92_code ds_c_Mod_stateOf = true := by decide +kernel
theorem ds_k_Mod_takesWord : ds_ck "DealtSeaModel" true false prog_11_method_17_code ds_c_Mod_takesWord = true := by decide +kernel
theorem ds_k_Mod_three : ds_ck "DealtSeaModel" false false prog_11_method_104_code ds_c_Mod_three = true := by decide +kernel
theorem ds_k_Mod_thrown : ds_ck "DealtSeaModel" false false prog_11_method_2_code ds_c_Mod_thrown = true := by decide +kernel
theorem ds_k_Mod_together : ds_ck "DealtSeaModel" false false prog_11_method_102_code ds_c_Mod_together = true := by decide +kernel
theorem ds_k_Mod_togetherAt : ds_ck "DealtSeaModel" false false prog_11_method_103_code ds_c_Mod_togetherAt = true := by decide +kernel
theorem ds_k_Mod_trade : ds_ck "DealtSeaModel" false false prog_11_method_56_code ds_c_Mod_trade = true := by decide +kernel
theorem ds_k_Mod_tradeOf : ds_ck "DealtSeaModel" false false prog_11_method_50_code ds_c_Mod_tradeOf = true := by decide +kernel
theorem ds_k_Mod_trades : ds_ck "DealtSeaModel" false false prog_11_method_57_code ds_c_Mod_trades = true := by decide +kernel
theorem ds_k_Mod_tradesBy : ds_ck "DealtSeaModel" false false prog_11_method_105_code ds_c_Mod_tradesBy = true := by decide +kernel
theorem ds_k_Mod_tradesIn : ds_ck "DealtSeaModel" false false prog_11_method_51_code ds_c_Mod_tradesIn = true := by decide +kernel
theorem ds_k_Mod_trouble : ds_ck "DealtSeaModel" false false prog_11_method_132_code ds_c_Mod_trouble = true := by decide +kernel
theorem ds_k_Mod_tryFits : ds_ck "DealtSeaModel" false false prog_11_method_76_code ds_c_Mod_tryFits = true := by decide +kernel
theorem ds_k_Mod_undo : ds_ck "DealtSeaModel" true false prog_11_method_127_code ds_c_Mod_undo = true := by decide +kernel
theorem ds_k_Mod_wars : ds_ck "DealtSeaModel" false false prog_11_method_58_code ds_c_Mod_wars = true := by decide +kernel
theorem ds_k_Mod_wayLong : ds_ck "DealtSeaModel" false false prog_11_method_96_code ds_c_Mod_wayLong = true := by decide +kernel
theorem ds_k_Mod_where : ds_ck "DealtSeaModel" false false prog_11_method_38_code ds_c_Mod_where = true := by decide +kernel
theorem ds_k_Mod_wishLine : ds_ck "DealtSeaModel" false false prog_11_method_35_code ds_c_Mod_wishLine = true := by decide +kernel
theorem ds_k_Mod_wishes : ds_ck "DealtSeaModel" false false prog_11_method_67_code ds_c_Mod_wishes = true := by decide +kernel
theorem ds_k_Mod_wishesIn : ds_ck "DealtSeaModel" false false prog_11_method_52_code ds_c_Mod_wishesIn = true := by decide +kernel
theorem ds_k_Mod_wrong : ds_ck "DealtSeaModel" false false prog_11_method_15_code ds_c_Mod_wrong = true := by decide +kernel
theorem ds_k_Math_abs : ds_ck "java/lang/Math" false false prog_17_method_59_code ds_c_Math_abs = true := by decide +kernel
theorem ds_k_Math_floorMod : ds_ck "java/lang/Math" false false prog_17_method_50_code ds_c_Math_floorMod = true := by decide +kernel
theorem ds_k_Math_max : ds_ck "java/lang/Math" false false prog_17_method_65_code ds_c_Math_max = true := by decide +kernel
theorem ds_k_Math_maxL : ds_ck "java/lang/Math" false false prog_17_method_66_code ds_c_Math_maxL = true := by decide +kernel
theorem ds_k_Math_min : ds_ck "java/lang/Math" false false prog_17_method_69_code ds_c_Math_min = true := by decide +kernel
theorem ds_k_Math_minL : ds_ck "java/lang/Math" false false prog_17_method_70_code ds_c_Math_minL = true := by decide +kernel
theorem ds_k_Integer_bitCount : ds_ck "java/lang/Integer" false false prog_16_method_49_code ds_c_Integer_bitCount = true := by decide +kernel
theorem ds_k_Arrays_fill : ds_ck "java/util/Arrays" false false prog_26_method_103_code ds_c_Arrays_fill = true := by decide +kernel
theorem ds_k_Arrays_fillL : ds_ck "java/util/Arrays" false false prog_26_method_101_code ds_c_Arrays_fillL = true := by decide +kernel
theorem ds_k_Law_led : ds_ck "DealtSeaLaw" false false method_3_code ds_c_Law_led = true := by decide +kernel
/-- the methods -/
abbrev ds_MT : Type := MethodName × ByteArray × Nat × Option FieldType × ds_Code × ds_Cuts
def ds_m_Chances_add : ds_MT := (y_Chances_add, prog_2_method_4_code, 4, none, ds_c_Chances_add, ds_u_Chances_add)
def ds_m_Chances_begin : ds_MT := (y_Chances_begin, prog_2_method_2_code, 3, none, ds_c_Chances_begin, ds_u_Chances_begin)
def ds_m_Chances_difference : ds_MT := (y_Chances_difference, prog_2_method_7_code, 6, (some .long), ds_c_Chances_difference, ds_u_Chances_difference)
def ds_m_Chances_goOn : ds_MT := (y_Chances_goOn, prog_2_method_3_code, 3, none, ds_c_Chances_goOn, ds_u_Chances_goOn)
def ds_m_Chances_rowsAhead : ds_MT := (y_Chances_rowsAhead, prog_2_method_6_code, 5, (some .long), ds_c_Chances_rowsAhead, ds_u_Chances_rowsAhead)
def ds_m_Chances_rowsTo : ds_MT := (y_Chances_rowsTo, prog_2_method_5_code, 2, (some .long), ds_c_Chances_rowsTo, ds_u_Chances_rowsTo)
def ds_m_Chart_allTrades : ds_MT := (y_Chart_allTrades, prog_3_method_9_code, 1, (some .int), ds_c_Chart_allTrades, ds_u_Chart_allTrades)
def ds_m_Chart_besidePlaces : ds_MT := (y_Chart_besidePlaces, prog_3_method_6_code, 4, (some .int), ds_c_Chart_besidePlaces, ds_u_Chart_besidePlaces)
def ds_m_Chart_bridges : ds_MT := (y_Chart_bridges, prog_3_method_24_code, 8, (some .int), ds_c_Chart_bridges, ds_u_Chart_bridges)
def ds_m_Chart_countWars : ds_MT := (y_Chart_countWars, prog_3_method_12_code, 3, (some .int), ds_c_Chart_countWars, ds_u_Chart_countWars)
def ds_m_Chart_countWishes : ds_MT := (y_Chart_countWishes, prog_3_method_14_code, 3, (some .int), ds_c_Chart_countWishes, ds_u_Chart_countWishes)
def ds_m_Chart_firstOfLength : ds_MT := (y_Chart_firstOfLength, prog_3_method_20_code, 6, (some .int), ds_c_Chart_firstOfLength, ds_u_Chart_firstOfLength)
def ds_m_Chart_isJokerAt : ds_MT := (y_Chart_isJokerAt, prog_3_method_4_code, 2, (some .boolean), ds_c_Chart_isJokerAt, ds_u_Chart_isJokerAt)
def ds_m_Chart_isOfRank : ds_MT := (y_Chart_isOfRank, prog_3_method_16_code, 3, (some .boolean), ds_c_Chart_isOfRank, ds_u_Chart_isOfRank)
def ds_m_Chart_isWar : ds_MT := (y_Chart_isWar, prog_3_method_13_code, 3, (some .boolean), ds_c_Chart_isWar, ds_u_Chart_isWar)
def ds_m_Chart_islandAt : ds_MT := (y_Chart_islandAt, prog_3_method_3_code, 2, (some .int), ds_c_Chart_islandAt, ds_u_Chart_islandAt)
def ds_m_Chart_longestBehind : ds_MT := (y_Chart_longestBehind, prog_3_method_18_code, 5, (some .int), ds_c_Chart_longestBehind, ds_u_Chart_longestBehind)
def ds_m_Chart_longestRun : ds_MT := (y_Chart_longestRun, prog_3_method_15_code, 5, (some .int), ds_c_Chart_longestRun, ds_u_Chart_longestRun)
def ds_m_Chart_mates : ds_MT := (y_Chart_mates, prog_3_method_7_code, 5, (some .int), ds_c_Chart_mates, ds_u_Chart_mates)
def ds_m_Chart_mostPeople : ds_MT := (y_Chart_mostPeople, prog_3_method_25_code, 6, (some .int), ds_c_Chart_mostPeople, ds_u_Chart_mostPeople)
def ds_m_Chart_personsAt : ds_MT := (y_Chart_personsAt, prog_3_method_23_code, 4, (some .int), ds_c_Chart_personsAt, ds_u_Chart_personsAt)
def ds_m_Chart_placeBit : ds_MT := (y_Chart_placeBit, prog_3_method_5_code, 3, (some .int), ds_c_Chart_placeBit, ds_u_Chart_placeBit)
def ds_m_Chart_placesOfGood : ds_MT := (y_Chart_placesOfGood, prog_3_method_22_code, 4, (some .int), ds_c_Chart_placesOfGood, ds_u_Chart_placesOfGood)
def ds_m_Chart_placesWithoutJokers : ds_MT := (y_Chart_placesWithoutJokers, prog_3_method_21_code, 3, (some .int), ds_c_Chart_placesWithoutJokers, ds_u_Chart_placesWithoutJokers)
def ds_m_Chart_rankAbove : ds_MT := (y_Chart_rankAbove, prog_3_method_17_code, 2, (some .int), ds_c_Chart_rankAbove, ds_u_Chart_rankAbove)
def ds_m_Chart_runIsland : ds_MT := (y_Chart_runIsland, prog_3_method_19_code, 5, (some .int), ds_c_Chart_runIsland, ds_u_Chart_runIsland)
def ds_m_Chart_show : ds_MT := (y_Chart_show, prog_3_method_2_code, 4, none, ds_c_Chart_show, ds_u_Chart_show)
def ds_m_Chart_touching : ds_MT := (y_Chart_touching, prog_3_method_8_code, 3, (some .boolean), ds_c_Chart_touching, ds_u_Chart_touching)
def ds_m_Chart_tradeBetween : ds_MT := (y_Chart_tradeBetween, prog_3_method_11_code, 3, (some .int), ds_c_Chart_tradeBetween, ds_u_Chart_tradeBetween)
def ds_m_Chart_tradesOf : ds_MT := (y_Chart_tradesOf, prog_3_method_10_code, 4, (some .int), ds_c_Chart_tradesOf, ds_u_Chart_tradesOf)
def ds_m_Deck_cardAt : ds_MT := (y_Deck_cardAt, prog_4_method_5_code, 2, (some .int), ds_c_Deck_cardAt, ds_u_Deck_cardAt)
def ds_m_Deck_isOrdered : ds_MT := (y_Deck_isOrdered, prog_4_method_3_code, 2, (some .boolean), ds_c_Deck_isOrdered, ds_u_Deck_isOrdered)
def ds_m_Deck_makeMove : ds_MT := (y_Deck_makeMove, prog_4_method_7_code, 3, none, ds_c_Deck_makeMove, ds_u_Deck_makeMove)
def ds_m_Deck_order : ds_MT := (y_Deck_order, prog_4_method_2_code, 3, none, ds_c_Deck_order, ds_u_Deck_order)
def ds_m_Deck_placeOf : ds_MT := (y_Deck_placeOf, prog_4_method_6_code, 3, (some .int), ds_c_Deck_placeOf, ds_u_Deck_placeOf)
def ds_m_Deck_putUnder : ds_MT := (y_Deck_putUnder, prog_4_method_10_code, 1, none, ds_c_Deck_putUnder, ds_u_Deck_putUnder)
def ds_m_Deck_readFrom : ds_MT := (y_Deck_readFrom, prog_4_method_12_code, 4, none, ds_c_Deck_readFrom, ds_u_Deck_readFrom)
def ds_m_Deck_swap : ds_MT := (y_Deck_swap, prog_4_method_8_code, 4, none, ds_c_Deck_swap, ds_u_Deck_swap)
def ds_m_Deck_take : ds_MT := (y_Deck_take, prog_4_method_4_code, 2, none, ds_c_Deck_take, ds_u_Deck_take)
def ds_m_Deck_takeOut : ds_MT := (y_Deck_takeOut, prog_4_method_9_code, 3, none, ds_c_Deck_takeOut, ds_u_Deck_takeOut)
def ds_m_Deck_writeTo : ds_MT := (y_Deck_writeTo, prog_4_method_11_code, 4, none, ds_c_Deck_writeTo, ds_u_Deck_writeTo)
def ds_m_Game_countRests : ds_MT := (y_Game_countRests, prog_5_method_5_code, 4, (some .int), ds_c_Game_countRests, ds_u_Game_countRests)
def ds_m_Game_firstRest : ds_MT := (y_Game_firstRest, prog_5_method_6_code, 3, (some .int), ds_c_Game_firstRest, ds_u_Game_firstRest)
def ds_m_Game_gainOf : ds_MT := (y_Game_gainOf, prog_5_method_3_code, 3, (some .int), ds_c_Game_gainOf, ds_u_Game_gainOf)
def ds_m_Game_isRest : ds_MT := (y_Game_isRest, prog_5_method_4_code, 5, (some .boolean), ds_c_Game_isRest, ds_u_Game_isRest)
def ds_m_Game_setGain : ds_MT := (y_Game_setGain, prog_5_method_2_code, 4, none, ds_c_Game_setGain, ds_u_Game_setGain)
def ds_m_Reader_advance : ds_MT := (y_Reader_advance, prog_6_method_11_code, 2, none, ds_c_Reader_advance, ds_u_Reader_advance)
def ds_m_Reader_blame : ds_MT := (y_Reader_blame, prog_6_method_7_code, 2, none, ds_c_Reader_blame, ds_u_Reader_blame)
def ds_m_Reader_byteAt : ds_MT := (y_Reader_byteAt, prog_6_method_8_code, 2, (some .int), ds_c_Reader_byteAt, ds_u_Reader_byteAt)
def ds_m_Reader_checkLine : ds_MT := (y_Reader_checkLine, prog_6_method_15_code, 3, none, ds_c_Reader_checkLine, ds_u_Reader_checkLine)
def ds_m_Reader_goesOn : ds_MT := (y_Reader_goesOn, prog_6_method_6_code, 1, (some .boolean), ds_c_Reader_goesOn, ds_u_Reader_goesOn)
def ds_m_Reader_handOver : ds_MT := (y_Reader_handOver, prog_6_method_4_code, 3, (some (.object "DealtSea$Told")), ds_c_Reader_handOver, ds_u_Reader_handOver)
def ds_m_Reader_isAtName : ds_MT := (y_Reader_isAtName, prog_6_method_24_code, 1, (some .boolean), ds_c_Reader_isAtName, ds_u_Reader_isAtName)
def ds_m_Reader_isDigit : ds_MT := (y_Reader_isDigit, prog_6_method_10_code, 1, (some .boolean), ds_c_Reader_isDigit, ds_u_Reader_isDigit)
def ds_m_Reader_isFull : ds_MT := (y_Reader_isFull, prog_6_method_16_code, 2, (some .boolean), ds_c_Reader_isFull, ds_u_Reader_isFull)
def ds_m_Reader_isLetter : ds_MT := (y_Reader_isLetter, prog_6_method_9_code, 1, (some .boolean), ds_c_Reader_isLetter, ds_u_Reader_isLetter)
def ds_m_Reader_lengthen : ds_MT := (y_Reader_lengthen, prog_6_method_2_code, 3, none, ds_c_Reader_lengthen, ds_u_Reader_lengthen)
def ds_m_Reader_namedIsland : ds_MT := (y_Reader_namedIsland, prog_6_method_27_code, 2, (some .int), ds_c_Reader_namedIsland, ds_u_Reader_namedIsland)
def ds_m_Reader_owner : ds_MT := (y_Reader_owner, prog_6_method_25_code, 2, (some .int), ds_c_Reader_owner, ds_u_Reader_owner)
def ds_m_Reader_place : ds_MT := (y_Reader_place, prog_6_method_3_code, 1, (some .int), ds_c_Reader_place, ds_u_Reader_place)
def ds_m_Reader_readFamily : ds_MT := (y_Reader_readFamily, prog_6_method_19_code, 2, none, ds_c_Reader_readFamily, ds_u_Reader_readFamily)
def ds_m_Reader_readIsland : ds_MT := (y_Reader_readIsland, prog_6_method_18_code, 5, none, ds_c_Reader_readIsland, ds_u_Reader_readIsland)
def ds_m_Reader_readLine : ds_MT := (y_Reader_readLine, prog_6_method_14_code, 3, none, ds_c_Reader_readLine, ds_u_Reader_readLine)
def ds_m_Reader_readOneOf : ds_MT := (y_Reader_readOneOf, prog_6_method_22_code, 3, (some .int), ds_c_Reader_readOneOf, ds_u_Reader_readOneOf)
def ds_m_Reader_readSea : ds_MT := (y_Reader_readSea, prog_6_method_17_code, 1, none, ds_c_Reader_readSea, ds_u_Reader_readSea)
def ds_m_Reader_readShows : ds_MT := (y_Reader_readShows, prog_6_method_21_code, 3, none, ds_c_Reader_readShows, ds_u_Reader_readShows)
def ds_m_Reader_readText : ds_MT := (y_Reader_readText, prog_6_method_5_code, 4, (some .int), ds_c_Reader_readText, ds_u_Reader_readText)
def ds_m_Reader_readWhole : ds_MT := (y_Reader_readWhole, prog_6_method_23_code, 4, (some .int), ds_c_Reader_readWhole, ds_u_Reader_readWhole)
def ds_m_Reader_readWish : ds_MT := (y_Reader_readWish, prog_6_method_20_code, 3, none, ds_c_Reader_readWish, ds_u_Reader_readWish)
def ds_m_Reader_takeWhole : ds_MT := (y_Reader_takeWhole, prog_6_method_13_code, 1, none, ds_c_Reader_takeWhole, ds_u_Reader_takeWhole)
def ds_m_Reader_takeWord : ds_MT := (y_Reader_takeWord, prog_6_method_12_code, 1, none, ds_c_Reader_takeWord, ds_u_Reader_takeWord)
def ds_m_Reader_tellName : ds_MT := (y_Reader_tellName, prog_6_method_26_code, 2, none, ds_c_Reader_tellName, ds_u_Reader_tellName)
def ds_m_Search_bringThree : ds_MT := (y_Search_bringThree, prog_7_method_4_code, 6, none, ds_c_Search_bringThree, ds_u_Search_bringThree)
def ds_m_Search_bringTo : ds_MT := (y_Search_bringTo, prog_7_method_2_code, 4, none, ds_c_Search_bringTo, ds_u_Search_bringTo)
def ds_m_Search_bringTogether : ds_MT := (y_Search_bringTogether, prog_7_method_3_code, 5, none, ds_c_Search_bringTogether, ds_u_Search_bringTogether)
def ds_m_Search_canBe : ds_MT := (y_Search_canBe, prog_7_method_6_code, 3, (some .boolean), ds_c_Search_canBe, ds_u_Search_canBe)
def ds_m_Search_isGoal : ds_MT := (y_Search_isGoal, prog_7_method_9_code, 5, (some .boolean), ds_c_Search_isGoal, ds_u_Search_isGoal)
def ds_m_Search_length : ds_MT := (y_Search_length, prog_7_method_11_code, 3, (some .int), ds_c_Search_length, ds_u_Search_length)
def ds_m_Search_moveOf : ds_MT := (y_Search_moveOf, prog_7_method_12_code, 4, (some .int), ds_c_Search_moveOf, ds_u_Search_moveOf)
def ds_m_Search_pairs : ds_MT := (y_Search_pairs, prog_7_method_10_code, 3, (some .int), ds_c_Search_pairs, ds_u_Search_pairs)
def ds_m_Search_queueNext : ds_MT := (y_Search_queueNext, prog_7_method_7_code, 6, (some .int), ds_c_Search_queueNext, ds_u_Search_queueNext)
def ds_m_Search_seek : ds_MT := (y_Search_seek, prog_7_method_5_code, 6, none, ds_c_Search_seek, ds_u_Search_seek)
def ds_m_Search_stateBehind : ds_MT := (y_Search_stateBehind, prog_7_method_8_code, 7, (some .int), ds_c_Search_stateBehind, ds_u_Search_stateBehind)
def ds_m_Shelf_empty : ds_MT := (y_Shelf_empty, prog_8_method_2_code, 1, none, ds_c_Shelf_empty, ds_u_Shelf_empty)
def ds_m_Shelf_popInto : ds_MT := (y_Shelf_popInto, prog_8_method_5_code, 2, none, ds_c_Shelf_popInto, ds_u_Shelf_popInto)
def ds_m_Shelf_pushOver : ds_MT := (y_Shelf_pushOver, prog_8_method_4_code, 2, none, ds_c_Shelf_pushOver, ds_u_Shelf_pushOver)
def ds_m_Shelf_readInto : ds_MT := (y_Shelf_readInto, prog_8_method_6_code, 3, none, ds_c_Shelf_readInto, ds_u_Shelf_readInto)
def ds_m_Shelf_startOf : ds_MT := (y_Shelf_startOf, prog_8_method_3_code, 2, (some .int), ds_c_Shelf_startOf, ds_u_Shelf_startOf)
def ds_m_Told_addFamily : ds_MT := (y_Told_addFamily, prog_9_method_5_code, 2, none, ds_c_Told_addFamily, ds_u_Told_addFamily)
def ds_m_Told_addIsland : ds_MT := (y_Told_addIsland, prog_9_method_4_code, 5, none, ds_c_Told_addIsland, ds_u_Told_addIsland)
def ds_m_Told_addShows : ds_MT := (y_Told_addShows, prog_9_method_7_code, 3, none, ds_c_Told_addShows, ds_u_Told_addShows)
def ds_m_Told_addWish : ds_MT := (y_Told_addWish, prog_9_method_6_code, 3, none, ds_c_Told_addWish, ds_u_Told_addWish)
def ds_m_Told_areNear : ds_MT := (y_Told_areNear, prog_9_method_12_code, 3, (some .boolean), ds_c_Told_areNear, ds_u_Told_areNear)
def ds_m_Told_forget : ds_MT := (y_Told_forget, prog_9_method_2_code, 1, none, ds_c_Told_forget, ds_u_Told_forget)
def ds_m_Told_hasWish : ds_MT := (y_Told_hasWish, prog_9_method_8_code, 6, (some .boolean), ds_c_Told_hasWish, ds_u_Told_hasWish)
def ds_m_Told_isCorner : ds_MT := (y_Told_isCorner, prog_9_method_11_code, 2, (some .boolean), ds_c_Told_isCorner, ds_u_Told_isCorner)
def ds_m_Told_isJoker : ds_MT := (y_Told_isJoker, prog_9_method_13_code, 2, (some .boolean), ds_c_Told_isJoker, ds_u_Told_isJoker)
def ds_m_Told_neighbours : ds_MT := (y_Told_neighbours, prog_9_method_10_code, 3, (some .boolean), ds_c_Told_neighbours, ds_u_Told_neighbours)
def ds_m_Told_room : ds_MT := (y_Told_room, prog_9_method_3_code, 1, (some .int), ds_c_Told_room, ds_u_Told_room)
def ds_m_Told_settle : ds_MT := (y_Told_settle, prog_9_method_9_code, 3, none, ds_c_Told_settle, ds_u_Told_settle)
def ds_m_Told_worth : ds_MT := (y_Told_worth, prog_9_method_14_code, 6, (some .int), ds_c_Told_worth, ds_u_Told_worth)
def ds_m_Sea_addPlan : ds_MT := (y_Sea_addPlan, prog_1_method_65_code, 3, none, ds_c_Sea_addPlan, ds_u_Sea_addPlan)
def ds_m_Sea_again : ds_MT := (y_Sea_again, prog_1_method_24_code, 2, (some .int), ds_c_Sea_again, ds_u_Sea_again)
def ds_m_Sea_alike : ds_MT := (y_Sea_alike, prog_1_method_29_code, 4, (some .int), ds_c_Sea_alike, ds_u_Sea_alike)
def ds_m_Sea_answer : ds_MT := (y_Sea_answer, prog_1_method_55_code, 2, (some .int), ds_c_Sea_answer, ds_u_Sea_answer)
def ds_m_Sea_back : ds_MT := (y_Sea_back, prog_1_method_50_code, 2, (some .boolean), ds_c_Sea_back, ds_u_Sea_back)
def ds_m_Sea_beside : ds_MT := (y_Sea_beside, prog_1_method_8_code, 2, (some .int), ds_c_Sea_beside, ds_u_Sea_beside)
def ds_m_Sea_best : ds_MT := (y_Sea_best, prog_1_method_35_code, 1, (some .int), ds_c_Sea_best, ds_u_Sea_best)
def ds_m_Sea_bestMove : ds_MT := (y_Sea_bestMove, prog_1_method_73_code, 5, (some .int), ds_c_Sea_bestMove, ds_u_Sea_bestMove)
def ds_m_Sea_bestTrades : ds_MT := (y_Sea_bestTrades, prog_1_method_36_code, 1, (some .int), ds_c_Sea_bestTrades, ds_u_Sea_bestTrades)
def ds_m_Sea_bestTwo : ds_MT := (y_Sea_bestTwo, prog_1_method_37_code, 6, (some .int), ds_c_Sea_bestTwo, ds_u_Sea_bestTwo)
def ds_m_Sea_can : ds_MT := (y_Sea_can, prog_1_method_26_code, 5, (some .int), ds_c_Sea_can, ds_u_Sea_can)
def ds_m_Sea_card : ds_MT := (y_Sea_card, prog_1_method_7_code, 2, (some .int), ds_c_Sea_card, ds_u_Sea_card)
def ds_m_Sea_chartOf : ds_MT := (y_Sea_chartOf, prog_1_method_63_code, 2, (some (.object "DealtSea$Chart")), ds_c_Sea_chartOf, ds_u_Sea_chartOf)
def ds_m_Sea_choice : ds_MT := (y_Sea_choice, prog_1_method_86_code, 8, (some .int), ds_c_Sea_choice, ds_u_Sea_choice)
def ds_m_Sea_crowd : ds_MT := (y_Sea_crowd, prog_1_method_16_code, 1, (some .int), ds_c_Sea_crowd, ds_u_Sea_crowd)
def ds_m_Sea_cycle : ds_MT := (y_Sea_cycle, prog_1_method_25_code, 3, (some .int), ds_c_Sea_cycle, ds_u_Sea_cycle)
def ds_m_Sea_deal : ds_MT := (y_Sea_deal, prog_1_method_45_code, 2, (some .int), ds_c_Sea_deal, ds_u_Sea_deal)
def ds_m_Sea_decade : ds_MT := (y_Sea_decade, prog_1_method_42_code, 3, (some .int), ds_c_Sea_decade, ds_u_Sea_decade)
def ds_m_Sea_decadeOf : ds_MT := (y_Sea_decadeOf, prog_1_method_44_code, 4, (some .int), ds_c_Sea_decadeOf, ds_u_Sea_decadeOf)
def ds_m_Sea_decadeWishes : ds_MT := (y_Sea_decadeWishes, prog_1_method_43_code, 3, (some .int), ds_c_Sea_decadeWishes, ds_u_Sea_decadeWishes)
def ds_m_Sea_exchange : ds_MT := (y_Sea_exchange, prog_1_method_38_code, 6, (some .int), ds_c_Sea_exchange, ds_u_Sea_exchange)
def ds_m_Sea_fault : ds_MT := (y_Sea_fault, prog_1_method_4_code, 1, (some .int), ds_c_Sea_fault, ds_u_Sea_fault)
def ds_m_Sea_feed : ds_MT := (y_Sea_feed, prog_1_method_2_code, 6, (some .int), ds_c_Sea_feed, ds_u_Sea_feed)
def ds_m_Sea_fewest : ds_MT := (y_Sea_fewest, prog_1_method_30_code, 3, (some .int), ds_c_Sea_fewest, ds_u_Sea_fewest)
def ds_m_Sea_fitAt : ds_MT := (y_Sea_fitAt, prog_1_method_23_code, 5, (some .int), ds_c_Sea_fitAt, ds_u_Sea_fitAt)
def ds_m_Sea_fits : ds_MT := (y_Sea_fits, prog_1_method_22_code, 5, (some .int), ds_c_Sea_fits, ds_u_Sea_fits)
def ds_m_Sea_foundMove : ds_MT := (y_Sea_foundMove, prog_1_method_71_code, 2, (some .int), ds_c_Sea_foundMove, ds_u_Sea_foundMove)
def ds_m_Sea_gain : ds_MT := (y_Sea_gain, prog_1_method_39_code, 5, (some .int), ds_c_Sea_gain, ds_u_Sea_gain)
def ds_m_Sea_gainBy : ds_MT := (y_Sea_gainBy, prog_1_method_75_code, 5, (some .int), ds_c_Sea_gainBy, ds_u_Sea_gainBy)
def ds_m_Sea_goesTo : ds_MT := (y_Sea_goesTo, prog_1_method_82_code, 4, (some .int), ds_c_Sea_goesTo, ds_u_Sea_goesTo)
def ds_m_Sea_greatestDivisor : ds_MT := (y_Sea_greatestDivisor, prog_1_method_84_code, 11, (some .long), ds_c_Sea_greatestDivisor, ds_u_Sea_greatestDivisor)
def ds_m_Sea_hasSea : ds_MT := (y_Sea_hasSea, prog_1_method_56_code, 1, (some .boolean), ds_c_Sea_hasSea, ds_u_Sea_hasSea)
def ds_m_Sea_image : ds_MT := (y_Sea_image, prog_1_method_49_code, 1, (some .int), ds_c_Sea_image, ds_u_Sea_image)
def ds_m_Sea_inSea : ds_MT := (y_Sea_inSea, prog_1_method_28_code, 4, (some .long), ds_c_Sea_inSea, ds_u_Sea_inSea)
def ds_m_Sea_isDecade : ds_MT := (y_Sea_isDecade, prog_1_method_62_code, 2, (some .boolean), ds_c_Sea_isDecade, ds_u_Sea_isDecade)
def ds_m_Sea_isGood : ds_MT := (y_Sea_isGood, prog_1_method_61_code, 1, (some .boolean), ds_c_Sea_isGood, ds_u_Sea_isGood)
def ds_m_Sea_isInDeck : ds_MT := (y_Sea_isInDeck, prog_1_method_58_code, 2, (some .boolean), ds_c_Sea_isInDeck, ds_u_Sea_isInDeck)
def ds_m_Sea_isIsland : ds_MT := (y_Sea_isIsland, prog_1_method_57_code, 2, (some .boolean), ds_c_Sea_isIsland, ds_u_Sea_isIsland)
def ds_m_Sea_isMove : ds_MT := (y_Sea_isMove, prog_1_method_60_code, 2, (some .boolean), ds_c_Sea_isMove, ds_u_Sea_isMove)
def ds_m_Sea_isPlace : ds_MT := (y_Sea_isPlace, prog_1_method_59_code, 2, (some .boolean), ds_c_Sea_isPlace, ds_u_Sea_isPlace)
def ds_m_Sea_island : ds_MT := (y_Sea_island, prog_1_method_6_code, 3, (some .int), ds_c_Sea_island, ds_u_Sea_island)
def ds_m_Sea_journey : ds_MT := (y_Sea_journey, prog_1_method_14_code, 4, (some .int), ds_c_Sea_journey, ds_u_Sea_journey)
def ds_m_Sea_judge : ds_MT := (y_Sea_judge, prog_1_method_21_code, 2, (some .int), ds_c_Sea_judge, ds_u_Sea_judge)
def ds_m_Sea_lay : ds_MT := (y_Sea_lay, prog_1_method_47_code, 1, (some .boolean), ds_c_Sea_lay, ds_u_Sea_lay)
def ds_m_Sea_led : ds_MT := (y_Sea_led, prog_1_method_51_code, 4, (some .int), ds_c_Sea_led, ds_u_Sea_led)
def ds_m_Sea_look : ds_MT := (y_Sea_look, prog_1_method_79_code, 2, (some .int), ds_c_Sea_look, ds_u_Sea_look)
def ds_m_Sea_lowestTerms : ds_MT := (y_Sea_lowestTerms, prog_1_method_83_code, 7, (some .long), ds_c_Sea_lowestTerms, ds_u_Sea_lowestTerms)
def ds_m_Sea_makePlan : ds_MT := (y_Sea_makePlan, prog_1_method_64_code, 2, none, ds_c_Sea_makePlan, ds_u_Sea_makePlan)
def ds_m_Sea_makeTwo : ds_MT := (y_Sea_makeTwo, prog_1_method_74_code, 3, none, ds_c_Sea_makeTwo, ds_u_Sea_makeTwo)
def ds_m_Sea_moveAt : ds_MT := (y_Sea_moveAt, prog_1_method_31_code, 4, (some .int), ds_c_Sea_moveAt, ds_u_Sea_moveAt)
def ds_m_Sea_moveOfRow : ds_MT := (y_Sea_moveOfRow, prog_1_method_68_code, 6, (some .int), ds_c_Sea_moveOfRow, ds_u_Sea_moveOfRow)
def ds_m_Sea_movesOf : ds_MT := (y_Sea_movesOf, prog_1_method_81_code, 1, (some .int), ds_c_Sea_movesOf, ds_u_Sea_movesOf)
def ds_m_Sea_nearest : ds_MT := (y_Sea_nearest, prog_1_method_17_code, 4, (some .int), ds_c_Sea_nearest, ds_u_Sea_nearest)
def ds_m_Sea_odds : ds_MT := (y_Sea_odds, prog_1_method_27_code, 5, (some .long), ds_c_Sea_odds, ds_u_Sea_odds)
def ds_m_Sea_palm : ds_MT := (y_Sea_palm, prog_1_method_46_code, 2, (some .int), ds_c_Sea_palm, ds_u_Sea_palm)
def ds_m_Sea_people : ds_MT := (y_Sea_people, prog_1_method_18_code, 3, (some .int), ds_c_Sea_people, ds_u_Sea_people)
def ds_m_Sea_placesNext : ds_MT := (y_Sea_placesNext, prog_1_method_69_code, 5, (some .int), ds_c_Sea_placesNext, ds_u_Sea_placesNext)
def ds_m_Sea_planned : ds_MT := (y_Sea_planned, prog_1_method_19_code, 3, (some .int), ds_c_Sea_planned, ds_u_Sea_planned)
def ds_m_Sea_plannedTrades : ds_MT := (y_Sea_plannedTrades, prog_1_method_20_code, 2, (some .int), ds_c_Sea_plannedTrades, ds_u_Sea_plannedTrades)
def ds_m_Sea_playGame : ds_MT := (y_Sea_playGame, prog_1_method_76_code, 5, none, ds_c_Sea_playGame, ds_u_Sea_playGame)
def ds_m_Sea_put : ds_MT := (y_Sea_put, prog_1_method_80_code, 3, none, ds_c_Sea_put, ds_u_Sea_put)
def ds_m_Sea_reckonChances : ds_MT := (y_Sea_reckonChances, prog_1_method_70_code, 4, none, ds_c_Sea_reckonChances, ds_u_Sea_reckonChances)
def ds_m_Sea_refuse : ds_MT := (y_Sea_refuse, prog_1_method_54_code, 2, (some .int), ds_c_Sea_refuse, ds_u_Sea_refuse)
def ds_m_Sea_rest : ds_MT := (y_Sea_rest, prog_1_method_41_code, 3, (some .int), ds_c_Sea_rest, ds_u_Sea_rest)
def ds_m_Sea_rests : ds_MT := (y_Sea_rests, prog_1_method_40_code, 3, (some .int), ds_c_Sea_rests, ds_u_Sea_rests)
def ds_m_Sea_rowFits : ds_MT := (y_Sea_rowFits, prog_1_method_67_code, 6, (some .boolean), ds_c_Sea_rowFits, ds_u_Sea_rowFits)
def ds_m_Sea_rowsOfMoves : ds_MT := (y_Sea_rowsOfMoves, prog_1_method_66_code, 4, (some .int), ds_c_Sea_rowsOfMoves, ds_u_Sea_rowsOfMoves)
def ds_m_Sea_run : ds_MT := (y_Sea_run, prog_1_method_12_code, 1, (some .int), ds_c_Sea_run, ds_u_Sea_run)
def ds_m_Sea_runAt : ds_MT := (y_Sea_runAt, prog_1_method_13_code, 2, (some .int), ds_c_Sea_runAt, ds_u_Sea_runAt)
def ds_m_Sea_sea : ds_MT := (y_Sea_sea, prog_1_method_3_code, 2, (some .int), ds_c_Sea_sea, ds_u_Sea_sea)
def ds_m_Sea_size : ds_MT := (y_Sea_size, prog_1_method_52_code, 2, (some .int), ds_c_Sea_size, ds_u_Sea_size)
def ds_m_Sea_spell : ds_MT := (y_Sea_spell, prog_1_method_85_code, 3, (some .long), ds_c_Sea_spell, ds_u_Sea_spell)
def ds_m_Sea_sumYears : ds_MT := (y_Sea_sumYears, prog_1_method_77_code, 10, (some .int), ds_c_Sea_sumYears, ds_u_Sea_sumYears)
def ds_m_Sea_three : ds_MT := (y_Sea_three, prog_1_method_34_code, 4, (some .int), ds_c_Sea_three, ds_u_Sea_three)
def ds_m_Sea_together : ds_MT := (y_Sea_together, prog_1_method_32_code, 3, (some .int), ds_c_Sea_together, ds_u_Sea_together)
def ds_m_Sea_togetherAt : ds_MT := (y_Sea_togetherAt, prog_1_method_33_code, 4, (some .int), ds_c_Sea_togetherAt, ds_u_Sea_togetherAt)
def ds_m_Sea_trade : ds_MT := (y_Sea_trade, prog_1_method_9_code, 3, (some .int), ds_c_Sea_trade, ds_u_Sea_trade)
def ds_m_Sea_trades : ds_MT := (y_Sea_trades, prog_1_method_10_code, 1, (some .int), ds_c_Sea_trades, ds_u_Sea_trades)
def ds_m_Sea_tradesBy : ds_MT := (y_Sea_tradesBy, prog_1_method_72_code, 2, (some .int), ds_c_Sea_tradesBy, ds_u_Sea_tradesBy)
def ds_m_Sea_trouble : ds_MT := (y_Sea_trouble, prog_1_method_53_code, 1, (some .int), ds_c_Sea_trouble, ds_u_Sea_trouble)
def ds_m_Sea_undo : ds_MT := (y_Sea_undo, prog_1_method_48_code, 1, (some .boolean), ds_c_Sea_undo, ds_u_Sea_undo)
def ds_m_Sea_wars : ds_MT := (y_Sea_wars, prog_1_method_11_code, 1, (some .int), ds_c_Sea_wars, ds_u_Sea_wars)
def ds_m_Sea_where : ds_MT := (y_Sea_where, prog_1_method_5_code, 1, (some .int), ds_c_Sea_where, ds_u_Sea_where)
def ds_m_Sea_wishes : ds_MT := (y_Sea_wishes, prog_1_method_15_code, 1, (some .int), ds_c_Sea_wishes, ds_u_Sea_wishes)
def ds_m_Sea_yearOf : ds_MT := (y_Sea_yearOf, prog_1_method_78_code, 4, (some .int), ds_c_Sea_yearOf, ds_u_Sea_yearOf)
def ds_m_Mod_after : ds_MT := (y_Mod_after, prog_11_method_25_code, 4, (some .int), ds_c_Mod_after, ds_u_Mod_after)
def ds_m_Mod_again : ds_MT := (y_Mod_again, prog_11_method_81_code, 1, (some .int), ds_c_Mod_again, ds_u_Mod_again)
def ds_m_Mod_alike : ds_MT := (y_Mod_alike, prog_11_method_91_code, 9, (some .int), ds_c_Mod_alike, ds_u_Mod_alike)
def ds_m_Mod_allWays : ds_MT := (y_Mod_allWays, prog_11_method_88_code, 5, (some .long), ds_c_Mod_allWays, ds_u_Mod_allWays)
def ds_m_Mod_areBeside : ds_MT := (y_Mod_areBeside, prog_11_method_47_code, 6, (some .boolean), ds_c_Mod_areBeside, ds_u_Mod_areBeside)
def ds_m_Mod_areGoods : ds_MT := (y_Mod_areGoods, prog_11_method_112_code, 3, (some .boolean), ds_c_Mod_areGoods, ds_u_Mod_areGoods)
def ds_m_Mod_back : ds_MT := (y_Mod_back, prog_11_method_129_code, 2, (some .boolean), ds_c_Mod_back, ds_u_Mod_back)
def ds_m_Mod_beBeside : ds_MT := (y_Mod_beBeside, prog_11_method_48_code, 4, (some .boolean), ds_c_Mod_beBeside, ds_u_Mod_beBeside)
def ds_m_Mod_begins : ds_MT := (y_Mod_begins, prog_11_method_30_code, 3, (some .boolean), ds_c_Mod_begins, ds_u_Mod_begins)
def ds_m_Mod_beside : ds_MT := (y_Mod_beside, prog_11_method_55_code, 4, (some .int), ds_c_Mod_beside, ds_u_Mod_beside)
def ds_m_Mod_best : ds_MT := (y_Mod_best, prog_11_method_107_code, 1, (some .int), ds_c_Mod_best, ds_u_Mod_best)
def ds_m_Mod_bestMove : ds_MT := (y_Mod_bestMove, prog_11_method_106_code, 3, (some .int), ds_c_Mod_bestMove, ds_u_Mod_bestMove)
def ds_m_Mod_bestTrades : ds_MT := (y_Mod_bestTrades, prog_11_method_108_code, 1, (some .int), ds_c_Mod_bestTrades, ds_u_Mod_bestTrades)
def ds_m_Mod_bestTwo : ds_MT := (y_Mod_bestTwo, prog_11_method_109_code, 6, (some .int), ds_c_Mod_bestTwo, ds_u_Mod_bestTwo)
def ds_m_Mod_can : ds_MT := (y_Mod_can, prog_11_method_87_code, 8, (some .int), ds_c_Mod_can, ds_u_Mod_can)
def ds_m_Mod_card : ds_MT := (y_Mod_card, prog_11_method_54_code, 2, (some .int), ds_c_Mod_card, ds_u_Mod_card)
def ds_m_Mod_copy : ds_MT := (y_Mod_copy, prog_11_method_8_code, 6, none, ds_c_Mod_copy, ds_u_Mod_copy)
def ds_m_Mod_crowd : ds_MT := (y_Mod_crowd, prog_11_method_69_code, 5, (some .int), ds_c_Mod_crowd, ds_u_Mod_crowd)
def ds_m_Mod_cycle : ds_MT := (y_Mod_cycle, prog_11_method_83_code, 2, (some .int), ds_c_Mod_cycle, ds_u_Mod_cycle)
def ds_m_Mod_deal : ds_MT := (y_Mod_deal, prog_11_method_124_code, 2, (some .int), ds_c_Mod_deal, ds_u_Mod_deal)
def ds_m_Mod_decade : ds_MT := (y_Mod_decade, prog_11_method_120_code, 4, (some .int), ds_c_Mod_decade, ds_u_Mod_decade)
def ds_m_Mod_decadeOf : ds_MT := (y_Mod_decadeOf, prog_11_method_122_code, 5, (some .int), ds_c_Mod_decadeOf, ds_u_Mod_decadeOf)
def ds_m_Mod_decadeWhy : ds_MT := (y_Mod_decadeWhy, prog_11_method_119_code, 4, (some .int), ds_c_Mod_decadeWhy, ds_u_Mod_decadeWhy)
def ds_m_Mod_decadeWishes : ds_MT := (y_Mod_decadeWishes, prog_11_method_121_code, 4, (some .int), ds_c_Mod_decadeWishes, ds_u_Mod_decadeWishes)
def ds_m_Mod_exchange : ds_MT := (y_Mod_exchange, prog_11_method_110_code, 6, (some .int), ds_c_Mod_exchange, ds_u_Mod_exchange)
def ds_m_Mod_familyLine : ds_MT := (y_Mod_familyLine, prog_11_method_34_code, 4, none, ds_c_Mod_familyLine, ds_u_Mod_familyLine)
def ds_m_Mod_fault : ds_MT := (y_Mod_fault, prog_11_method_37_code, 1, (some .int), ds_c_Mod_fault, ds_u_Mod_fault)
def ds_m_Mod_feed : ds_MT := (y_Mod_feed, prog_11_method_10_code, 8, (some .int), ds_c_Mod_feed, ds_u_Mod_feed)
def ds_m_Mod_fewest : ds_MT := (y_Mod_fewest, prog_11_method_99_code, 3, (some .int), ds_c_Mod_fewest, ds_u_Mod_fewest)
def ds_m_Mod_find : ds_MT := (y_Mod_find, prog_11_method_20_code, 4, (some .int), ds_c_Mod_find, ds_u_Mod_find)
def ds_m_Mod_fitAt : ds_MT := (y_Mod_fitAt, prog_11_method_79_code, 3, (some .int), ds_c_Mod_fitAt, ds_u_Mod_fitAt)
def ds_m_Mod_fits : ds_MT := (y_Mod_fits, prog_11_method_78_code, 2, (some .int), ds_c_Mod_fits, ds_u_Mod_fits)
def ds_m_Mod_gain : ds_MT := (y_Mod_gain, prog_11_method_113_code, 5, (some .int), ds_c_Mod_gain, ds_u_Mod_gain)
def ds_m_Mod_gainOf : ds_MT := (y_Mod_gainOf, prog_11_method_111_code, 5, (some .int), ds_c_Mod_gainOf, ds_u_Mod_gainOf)
def ds_m_Mod_goThrough : ds_MT := (y_Mod_goThrough, prog_11_method_118_code, 7, none, ds_c_Mod_goThrough, ds_u_Mod_goThrough)
def ds_m_Mod_goesTo : ds_MT := (y_Mod_goesTo, prog_11_method_41_code, 5, (some .int), ds_c_Mod_goesTo, ds_u_Mod_goesTo)
def ds_m_Mod_good : ds_MT := (y_Mod_good, prog_11_method_3_code, 1, none, ds_c_Mod_good, ds_u_Mod_good)
def ds_m_Mod_goodPassed : ds_MT := (y_Mod_goodPassed, prog_11_method_27_code, 1, (some .int), ds_c_Mod_goodPassed, ds_u_Mod_goodPassed)
def ds_m_Mod_hasBit : ds_MT := (y_Mod_hasBit, prog_11_method_7_code, 2, (some .boolean), ds_c_Mod_hasBit, ds_u_Mod_hasBit)
def ds_m_Mod_image : ds_MT := (y_Mod_image, prog_11_method_128_code, 1, (some .int), ds_c_Mod_image, ds_u_Mod_image)
def ds_m_Mod_in : ds_MT := (y_Mod_in, prog_11_method_6_code, 3, (some .boolean), ds_c_Mod_in, ds_u_Mod_in)
def ds_m_Mod_inSea : ds_MT := (y_Mod_inSea, prog_11_method_90_code, 7, (some .long), ds_c_Mod_inSea, ds_u_Mod_inSea)
def ds_m_Mod_isCorner : ds_MT := (y_Mod_isCorner, prog_11_method_46_code, 4, (some .boolean), ds_c_Mod_isCorner, ds_u_Mod_isCorner)
def ds_m_Mod_isDigit : ds_MT := (y_Mod_isDigit, prog_11_method_13_code, 1, (some .boolean), ds_c_Mod_isDigit, ds_u_Mod_isDigit)
def ds_m_Mod_isGoal : ds_MT := (y_Mod_isGoal, prog_11_method_93_code, 6, (some .boolean), ds_c_Mod_isGoal, ds_u_Mod_isGoal)
def ds_m_Mod_isInDeck : ds_MT := (y_Mod_isInDeck, prog_11_method_86_code, 2, (some .boolean), ds_c_Mod_isInDeck, ds_u_Mod_isInDeck)
def ds_m_Mod_isInSea : ds_MT := (y_Mod_isInSea, prog_11_method_59_code, 3, (some .boolean), ds_c_Mod_isInSea, ds_u_Mod_isInSea)
def ds_m_Mod_isIsland : ds_MT := (y_Mod_isIsland, prog_11_method_39_code, 2, (some .boolean), ds_c_Mod_isIsland, ds_u_Mod_isIsland)
def ds_m_Mod_isJoker : ds_MT := (y_Mod_isJoker, prog_11_method_49_code, 2, (some .boolean), ds_c_Mod_isJoker, ds_u_Mod_isJoker)
def ds_m_Mod_isMove : ds_MT := (y_Mod_isMove, prog_11_method_82_code, 2, (some .boolean), ds_c_Mod_isMove, ds_u_Mod_isMove)
def ds_m_Mod_isNot : ds_MT := (y_Mod_isNot, prog_11_method_5_code, 2, (some .boolean), ds_c_Mod_isNot, ds_u_Mod_isNot)
def ds_m_Mod_isRest : ds_MT := (y_Mod_isRest, prog_11_method_114_code, 5, (some .boolean), ds_c_Mod_isRest, ds_u_Mod_isRest)
def ds_m_Mod_isShown : ds_MT := (y_Mod_isShown, prog_11_method_74_code, 4, (some .boolean), ds_c_Mod_isShown, ds_u_Mod_isShown)
def ds_m_Mod_isSmall : ds_MT := (y_Mod_isSmall, prog_11_method_12_code, 1, (some .boolean), ds_c_Mod_isSmall, ds_u_Mod_isSmall)
def ds_m_Mod_isWord : ds_MT := (y_Mod_isWord, prog_11_method_16_code, 4, (some .boolean), ds_c_Mod_isWord, ds_u_Mod_isWord)
def ds_m_Mod_island : ds_MT := (y_Mod_island, prog_11_method_53_code, 3, (some .int), ds_c_Mod_island, ds_u_Mod_island)
def ds_m_Mod_islandHere : ds_MT := (y_Mod_islandHere, prog_11_method_22_code, 2, (some .int), ds_c_Mod_islandHere, ds_u_Mod_islandHere)
def ds_m_Mod_islandLine : ds_MT := (y_Mod_islandLine, prog_11_method_33_code, 2, none, ds_c_Mod_islandLine, ds_u_Mod_islandLine)
def ds_m_Mod_islandPassed : ds_MT := (y_Mod_islandPassed, prog_11_method_23_code, 2, (some .int), ds_c_Mod_islandPassed, ds_u_Mod_islandPassed)
def ds_m_Mod_journey : ds_MT := (y_Mod_journey, prog_11_method_65_code, 3, (some .int), ds_c_Mod_journey, ds_u_Mod_journey)
def ds_m_Mod_judge : ds_MT := (y_Mod_judge, prog_11_method_75_code, 2, (some .int), ds_c_Mod_judge, ds_u_Mod_judge)
def ds_m_Mod_lay : ds_MT := (y_Mod_lay, prog_11_method_126_code, 1, (some .boolean), ds_c_Mod_lay, ds_u_Mod_lay)
def ds_m_Mod_layBridges : ds_MT := (y_Mod_layBridges, prog_11_method_64_code, 5, none, ds_c_Mod_layBridges, ds_u_Mod_layBridges)
def ds_m_Mod_layDeck : ds_MT := (y_Mod_layDeck, prog_11_method_29_code, 3, none, ds_c_Mod_layDeck, ds_u_Mod_layDeck)
def ds_m_Mod_layPlan : ds_MT := (y_Mod_layPlan, prog_11_method_70_code, 3, none, ds_c_Mod_layPlan, ds_u_Mod_layPlan)
def ds_m_Mod_layWays : ds_MT := (y_Mod_layWays, prog_11_method_84_code, 4, none, ds_c_Mod_layWays, ds_u_Mod_layWays)
def ds_m_Mod_led : ds_MT := (y_Mod_led, prog_11_method_130_code, 4, (some .int), ds_c_Mod_led, ds_u_Mod_led)
def ds_m_Mod_look : ds_MT := (y_Mod_look, prog_11_method_11_code, 2, (some .int), ds_c_Mod_look, ds_u_Mod_look)
def ds_m_Mod_lowest : ds_MT := (y_Mod_lowest, prog_11_method_9_code, 11, (some .long), ds_c_Mod_lowest, ds_u_Mod_lowest)
def ds_m_Mod_makes : ds_MT := (y_Mod_makes, prog_11_method_42_code, 4, none, ds_c_Mod_makes, ds_u_Mod_makes)
def ds_m_Mod_moveAt : ds_MT := (y_Mod_moveAt, prog_11_method_100_code, 4, (some .int), ds_c_Mod_moveAt, ds_u_Mod_moveAt)
def ds_m_Mod_moveOfWay : ds_MT := (y_Mod_moveOfWay, prog_11_method_97_code, 5, (some .int), ds_c_Mod_moveOfWay, ds_u_Mod_moveOfWay)
def ds_m_Mod_moved : ds_MT := (y_Mod_moved, prog_11_method_94_code, 6, (some .int), ds_c_Mod_moved, ds_u_Mod_moved)
def ds_m_Mod_movesOf : ds_MT := (y_Mod_movesOf, prog_11_method_43_code, 2, (some .int), ds_c_Mod_movesOf, ds_u_Mod_movesOf)
def ds_m_Mod_must : ds_MT := (y_Mod_must, prog_11_method_18_code, 2, none, ds_c_Mod_must, ds_u_Mod_must)
def ds_m_Mod_mustName : ds_MT := (y_Mod_mustName, prog_11_method_19_code, 1, none, ds_c_Mod_mustName, ds_u_Mod_mustName)
def ds_m_Mod_nearest : ds_MT := (y_Mod_nearest, prog_11_method_66_code, 5, (some .int), ds_c_Mod_nearest, ds_u_Mod_nearest)
def ds_m_Mod_newName : ds_MT := (y_Mod_newName, prog_11_method_21_code, 3, none, ds_c_Mod_newName, ds_u_Mod_newName)
def ds_m_Mod_next : ds_MT := (y_Mod_next, prog_11_method_14_code, 4, none, ds_c_Mod_next, ds_u_Mod_next)
def ds_m_Mod_no : ds_MT := (y_Mod_no, prog_11_method_4_code, 2, (some .int), ds_c_Mod_no, ds_u_Mod_no)
def ds_m_Mod_note : ds_MT := (y_Mod_note, prog_11_method_123_code, 2, none, ds_c_Mod_note, ds_u_Mod_note)
def ds_m_Mod_number : ds_MT := (y_Mod_number, prog_11_method_24_code, 4, (some .int), ds_c_Mod_number, ds_u_Mod_number)
def ds_m_Mod_odds : ds_MT := (y_Mod_odds, prog_11_method_89_code, 5, (some .long), ds_c_Mod_odds, ds_u_Mod_odds)
def ds_m_Mod_of : ds_MT := (y_Mod_of, prog_11_method_40_code, 3, (some .int), ds_c_Mod_of, ds_u_Mod_of)
def ds_m_Mod_oneMore : ds_MT := (y_Mod_oneMore, prog_11_method_85_code, 3, none, ds_c_Mod_oneMore, ds_u_Mod_oneMore)
def ds_m_Mod_oneOf : ds_MT := (y_Mod_oneOf, prog_11_method_26_code, 6, (some .int), ds_c_Mod_oneOf, ds_u_Mod_oneOf)
def ds_m_Mod_palm : ds_MT := (y_Mod_palm, prog_11_method_125_code, 4, (some .int), ds_c_Mod_palm, ds_u_Mod_palm)
def ds_m_Mod_people : ds_MT := (y_Mod_people, prog_11_method_68_code, 4, (some .int), ds_c_Mod_people, ds_u_Mod_people)
def ds_m_Mod_placeIn : ds_MT := (y_Mod_placeIn, prog_11_method_44_code, 3, (some .int), ds_c_Mod_placeIn, ds_u_Mod_placeIn)
def ds_m_Mod_planWhy : ds_MT := (y_Mod_planWhy, prog_11_method_71_code, 2, (some .int), ds_c_Mod_planWhy, ds_u_Mod_planWhy)
def ds_m_Mod_planned : ds_MT := (y_Mod_planned, prog_11_method_72_code, 3, (some .int), ds_c_Mod_planned, ds_u_Mod_planned)
def ds_m_Mod_plannedTrades : ds_MT := (y_Mod_plannedTrades, prog_11_method_73_code, 3, (some .int), ds_c_Mod_plannedTrades, ds_u_Mod_plannedTrades)
def ds_m_Mod_readLine : ds_MT := (y_Mod_readLine, prog_11_method_31_code, 1, none, ds_c_Mod_readLine, ds_u_Mod_readLine)
def ds_m_Mod_rest : ds_MT := (y_Mod_rest, prog_11_method_117_code, 3, (some .int), ds_c_Mod_rest, ds_u_Mod_rest)
def ds_m_Mod_rests : ds_MT := (y_Mod_rests, prog_11_method_116_code, 3, (some .int), ds_c_Mod_rests, ds_u_Mod_rests)
def ds_m_Mod_restsOf : ds_MT := (y_Mod_restsOf, prog_11_method_115_code, 6, (some .int), ds_c_Mod_restsOf, ds_u_Mod_restsOf)
def ds_m_Mod_room : ds_MT := (y_Mod_room, prog_11_method_45_code, 1, (some .int), ds_c_Mod_room, ds_u_Mod_room)
def ds_m_Mod_run : ds_MT := (y_Mod_run, prog_11_method_62_code, 1, (some .int), ds_c_Mod_run, ds_u_Mod_run)
def ds_m_Mod_runAt : ds_MT := (y_Mod_runAt, prog_11_method_63_code, 6, (some .int), ds_c_Mod_runAt, ds_u_Mod_runAt)
def ds_m_Mod_runFrom : ds_MT := (y_Mod_runFrom, prog_11_method_60_code, 5, (some .int), ds_c_Mod_runFrom, ds_u_Mod_runFrom)
def ds_m_Mod_runNow : ds_MT := (y_Mod_runNow, prog_11_method_61_code, 3, (some .int), ds_c_Mod_runNow, ds_u_Mod_runNow)
def ds_m_Mod_same : ds_MT := (y_Mod_same, prog_11_method_80_code, 6, (some .int), ds_c_Mod_same, ds_u_Mod_same)
def ds_m_Mod_sea : ds_MT := (y_Mod_sea, prog_11_method_28_code, 3, (some .int), ds_c_Mod_sea, ds_u_Mod_sea)
def ds_m_Mod_seaLine : ds_MT := (y_Mod_seaLine, prog_11_method_32_code, 1, none, ds_c_Mod_seaLine, ds_u_Mod_seaLine)
def ds_m_Mod_seek : ds_MT := (y_Mod_seek, prog_11_method_95_code, 8, (some .boolean), ds_c_Mod_seek, ds_u_Mod_seek)
def ds_m_Mod_seekFits : ds_MT := (y_Mod_seekFits, prog_11_method_77_code, 2, none, ds_c_Mod_seekFits, ds_u_Mod_seekFits)
def ds_m_Mod_seekPlace : ds_MT := (y_Mod_seekPlace, prog_11_method_98_code, 3, (some .boolean), ds_c_Mod_seekPlace, ds_u_Mod_seekPlace)
def ds_m_Mod_seekTwo : ds_MT := (y_Mod_seekTwo, prog_11_method_101_code, 3, (some .boolean), ds_c_Mod_seekTwo, ds_u_Mod_seekTwo)
def ds_m_Mod_showsLine : ds_MT := (y_Mod_showsLine, prog_11_method_36_code, 2, none, ds_c_Mod_showsLine, ds_u_Mod_showsLine)
def ds_m_Mod_size : ds_MT := (y_Mod_size, prog_11_method_131_code, 2, (some .int), ds_c_Mod_size, ds_u_Mod_size)
def ds_m_Mod_stateOf : ds_MT := (y_Mod_stateOf, prog_11_method_92_code, 4, (some .int), ds_c_Mod_stateOf, ds_u_Mod_stateOf)
def ds_m_Mod_takesWord : ds_MT := (y_Mod_takesWord, prog_11_method_17_code, 2, (some .boolean), ds_c_Mod_takesWord, ds_u_Mod_takesWord)
def ds_m_Mod_three : ds_MT := (y_Mod_three, prog_11_method_104_code, 4, (some .int), ds_c_Mod_three, ds_u_Mod_three)
def ds_m_Mod_thrown : ds_MT := (y_Mod_thrown, prog_11_method_2_code, 1, (some .int), ds_c_Mod_thrown, ds_u_Mod_thrown)
def ds_m_Mod_together : ds_MT := (y_Mod_together, prog_11_method_102_code, 3, (some .int), ds_c_Mod_together, ds_u_Mod_together)
def ds_m_Mod_togetherAt : ds_MT := (y_Mod_togetherAt, prog_11_method_103_code, 4, (some .int), ds_c_Mod_togetherAt, ds_u_Mod_togetherAt)
def ds_m_Mod_trade : ds_MT := (y_Mod_trade, prog_11_method_56_code, 3, (some .int), ds_c_Mod_trade, ds_u_Mod_trade)
def ds_m_Mod_tradeOf : ds_MT := (y_Mod_tradeOf, prog_11_method_50_code, 4, (some .int), ds_c_Mod_tradeOf, ds_u_Mod_tradeOf)
def ds_m_Mod_trades : ds_MT := (y_Mod_trades, prog_11_method_57_code, 1, (some .int), ds_c_Mod_trades, ds_u_Mod_trades)
def ds_m_Mod_tradesBy : ds_MT := (y_Mod_tradesBy, prog_11_method_105_code, 3, (some .int), ds_c_Mod_tradesBy, ds_u_Mod_tradesBy)
def ds_m_Mod_tradesIn : ds_MT := (y_Mod_tradesIn, prog_11_method_51_code, 6, (some .int), ds_c_Mod_tradesIn, ds_u_Mod_tradesIn)
def ds_m_Mod_trouble : ds_MT := (y_Mod_trouble, prog_11_method_132_code, 1, (some .int), ds_c_Mod_trouble, ds_u_Mod_trouble)
def ds_m_Mod_tryFits : ds_MT := (y_Mod_tryFits, prog_11_method_76_code, 4, none, ds_c_Mod_tryFits, ds_u_Mod_tryFits)
def ds_m_Mod_undo : ds_MT := (y_Mod_undo, prog_11_method_127_code, 1, (some .boolean), ds_c_Mod_undo, ds_u_Mod_undo)
def ds_m_Mod_wars : ds_MT := (y_Mod_wars, prog_11_method_58_code, 4, (some .int), ds_c_Mod_wars, ds_u_Mod_wars)
def ds_m_Mod_wayLong : ds_MT := (y_Mod_wayLong, prog_11_method_96_code, 3, (some .int), ds_c_Mod_wayLong, ds_u_Mod_wayLong)
def ds_m_Mod_where : ds_MT := (y_Mod_where, prog_11_method_38_code, 1, (some .int), ds_c_Mod_where, ds_u_Mod_where)
def ds_m_Mod_wishLine : ds_MT := (y_Mod_wishLine, prog_11_method_35_code, 7, none, ds_c_Mod_wishLine, ds_u_Mod_wishLine)
def ds_m_Mod_wishes : ds_MT := (y_Mod_wishes, prog_11_method_67_code, 1, (some .int), ds_c_Mod_wishes, ds_u_Mod_wishes)
def ds_m_Mod_wishesIn : ds_MT := (y_Mod_wishesIn, prog_11_method_52_code, 4, (some .int), ds_c_Mod_wishesIn, ds_u_Mod_wishesIn)
def ds_m_Mod_wrong : ds_MT := (y_Mod_wrong, prog_11_method_15_code, 3, none, ds_c_Mod_wrong, ds_u_Mod_wrong)
def ds_m_Math_abs : ds_MT := (y_Math_abs, prog_17_method_59_code, 1, (some .int), ds_c_Math_abs, ds_u_Math_abs)
def ds_m_Math_floorMod : ds_MT := (y_Math_floorMod, prog_17_method_50_code, 3, (some .int), ds_c_Math_floorMod, ds_u_Math_floorMod)
def ds_m_Math_max : ds_MT := (y_Math_max, prog_17_method_65_code, 2, (some .int), ds_c_Math_max, ds_u_Math_max)
def ds_m_Math_maxL : ds_MT := (y_Math_maxL, prog_17_method_66_code, 4, (some .long), ds_c_Math_maxL, ds_u_Math_maxL)
def ds_m_Math_min : ds_MT := (y_Math_min, prog_17_method_69_code, 2, (some .int), ds_c_Math_min, ds_u_Math_min)
def ds_m_Math_minL : ds_MT := (y_Math_minL, prog_17_method_70_code, 4, (some .long), ds_c_Math_minL, ds_u_Math_minL)
def ds_m_Integer_bitCount : ds_MT := (y_Integer_bitCount, prog_16_method_49_code, 1, (some .int), ds_c_Integer_bitCount, ds_u_Integer_bitCount)
def ds_m_Arrays_fill : ds_MT := (y_Arrays_fill, prog_26_method_103_code, 4, none, ds_c_Arrays_fill, ds_u_Arrays_fill)
def ds_m_Arrays_fillL : ds_MT := (y_Arrays_fillL, prog_26_method_101_code, 5, none, ds_c_Arrays_fillL, ds_u_Arrays_fillL)
def ds_mt : List ds_MT := [ds_m_Chances_add, ds_m_Chances_begin, ds_m_Chances_difference, ds_m_Chances_goOn, ds_m_Chances_rowsAhead, ds_m_Chances_rowsTo, ds_m_Chart_allTrades, ds_m_Chart_besidePlaces, ds_m_Chart_bridges, ds_m_Chart_countWars, ds_m_Chart_countWishes, ds_m_Chart_firstOfLength, ds_m_Chart_isJokerAt, ds_m_Chart_isOfRank, ds_m_Chart_isWar, ds_m_Chart_islandAt, ds_m_Chart_longestBehind, ds_m_Chart_longestRun, ds_m_Chart_mates, ds_m_Chart_mostPeople, ds_m_Chart_personsAt, ds_m_Chart_placeBit, ds_m_Chart_placesOfGood, ds_m_Chart_placesWithoutJokers, ds_m_Chart_rankAbove, ds_m_Chart_runIsland, ds_m_Chart_show, ds_m_Chart_touching, ds_m_Chart_tradeBetween, ds_m_Chart_tradesOf, ds_m_Deck_cardAt, ds_m_Deck_isOrdered, ds_m_Deck_makeMove, ds_m_Deck_order, ds_m_Deck_placeOf, ds_m_Deck_putUnder, ds_m_Deck_readFrom, ds_m_Deck_swap, ds_m_Deck_take, ds_m_Deck_takeOut, ds_m_Deck_writeTo, ds_m_Game_countRests, ds_m_Game_firstRest, ds_m_Game_gainOf, ds_m_Game_isRest, ds_m_Game_setGain, ds_m_Reader_advance, ds_m_Reader_blame, ds_m_Reader_byteAt, ds_m_Reader_checkLine, ds_m_Reader_goesOn, ds_m_Reader_handOver, ds_m_Reader_isAtName, ds_m_Reader_isDigit, ds_m_Reader_isFull, ds_m_Reader_isLetter, ds_m_Reader_lengthen, ds_m_Reader_namedIsland, ds_m_Reader_owner, ds_m_Reader_place, ds_m_Reader_readFamily, ds_m_Reader_readIsland, ds_m_Reader_readLine, ds_m_Reader_readOneOf, ds_m_Reader_readSea, ds_m_Reader_readShows, ds_m_Reader_readText, ds_m_Reader_readWhole, ds_m_Reader_readWish, ds_m_Reader_takeWhole, ds_m_Reader_takeWord, ds_m_Reader_tellName, ds_m_Search_bringThree, ds_m_Search_bringTo, ds_m_Search_bringTogether, ds_m_Search_canBe, ds_m_Search_isGoal, ds_m_Search_length, ds_m_Search_moveOf, ds_m_Search_pairs, ds_m_Search_queueNext, ds_m_Search_seek, ds_m_Search_stateBehind, ds_m_Shelf_empty, ds_m_Shelf_popInto, ds_m_Shelf_pushOver, ds_m_Shelf_readInto, ds_m_Shelf_startOf, ds_m_Told_addFamily, ds_m_Told_addIsland, ds_m_Told_addShows, ds_m_Told_addWish, ds_m_Told_areNear, ds_m_Told_forget, ds_m_Told_hasWish, ds_m_Told_isCorner, ds_m_Told_isJoker, ds_m_Told_neighbours, ds_m_Told_room, ds_m_Told_settle, ds_m_Told_worth, ds_m_Sea_addPlan, ds_m_Sea_again, ds_m_Sea_alike, ds_m_Sea_answer, ds_m_Sea_back, ds_m_Sea_beside, ds_m_Sea_best, ds_m_Sea_bestMove, ds_m_Sea_bestTrades, ds_m_Sea_bestTwo, ds_m_Sea_can, ds_m_Sea_card, ds_m_Sea_chartOf, ds_m_Sea_choice, ds_m_Sea_crowd, ds_m_Sea_cycle, ds_m_Sea_deal, ds_m_Sea_decade, ds_m_Sea_decadeOf, ds_m_Sea_decadeWishes, ds_m_Sea_exchange, ds_m_Sea_fault, ds_m_Sea_feed, ds_m_Sea_fewest, ds_m_Sea_fitAt, ds_m_Sea_fits, ds_m_Sea_foundMove, ds_m_Sea_gain, ds_m_Sea_gainBy, ds_m_Sea_goesTo, ds_m_Sea_greatestDivisor, ds_m_Sea_hasSea, ds_m_Sea_image, ds_m_Sea_inSea, ds_m_Sea_isDecade, ds_m_Sea_isGood, ds_m_Sea_isInDeck, ds_m_Sea_isIsland, ds_m_Sea_isMove, ds_m_Sea_isPlace, ds_m_Sea_island, ds_m_Sea_journey, ds_m_Sea_judge, ds_m_Sea_lay, ds_m_Sea_led, ds_m_Sea_look, ds_m_Sea_lowestTerms, ds_m_Sea_makePlan, ds_m_Sea_makeTwo, ds_m_Sea_moveAt, ds_m_Sea_moveOfRow, ds_m_Sea_movesOf, ds_m_Sea_nearest, ds_m_Sea_odds, ds_m_Sea_palm, ds_m_Sea_people, ds_m_Sea_placesNext, ds_m_Sea_planned, ds_m_Sea_plannedTrades, ds_m_Sea_playGame, ds_m_Sea_put, ds_m_Sea_reckonChances, ds_m_Sea_refuse, ds_m_Sea_rest, ds_m_Sea_rests, ds_m_Sea_rowFits, ds_m_Sea_rowsOfMoves, ds_m_Sea_run, ds_m_Sea_runAt, ds_m_Sea_sea, ds_m_Sea_size, ds_m_Sea_spell, ds_m_Sea_sumYears, ds_m_Sea_three, ds_m_Sea_together, ds_m_Sea_togetherAt, ds_m_Sea_trade, ds_m_Sea_trades, ds_m_Sea_tradesBy, ds_m_Sea_trouble, ds_m_Sea_undo, ds_m_Sea_wars, ds_m_Sea_where, ds_m_Sea_wishes, ds_m_Sea_yearOf, ds_m_Mod_after, ds_m_Mod_again, ds_m_Mod_alike, ds_m_Mod_allWays, ds_m_Mod_areBeside, ds_m_Mod_areGoods, ds_m_Mod_back, ds_m_Mod_beBeside, ds_m_Mod_begins, ds_m_Mod_beside, ds_m_Mod_best, ds_m_Mod_bestMove, ds_m_Mod_bestTrades, ds_m_Mod_bestTwo, ds_m_Mod_can, ds_m_Mod_card, ds_m_Mod_copy, ds_m_Mod_crowd, ds_m_Mod_cycle, ds_m_Mod_deal, ds_m_Mod_decade, ds_m_Mod_decadeOf, ds_m_Mod_decadeWhy, ds_m_Mod_decadeWishes, ds_m_Mod_exchange, ds_m_Mod_familyLine, ds_m_Mod_fault, ds_m_Mod_feed, ds_m_Mod_fewest, ds_m_Mod_find, ds_m_Mod_fitAt, ds_m_Mod_fits, ds_m_Mod_gain, ds_m_Mod_gainOf, ds_m_Mod_goThrough, ds_m_Mod_goesTo, ds_m_Mod_good, ds_m_Mod_goodPassed, ds_m_Mod_hasBit, ds_m_Mod_image, ds_m_Mod_in, ds_m_Mod_inSea, ds_m_Mod_isCorner, ds_m_Mod_isDigit, ds_m_Mod_isGoal, ds_m_Mod_isInDeck, ds_m_Mod_isInSea, ds_m_Mod_isIsland, ds_m_Mod_isJoker, ds_m_Mod_isMove, ds_m_Mod_isNot, ds_m_Mod_isRest, ds_m_Mod_isShown, ds_m_Mod_isSmall, ds_m_Mod_isWord, ds_m_Mod_island, ds_m_Mod_islandHere, ds_m_Mod_islandLine, ds_m_Mod_islandPassed, ds_m_Mod_journey, ds_m_Mod_judge, ds_m_Mod_lay, ds_m_Mod_layBridges, ds_m_Mod_layDeck, ds_m_Mod_layPlan, ds_m_Mod_layWays, ds_m_Mod_led, ds_m_Mod_look, ds_m_Mod_lowest, ds_m_Mod_makes, ds_m_Mod_moveAt, ds_m_Mod_moveOfWay, ds_m_Mod_moved, ds_m_Mod_movesOf, ds_m_Mod_must, ds_m_Mod_mustName, ds_m_Mod_nearest, ds_m_Mod_newName, ds_m_Mod_next, ds_m_Mod_no, ds_m_Mod_note, ds_m_Mod_number, ds_m_Mod_odds, ds_m_Mod_of, ds_m_Mod_oneMore, ds_m_Mod_oneOf, ds_m_Mod_palm, ds_m_Mod_people, ds_m_Mod_placeIn, ds_m_Mod_planWhy, ds_m_Mod_planned, ds_m_Mod_plannedTrades, ds_m_Mod_readLine, ds_m_Mod_rest, ds_m_Mod_rests, ds_m_Mod_restsOf, ds_m_Mod_room, ds_m_Mod_run, ds_m_Mod_runAt, ds_m_Mod_runFrom, ds_m_Mod_runNow, ds_m_Mod_same, ds_m_Mod_sea, ds_m_Mod_seaLine, ds_m_Mod_seek, ds_m_Mod_seekFits, ds_m_Mod_seekPlace, ds_m_Mod_seekTwo, ds_m_Mod_showsLine, ds_m_Mod_size, ds_m_Mod_stateOf, ds_m_Mod_takesWord, ds_m_Mod_three, ds_m_Mod_thrown, ds_m_Mod_together, ds_m_Mod_togetherAt, ds_m_Mod_trade, ds_m_Mod_tradeOf, ds_m_Mod_trades, ds_m_Mod_tradesBy, ds_m_Mod_tradesIn, ds_m_Mod_trouble, ds_m_Mod_tryFits, ds_m_Mod_undo, ds_m_Mod_wars, ds_m_Mod_wayLong, ds_m_Mod_where, ds_m_Mod_wishLine, ds_m_Mod_wishes, ds_m_Mod_wishesIn, ds_m_Mod_wrong, ds_m_Math_abs, ds_m_Math_floorMod, ds_m_Math_max, ds_m_Math_maxL, ds_m_Math_min, ds_m_Math_minL, ds_m_Integer_bitCount, ds_m_Arrays_fill, ds_m_Arrays_fillL]
