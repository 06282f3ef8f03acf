/-! THE ABSTRACT RUN. A state of the system: what each place's ints and longs are, and which places the few references that change name. -/
abbrev ds_St : Type := (Nat → Nat → Int32) × (Nat → Nat → Int64) × (Nat → Nat)
abbrev ds_Out : Type := Option Value × ds_St
abbrev ds_Lv : Type := List (Option Value)
def ds_setI (z : ds_St) (p k : Nat) (v : Int32) : ds_St := (fun q => if q = p then upd (z.1 p) k v else z.1 q, z.2)
def ds_setL (z : ds_St) (p k : Nat) (v : Int64) : ds_St := (z.1, fun q => if q = p then vp_updL (z.2.1 p) k v else z.2.1 q, z.2.2)
def ds_setS (z : ds_St) (j v : Nat) : ds_St := (z.1, z.2.1, fun i => if i = j then v else z.2.2 i)
/-- a whole row of ints, of longs -/
def ds_rowI (z : ds_St) (p : Nat) (f : Nat → Int32) : ds_St := (fun q => if q = p then f else z.1 q, z.2)
def ds_rowL (z : ds_St) (p : Nat) (f : Nat → Int64) : ds_St := (z.1, fun q => if q = p then f else z.2.1 q, z.2.2)
/-- the places: kind (0 .. 9 objects, 10 bytes, 11 ints, 12 longs, 99 none of ours), length, what the reference fields name (0 .. 3: those that change; else 4 and the place) -/
def ds_lay : List (Nat × Nat × List Nat) := [
  (8, 0, [5, 0, 65, 68, 71, 74, 79, 82, 84, 86, 4, 4, 4]),
  (4, 0, [6, 4, 1, 4, 4, 4, 4, 4, 4, 4, 4, 7, 8]),
  (10, 900, []),
  (12, 22, []),
  (11, 22, []),
  (99, 0, []),
  (99, 0, []),
  (99, 0, []),
  (99, 0, []),
  (99, 0, []),
  (7, 0, [4, 4, 4, 4, 4, 15, 16, 17, 18, 4, 19, 4, 20, 21, 4, 22, 23, 24]),
  (11, 12, []),
  (11, 12, []),
  (11, 12, []),
  (11, 12, []),
  (11, 10, []),
  (11, 6, []),
  (11, 6, []),
  (11, 6, []),
  (11, 6, []),
  (11, 12, []),
  (99, 0, []),
  (99, 0, []),
  (99, 0, []),
  (99, 0, []),
  (99, 0, []),
  (99, 0, []),
  (99, 0, []),
  (99, 0, []),
  (99, 0, []),
  (7, 0, [4, 4, 4, 4, 4, 35, 36, 37, 38, 4, 39, 4, 40, 41, 4, 42, 43, 44]),
  (11, 12, []),
  (11, 12, []),
  (11, 12, []),
  (11, 12, []),
  (11, 10, []),
  (11, 6, []),
  (11, 6, []),
  (11, 6, []),
  (11, 6, []),
  (11, 12, []),
  (99, 0, []),
  (99, 0, []),
  (99, 0, []),
  (99, 0, []),
  (99, 0, []),
  (99, 0, []),
  (99, 0, []),
  (99, 0, []),
  (99, 0, []),
  (7, 0, [4, 4, 4, 4, 4, 55, 56, 57, 58, 4, 59, 4, 60, 61, 4, 62, 63, 64]),
  (11, 12, []),
  (11, 12, []),
  (11, 12, []),
  (11, 12, []),
  (11, 10, []),
  (11, 6, []),
  (11, 6, []),
  (11, 6, []),
  (11, 6, []),
  (11, 12, []),
  (2, 0, [66, 67, 4, 4]),
  (11, 12, []),
  (11, 12, []),
  (2, 0, [69, 70, 4, 4]),
  (11, 12, []),
  (11, 12, []),
  (1, 0, [2, 72, 4, 73]),
  (11, 12, []),
  (11, 12, []),
  (5, 0, [75, 76, 77, 3, 4, 4, 4, 4]),
  (11, 1728, []),
  (11, 1728, []),
  (11, 1728, []),
  (11, 12, []),
  (0, 0, [80, 81, 4, 4]),
  (12, 12, []),
  (12, 12, []),
  (3, 0, [83, 4]),
  (11, 196, []),
  (6, 0, [4, 85, 4, 4]),
  (11, 224, []),
  (6, 0, [4, 87, 4, 4]),
  (11, 42, []),
  (99, 0, []),
  (99, 0, []),
  (99, 0, []),
  (99, 0, []),
  (99, 0, []),
  (99, 0, []),
  (9, 0, [4, 95, 4, 4, 4, 4, 4, 4, 4, 4, 4, 4, 96, 4, 4, 97, 98, 99, 100, 101, 4, 4, 102, 103, 104, 105, 106, 107, 108, 4, 4, 109, 110, 111, 112, 113, 4, 4, 4, 4, 114, 4, 4, 4, 4]),
  (11, 900, []),
  (11, 8, []),
  (11, 289, []),
  (11, 289, []),
  (11, 14, []),
  (11, 224, []),
  (11, 42, []),
  (11, 14, []),
  (11, 12, []),
  (11, 14, []),
  (11, 14, []),
  (11, 56, []),
  (11, 3, []),
  (11, 3, []),
  (12, 12, []),
  (12, 12, []),
  (11, 1728, []),
  (11, 1728, []),
  (11, 1728, []),
  (11, 196, []),
  (12, 1, [])]
def ds_in (i : Int32) (n : Nat) : Bool := !(decide (i < 0)) && decide (i.toNatClampNeg < n)
def ds_K (p : Nat) : Nat := (ds_lay.getD p (99, 0, [])).1
def ds_N (p : Nat) : Nat := (ds_lay.getD p (99, 0, [])).2.1
def ds_Rr (z : ds_St) (r : Nat) : Nat := match r with
  | 0 => z.2.2 0
  | 1 => z.2.2 1
  | 2 => z.2.2 2
  | 3 => z.2.2 3
  | n + 4 => n
def ds_R (z : ds_St) (p k : Nat) : Nat := ds_Rr z ((ds_lay.getD p (99, 0, [])).2.2.getD k 4)
/-- the field types: 0 a reference, 1 int, 2 long, 3 boolean -/
def ds_ft : List (List Nat) := [[0, 0, 1, 2], [0, 0, 1, 0], [0, 0, 1, 1], [0, 1], [0, 1, 0, 1, 1, 1, 1, 2, 1, 1, 1, 0, 0], [0, 0, 0, 0, 1, 1, 1, 1], [1, 0, 1, 1], [1, 1, 1, 1, 1, 0, 0, 0, 0, 1, 0, 1, 0, 0, 1, 0, 0, 0], [0, 0, 0, 0, 0, 0, 0, 0, 0, 0, 1, 1, 1],
  [1, 0, 1, 1, 1, 1, 1, 1, 1, 1, 1, 1, 0, 3, 3, 0, 0, 0, 0, 0, 1, 1, 0, 0, 0, 0, 0, 0, 0, 1, 1, 0, 0, 0, 0, 0, 1, 1, 1, 1, 0, 1, 1, 1, 1]]
def ds_FT (c k : Nat) : Nat := (ds_ft.getD c []).getD k 9
/-- the texts of the program, 300 and on -/
def ds_txt : List (List Nat) := [[115, 101, 97, 32, 105, 115, 108, 97, 110, 100, 32, 102, 97, 109, 105, 108, 121, 32, 119, 105, 115, 104, 32, 115, 104, 111, 119, 115], [119, 105, 100, 101], [104, 105, 103, 104], [116, 114, 117, 109, 112, 115], [115, 104, 101, 101, 112, 32, 102, 105, 115, 104, 32, 119, 111, 111, 108, 32, 115, 97, 108, 116], [99, 97, 108, 109, 32, 116, 105, 100, 101], [112, 108, 97, 105, 110, 32, 109, 97, 114, 107, 101, 100, 32, 106, 111, 107, 101, 114], [114, 97, 110, 107], [112, 101, 111, 112, 108, 101], [111, 117, 116, 32, 105, 110, 32, 116, 117, 114, 110, 32, 99, 117, 116], [115, 101, 97], [119, 105, 100, 101], [104, 105, 103, 104], [116, 114, 117, 109, 112, 115], [115, 104, 101, 101, 112], [102, 105, 115, 104], [119, 111, 111, 108], [115, 97, 108, 116], [99, 97, 108, 109], [116, 105, 100, 101], [], [105, 115, 108, 97, 110, 100], [102, 97, 109, 105, 108, 121], [119, 105, 115, 104], [115, 104, 111, 119, 115], [112, 108, 97, 105, 110], [109, 97, 114, 107, 101, 100], [106, 111, 107, 101, 114], [114, 97, 110, 107], [112, 101, 111, 112, 108, 101], [111, 117, 116], [105, 110], [116, 117, 114, 110], [99, 117, 116]]
def ds_b (b : Bool) (a : Option ds_Out) : Option ds_Out := match b with
  | true => a
  | false => none
def ds_chk (i : Int32) (n : Nat) (a : Option ds_Out) : Option ds_Out := match ds_in i n with
  | true => a
  | false => none
def ds_isK (p c : Nat) (a : Option ds_Out) : Option ds_Out := match Nat.beq (ds_K p) c with
  | true => a
  | false => none
/-- any row -/
def ds_isA (p : Nat) (a : Option ds_Out) : Option ds_Out := match Nat.beq (ds_K p) 10 || (Nat.beq (ds_K p) 11 || Nat.beq (ds_K p) 12) with
  | true => a
  | false => none
def ds_isB (v : Int32) (a : Option ds_Out) : Option ds_Out := match decide (v = 0) || decide (v = 1) with
  | true => a
  | false => none
def ds_nz (y : Int32) (a : Option ds_Out) : Option ds_Out := match decide (y = 0) with
  | true => none
  | false => a
def ds_nzL (y : Int64) (a : Option ds_Out) : Option ds_Out := match decide (y = 0) with
  | true => none
  | false => a
/-- a text -/
def ds_isT (p : Nat) (a : Option ds_Out) : Option ds_Out := match Nat.ble 300 p && Nat.blt (p - 300) 34 with
  | true => a
  | false => none
def ds_store1 (lv : ds_Lv) (i : Nat) (v : Value) : ds_Lv :=
  (match i with
   | 0 => lv
   | j + 1 => match lv.getD j none with
     | some (.long _) => lv.set j none
     | _ => lv).set i (some v)
def ds_store2 (lv : ds_Lv) (i : Nat) (v : Value) : ds_Lv := (ds_store1 lv i v).set (i + 1) none
def ds_cV (cl : Nat → List Value → ds_St → Option ds_Out) (j : Nat) (as : List Value) (z : ds_St) (f : ds_St → Option ds_Out) : Option ds_Out :=
  match cl j as z with
  | some (none, z1) => f z1
  | _ => none
def ds_cI (cl : Nat → List Value → ds_St → Option ds_Out) (j : Nat) (as : List Value) (z : ds_St) (f : Int32 → ds_St → Option ds_Out) : Option ds_Out :=
  match cl j as z with
  | some (some (.int r), z1) => f r z1
  | _ => none
def ds_cL (cl : Nat → List Value → ds_St → Option ds_Out) (j : Nat) (as : List Value) (z : ds_St) (f : Int64 → ds_St → Option ds_Out) : Option ds_Out :=
  match cl j as z with
  | some (some (.long r), z1) => f r z1
  | _ => none
def ds_cR (cl : Nat → List Value → ds_St → Option ds_Out) (j : Nat) (as : List Value) (z : ds_St) (f : Nat → ds_St → Option ds_Out) : Option ds_Out :=
  match cl j as z with
  | some (some (.ref r), z1) => f r z1
  | _ => none
def ds_okst (st : List Value) : Bool := Nat.ble ((st.map fun v => v.category).sum) 8
def ds_do (cl : Nat → List Value → ds_St → Option ds_Out) (j rk : Nat) (as rest : List Value) (pc : Nat) (lv : ds_Lv) (z : ds_St) (k : Nat → ds_Lv → List Value → ds_St → Option ds_Out) : Option ds_Out :=
  match rk with
  | 0 => ds_cV cl j as z fun z1 => k pc lv rest z1
  | 1 => ds_cI cl j as z fun r z1 => k pc lv (.int r :: rest) z1
  | 2 => ds_cL cl j as z fun r z1 => k pc lv (.long r :: rest) z1
  | _ => ds_cR cl j as z fun r z1 => k pc lv (.ref r :: rest) z1
/-- a call: n arguments (with the receiver), the answer's kind, the receiver's kind (99: none) -/
def ds_inv (cl : Nat → List Value → ds_St → Option ds_Out) (j n rk rv : Nat) (pc : Nat) (lv : ds_Lv) (st : List Value) (z : ds_St) (k : Nat → ds_Lv → List Value → ds_St → Option ds_Out) : Option ds_Out :=
  ds_b (ds_okst (st.drop n) && Nat.beq (st.take n).length n) (match Nat.beq rv 99 with
    | true => ds_do cl j rk (st.take n).reverse (st.drop n) pc lv z k
    | false => match (st.take n).reverse with
      | .ref p :: as => ds_isK p rv (ds_do cl j rk (.ref p :: as) (st.drop n) pc lv z k)
      | _ => none)
/-- a constant -/
def ds_k (n : Int) : Int32 := match n with
  | .ofNat m => Int32.ofNat m
  | .negSucc m => -(Int32.ofNat (m + 1))
/-- a switch over n, n + 1 .. -/
def ds_sw (x : Int32) (f : Int → Option ds_Out) (d : Int) : Nat → List Int → Option ds_Out
  | _, [] => f d
  | n, t :: ts => if x = Int32.ofNat n then f t else ds_sw x f d (n + 1) ts
def ds_br (c : ClassFile.Cond) (x y : Int32) (a b : Option ds_Out) : Option ds_Out := match c with
  | .eq => if x = y then a else b
  | .ne => if ¬ x = y then a else b
  | .lt => if x < y then a else b
  | .ge => if y ≤ x then a else b
  | .gt => if y < x then a else b
  | .le => if x ≤ y then a else b
def ds_gf (c k : Nat) (pc : Nat) (lv : ds_Lv) (st : List Value) (z : ds_St) (kk : Nat → ds_Lv → List Value → ds_St → Option ds_Out) : Option ds_Out :=
  match st with
  | .ref p :: r => ds_isK p c (match ds_FT c k with
      | 0 => kk pc lv (.ref (ds_R z p k) :: r) z
      | 1 => kk pc lv (.int (z.1 p k) :: r) z
      | 2 => kk pc lv (.long (z.2.1 p k) :: r) z
      | 3 => kk pc lv (.int (z.1 p k) :: r) z
      | _ => none)
  | _ => none
def ds_pf (c k : Nat) (pc : Nat) (lv : ds_Lv) (st : List Value) (z : ds_St) (kk : Nat → ds_Lv → List Value → ds_St → Option ds_Out) : Option ds_Out :=
  match st with
  | .int v :: .ref p :: r => ds_isK p c (match ds_FT c k with
      | 1 => kk pc lv r (ds_setI z p k v)
      | 3 => ds_isB v (kk pc lv r (ds_setI z p k v))
      | _ => none)
  | .long v :: .ref p :: r => ds_isK p c (match ds_FT c k with
      | 2 => kk pc lv r (ds_setL z p k v)
      | _ => none)
  | .ref v :: .ref p :: r => ds_isK p c (match (ds_lay.getD p (99, 0, [])).2.2.getD k 4 with
      | 0 => ds_isK v 7 (kk pc lv r (ds_setS z 0 v))
      | 1 => ds_isK v 7 (kk pc lv r (ds_setS z 1 v))
      | 2 => ds_isK v 7 (kk pc lv r (ds_setS z 2 v))
      | 3 => ds_isK v 11 (kk pc lv r (ds_setS z 3 v))
      | _ => none)
  | _ => none
def ds_sl (p : Nat) : List Nat := ds_txt.getD (p - 300) []
/-- a row of ints (kind 11), of bytes (10) -/
def ds_ldI (kd : Nat) (pc : Nat) (lv : ds_Lv) (st : List Value) (z : ds_St) (kk : Nat → ds_Lv → List Value → ds_St → Option ds_Out) : Option ds_Out :=
  match st with
  | .int i :: .ref p :: r => ds_isK p kd (ds_chk i (ds_N p) (kk pc lv (.int (z.1 p i.toNatClampNeg) :: r) z))
  | _ => none
def ds_stI (kd : Nat) (nr : Int32 → Int32) (pc : Nat) (lv : ds_Lv) (st : List Value) (z : ds_St) (kk : Nat → ds_Lv → List Value → ds_St → Option ds_Out) : Option ds_Out :=
  match st with
  | .int v :: .int i :: .ref p :: r => ds_isK p kd (ds_chk i (ds_N p) (kk pc lv r (ds_setI z p i.toNatClampNeg (nr v))))
  | _ => none
def ds_copy (pc : Nat) (lv : ds_Lv) (st : List Value) (z : ds_St) (kk : Nat → ds_Lv → List Value → ds_St → Option ds_Out) : Option ds_Out :=
  match st with
  | .int n :: .int dp :: .ref q :: .int sp :: .ref p :: r =>
      ds_b (!(decide (sp < 0)) && (!(decide (dp < 0)) && (!(decide (n < 0)) && (Nat.ble (sp.toNatClampNeg + n.toNatClampNeg) (ds_N p) && (Nat.ble (dp.toNatClampNeg + n.toNatClampNeg) (ds_N q) && ds_okst r)))))
        (match Nat.beq (ds_K p) 11 with
         | true => ds_isK q 11 (kk pc lv r (ds_rowI z q (va_cpy (z.1 p) (z.1 q) sp.toNatClampNeg dp.toNatClampNeg n.toNatClampNeg)))
         | false => ds_isK p 12 (ds_isK q 12 (kk pc lv r (ds_rowL z q (va_cpy (z.2.1 p) (z.2.1 q) sp.toNatClampNeg dp.toNatClampNeg n.toNatClampNeg)))))
  | _ => none
def ds_bI (st : List Value) (f : Int32 → Int32 → List Value → Option ds_Out) : Option ds_Out := match st with
  | .int y :: .int x :: r => f x y r
  | _ => none
def ds_bL (st : List Value) (f : Int64 → Int64 → List Value → Option ds_Out) : Option ds_Out := match st with
  | .long y :: .long x :: r => f x y r
  | _ => none
def ds_uI (st : List Value) (f : Int32 → List Value → Option ds_Out) : Option ds_Out := match st with
  | .int x :: r => f x r
  | _ => none
def ds_uL (st : List Value) (f : Int64 → List Value → Option ds_Out) : Option ds_Out := match st with
  | .long x :: r => f x r
  | _ => none
def ds_uR (st : List Value) (f : Nat → List Value → Option ds_Out) : Option ds_Out := match st with
  | .ref x :: r => f x r
  | _ => none
/-- one instruction, its operands resolved: constants iconst, ldc2_w (longs), ldc (texts); branches by their targets; fields by 64 times kind and place; calls as invokeinterface; dreturn: a boolean; instanceof 0 .. 2: a text's length, charAt, arraycopy; castore, caload: the script's length and ints; new: what is thrown; jsr: the end of the law's round -/
def ds_x1 (cl : Nat → List Value → ds_St → Option ds_Out) (ins : Instr) (len pc : Nat) (lv : ds_Lv) (st : List Value) (z : ds_St) (k : Nat → ds_Lv → List Value → ds_St → Option ds_Out) : Option ds_Out :=
  match ins with
  | .iconst n => k (pc + len) lv (.int (ds_k n) :: st) z
  | .ldc2_w n => k (pc + len) lv (.long (Int64.ofNat n) :: st) z
  | .ldc n => k (pc + len) lv (.ref (300 + n) :: st) z
  | .iload i => match lv.getD i none with
    | some (.int x) => k (pc + len) lv (.int x :: st) z
    | _ => none
  | .lload i => match lv.getD i none with
    | some (.long x) => k (pc + len) lv (.long x :: st) z
    | _ => none
  | .aload i => match lv.getD i none with
    | some (.ref x) => k (pc + len) lv (.ref x :: st) z
    | _ => none
  | .istore i => ds_uI st fun x r => ds_b (Nat.blt i lv.length) (k (pc + len) (ds_store1 lv i (.int x)) r z)
  | .lstore i => ds_uL st fun x r => ds_b (Nat.blt (i + 1) lv.length) (k (pc + len) (ds_store2 lv i (.long x)) r z)
  | .astore i => ds_uR st fun x r => ds_b (Nat.blt i lv.length) (k (pc + len) (ds_store1 lv i (.ref x)) r z)
  | .iinc i n => match lv.getD i none with
    | some (.int x) => ds_b (Nat.blt i lv.length) (k (pc + len) (ds_store1 lv i (.int (x + ds_k n))) st z)
    | _ => none
  | .iadd => ds_bI st fun x y r => k (pc + len) lv (.int (x + y) :: r) z
  | .isub => ds_bI st fun x y r => k (pc + len) lv (.int (x - y) :: r) z
  | .imul => ds_bI st fun x y r => k (pc + len) lv (.int (x * y) :: r) z
  | .idiv => ds_bI st fun x y r => ds_nz y (k (pc + len) lv (.int (x / y) :: r) z)
  | .irem => ds_bI st fun x y r => ds_nz y (k (pc + len) lv (.int (x - x / y * y) :: r) z)
  | .iand => ds_bI st fun x y r => k (pc + len) lv (.int (x &&& y) :: r) z
  | .ior => ds_bI st fun x y r => k (pc + len) lv (.int (x ||| y) :: r) z
  | .ixor => ds_bI st fun x y r => k (pc + len) lv (.int (x ^^^ y) :: r) z
  | .ishl => ds_bI st fun x y r => k (pc + len) lv (.int (x <<< (y &&& 31)) :: r) z
  | .ishr => ds_bI st fun x y r => k (pc + len) lv (.int (x >>> (y &&& 31)) :: r) z
  | .iushr => ds_bI st fun x y r => k (pc + len) lv (.int (x.toUInt32 >>> (y.toUInt32 &&& Int32.toUInt32 31)).toInt32 :: r) z
  | .ineg => ds_uI st fun x r => k (pc + len) lv (.int (-x) :: r) z
  | .i2l => ds_uI st fun x r => k (pc + len) lv (.long x.toInt64 :: r) z
  | .i2b => ds_uI st fun x r => k (pc + len) lv (.int x.toInt8.toInt32 :: r) z
  | .l2i => ds_uL st fun x r => k (pc + len) lv (.int x.toInt32 :: r) z
  | .ladd => ds_bL st fun x y r => k (pc + len) lv (.long (x + y) :: r) z
  | .lsub => ds_bL st fun x y r => k (pc + len) lv (.long (x - y) :: r) z
  | .lmul => ds_bL st fun x y r => k (pc + len) lv (.long (x * y) :: r) z
  | .ldiv => ds_bL st fun x y r => ds_nzL y (k (pc + len) lv (.long (x / y) :: r) z)
  | .lrem => ds_bL st fun x y r => ds_nzL y (k (pc + len) lv (.long (x - x / y * y) :: r) z)
  | .lcmp => ds_bL st fun x y r => k (pc + len) lv (.int (lg_cmp x y) :: r) z
  | .pop => match st with
    | .int _ :: r => k (pc + len) lv r z
    | .ref _ :: r => k (pc + len) lv r z
    | _ => none
  | .dup => match st with
    | .int x :: r => k (pc + len) lv (.int x :: .int x :: r) z
    | .ref x :: r => k (pc + len) lv (.ref x :: .ref x :: r) z
    | _ => none
  | .dup2 => match st with
    | .int x :: .ref y :: r => k (pc + len) lv (.int x :: .ref y :: .int x :: .ref y :: r) z
    | _ => none
  | .goto t => k t.toNat lv st z
  | .ifCond c t => ds_uI st fun x r => ds_br c x 0 (k t.toNat lv r z) (k (pc + len) lv r z)
  | .if_icmp c t => ds_bI st fun x y r => ds_br c x y (k t.toNat lv r z) (k (pc + len) lv r z)
  | .tableswitch d lo hi offs => ds_uI st fun x r =>
      ds_sw x (fun t => k t.toNat lv r z) d lo.toNat offs.toList
  | .getfield f => ds_gf (f / 64) (f % 64) (pc + len) lv st z k
  | .putfield f => ds_pf (f / 64) (f % 64) (pc + len) lv st z k
  | .iaload => ds_ldI 11 (pc + len) lv st z k
  | .baload => ds_ldI 10 (pc + len) lv st z k
  | .iastore => ds_stI 11 (fun v => v) (pc + len) lv st z k
  | .bastore => ds_stI 10 (vp_nar .byte) (pc + len) lv st z k
  | .laload => match st with
    | .int i :: .ref p :: r => ds_isK p 12 (ds_chk i (ds_N p) (k (pc + len) lv (.long (z.2.1 p i.toNatClampNeg) :: r) z))
    | _ => none
  | .lastore => match st with
    | .long v :: .int i :: .ref p :: r => ds_isK p 12 (ds_chk i (ds_N p) (k (pc + len) lv r (ds_setL z p i.toNatClampNeg v)))
    | _ => none
  | .castore => ds_uR st fun p r => ds_b (Nat.beq p 200) (ds_cI cl 9998 [] z fun x _ => k (pc + len) lv (.int x :: r) z)
  | .caload => match st with
    | .int i :: .ref p :: r => ds_b (Nat.beq p 200) (ds_cI cl 9999 [.int i] z fun x _ => k (pc + len) lv (.int x :: r) z)
    | _ => none
  | .arraylength => ds_uR st fun p r => ds_isA p (k (pc + len) lv (.int (Int32.ofNat (ds_N p)) :: r) z)
  | .instanceof 0 => ds_uR st fun p r => ds_isT p (ds_b (ds_okst r) (k (pc + len) lv (.int (Int32.ofNat (ds_sl p).length) :: r) z))
  | .instanceof 1 => match st with
    | .int i :: .ref p :: r => ds_isT p (ds_b (ds_okst r) (ds_chk i (ds_sl p).length (k (pc + len) lv (.int (Int32.ofNat ((ds_sl p).getD i.toNatClampNeg 0)) :: r) z)))
    | _ => none
  | .instanceof 2 => ds_copy (pc + len) lv st z k
  | .invokeinterface j c => ds_inv cl j (c % 16) (c / 16 % 4) (c / 64) (pc + len) lv st z k
  | .ireturn => match st with
    | [.int x] => some (some (.int x), z)
    | _ => none
  | .dreturn => match st with
    | [.int x] => ds_isB x (some (some (.int x), z))
    | _ => none
  | .lreturn => match st with
    | [.long x] => some (some (.long x), z)
    | _ => none
  | .areturn => match st with
    | [.ref x] => some (some (.ref x), z)
    | _ => none
  | .return_ => match st with
    | [] => some (none, z)
    | _ => none
  | .new _ => some (some .null, z)
  | .jsr _ => match lv with
    | some (.ref 200) :: some (.ref 0) :: some (.ref 90) :: some (.ref 111) :: some (.int i) :: _ => match st with
      | [] => some (some (.int i), z)
      | _ => none
    | _ => none
  | _ => none
/-! the run of a method: its code by places, its cuts with the locals that live there -/
abbrev ds_Code : Type := List (Nat × Instr × Nat)
abbrev ds_Cuts : Type := List (Nat × List Bool)
def ds_find : ds_Code → Nat → Option (Instr × Nat)
  | [], _ => none
  | q :: r, pc => bif Nat.beq q.1 pc then some q.2 else ds_find r pc
def ds_cutAt : ds_Cuts → Nat → Option (List Bool)
  | [], _ => none
  | q :: r, pc => bif Nat.beq q.1 pc then some q.2 else ds_cutAt r pc
def ds_keep : List Bool → ds_Lv → ds_Lv
  | b :: bs, v :: vs => (bif b then v else none) :: ds_keep bs vs
  | _, vs => vs.map fun _ => none
def ds_msk (cu : ds_Cuts) (pc : Nat) (lv : ds_Lv) : ds_Lv := match ds_cutAt cu pc with
  | some bs => ds_keep bs lv
  | none => lv
def ds_run (cd : ds_Code) (cu : ds_Cuts) (cl : Nat → List Value → ds_St → Option ds_Out) : Nat → Nat → ds_Lv → List Value → ds_St → Option ds_Out
  | 0, _, _, _, _ => none
  | n + 1, pc, lv, st, z => match ds_find cd pc with
    | some (ins, len) => ds_x1 cl ins len pc lv st z fun pc1 lv1 st1 z1 => ds_run cd cu cl n pc1 (ds_msk cu pc1 lv1) st1 z1
    | none => none
/-- the steps up to the next cuts -/
def ds_stp (cd : ds_Code) (cu : ds_Cuts) (cl : Nat → List Value → ds_St → Option ds_Out) (K : Nat → ds_Lv → List Value → ds_St → Option ds_Out) : Nat → Nat → ds_Lv → List Value → ds_St → Option ds_Out
  | 0, pc, lv, st, z => K pc lv st z
  | n + 1, pc, lv, st, z => match ds_find cd pc with
    | some (ins, len) => ds_x1 cl ins len pc lv st z fun pc1 lv1 st1 z1 => match ds_cutAt cu pc1 with
      | some bs => K pc1 (ds_keep bs lv1) st1 z1
      | none => ds_stp cd cu cl K n pc1 lv1 st1 z1
    | none => none
