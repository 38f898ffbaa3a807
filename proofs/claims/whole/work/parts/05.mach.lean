/-! ===== A flat memory: every cell that the law makes, by its number from the first on; ints, longs, references ===== -/
abbrev xE : Type := Nat ⊕ (Nat × Nat)
abbrev xM : Type := (Nat → Nat → Int32) × (Nat → Nat → Int64) × (Nat → Nat → Option Nat)
abbrev xZ : Type := Nat × Bool × Nat × Nat
abbrev xLc : Type := List (Option Value)
abbrev xX : Type := Nat × xLc × List Value × xM × xZ
abbrev xK : Type := Launch × Nat × va_G × (Nat → ClassId)
def shp : List xE := [.inl 11, .inl 1, .inr (3, 10), .inr (4, 12), .inr (0, 5), .inr (0, 8), .inl 3, .inl 3, .inl 3, .inl 3, .inl 3, .inl 3, .inl 3, .inl 3, .inl 3, .inl 3, .inl 5, .inl 5, .inl 5, .inl 5, .inl 5, .inl 5, .inl 5, .inl 5, .inl 5, .inl 5, .inl 5, .inl 5, .inl 1, .inr (3, 10), .inr (4, 12), .inr (0, 5), .inr (0, 8), .inl 3, .inl 3, .inl 3, .inl 3, .inl 3, .inl 3, .inl 3, .inl 3, .inl 3, .inl 3, .inl 5, .inl 5, .inl 5, .inl 5, .inl 5, .inl 5, .inl 5, .inl 5, .inl 5, .inl 5, .inl 5, .inl 5, .inl 7, .inr (6, 12), .inr (0, 120), .inr (0, 120), .inr (0, 120), .inr (0, 120), .inr (0, 120), .inr (0, 120), .inr (0, 120), .inr (0, 120), .inr (0, 120), .inr (0, 120), .inr (0, 120), .inr (0, 120), .inr (0, 12), .inr (2, 12), .inl 2, .inr (0, 8), .inr (0, 8), .inr (0, 8), .inl 1, .inr (3, 10), .inr (4, 12), .inr (0, 5), .inr (0, 8), .inl 3, .inl 3, .inl 3, .inl 3, .inl 3, .inl 3, .inl 3, .inl 3, .inl 3, .inl 3, .inl 5, .inl 5, .inl 5, .inl 5, .inl 5, .inl 5, .inl 5, .inl 5, .inl 5, .inl 5, .inl 5, .inl 5, .inl 7, .inr (6, 12), .inr (0, 120), .inr (0, 120), .inr (0, 120), .inr (0, 120), .inr (0, 120), .inr (0, 120), .inr (0, 120), .inr (0, 120), .inr (0, 120), .inr (0, 120), .inr (0, 120), .inr (0, 120), .inr (0, 12), .inr (2, 12), .inl 2, .inr (0, 8), .inr (0, 8), .inr (0, 8), .inr (5, 8), .inl 0, .inr (1, 601), .inr (3, 10), .inr (4, 12), .inl 10, .inr (0, 0), .inr (0, 5), .inl 6, .inr (0, 8), .inr (0, 0), .inr (2, 9), .inr (2, 9), .inr (2, 9), .inl 4, .inr (4, 6), .inr (0, 6), .inr (0, 6), .inr (0, 64), .inl 9, .inl 8, .inl 3, .inr (0, 120), .inl 8, .inl 3, .inr (0, 120), .inl 8, .inl 3, .inr (0, 120), .inl 8, .inl 3, .inr (0, 120), .inl 8, .inl 3, .inr (0, 120), .inl 8, .inl 3, .inr (0, 120), .inl 8, .inl 3, .inr (0, 120), .inl 8, .inl 3, .inr (0, 120), .inl 12, .inr (0, 1651), .inr (0, 1651), .inr (0, 1651), .inr (0, 8), .inr (0, 8), .inr (0, 8), .inr (0, 960), .inr (0, 8), .inr (0, 8), .inr (0, 8), .inr (0, 6), .inr (0, 6), .inr (0, 6), .inr (0, 12), .inr (1, 1)]
/-- the kinds of a class's fields: 0 int, 1 long, 2 reference, 3 boolean -/
def xks : List (List Nat) := [[2, 2, 0, 2, 0, 1], [2, 0, 2, 0, 0, 0, 0, 2, 2, 0], [2, 2, 2, 0], [0, 0, 0, 0, 0, 0, 0, 0], [2, 2, 2, 0, 0, 0, 0, 2], [0, 0, 0, 0, 0, 0, 0], [2, 2, 0, 0, 3, 3, 0, 2, 2, 2], [2, 2, 2, 0], [0, 2, 0, 0, 2], [0, 1, 1], [2, 0, 0, 3, 0, 0, 0, 2, 0], [2, 2, 2, 2, 2, 2, 2, 3, 2, 2, 2, 2, 2, 2], [2, 2, 2, 2, 2, 2, 2, 2, 2, 2, 3, 0, 0, 0, 0, 0, 2, 2, 1, 2, 2, 0, 1, 1, 0, 0, 0, 0, 0, 0, 0, 2]]
def xfk (c k : Nat) : Nat := (xks.getD c []).getD k 9
/-- the references that change -/
def xdyn (a k : Nat) : Bool := Nat.beq a 125 || Nat.beq a 126 || Nat.beq a 137 || (Nat.beq a 127 && Nat.beq k 0) || (Nat.beq a 130 && Nat.beq k 1) || (Nat.beq a 166 && Nat.beq k 16)
/-- the references that never change -/
def srf (a k : Nat) : Option Nat := bif Nat.blt a 118 then (bif Nat.blt a 55 then (bif Nat.blt a 3 then (bif Nat.blt a 1 then (bif Nat.beq a 0 then ([some 1, some 28, some 55, some 71, some 75, some 102, some 118, none, some 122, some 123, some 127, some 130, some 136, some 141] : List (Option Nat)).getD k none else none) else (bif Nat.blt a 2 then (bif Nat.beq a 1 then ([some 2, none, some 3, none, none, none, none, some 4, some 5] : List (Option Nat)).getD k none else none) else (bif Nat.beq a 2 then some (6 + k) else none))) else (bif Nat.blt a 29 then (bif Nat.blt a 28 then (bif Nat.beq a 3 then some (16 + k) else none) else (bif Nat.beq a 28 then ([some 29, none, some 30, none, none, none, none, some 31, some 32] : List (Option Nat)).getD k none else none)) else (bif Nat.blt a 30 then (bif Nat.beq a 29 then some (33 + k) else none) else (bif Nat.beq a 30 then some (43 + k) else none)))) else (bif Nat.blt a 76 then (bif Nat.blt a 71 then (bif Nat.blt a 56 then (bif Nat.beq a 55 then ([some 56, some 69, some 70] : List (Option Nat)).getD k none else none) else (bif Nat.beq a 56 then some (57 + k) else none)) else (bif Nat.blt a 75 then (bif Nat.beq a 71 then ([some 72, some 73, some 74] : List (Option Nat)).getD k none else none) else (bif Nat.beq a 75 then ([some 76, none, some 77, none, none, none, none, some 78, some 79] : List (Option Nat)).getD k none else none))) else (bif Nat.blt a 102 then (bif Nat.blt a 77 then (bif Nat.beq a 76 then some (80 + k) else none) else (bif Nat.beq a 77 then some (90 + k) else none)) else (bif Nat.blt a 103 then (bif Nat.beq a 102 then ([some 103, some 116, some 117] : List (Option Nat)).getD k none else none) else (bif Nat.beq a 103 then some (104 + k) else none))))) else (bif Nat.blt a 145 then (bif Nat.blt a 127 then (bif Nat.blt a 122 then (bif Nat.beq a 118 then ([some 119, some 120, some 121] : List (Option Nat)).getD k none else none) else (bif Nat.blt a 123 then (bif Nat.beq a 122 then some (142 + 3 * k) else none) else (bif Nat.beq a 123 then ([some 124, some 125, none, some 126] : List (Option Nat)).getD k none else none))) else (bif Nat.blt a 136 then (bif Nat.blt a 130 then (bif Nat.beq a 127 then ([none, none, none, none, none, none, none, some 129] : List (Option Nat)).getD k none else none) else (bif Nat.beq a 130 then ([some 131, none, none, none, none, none, none, some 133, some 134, some 135] : List (Option Nat)).getD k none else none)) else (bif Nat.blt a 142 then (bif Nat.beq a 136 then ([some 137, some 138, some 139, none, none, none, none, some 140] : List (Option Nat)).getD k none else none) else (bif Nat.beq a 142 then ([none, some 143, none, none, some 144] : List (Option Nat)).getD k none else none)))) else (bif Nat.blt a 157 then (bif Nat.blt a 151 then (bif Nat.blt a 148 then (bif Nat.beq a 145 then ([none, some 146, none, none, some 147] : List (Option Nat)).getD k none else none) else (bif Nat.beq a 148 then ([none, some 149, none, none, some 150] : List (Option Nat)).getD k none else none)) else (bif Nat.blt a 154 then (bif Nat.beq a 151 then ([none, some 152, none, none, some 153] : List (Option Nat)).getD k none else none) else (bif Nat.beq a 154 then ([none, some 155, none, none, some 156] : List (Option Nat)).getD k none else none))) else (bif Nat.blt a 163 then (bif Nat.blt a 160 then (bif Nat.beq a 157 then ([none, some 158, none, none, some 159] : List (Option Nat)).getD k none else none) else (bif Nat.beq a 160 then ([none, some 161, none, none, some 162] : List (Option Nat)).getD k none else none)) else (bif Nat.blt a 166 then (bif Nat.beq a 163 then ([none, some 164, none, none, some 165] : List (Option Nat)).getD k none else none) else (bif Nat.beq a 166 then ([some 167, some 168, some 169, some 170, some 171, some 172, some 173, some 174, some 175, some 176, none, none, none, none, none, none, none, some 177, none, some 178, some 179, none, none, none, none, none, none, none, none, none, none, some 180] : List (Option Nat)).getD k none else none)))))
def gI (M : xM) (a k : Nat) : Int32 := M.1 a k
def gJ (M : xM) (a k : Nat) : Int64 := M.2.1 a k
def gP (M : xM) (a k : Nat) : Option Nat := M.2.2 a k
def sI (M : xM) (a k : Nat) (v : Int32) : xM := (fun a' k' => bif Nat.beq a' a && Nat.beq k' k then v else M.1 a' k', M.2.1, M.2.2)
def sJ (M : xM) (a k : Nat) (v : Int64) : xM := (M.1, fun a' k' => bif Nat.beq a' a && Nat.beq k' k then v else M.2.1 a' k', M.2.2)
def sP (M : xM) (a k : Nat) (v : Option Nat) : xM := (M.1, M.2.1, fun a' k' => bif Nat.beq a' a && Nat.beq k' k then v else M.2.2 a' k')
/-- System.arraycopy of ints -/
def sC (M : xM) (a i b j n : Nat) : xM := (fun a' k' => bif Nat.beq a' b then va_cpy (M.1 a) (M.1 b) i j n k' else M.1 a' k', M.2.1, M.2.2)
def xpr (ex : Bool) (M : xM) (a k : Nat) : Option Nat := bif ex then gP M a k else bif xdyn a k then gP M a k else srf a k
def xrf (r : Option Nat) : Value := match r with
  | none => .null
  | some a => .ref a
def xget (L : xLc) (i : Nat) : Option Value := L.getD i none
def xset : xLc → Nat → Option Value → xLc
  | [], _, _ => []
  | _ :: l, 0, v => v :: l
  | a :: l, i + 1, v => a :: xset l i v
/-- a long whose second half is at i is gone -/
def xkill (L : xLc) (i : Nat) : xLc := match i with
  | 0 => L
  | j + 1 => match xget L j with
    | some (.long _) => xset L j none
    | some (.double _) => xset L j none
    | _ => L
def xsto1 (L : xLc) (i : Nat) (v : Value) : xLc := xset (xkill L i) i (some v)
def xsto2 (L : xLc) (i : Nat) (v : Value) : xLc := xset (xset (xkill L i) (i + 1) none) i (some v)
def xob (a c n : Nat) : Prop := shp[a]? = some (.inl c) ∧ a < n
def xar (a kd n : Nat) (i : Int32) : Prop := ∃ len, shp[a]? = some (.inr (kd, len)) ∧ a < n ∧ 0 ≤ i.toInt ∧ i.toInt < (len : Int)
def xqr (a n : Nat) (i : Int32) : Prop := ∃ kd len, 3 ≤ kd ∧ kd ≤ 6 ∧ shp[a]? = some (.inr (kd, len)) ∧ a < n ∧ 0 ≤ i.toInt ∧ i.toInt < (len : Int)
def xlen (a : Nat) : Nat := match shp[a]? with
  | some (.inr (_, l)) => l
  | _ => 0
def xal (a n : Nat) : Prop := (∃ kd len, kd ≤ 6 ∧ shp[a]? = some (.inr (kd, len))) ∧ a < n
/-- what arraycopy asks -/
def xcp (a b n : Nat) (i j k : Int32) : Prop := ∃ l0 l1, shp[a]? = some (.inr (0, l0)) ∧ shp[b]? = some (.inr (0, l1)) ∧ a < n ∧ b < n ∧ 0 ≤ i.toInt ∧ 0 ≤ j.toInt ∧ 0 ≤ k.toInt ∧ i.toInt + k.toInt ≤ (l0 : Int) ∧ j.toInt + k.toInt ≤ (l1 : Int)
def xlk : List (Nat × xI) → Nat → Option xI
  | [], _ => none
  | (k, e) :: l, n => bif Nat.beq k n then some e else xlk l n
def xlkk : List (Nat × List (Nat × xI)) → Nat → Option xI
  | [], _ => none
  | (k, e) :: l, n => bif Nat.ble n k then xlk e n else xlkk l n
def xat (m : xMI) (pc : Nat) : Option xI := xlkk m.2.2.2 pc
def xcat : List Value → Nat
  | [] => 0
  | v :: l => v.category + xcat l
/-- the library's own: arraycopy, max, min, abs -/
def xsta (a : Nat) (P : Prop) (nx : Nat) (L : xLc) (st : List Value) (M : xM) (z : xZ) : Option (Prop × xX) :=
  bif Nat.beq a 999 then (match st with
    | .int n :: .int j :: .ref d :: .int i :: .ref o :: st => bif Nat.ble (xcat st) 8 then some (xcp o d z.1 i j n ∧ P, nx, L, st, sC M o i.toNatClampNeg d j.toNatClampNeg n.toNatClampNeg, z) else none
    | _ => none) else
  bif Nat.beq a 991 then (match st with
    | .int y :: .int x :: st => bif Nat.ble (xcat st) 8 then some (P, nx, L, .int (if x < y then y else x) :: st, M, z) else none
    | _ => none) else
  bif Nat.beq a 992 then (match st with
    | .int y :: .int x :: st => bif Nat.ble (xcat st) 8 then some (P, nx, L, .int (if y < x then y else x) :: st, M, z) else none
    | _ => none) else
  bif Nat.beq a 993 then (match st with
    | .int x :: st => bif Nat.ble (xcat st) 8 then some (P, nx, L, .int (if 0 ≤ x then x else 0 - x) :: st, M, z) else none
    | _ => none) else
  bif Nat.beq a 994 then (match st with
    | .long y :: .long x :: st => bif Nat.ble (xcat st) 8 then some (P, nx, L, .long (if y < x then x else y) :: st, M, z) else none
    | _ => none) else
  bif Nat.beq a 995 then (match st with
    | .long y :: .long x :: st => bif Nat.ble (xcat st) 8 then some (P, nx, L, .long (if y < x then y else x) :: st, M, z) else none
    | _ => none) else
  bif Nat.beq a 996 then (match st with
    | .long x :: st => bif Nat.ble (xcat st) 8 then some (P, nx, L, .long (if 0 < x then x else -x) :: st, M, z) else none
    | _ => none) else none
/-- an instruction that asks nothing of what it finds but its kind, or asks what the last part says; P: what has been asked for so far -/
def xst (e : xI) (P : Prop) (X : xX) : Option (Prop × xX) :=
  match e with
  | (ins, nx, (a, b, _), v, w) =>
  match X with
  | (_, L, st, M, z) =>
  match ins with
  | .iconst _ => some (P, nx, L, .int v :: st, M, z)
  | .bipush _ => some (P, nx, L, .int v :: st, M, z)
  | .sipush _ => some (P, nx, L, .int v :: st, M, z)
  | .ldc _ => bif Nat.beq a 0 then some (P, nx, L, .int v :: st, M, z) else none
  | .ldc_w _ => bif Nat.beq a 0 then some (P, nx, L, .int v :: st, M, z) else none
  | .ldc2_w _ => some (P, nx, L, .long w :: st, M, z)
  | .lconst _ => some (P, nx, L, .long w :: st, M, z)
  | .aconst_null => some (P, nx, L, .null :: st, M, z)
  | .iload_n _ => match xget L a with
    | some (.int x) => some (P, nx, L, .int x :: st, M, z)
    | _ => none
  | .iload _ => match xget L a with
    | some (.int x) => some (P, nx, L, .int x :: st, M, z)
    | _ => none
  | .lload_n _ => match xget L a with
    | some (.long x) => some (P, nx, L, .long x :: st, M, z)
    | _ => none
  | .lload _ => match xget L a with
    | some (.long x) => some (P, nx, L, .long x :: st, M, z)
    | _ => none
  | .aload_n _ => match xget L a with
    | some (.ref x) => some (P, nx, L, .ref x :: st, M, z)
    | some .null => some (P, nx, L, .null :: st, M, z)
    | _ => none
  | .aload _ => match xget L a with
    | some (.ref x) => some (P, nx, L, .ref x :: st, M, z)
    | some .null => some (P, nx, L, .null :: st, M, z)
    | _ => none
  | .istore_n _ => match st with
    | .int x :: st => some (P, nx, xsto1 L a (.int x), st, M, z)
    | _ => none
  | .istore _ => match st with
    | .int x :: st => some (P, nx, xsto1 L a (.int x), st, M, z)
    | _ => none
  | .lstore_n _ => match st with
    | .long x :: st => some (P, nx, xsto2 L a (.long x), st, M, z)
    | _ => none
  | .lstore _ => match st with
    | .long x :: st => some (P, nx, xsto2 L a (.long x), st, M, z)
    | _ => none
  | .astore_n _ => match st with
    | .ref x :: st => some (P, nx, xsto1 L a (.ref x), st, M, z)
    | .null :: st => some (P, nx, xsto1 L a .null, st, M, z)
    | _ => none
  | .astore _ => match st with
    | .ref x :: st => some (P, nx, xsto1 L a (.ref x), st, M, z)
    | .null :: st => some (P, nx, xsto1 L a .null, st, M, z)
    | _ => none
  | .iinc _ _ => match xget L a with
    | some (.int x) => some (P, nx, xsto1 L a (.int (x + v)), st, M, z)
    | _ => none
  | .iadd => match st with
    | .int y :: .int x :: st => some (P, nx, L, .int (x + y) :: st, M, z)
    | _ => none
  | .isub => match st with
    | .int y :: .int x :: st => some (P, nx, L, .int (x - y) :: st, M, z)
    | _ => none
  | .imul => match st with
    | .int y :: .int x :: st => some (P, nx, L, .int (x * y) :: st, M, z)
    | _ => none
  | .iand => match st with
    | .int y :: .int x :: st => some (P, nx, L, .int (x &&& y) :: st, M, z)
    | _ => none
  | .ior => match st with
    | .int y :: .int x :: st => some (P, nx, L, .int (x ||| y) :: st, M, z)
    | _ => none
  | .ixor => match st with
    | .int y :: .int x :: st => some (P, nx, L, .int (x ^^^ y) :: st, M, z)
    | _ => none
  | .ineg => match st with
    | .int x :: st => some (P, nx, L, .int (-x) :: st, M, z)
    | _ => none
  | .idiv => match st with
    | .int y :: .int x :: st => some (¬ y = 0 ∧ P, nx, L, .int (x / y) :: st, M, z)
    | _ => none
  | .irem => match st with
    | .int y :: .int x :: st => some (¬ y = 0 ∧ P, nx, L, .int (x - x / y * y) :: st, M, z)
    | _ => none
  | .ishl => match st with
    | .int y :: .int x :: st => some (P, nx, L, .int (x <<< (y &&& 31)) :: st, M, z)
    | _ => none
  | .ishr => match st with
    | .int y :: .int x :: st => some (P, nx, L, .int (x >>> (y &&& 31)) :: st, M, z)
    | _ => none
  | .iushr => match st with
    | .int y :: .int x :: st => some (P, nx, L, .int (x.toUInt32 >>> (y.toUInt32 &&& Int32.toUInt32 31)).toInt32 :: st, M, z)
    | _ => none
  | .ladd => match st with
    | .long y :: .long x :: st => some (P, nx, L, .long (x + y) :: st, M, z)
    | _ => none
  | .lsub => match st with
    | .long y :: .long x :: st => some (P, nx, L, .long (x - y) :: st, M, z)
    | _ => none
  | .lmul => match st with
    | .long y :: .long x :: st => some (P, nx, L, .long (x * y) :: st, M, z)
    | _ => none
  | .lor => match st with
    | .long y :: .long x :: st => some (P, nx, L, .long (x ||| y) :: st, M, z)
    | _ => none
  | .lneg => match st with
    | .long x :: st => some (P, nx, L, .long (-x) :: st, M, z)
    | _ => none
  | .ldiv => match st with
    | .long y :: .long x :: st => some (¬ y = 0 ∧ P, nx, L, .long (x / y) :: st, M, z)
    | _ => none
  | .lshl => match st with
    | .int y :: .long x :: st => some (P, nx, L, .long (x <<< (y.toInt64 &&& 63)) :: st, M, z)
    | _ => none
  | .lcmp => match st with
    | .long y :: .long x :: st => some (P, nx, L, .int (lg_cmp x y) :: st, M, z)
    | _ => none
  | .i2l => match st with
    | .int x :: st => some (P, nx, L, .long x.toInt64 :: st, M, z)
    | _ => none
  | .l2i => match st with
    | .long x :: st => some (P, nx, L, .int x.toInt32 :: st, M, z)
    | _ => none
  | .i2b => match st with
    | .int x :: st => some (P, nx, L, .int x.toInt8.toInt32 :: st, M, z)
    | _ => none
  | .i2s => match st with
    | .int x :: st => some (P, nx, L, .int x.toInt16.toInt32 :: st, M, z)
    | _ => none
  | .dup => match st with
    | .int x :: st => some (P, nx, L, .int x :: .int x :: st, M, z)
    | .ref x :: st => some (P, nx, L, .ref x :: .ref x :: st, M, z)
    | _ => none
  | .dup2 => match st with
    | .long x :: st => some (P, nx, L, .long x :: .long x :: st, M, z)
    | .int y :: .ref x :: st => some (P, nx, L, .int y :: .ref x :: .int y :: .ref x :: st, M, z)
    | _ => none
  | .goto _ => some (P, a, L, st, M, z)
  | .ifnull _ => match st with
    | .ref _ :: st => some (P, nx, L, st, M, z)
    | .null :: st => some (P, a, L, st, M, z)
    | _ => none
  | .ifnonnull _ => match st with
    | .ref _ :: st => some (P, a, L, st, M, z)
    | .null :: st => some (P, nx, L, st, M, z)
    | _ => none
  | .getfield _ => match st with
    | .ref o :: st => match xfk a b with
      | 0 => some (xob o a z.1 ∧ P, nx, L, .int (gI M o b) :: st, M, z)
      | 1 => some (xob o a z.1 ∧ P, nx, L, .long (gJ M o b) :: st, M, z)
      | 2 => some (xob o a z.1 ∧ P, nx, L, xrf (xpr z.2.1 M o b) :: st, M, z)
      | 3 => some (xob o a z.1 ∧ P, nx, L, .int (gI M o b) :: st, M, z)
      | _ => none
    | _ => none
  | .putfield _ => match st with
    | .int x :: .ref o :: st => match xfk a b with
      | 0 => some (xob o a z.1 ∧ P, nx, L, st, sI M o b x, z)
      | 3 => some ((x &&& 1 = x ∧ xob o a z.1) ∧ P, nx, L, st, sI M o b x, z)
      | _ => none
    | .long x :: .ref o :: st => match xfk a b with
      | 1 => some (xob o a z.1 ∧ P, nx, L, st, sJ M o b x, z)
      | _ => none
    | .ref x :: .ref o :: st => match xfk a b with
      | 2 => bif z.2.1 || xdyn o b then some (xob o a z.1 ∧ P, nx, L, st, sP M o b (some x), z) else none
      | _ => none
    | _ => none
  | .iaload => match st with
    | .int i :: .ref o :: st => some (xar o 0 z.1 i ∧ P, nx, L, .int (gI M o i.toNatClampNeg) :: st, M, z)
    | _ => none
  | .laload => match st with
    | .int i :: .ref o :: st => some (xar o 1 z.1 i ∧ P, nx, L, .long (gJ M o i.toNatClampNeg) :: st, M, z)
    | _ => none
  | .baload => match st with
    | .int i :: .ref o :: st => some (xar o 2 z.1 i ∧ P, nx, L, .int (gI M o i.toNatClampNeg) :: st, M, z)
    | _ => none
  | .aaload => match st with
    | .int i :: .ref o :: st => some (xqr o z.1 i ∧ P, nx, L, xrf (xpr z.2.1 M o i.toNatClampNeg) :: st, M, z)
    | _ => none
  | .iastore => match st with
    | .int x :: .int i :: .ref o :: st => some (xar o 0 z.1 i ∧ P, nx, L, st, sI M o i.toNatClampNeg x, z)
    | _ => none
  | .lastore => match st with
    | .long x :: .int i :: .ref o :: st => some (xar o 1 z.1 i ∧ P, nx, L, st, sJ M o i.toNatClampNeg x, z)
    | _ => none
  | .bastore => match st with
    | .int x :: .int i :: .ref o :: st => some ((x &&& 1 = x ∧ xar o 2 z.1 i) ∧ P, nx, L, st, sI M o i.toNatClampNeg x, z)
    | _ => none
  | .aastore => match st with
    | .ref x :: .int i :: .ref o :: st => bif (z.2.1 || xdyn o i.toNatClampNeg) && (Nat.beq a 3 && Nat.beq b 3 || (Nat.beq a 4 && Nat.beq b 5 || Nat.beq a 5 && Nat.beq b 8)) then some ((xar o a z.1 i ∧ xob x b z.1) ∧ P, nx, L, st, sP M o i.toNatClampNeg (some x), z) else none
    | _ => none
  | .arraylength => match st with
    | .ref o :: st => some (xal o z.1 ∧ P, nx, L, .int (nI (xlen o)) :: st, M, z)
    | _ => none
  | .invokestatic _ => xsta a P nx L st M z
  | _ => none
def xrun (m : xMI) : Nat → Prop → xX → Option (Prop × xX)
  | 0, P, X => some (P, X)
  | k + 1, P, X => match xat m X.1 with
    | some e => match xst e P X with
      | some (P', X') => xrun m k P' X'
      | none => none
    | none => none
/-- a branch: what it asks, where it goes if so, and else -/
def xbr (m : xMI) (X : xX) : Option (Prop × xX × xX) := match X with
  | (pc, L, st, M, z) => match xat m pc with
    | some (ins, nx, (a, _, _), _, _) => match ins with
      | .ifCond cd _ => match st with
        | .int x :: st => match cd with
          | .eq => some (x = 0, (a, L, st, M, z), (nx, L, st, M, z))
          | .ne => some (¬ x = 0, (a, L, st, M, z), (nx, L, st, M, z))
          | .lt => some (x < 0, (a, L, st, M, z), (nx, L, st, M, z))
          | .ge => some (0 ≤ x, (a, L, st, M, z), (nx, L, st, M, z))
          | .gt => some (0 < x, (a, L, st, M, z), (nx, L, st, M, z))
          | .le => some (x ≤ 0, (a, L, st, M, z), (nx, L, st, M, z))
        | _ => none
      | .if_icmp cd _ => match st with
        | .int y :: .int x :: st => match cd with
          | .eq => some (x = y, (a, L, st, M, z), (nx, L, st, M, z))
          | .ne => some (¬ x = y, (a, L, st, M, z), (nx, L, st, M, z))
          | .lt => some (x < y, (a, L, st, M, z), (nx, L, st, M, z))
          | .ge => some (y ≤ x, (a, L, st, M, z), (nx, L, st, M, z))
          | .gt => some (y < x, (a, L, st, M, z), (nx, L, st, M, z))
          | .le => some (x ≤ y, (a, L, st, M, z), (nx, L, st, M, z))
        | _ => none
      | _ => none
    | none => none
/-- where a tableswitch goes -/
def xtsT (pc : Nat) (d lo hi : Int) (offs : Array Int) (x : Int32) : Nat := ((pc : Int) + if x.toInt < lo ∨ hi < x.toInt then d else offs.getD (x.toInt - lo).toNat 0).toNat
def xpop : Nat → List Value → List Value → Option (List Value × List Value)
  | 0, as, st => some (as, st)
  | k + 1, as, v :: st => xpop k (v :: as) st
  | _, _, [] => none
/-- a call: what it asks, the number of the method, its arguments, the state behind (without the answer) -/
def xca (m : xMI) (X : xX) (n : Nat) : Option (Prop × Nat × List Value × xX) := match X with
  | (pc, L, st, M, z) => match xat m pc with
    | some (ins, nx, (a, b, _), _, _) => match ins with
      | .invokevirtual _ => match xpop n [] st with
        | some (as, .ref o :: st) => bif Nat.ble (xcat st) 8 then some (xob o b z.1, a, .ref o :: as, (nx, L, st, M, z)) else none
        | _ => none
      | .invokestatic _ => match xpop n [] st with
        | some (as, st) => bif Nat.ble (xcat st) 8 && Nat.blt a 900 then some (True, a, as, (nx, L, st, M, z)) else none
        | _ => none
      | _ => none
    | none => none

