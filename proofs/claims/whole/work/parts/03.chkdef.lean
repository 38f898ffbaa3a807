/-! ===== what a program checks of the instructions and of what they resolve to ===== -/
noncomputable def xw (i : Nat) (w : Cond) : Bool := decide (lw_tbl[i]? = some w) && goodWord w
noncomputable def xckO (own : String) (by' : ByteArray) (pc : Nat) (ins : Instr) (nx a b c : Nat) (v : Int32) (w : Int64) : Bool := match ins with
  | .iconst n => decide (Int32.ofInt n = v)
  | .bipush n => decide ((Int8.ofInt n).toInt32 = v)
  | .sipush n => decide ((Int16.ofInt n).toInt32 = v)
  | .ldc i => Nat.beq a 777 || xw c (.constant own i v)
  | .ldc_w i => Nat.beq a 777 || xw c (.constant own i v)
  | .ldc2_w i => xw c (.constantLong own i w)
  | .lconst n => decide (Int64.ofNat (n : Nat) = w)
  | .iload_n k => Nat.beq (k : Nat) a
  | .lload_n k => Nat.beq (k : Nat) a
  | .aload_n k => Nat.beq (k : Nat) a
  | .istore_n k => Nat.beq (k : Nat) a
  | .lstore_n k => Nat.beq (k : Nat) a
  | .astore_n k => Nat.beq (k : Nat) a
  | .iload k => Nat.beq k a
  | .lload k => Nat.beq k a
  | .aload k => Nat.beq k a
  | .istore k => Nat.beq k a
  | .lstore k => Nat.beq k a
  | .astore k => Nat.beq k a
  | .iinc k n => Nat.beq k a && decide (Int32.ofInt n = v)
  | .goto off => decide ((pc : Int) + off = (a : Int))
  | .ifnull off => decide ((pc : Int) + off = (a : Int))
  | .ifnonnull off => decide ((pc : Int) + off = (a : Int))
  | .ifCond _ off => decide ((pc : Int) + off = (a : Int))
  | .if_icmp _ off => decide ((pc : Int) + off = (a : Int))
  | .getfield i => match vwCl[a]? with
    | some (_, T, n) => Nat.blt b n && xw c (.fieldLink own i (T b).1 (T b).2.1 (T b).2.2.1)
    | none => false
  | .putfield i => match vwCl[a]? with
    | some (_, T, n) => Nat.blt b n && xw c (.fieldLink own i (T b).1 (T b).2.1 (T b).2.2.1)
    | none => false
  | .invokevirtual i => Nat.blt 900 a || (match mtab[a]? with
    | some my => xw c (.methodLink own i my.1.2.1) && (match vwCl[b]? with
      | some (C, _, _) => decide (C = my.1.2.1.cls) && !my.2.1.2.2.2
      | none => false)
    | none => false)
  | .invokestatic i => bif Nat.beq a 999 then xw c (.methodLink own i arraycopyName) else bif Nat.beq a 991 then xw c (.methodLink own i Lib.Math.max.name) else bif Nat.beq a 992 then xw c (.methodLink own i Lib.Math.min.name) else bif Nat.beq a 993 then xw c (.methodLink own i Lib.Math.abs.name) else bif Nat.beq a 994 then xw c (.methodLink own i Lib.MathLoose.max_long.x) else bif Nat.beq a 995 then xw c (.methodLink own i Lib.MathLoose.min_long.x) else bif Nat.beq a 996 then xw c (.methodLink own i Lib.MathLoose.abs_long.x) else (Nat.blt 900 a || (match mtab[a]? with
    | some my => xw c (.methodLink own i my.1.2.1) && my.2.1.2.2.2
    | none => false))
  | _ => true
noncomputable def xckE (own : String) (by' : ByteArray) (pc : Nat) (e : xI) : Bool := match e with
  | (ins, nx, (a, b, c), v, w) => (match ins with
    | .tableswitch _ _ _ _ => (match decode by' pc with
      | .ok (i, _) => decide (i = ins)
      | .error _ => false)
    | .lookupswitch _ _ => (match decode by' pc with
      | .ok (i, _) => decide (i = ins)
      | .error _ => false)
    | _ => decide (decode by' pc = .ok (ins, xil ins)) && Nat.beq nx (pc + xil ins)) && xckO own by' pc ins nx a b c v w
noncomputable def xckI (m : xMI) : Bool := m.2.2.2.all (fun q => q.2.all fun r => xckE m.1.1 m.1.2.2 r.1 r.2)
noncomputable def xckW (m : xMI) : Bool := match m with
  | ((own, y, by'), (maxL, ret, n, stt), (p0, p1, p2, p3), _) =>
    xw p0 (.code y by' maxL ret) && (bif stt then xw p1 (.static y) else xw p1 (.instanceMethod y)) && (stt || decide (y.name = "<init>") || xw p2 (.selects y.cls y y)) && xw p3 (.initialized y.cls) &&
    decide (own = y.cls) && decide (y.cls ≠ "java/lang/invoke/MethodHandle" ∧ y.cls ≠ "java/lang/invoke/VarHandle" ∧ (parseMethodDescriptor y.desc).map (fun d => d.parameters.length) = some n) && Nat.ble maxL 21 && plainName y.cls
