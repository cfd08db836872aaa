/-! the programs, and that they are what the bytes say -/
def fy (c k : Nat) : FieldType := match c with
  | 0 => tyX0 k
  | 1 => tyX1 k
  | 2 => tyX2 k
  | 3 => tyX3 k
  | 4 => tyX4 k
  | 5 => tyX5 k
  | 6 => tyX6 k
  | 7 => tyX7 k
  | 8 => tyX8 k
  | 9 => tyX9 k
  | 10 => tyX10 k
  | 11 => tyX11 k
  | _ => tyX12 k
def tcd : FieldType → Nat
  | .int => 0
  | .boolean => 1
  | .long => 2
  | .object _ => 3
  | .array _ => 3
  | _ => 9
def okt (pc : Nat) (off : Int) : Bool := decide (0 ≤ (pc : Int) + off)
def okS (wd : List Nat) (b i : Nat) : Bool := Nat.beq b 1 || Nat.beq i 0 || !(wd.contains (i - 1))
def okE (o : Nat) (wd : List Nat) (pc : Nat) (e : En) : Bool := match e with
  | (ins, _, a, b, t, _, v) => match ins with
    | .getfield i => FW.contains (o, i, a, b) && Nat.beq (tcd (fy a b)) t
    | .putfield i => FW.contains (o, i, a, b) && Nat.beq (tcd (fy a b)) t
    | .invokestatic i => (Nat.beq b 0 && (MW.contains (o, i, a) && (Nat.beq (kM a) 0 && Nat.beq (aM a) t))) || (Nat.beq b 1 && (NW.contains (o, i, a) && (Nat.beq (kM a) 0 && Nat.beq (aM a) t))) || (Nat.beq b 6 && AW.contains (o, i)) || (Nat.beq b 10 && XW.contains (o, i)) || (Nat.beq b 11 && YW.contains (o, i))
    | .invokevirtual i => (Nat.beq b 2 && (MW.contains (o, i, a) && (Nat.beq (kM a) 1 && Nat.beq (aM a + 1) t))) || (Nat.beq b 7 && (Nat.beq o 16 && Nat.beq i 316)) || ((Nat.beq b 8 || Nat.beq b 9) && Nat.beq o 6)
    | .invokespecial i => (Nat.beq b 3 && (MW.contains (o, i, a) && (Nat.beq (kM a) 2 && Nat.beq (aM a + 1) t))) || (Nat.beq b 4 && (NW.contains (o, i, a) && (Nat.beq (kM a) 2 && Nat.beq (aM a + 1) t))) || (Nat.beq b 5 && OW.contains (o, i))
    | .new i => CW.contains (o, i, a) && HW.contains (a, b)
    | .anewarray i => CW.contains (o, i, b) && ((Nat.beq a 24 && Nat.beq b 7) || (Nat.beq a 25 && Nat.beq b 9) || (Nat.beq a 26 && Nat.beq b 4))
    | .newarray ty => (match ty with | .int => Nat.beq a 20 | .long => Nat.beq a 21 | .byte => Nat.beq a 22 | .boolean => Nat.beq a 23 | _ => false)
    | .checkcast i => Nat.beq o 16 && Nat.beq i 317
    | .ldc i => (Nat.beq b 1 && (Nat.beq o 6 && Nat.beq i 89)) || (Nat.beq b 0 && KW.contains (o, i, v))
    | .ldc_w i => KW.contains (o, i, v)
    | .ldc2_w i => JW.contains (o, i, v)
    | .istore i => okS wd b i
    | .istore_n i => okS wd b i
    | .astore i => okS wd b i
    | .astore_n i => okS wd b i
    | .iinc i _ => okS wd b i
    | .lstore i => okS wd b i && wd.contains i
    | .lstore_n i => okS wd b i && wd.contains i
    | .ifCond _ off => okt pc off
    | .if_icmp _ off => okt pc off
    | .if_acmp _ off => okt pc off
    | .ifnull off => okt pc off
    | .ifnonnull off => okt pc off
    | .goto off => okt pc off
    | .tableswitch d _ _ offs => okt pc d && offs.toList.all (okt pc)
    | .lookupswitch d ps => okt pc d && (ps.toList.all (fun q => okt pc q.2) && (ps.toList.zip (ps.toList.drop 1)).all (fun (a, next) => a.1 < next.1))
    | _ => true
def okD (cc : ByteArray) (pc : Nat) (e : En) : Bool := decide (decode cc pc = .ok (e.1, e.2.1))
def okO (r : Option En) (cc : ByteArray) (o : Nat) (wd : List Nat) (pc : Nat) : Bool := match r with
  | none => true
  | some e => okD cc pc e && okE o wd pc e
