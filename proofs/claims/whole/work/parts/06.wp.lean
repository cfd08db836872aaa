/-! the cells that stand when both objects are made: their kinds, lengths, and what their final references are -/
abbrev NS : Nat := 121
def T0 (a : Nat) : Nat × Nat := (bif Nat.blt a 60 then (bif Nat.blt a 30 then (bif Nat.blt a 15 then (bif Nat.blt a 7 then (bif Nat.blt a 3 then (bif Nat.blt a 1 then (99, 0) else (bif Nat.blt a 2 then (11, 12) else (7, 6))) else (bif Nat.blt a 5 then (bif Nat.blt a 4 then (2, 5) else (20, 24)) else (bif Nat.blt a 6 then (20, 24) else (20, 24)))) else (bif Nat.blt a 11 then (bif Nat.blt a 9 then (bif Nat.blt a 8 then (20, 144) else (1, 5)) else (bif Nat.blt a 10 then (20, 12) else (20, 12))) else (bif Nat.blt a 13 then (bif Nat.blt a 12 then (3, 14) else (20, 12)) else (bif Nat.blt a 14 then (20, 12) else (20, 12))))) else (bif Nat.blt a 22 then (bif Nat.blt a 18 then (bif Nat.blt a 16 then (20, 12) else (bif Nat.blt a 17 then (20, 12) else (20, 12))) else (bif Nat.blt a 20 then (bif Nat.blt a 19 then (20, 12) else (20, 12)) else (bif Nat.blt a 21 then (20, 12) else (20, 12)))) else (bif Nat.blt a 26 then (bif Nat.blt a 24 then (bif Nat.blt a 23 then (20, 12) else (20, 12)) else (bif Nat.blt a 25 then (20, 4) else (25, 10))) else (bif Nat.blt a 28 then (bif Nat.blt a 27 then (24, 2) else (7, 6)) else (bif Nat.blt a 29 then (2, 5) else (20, 24)))))) else (bif Nat.blt a 45 then (bif Nat.blt a 37 then (bif Nat.blt a 33 then (bif Nat.blt a 31 then (20, 24) else (bif Nat.blt a 32 then (20, 24) else (20, 144))) else (bif Nat.blt a 35 then (bif Nat.blt a 34 then (1, 5) else (20, 12)) else (bif Nat.blt a 36 then (20, 12) else (3, 14)))) else (bif Nat.blt a 41 then (bif Nat.blt a 39 then (bif Nat.blt a 38 then (20, 12) else (20, 12)) else (bif Nat.blt a 40 then (20, 12) else (20, 12))) else (bif Nat.blt a 43 then (bif Nat.blt a 42 then (20, 12) else (20, 12)) else (bif Nat.blt a 44 then (20, 12) else (20, 12))))) else (bif Nat.blt a 52 then (bif Nat.blt a 48 then (bif Nat.blt a 46 then (20, 12) else (bif Nat.blt a 47 then (20, 12) else (20, 12))) else (bif Nat.blt a 50 then (bif Nat.blt a 49 then (20, 12) else (20, 4)) else (bif Nat.blt a 51 then (25, 10) else (7, 6)))) else (bif Nat.blt a 56 then (bif Nat.blt a 54 then (bif Nat.blt a 53 then (2, 5) else (20, 24)) else (bif Nat.blt a 55 then (20, 24) else (20, 24))) else (bif Nat.blt a 58 then (bif Nat.blt a 57 then (20, 144) else (1, 5)) else (bif Nat.blt a 59 then (20, 12) else (20, 12))))))) else (bif Nat.blt a 90 then (bif Nat.blt a 75 then (bif Nat.blt a 67 then (bif Nat.blt a 63 then (bif Nat.blt a 61 then (3, 14) else (bif Nat.blt a 62 then (20, 12) else (20, 12))) else (bif Nat.blt a 65 then (bif Nat.blt a 64 then (20, 12) else (20, 12)) else (bif Nat.blt a 66 then (20, 12) else (20, 12)))) else (bif Nat.blt a 71 then (bif Nat.blt a 69 then (bif Nat.blt a 68 then (20, 12) else (20, 12)) else (bif Nat.blt a 70 then (20, 12) else (20, 12))) else (bif Nat.blt a 73 then (bif Nat.blt a 72 then (20, 12) else (20, 12)) else (bif Nat.blt a 74 then (20, 4) else (25, 10))))) else (bif Nat.blt a 82 then (bif Nat.blt a 78 then (bif Nat.blt a 76 then (23, 2) else (bif Nat.blt a 77 then (6, 12) else (22, 400))) else (bif Nat.blt a 80 then (bif Nat.blt a 79 then (20, 400) else (20, 48)) else (bif Nat.blt a 81 then (0, 5) else (20, 12)))) else (bif Nat.blt a 86 then (bif Nat.blt a 84 then (bif Nat.blt a 83 then (20, 64) else (5, 6)) else (bif Nat.blt a 85 then (20, 24) else (20, 24))) else (bif Nat.blt a 88 then (bif Nat.blt a 87 then (10, 3) else (20, 24)) else (bif Nat.blt a 89 then (8, 14) else (20, 12)))))) else (bif Nat.blt a 105 then (bif Nat.blt a 97 then (bif Nat.blt a 93 then (bif Nat.blt a 91 then (20, 156) else (bif Nat.blt a 92 then (20, 156) else (23, 12))) else (bif Nat.blt a 95 then (bif Nat.blt a 94 then (26, 3) else (4, 2)) else (bif Nat.blt a 96 then (20, 36) else (4, 2)))) else (bif Nat.blt a 101 then (bif Nat.blt a 99 then (bif Nat.blt a 98 then (20, 36) else (4, 2)) else (bif Nat.blt a 100 then (20, 36) else (20, 5))) else (bif Nat.blt a 103 then (bif Nat.blt a 102 then (12, 35) else (20, 7)) else (bif Nat.blt a 104 then (20, 8391) else (20, 16782))))) else (bif Nat.blt a 113 then (bif Nat.blt a 109 then (bif Nat.blt a 107 then (bif Nat.blt a 106 then (23, 2) else (22, 103)) else (bif Nat.blt a 108 then (22, 400) else (20, 5))) else (bif Nat.blt a 111 then (bif Nat.blt a 110 then (20, 401) else (20, 401)) else (bif Nat.blt a 112 then (20, 401) else (20, 12)))) else (bif Nat.blt a 117 then (bif Nat.blt a 115 then (bif Nat.blt a 114 then (21, 40) else (21, 40)) else (bif Nat.blt a 116 then (21, 40) else (20, 96025))) else (bif Nat.blt a 119 then (bif Nat.blt a 118 then (20, 24) else (21, 24)) else (bif Nat.blt a 120 then (20, 12) else (20, 12))))))))
def st0 (a i : Nat) : Option Nat := bif Nat.blt a NS then (bif Nat.blt a 60 then (bif Nat.blt a 30 then (bif Nat.blt a 15 then (bif Nat.blt a 7 then (bif Nat.blt a 3 then (bif Nat.blt a 1 then none else (bif Nat.blt a 2 then (bif Nat.beq i 0 then some 2 else (bif Nat.beq i 1 then some 26 else (bif Nat.beq i 2 then some 75 else (bif Nat.beq i 3 then some 76 else (bif Nat.beq i 4 then some 80 else (bif Nat.beq i 5 then some 83 else (bif Nat.beq i 6 then some 86 else (bif Nat.beq i 7 then some 88 else (bif Nat.beq i 8 then some 93 else (bif Nat.beq i 9 then some 100 else none)))))))))) else (bif Nat.beq i 0 then some 3 else (bif Nat.beq i 1 then some 8 else (bif Nat.beq i 2 then some 11 else (bif Nat.beq i 3 then some 24 else (bif Nat.beq i 4 then some 25 else none))))))) else (bif Nat.blt a 5 then (bif Nat.blt a 4 then (bif Nat.beq i 0 then some 4 else (bif Nat.beq i 1 then some 5 else (bif Nat.beq i 2 then some 6 else (bif Nat.beq i 3 then some 7 else none)))) else none) else (bif Nat.blt a 6 then none else none))) else (bif Nat.blt a 11 then (bif Nat.blt a 9 then (bif Nat.blt a 8 then none else (bif Nat.beq i 0 then some 9 else (bif Nat.beq i 1 then some 10 else none))) else (bif Nat.blt a 10 then none else none)) else (bif Nat.blt a 13 then (bif Nat.blt a 12 then (bif Nat.beq i 0 then some 12 else (bif Nat.beq i 1 then some 13 else (bif Nat.beq i 2 then some 14 else (bif Nat.beq i 3 then some 15 else (bif Nat.beq i 4 then some 16 else (bif Nat.beq i 6 then some 17 else (bif Nat.beq i 7 then some 18 else (bif Nat.beq i 8 then some 19 else (bif Nat.beq i 9 then some 20 else (bif Nat.beq i 10 then some 21 else (bif Nat.beq i 11 then some 22 else (bif Nat.beq i 12 then some 23 else none)))))))))))) else none) else (bif Nat.blt a 14 then none else none)))) else (bif Nat.blt a 22 then (bif Nat.blt a 18 then (bif Nat.blt a 16 then none else (bif Nat.blt a 17 then none else none)) else (bif Nat.blt a 20 then (bif Nat.blt a 19 then none else none) else (bif Nat.blt a 21 then none else none))) else (bif Nat.blt a 26 then (bif Nat.blt a 24 then (bif Nat.blt a 23 then none else none) else (bif Nat.blt a 25 then none else none)) else (bif Nat.blt a 28 then (bif Nat.blt a 27 then (bif Nat.beq i 0 then some 27 else (bif Nat.beq i 1 then some 51 else none)) else (bif Nat.beq i 0 then some 28 else (bif Nat.beq i 1 then some 33 else (bif Nat.beq i 2 then some 36 else (bif Nat.beq i 3 then some 49 else (bif Nat.beq i 4 then some 50 else none)))))) else (bif Nat.blt a 29 then (bif Nat.beq i 0 then some 29 else (bif Nat.beq i 1 then some 30 else (bif Nat.beq i 2 then some 31 else (bif Nat.beq i 3 then some 32 else none)))) else none))))) else (bif Nat.blt a 45 then (bif Nat.blt a 37 then (bif Nat.blt a 33 then (bif Nat.blt a 31 then none else (bif Nat.blt a 32 then none else none)) else (bif Nat.blt a 35 then (bif Nat.blt a 34 then (bif Nat.beq i 0 then some 34 else (bif Nat.beq i 1 then some 35 else none)) else none) else (bif Nat.blt a 36 then none else (bif Nat.beq i 0 then some 37 else (bif Nat.beq i 1 then some 38 else (bif Nat.beq i 2 then some 39 else (bif Nat.beq i 3 then some 40 else (bif Nat.beq i 4 then some 41 else (bif Nat.beq i 6 then some 42 else (bif Nat.beq i 7 then some 43 else (bif Nat.beq i 8 then some 44 else (bif Nat.beq i 9 then some 45 else (bif Nat.beq i 10 then some 46 else (bif Nat.beq i 11 then some 47 else (bif Nat.beq i 12 then some 48 else none))))))))))))))) else (bif Nat.blt a 41 then (bif Nat.blt a 39 then (bif Nat.blt a 38 then none else none) else (bif Nat.blt a 40 then none else none)) else (bif Nat.blt a 43 then (bif Nat.blt a 42 then none else none) else (bif Nat.blt a 44 then none else none)))) else (bif Nat.blt a 52 then (bif Nat.blt a 48 then (bif Nat.blt a 46 then none else (bif Nat.blt a 47 then none else none)) else (bif Nat.blt a 50 then (bif Nat.blt a 49 then none else none) else (bif Nat.blt a 51 then none else (bif Nat.beq i 0 then some 52 else (bif Nat.beq i 1 then some 57 else (bif Nat.beq i 2 then some 60 else (bif Nat.beq i 3 then some 73 else (bif Nat.beq i 4 then some 74 else none)))))))) else (bif Nat.blt a 56 then (bif Nat.blt a 54 then (bif Nat.blt a 53 then (bif Nat.beq i 0 then some 53 else (bif Nat.beq i 1 then some 54 else (bif Nat.beq i 2 then some 55 else (bif Nat.beq i 3 then some 56 else none)))) else none) else (bif Nat.blt a 55 then none else none)) else (bif Nat.blt a 58 then (bif Nat.blt a 57 then none else (bif Nat.beq i 0 then some 58 else (bif Nat.beq i 1 then some 59 else none))) else (bif Nat.blt a 59 then none else none)))))) else (bif Nat.blt a 90 then (bif Nat.blt a 75 then (bif Nat.blt a 67 then (bif Nat.blt a 63 then (bif Nat.blt a 61 then (bif Nat.beq i 0 then some 61 else (bif Nat.beq i 1 then some 62 else (bif Nat.beq i 2 then some 63 else (bif Nat.beq i 3 then some 64 else (bif Nat.beq i 4 then some 65 else (bif Nat.beq i 6 then some 66 else (bif Nat.beq i 7 then some 67 else (bif Nat.beq i 8 then some 68 else (bif Nat.beq i 9 then some 69 else (bif Nat.beq i 10 then some 70 else (bif Nat.beq i 11 then some 71 else (bif Nat.beq i 12 then some 72 else none)))))))))))) else (bif Nat.blt a 62 then none else none)) else (bif Nat.blt a 65 then (bif Nat.blt a 64 then none else none) else (bif Nat.blt a 66 then none else none))) else (bif Nat.blt a 71 then (bif Nat.blt a 69 then (bif Nat.blt a 68 then none else none) else (bif Nat.blt a 70 then none else none)) else (bif Nat.blt a 73 then (bif Nat.blt a 72 then none else none) else (bif Nat.blt a 74 then none else none)))) else (bif Nat.blt a 82 then (bif Nat.blt a 78 then (bif Nat.blt a 76 then none else (bif Nat.blt a 77 then (bif Nat.beq i 0 then some 77 else (bif Nat.beq i 8 then some 78 else (bif Nat.beq i 10 then some 79 else none))) else none)) else (bif Nat.blt a 80 then (bif Nat.blt a 79 then none else none) else (bif Nat.blt a 81 then (bif Nat.beq i 0 then some 81 else (bif Nat.beq i 2 then some 82 else none)) else none))) else (bif Nat.blt a 86 then (bif Nat.blt a 84 then (bif Nat.blt a 83 then none else (bif Nat.beq i 0 then some 3 else (bif Nat.beq i 1 then some 80 else (bif Nat.beq i 2 then some 84 else (bif Nat.beq i 3 then some 85 else none))))) else (bif Nat.blt a 85 then none else none)) else (bif Nat.blt a 88 then (bif Nat.blt a 87 then (bif Nat.beq i 0 then some 3 else (bif Nat.beq i 1 then some 87 else none)) else none) else (bif Nat.blt a 89 then (bif Nat.beq i 0 then some 11 else (bif Nat.beq i 1 then some 24 else (bif Nat.beq i 2 then some 80 else (bif Nat.beq i 5 then some 89 else (bif Nat.beq i 7 then some 90 else (bif Nat.beq i 8 then some 91 else (bif Nat.beq i 10 then some 92 else none))))))) else none))))) else (bif Nat.blt a 105 then (bif Nat.blt a 97 then (bif Nat.blt a 93 then (bif Nat.blt a 91 then none else (bif Nat.blt a 92 then none else none)) else (bif Nat.blt a 95 then (bif Nat.blt a 94 then (bif Nat.beq i 0 then some 94 else (bif Nat.beq i 1 then some 96 else (bif Nat.beq i 2 then some 98 else none))) else (bif Nat.beq i 0 then some 95 else none)) else (bif Nat.blt a 96 then none else (bif Nat.beq i 0 then some 97 else none)))) else (bif Nat.blt a 101 then (bif Nat.blt a 99 then (bif Nat.blt a 98 then none else (bif Nat.beq i 0 then some 99 else none)) else (bif Nat.blt a 100 then none else none)) else (bif Nat.blt a 103 then (bif Nat.blt a 102 then (bif Nat.beq i 1 then some 102 else (bif Nat.beq i 2 then some 103 else (bif Nat.beq i 3 then some 104 else (bif Nat.beq i 4 then some 105 else (bif Nat.beq i 5 then some 106 else (bif Nat.beq i 6 then some 107 else (bif Nat.beq i 7 then some 108 else (bif Nat.beq i 10 then some 109 else (bif Nat.beq i 11 then some 110 else (bif Nat.beq i 12 then some 111 else (bif Nat.beq i 20 then some 112 else (bif Nat.beq i 23 then some 113 else (bif Nat.beq i 24 then some 114 else (bif Nat.beq i 25 then some 115 else (bif Nat.beq i 26 then some 116 else (bif Nat.beq i 27 then some 117 else (bif Nat.beq i 28 then some 118 else (bif Nat.beq i 30 then some 119 else (bif Nat.beq i 31 then some 120 else none))))))))))))))))))) else none) else (bif Nat.blt a 104 then none else none)))) else (bif Nat.blt a 113 then (bif Nat.blt a 109 then (bif Nat.blt a 107 then (bif Nat.blt a 106 then none else none) else (bif Nat.blt a 108 then none else none)) else (bif Nat.blt a 111 then (bif Nat.blt a 110 then none else none) else (bif Nat.blt a 112 then none else none))) else (bif Nat.blt a 117 then (bif Nat.blt a 115 then (bif Nat.blt a 114 then none else none) else (bif Nat.blt a 116 then none else none)) else (bif Nat.blt a 119 then (bif Nat.blt a 118 then none else none) else (bif Nat.blt a 120 then none else none))))))) else none
def kdm (μ : Bool) (h : Hp) (a : Nat) : Nat × Nat := bif μ && Nat.blt a NS then T0 a else hk h a
def rpm (μ : Bool) (h : Hp) (a i : Nat) : Option Nat := match (bif μ then st0 a i else none) with
  | some r => some r
  | none => gP h a i
def wkm (μ : Bool) (a i : Nat) : Bool := !(μ && (st0 a i).isSome)
/-- what a step asks of the method's frame and of its answer's type -/
def inL (ins : Instr) (rt : Option FieldType) (n : Nat) : Bool := match ins with
  | .istore i => Nat.blt i n
  | .istore_n i => Nat.blt i n
  | .astore i => Nat.blt i n
  | .astore_n i => Nat.blt i n
  | .iinc i _ => Nat.blt i n
  | .lstore i => Nat.blt (i + 1) n
  | .lstore_n i => Nat.blt (i + 1) n
  | .lreturn => (match rt with | some .long => true | _ => false)
  | .areturn => (match rt with | some (.object _) => true | some (.array _) => true | _ => false)
  | .return_ => (match rt with | none => true | _ => false)
  | _ => true
def ilen : Instr → Nat
  | .bipush _ => 2
  | .ldc _ => 2
  | .iload _ => 2
  | .lload _ => 2
  | .aload _ => 2
  | .istore _ => 2
  | .lstore _ => 2
  | .astore _ => 2
  | .newarray _ => 2
  | .sipush _ => 3
  | .ldc_w _ => 3
  | .ldc2_w _ => 3
  | .iinc _ _ => 3
  | .ifCond _ _ => 3
  | .if_icmp _ _ => 3
  | .if_acmp _ _ => 3
  | .ifnull _ => 3
  | .ifnonnull _ => 3
  | .goto _ => 3
  | .getfield _ => 3
  | .putfield _ => 3
  | .new _ => 3
  | .anewarray _ => 3
  | .checkcast _ => 3
  | .invokestatic _ => 3
  | .invokevirtual _ => 3
  | .invokespecial _ => 3
  | _ => 1
def isSw : Instr → Bool
  | .tableswitch _ _ _ _ => true
  | .lookupswitch _ _ => true
  | _ => false
/-- a final field is put by its own class's constructor alone -/
def ckF (M : Nat) (ins : Instr) (a b : Nat) : Bool := match ins with
  | .putfield _ => !(fT a b).2.2.2 || (Nat.beq (kM M) 2 && Nat.beq a (oM M))
  | .invokevirtual i => (!(Nat.beq b 8) || Nat.beq i 91) && (!(Nat.beq b 9) || Nat.beq i 95)
  | _ => true
def ckE (M : Nat) (e : En) (n : Nat) : Bool := (Nat.beq e.2.1 (ilen e.1) || isSw e.1) && (inL e.1 (rM M) n && ckF M e.1 e.2.2.1 e.2.2.2.1)
noncomputable def res (μ : Bool) (M pc : Nat) (ls st : List Value) (h : Hp) : Option Rs := match prg M pc with
  | none => none
  | some e => bif ckE M e ls.length then exi (kdm μ h) (rpm μ h) (wkm μ) e (rM M) pc ls st h else none
noncomputable def wpN (μ : Bool) : Nat → Nat → Nat → Nat → List Value → List Value → Hp → (Option Value → Hp → Prop) → Prop
  | 0, _, _, _, _, _, _, _ => False
  | n + 1, d, M, pc, ls, st, h, Q => match res μ M pc ls st h with
    | none => False
    | some (.inl (pc', ls', st', h')) => wpN μ n d M pc' ls' st' h' Q
    | some (.inr (.inl r)) => Q r h
    | some (.inr (.inr (M', as, pc', st'))) => match d with
      | 0 => False
      | d' + 1 => wpN μ n d' M' 0 (ent (lM M') as) [] h (fun r h' => wpN μ n (d' + 1) M pc' ls (r.toList ++ st') h' Q)
abbrev Po : Type := Option Value → Hp → Prop
abbrev eqP (r : Option Value) (h : Hp) : Po := fun r1 h1 => r1 = r ∧ h1 = h
theorem wpN_mono {μ : Bool} : ∀ (n : Nat) {d M pc : Nat} {ls st : List Value} {h : Hp} {Q Q' : Po}, (∀ r h, Q r h → Q' r h) → wpN μ n d M pc ls st h Q → wpN μ n d M pc ls st h Q' := by
  intro n
  induction n with
  | zero => intro d M pc ls st h Q Q' _ hw; exact hw
  | succ n ih =>
    intro d M pc ls st h Q Q' hq hw
    unfold wpN at hw ⊢
    cases hr : res μ M pc ls st h with
    | none => rw [hr] at hw; exact hw
    | some x =>
      rw [hr] at hw
      rcases x with ⟨pc', ls', st', h'⟩ | r | ⟨M', as, pc', st'⟩
      · exact ih hq hw
      · exact hq _ _ hw
      · cases d with
        | zero => exact hw
        | succ d' => exact ih (fun r h hw => ih hq hw) hw
theorem wpN_up {μ : Bool} : ∀ (n : Nat) {d M pc : Nat} {ls st : List Value} {h : Hp} {Q : Po}, wpN μ n d M pc ls st h Q → wpN μ (n + 1) d M pc ls st h Q := by
  intro n
  induction n with
  | zero => intro d M pc ls st h Q hw; exact hw.elim
  | succ n ih =>
    intro d M pc ls st h Q hw
    unfold wpN at hw ⊢
    cases hr : res μ M pc ls st h with
    | none => rw [hr] at hw; exact hw
    | some x =>
      rw [hr] at hw
      rcases x with ⟨pc', ls', st', h'⟩ | r | ⟨M', as, pc', st'⟩
      · exact ih hw
      · exact hw
      · cases d with
        | zero => exact hw
        | succ d' => exact wpN_mono (n + 1) (fun r h hw => ih hw) (ih hw)
theorem wpN_le {μ : Bool} {n m : Nat} (hn : n ≤ m) {d M pc : Nat} {ls st : List Value} {h : Hp} {Q : Po} (hw : wpN μ n d M pc ls st h Q) : wpN μ m d M pc ls st h Q := by
  induction hn with
  | refl => exact hw
  | step _ ih => exact wpN_up _ ih
theorem wpN_dep {μ : Bool} : ∀ (n : Nat) {d d2 M pc : Nat} {ls st : List Value} {h : Hp} {Q : Po}, d ≤ d2 → wpN μ n d M pc ls st h Q → wpN μ n d2 M pc ls st h Q := by
  intro n
  induction n with
  | zero => intro d d2 M pc ls st h Q _ hw; exact hw
  | succ n ih =>
    intro d d2 M pc ls st h Q hd hw
    unfold wpN at hw ⊢
    cases hr : res μ M pc ls st h with
    | none => rw [hr] at hw; exact hw
    | some x =>
      rw [hr] at hw
      rcases x with ⟨pc', ls', st', h'⟩ | r | ⟨M', as, pc', st'⟩
      · exact ih hd hw
      · exact hw
      · cases d with
        | zero => exact hw.elim
        | succ d' =>
          cases d2 with
          | zero => omega
          | succ e' => exact wpN_mono n (fun r h hw => ih hd hw) (ih (by omega) hw)
theorem wpN_det {μ : Bool} : ∀ (n : Nat) {d M pc : Nat} {ls st : List Value} {h : Hp} {Q : Po}, wpN μ n d M pc ls st h Q → ∃ r h', Q r h' ∧ wpN μ n d M pc ls st h (eqP r h') := by
  intro n
  induction n with
  | zero => intro d M pc ls st h Q hw; exact hw.elim
  | succ n ih =>
    intro d M pc ls st h Q hw
    unfold wpN at hw
    cases hr : res μ M pc ls st h with
    | none => rw [hr] at hw; exact hw.elim
    | some x =>
      rw [hr] at hw
      rcases x with ⟨pc', ls', st', h'⟩ | r | ⟨M', as, pc', st'⟩
      · obtain ⟨r, h1, a, b⟩ := ih hw
        refine ⟨r, h1, a, ?_⟩
        unfold wpN
        rw [hr]
        exact b
      · refine ⟨r, h, hw, ?_⟩
        unfold wpN
        rw [hr]
        exact ⟨rfl, rfl⟩
      · cases d with
        | zero => exact hw.elim
        | succ d' =>
          obtain ⟨r, h1, a, b⟩ := ih hw
          obtain ⟨r2, h2, a2, b2⟩ := ih a
          refine ⟨r2, h2, a2, ?_⟩
          unfold wpN
          rw [hr]
          exact wpN_mono n (fun r' h' e => by obtain ⟨rfl, rfl⟩ := e; exact b2) b
theorem wpN_and {μ : Bool} : ∀ (n : Nat) {d M pc : Nat} {ls st : List Value} {h : Hp} {Q Q' : Po}, wpN μ n d M pc ls st h Q → wpN μ n d M pc ls st h Q' → wpN μ n d M pc ls st h (fun r h => Q r h ∧ Q' r h) := by
  intro n
  induction n with
  | zero => intro d M pc ls st h Q Q' hw _; exact hw.elim
  | succ n ih =>
    intro d M pc ls st h Q Q' hw hw'
    unfold wpN at hw hw' ⊢
    cases hr : res μ M pc ls st h with
    | none => rw [hr] at hw; exact hw.elim
    | some x =>
      rw [hr] at hw hw'
      rcases x with ⟨pc', ls', st', h'⟩ | r | ⟨M', as, pc', st'⟩
      · exact ih hw hw'
      · exact ⟨hw, hw'⟩
      · cases d with
        | zero => exact hw.elim
        | succ d' => exact wpN_mono n (fun r h e => ih e.1 e.2) (ih hw hw')
def wp (μ : Bool) (d M pc : Nat) (ls st : List Value) (h : Hp) (Q : Po) : Prop := ∃ n, wpN μ n d M pc ls st h Q
def cwp (μ : Bool) (d M : Nat) (as : List Value) (h : Hp) (Q : Po) : Prop := wp μ d M 0 (ent (lM M) as) [] h Q
theorem wp_mono {μ : Bool} {d M pc : Nat} {ls st : List Value} {h : Hp} {Q Q' : Po} (hq : ∀ r h, Q r h → Q' r h) (hw : wp μ d M pc ls st h Q) : wp μ d M pc ls st h Q' := ⟨_, wpN_mono _ hq hw.choose_spec⟩
theorem wp_dep {μ : Bool} {d d2 M pc : Nat} {ls st : List Value} {h : Hp} {Q : Po} (hd : d ≤ d2) (hw : wp μ d M pc ls st h Q) : wp μ d2 M pc ls st h Q := ⟨_, wpN_dep _ hd hw.choose_spec⟩
theorem wp_and {μ : Bool} {d M pc : Nat} {ls st : List Value} {h : Hp} {Q Q' : Po} (hw : wp μ d M pc ls st h Q) (hw' : wp μ d M pc ls st h Q') : wp μ d M pc ls st h (fun r h => Q r h ∧ Q' r h) := by
  obtain ⟨n, a⟩ := hw
  obtain ⟨m, b⟩ := hw'
  exact ⟨n + m, wpN_and _ (wpN_le (by omega) a) (wpN_le (by omega) b)⟩
theorem wp_det {μ : Bool} {d M pc : Nat} {ls st : List Value} {h : Hp} {Q : Po} (hw : wp μ d M pc ls st h Q) : ∃ r h', Q r h' ∧ wp μ d M pc ls st h (eqP r h') := by
  obtain ⟨n, a⟩ := hw
  obtain ⟨r, h', q, b⟩ := wpN_det n a
  exact ⟨r, h', q, n, b⟩
theorem wp_nx {μ : Bool} {d M pc : Nat} {ls st : List Value} {h : Hp} {Q : Po} {pc' : Nat} {ls' st' : List Value} {h' : Hp} (hr : res μ M pc ls st h = some (.inl (pc', ls', st', h'))) : wp μ d M pc ls st h Q = wp μ d M pc' ls' st' h' Q := by
  apply propext
  constructor
  · rintro ⟨n, a⟩
    cases n with
    | zero => exact a.elim
    | succ n => unfold wpN at a; rw [hr] at a; exact ⟨n, a⟩
  · rintro ⟨n, a⟩
    refine ⟨n + 1, ?_⟩
    unfold wpN
    rw [hr]
    exact a
theorem wp_rt {μ : Bool} {d M pc : Nat} {ls st : List Value} {h : Hp} {Q : Po} {r : Option Value} (hr : res μ M pc ls st h = some (.inr (.inl r))) : wp μ d M pc ls st h Q = Q r h := by
  apply propext
  constructor
  · rintro ⟨n, a⟩
    cases n with
    | zero => exact a.elim
    | succ n => unfold wpN at a; rw [hr] at a; exact a
  · intro a
    refine ⟨1, ?_⟩
    unfold wpN
    rw [hr]
    exact a
theorem wp_no {μ : Bool} {d M pc : Nat} {ls st : List Value} {h : Hp} {Q : Po} (hr : res μ M pc ls st h = none) : wp μ d M pc ls st h Q = False := by
  apply propext
  constructor
  · rintro ⟨n, a⟩
    cases n with
    | zero => exact a.elim
    | succ n => unfold wpN at a; rw [hr] at a; exact a
  · exact False.elim
theorem wp_cl {μ : Bool} {d M pc : Nat} {ls st : List Value} {h : Hp} {Q : Po} {M' : Nat} {as : List Value} {pc' : Nat} {st' : List Value} (hr : res μ M pc ls st h = some (.inr (.inr (M', as, pc', st')))) : wp μ (d + 1) M pc ls st h Q = cwp μ d M' as h (fun r h' => wp μ (d + 1) M pc' ls (r.toList ++ st') h' Q) := by
  apply propext
  constructor
  · rintro ⟨n, a⟩
    cases n with
    | zero => exact a.elim
    | succ n =>
      unfold wpN at a
      rw [hr] at a
      exact ⟨n, wpN_mono n (fun r h hw => ⟨n, hw⟩) a⟩
  · rintro ⟨n, a⟩
    obtain ⟨r, h1, ⟨m, b⟩, e⟩ := wpN_det n a
    refine ⟨n + m + 1, ?_⟩
    unfold wpN
    rw [hr]
    refine wpN_le (n := n) (by omega) (wpN_mono n (fun r' h' q => ?_) e)
    obtain ⟨rfl, rfl⟩ := q
    exact wpN_le (by omega) b
/-- a call whose end is known, as an equation -/
theorem cwp_eq {μ : Bool} {d M : Nat} {as : List Value} {h : Hp} {r : Option Value} {h' : Hp} (e : cwp μ d M as h (eqP r h')) (F : Po) : cwp μ d M as h F = F r h' := by
  apply propext
  constructor
  · intro a
    obtain ⟨r1, h1, ⟨⟨e1, e2⟩, q⟩, -⟩ := wp_det (wp_and e a)
    rw [← e1, ← e2]
    exact q
  · intro a
    exact wp_mono (fun r1 h1 q => by obtain ⟨rfl, rfl⟩ := q; exact a) e
