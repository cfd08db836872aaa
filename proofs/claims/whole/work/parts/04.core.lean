/-! the abstract machine: a heap of numbered cells, one step, the weakest precondition of a run -/
abbrev Hp : Type := Nat × Nat × (Nat → Nat × Nat) × (Nat → Nat → Int32) × (Nat → Nat → Int64) × (Nat → Nat → Option Nat)
def hz (h : Hp) : Nat := h.1
def hu (h : Hp) : Nat := h.2.1
def hk (h : Hp) : Nat → Nat × Nat := h.2.2.1
def gI (h : Hp) : Nat → Nat → Int32 := h.2.2.2.1
def gJ (h : Hp) : Nat → Nat → Int64 := h.2.2.2.2.1
def gP (h : Hp) : Nat → Nat → Option Nat := h.2.2.2.2.2
def up2 {α : Type} (f : Nat → Nat → α) (a i : Nat) (v : α) : Nat → Nat → α := fun b j => if b = a ∧ j = i then v else f b j
def up1 {α : Type} (f : Nat → α) (a : Nat) (v : α) : Nat → α := fun b => if b = a then v else f b
def sI (h : Hp) (a i : Nat) (v : Int32) : Hp := (hz h, hu h, hk h, up2 (gI h) a i v, gJ h, gP h)
def sJ (h : Hp) (a i : Nat) (v : Int64) : Hp := (hz h, hu h, hk h, gI h, up2 (gJ h) a i v, gP h)
def sP (h : Hp) (a i : Nat) (v : Option Nat) : Hp := (hz h, hu h, hk h, gI h, gJ h, up2 (gP h) a i v)
def sA (h : Hp) (a : Nat) (f : Nat → Int32) : Hp := (hz h, hu h, hk h, up1 (gI h) a f, gJ h, gP h)
def mkc (h : Hp) (k n : Nat) : Hp := (hz h + 1, hu h + n, up1 (hk h) (hz h) (k, n), up1 (gI h) (hz h) (fun _ => 0), up1 (gJ h) (hz h) (fun _ => 0), up1 (gP h) (hz h) (fun _ => none))
/-- what isn't known of a local -/
abbrev jn : Value := .float 0
def isJ : Value → Bool
  | .float _ => true
  | .double _ => true
  | _ => false
def stl (b : Nat) (ls : List Value) (i : Nat) (v : Value) : List Value := (bif Nat.beq b 1 then ls.set (i - 1) jn else ls).set i v
def cP (c : Jvm.ClassFile.Cond) (x y : Int32) : Prop := match c with
  | .eq => x = y
  | .ne => ¬ x = y
  | .lt => x < y
  | .ge => y ≤ x
  | .gt => y < x
  | .le => x ≤ y
def jt (pc : Nat) (off : Int) : Nat := ((pc : Int) + off).toNat
noncomputable def pif {α : Type} (c : Prop) (a b : α) : α := @ite α c (Classical.propDecidable c) a b
theorem pif_t {α : Type} {c : Prop} {a b : α} (h : c) : pif c a b = a := by unfold pif; rw [if_pos h]
theorem pif_f {α : Type} {c : Prop} {a b : α} (h : ¬ c) : pif c a b = b := by unfold pif; rw [if_neg h]
/-- next, back with an answer, a call -/
abbrev Rs : Type := (Nat × List Value × List Value × Hp) ⊕ (Option Value) ⊕ (Nat × List Value × Nat × List Value)
abbrev nxt (pc : Nat) (ls st : List Value) (h : Hp) : Option Rs := some (.inl (pc, ls, st, h))
abbrev nmsL : List Int32 := [111, 100, 100, 115, 32, 109, 111, 118, 101, 32, 107, 101, 121, 32, 115, 116, 111, 112, 32, 105, 102, 32, 111, 114, 32, 97, 110, 100, 32, 110, 111, 116, 32, 119, 97, 114, 109, 116, 104, 32, 112, 114, 101, 115, 115, 32, 114, 105, 110, 103, 32, 119, 111, 114, 115, 116, 32, 114, 97, 110, 107, 32, 114, 111, 111, 109, 32, 115, 105, 100, 101, 32, 100, 111, 117, 98, 116, 32, 112, 114, 111, 111, 102, 32, 107, 105, 110, 100, 32, 119, 101, 105, 103, 104, 116, 32, 109, 105, 110, 117, 116, 101, 32]
def nms (i : Nat) : Int32 := nmsL.getD i 0
def retOk (rt : Option FieldType) (x : Int32) : Prop := match rt with
  | none => False
  | some .int => True
  | some ty => narrow ty (.int x) = .int x
def argOk (wd : List Nat) : Nat → List Value → Bool
  | _, [] => true
  | i, v :: vs => match v with
    | .int _ => argOk wd (i + 1) vs
    | .ref _ => argOk wd (i + 1) vs
    | .null => argOk wd (i + 1) vs
    | .retAddr _ => argOk wd (i + 1) vs
    | .long _ => wd.contains i && argOk wd (i + 2) vs
    | _ => false
def entL (as : List Value) : List Value := as.flatMap fun v => if v.category = 2 then [v, jn] else [v]
def ent (mL : Nat) (as : List Value) : List Value := entL as ++ List.replicate (mL - (entL as).length) jn
section STEP
variable (kd : Nat → Nat × Nat) (rp : Nat → Nat → Option Nat) (wk : Nat → Nat → Bool)
def xldI (pc : Nat) (ls st : List Value) (h : Hp) (i k : Nat) : Option Rs := match ls[i]? with
  | some (.int x) => nxt (pc + k) ls (.int x :: st) h
  | _ => none
def xldJ (pc : Nat) (ls st : List Value) (h : Hp) (i k : Nat) : Option Rs := match ls[i]? with
  | some (.long x) => nxt (pc + k) ls (.long x :: st) h
  | _ => none
def xldA (pc : Nat) (ls st : List Value) (h : Hp) (i k : Nat) : Option Rs := match ls[i]? with
  | some (.ref a) => nxt (pc + k) ls (.ref a :: st) h
  | some .null => nxt (pc + k) ls (.null :: st) h
  | some (.retAddr j) => nxt (pc + k) ls (.retAddr j :: st) h
  | _ => none
def xstI (pc : Nat) (ls st : List Value) (h : Hp) (b i k : Nat) : Option Rs := match st with
  | .int x :: r => nxt (pc + k) (stl b ls i (.int x)) r h
  | _ => none
def xstJ (pc : Nat) (ls st : List Value) (h : Hp) (b i k : Nat) : Option Rs := match st with
  | .long x :: r => nxt (pc + k) ((stl b ls i (.long x)).set (i + 1) jn) r h
  | _ => none
def xstA (pc : Nat) (ls st : List Value) (h : Hp) (b i k : Nat) : Option Rs := match st with
  | .ref a :: r => nxt (pc + k) (stl b ls i (.ref a)) r h
  | .null :: r => nxt (pc + k) (stl b ls i .null) r h
  | _ => none
def xinc (pc : Nat) (ls st : List Value) (h : Hp) (b i : Nat) (n : Int) : Option Rs := match ls[i]? with
  | some (.int x) => nxt (pc + 3) (stl b ls i (.int (x + Int32.ofInt n))) st h
  | _ => none
def xbin (f : Int32 → Int32 → Int32) (pc : Nat) (ls st : List Value) (h : Hp) : Option Rs := match st with
  | .int y :: .int x :: r => nxt (pc + 1) ls (.int (f x y) :: r) h
  | _ => none
noncomputable def xdiv (f : Int32 → Int32 → Int32) (pc : Nat) (ls st : List Value) (h : Hp) : Option Rs := match st with
  | .int y :: .int x :: r => pif (¬ y = 0) (nxt (pc + 1) ls (.int (f x y) :: r) h) none
  | _ => none
def xun (f : Int32 → Int32) (pc : Nat) (ls st : List Value) (h : Hp) : Option Rs := match st with
  | .int x :: r => nxt (pc + 1) ls (.int (f x) :: r) h
  | _ => none
def xbinJ (f : Int64 → Int64 → Int64) (pc : Nat) (ls st : List Value) (h : Hp) : Option Rs := match st with
  | .long y :: .long x :: r => nxt (pc + 1) ls (.long (f x y) :: r) h
  | _ => none
noncomputable def xdivJ (f : Int64 → Int64 → Int64) (pc : Nat) (ls st : List Value) (h : Hp) : Option Rs := match st with
  | .long y :: .long x :: r => pif (¬ y = 0) (nxt (pc + 1) ls (.long (f x y) :: r) h) none
  | _ => none
def xcmp (pc : Nat) (ls st : List Value) (h : Hp) : Option Rs := match st with
  | .long y :: .long x :: r => nxt (pc + 1) ls (.int (lg_cmp x y) :: r) h
  | _ => none
def xi2l (pc : Nat) (ls st : List Value) (h : Hp) : Option Rs := match st with
  | .int x :: r => nxt (pc + 1) ls (.long x.toInt64 :: r) h
  | _ => none
def xl2i (pc : Nat) (ls st : List Value) (h : Hp) : Option Rs := match st with
  | .long x :: r => nxt (pc + 1) ls (.int x.toInt32 :: r) h
  | _ => none
def xdup (pc : Nat) (ls st : List Value) (h : Hp) : Option Rs := match st with
  | .int x :: r => nxt (pc + 1) ls (.int x :: .int x :: r) h
  | .ref x :: r => nxt (pc + 1) ls (.ref x :: .ref x :: r) h
  | _ => none
def xdup2 (pc : Nat) (ls st : List Value) (h : Hp) : Option Rs := match st with
  | .int y :: .ref x :: r => nxt (pc + 1) ls (.int y :: .ref x :: .int y :: .ref x :: r) h
  | _ => none
def xpop (pc : Nat) (ls st : List Value) (h : Hp) : Option Rs := match st with
  | .int _ :: r => nxt (pc + 1) ls r h
  | .ref _ :: r => nxt (pc + 1) ls r h
  | _ => none
noncomputable def xif (c : Jvm.ClassFile.Cond) (off : Int) (pc : Nat) (ls st : List Value) (h : Hp) : Option Rs := match st with
  | .int x :: r => pif (cP c x 0) (nxt (jt pc off) ls r h) (nxt (pc + 3) ls r h)
  | _ => none
noncomputable def xcmpi (c : Jvm.ClassFile.Cond) (off : Int) (pc : Nat) (ls st : List Value) (h : Hp) : Option Rs := match st with
  | .int y :: .int x :: r => pif (cP c x y) (nxt (jt pc off) ls r h) (nxt (pc + 3) ls r h)
  | _ => none
def xnull (off : Int) (pc : Nat) (ls st : List Value) (h : Hp) : Option Rs := match st with
  | .null :: r => nxt (jt pc off) ls r h
  | .ref _ :: r => nxt (pc + 3) ls r h
  | _ => none
def xnonnull (off : Int) (pc : Nat) (ls st : List Value) (h : Hp) : Option Rs := match st with
  | .null :: r => nxt (pc + 3) ls r h
  | .ref _ :: r => nxt (jt pc off) ls r h
  | _ => none
def rfo : Value → Option (Option Nat)
  | .null => some none
  | .ref a => some (some a)
  | _ => none
noncomputable def xacmp (c : ACond) (off : Int) (pc : Nat) (ls st : List Value) (h : Hp) : Option Rs := match st with
  | vy :: vx :: r => match rfo vy, rfo vx with
    | some ry, some rx => match c with
      | .eq => pif (rx = ry) (nxt (jt pc off) ls r h) (nxt (pc + 3) ls r h)
      | .ne => pif (rx = ry) (nxt (pc + 3) ls r h) (nxt (jt pc off) ls r h)
    | _, _ => none
  | _ => none
noncomputable def xtab (d lo hi : Int) (offs : Array Int) (pc : Nat) (ls st : List Value) (h : Hp) : Option Rs := match st with
  | .int x :: r => pif (x.toInt < lo ∨ hi < x.toInt) (nxt (jt pc d) ls r h) (match offs[(x.toInt - lo).toNat]? with
    | some off => nxt (jt pc off) ls r h
    | none => none)
  | _ => none
def xlook (d : Int) (ps : Array (Int × Int)) (pc : Nat) (ls st : List Value) (h : Hp) : Option Rs := match st with
  | .int x :: r => nxt (jt pc (Op.lookupswitch.offset ps.toList d x.toInt)) ls r h
  | _ => none
noncomputable def xiaload (pc : Nat) (ls st : List Value) (h : Hp) : Option Rs := match st with
  | .int i :: .ref a :: r => pif ((kd a).1 = 20 ∧ vp_in i (kd a).2) (nxt (pc + 1) ls (.int (gI h a i.toNatClampNeg) :: r) h) none
  | .int i :: .retAddr 1 :: r => pif (vp_in i (hk h 0).2) (nxt (pc + 1) ls (.int (gI h 0 i.toNatClampNeg) :: r) h) none
  | _ => none
noncomputable def xbaload (pc : Nat) (ls st : List Value) (h : Hp) : Option Rs := match st with
  | .int i :: .ref a :: r => pif (((kd a).1 = 22 ∨ (kd a).1 = 23) ∧ vp_in i (kd a).2) (nxt (pc + 1) ls (.int (gI h a i.toNatClampNeg) :: r) h) none
  | _ => none
noncomputable def xlaload (pc : Nat) (ls st : List Value) (h : Hp) : Option Rs := match st with
  | .int i :: .ref a :: r => pif ((kd a).1 = 21 ∧ vp_in i (kd a).2) (nxt (pc + 1) ls (.long (gJ h a i.toNatClampNeg) :: r) h) none
  | _ => none
noncomputable def xaaload (pc : Nat) (ls st : List Value) (h : Hp) : Option Rs := match st with
  | .int i :: .ref a :: r => pif ((24 ≤ (kd a).1 ∧ (kd a).1 ≤ 26) ∧ vp_in i (kd a).2) (nxt (pc + 1) ls (va_rf (rp a i.toNatClampNeg) :: r) h) none
  | _ => none
noncomputable def xiastore (pc : Nat) (ls st : List Value) (h : Hp) : Option Rs := match st with
  | .int x :: .int i :: .ref a :: r => pif ((kd a).1 = 20 ∧ vp_in i (kd a).2) (nxt (pc + 1) ls r (sI h a i.toNatClampNeg x)) none
  | _ => none
noncomputable def xbastore (pc : Nat) (ls st : List Value) (h : Hp) : Option Rs := match st with
  | .int x :: .int i :: .ref a :: r => pif (((kd a).1 = 22 ∨ (kd a).1 = 23) ∧ vp_in i (kd a).2) (nxt (pc + 1) ls r (sI h a i.toNatClampNeg (if (kd a).1 = 22 then vp_nar .byte x else vp_nar .boolean x))) none
  | _ => none
noncomputable def xlastore (pc : Nat) (ls st : List Value) (h : Hp) : Option Rs := match st with
  | .long x :: .int i :: .ref a :: r => pif ((kd a).1 = 21 ∧ vp_in i (kd a).2) (nxt (pc + 1) ls r (sJ h a i.toNatClampNeg x)) none
  | _ => none
/-- the class of the elements of an array of references -/
def elc (k : Nat) : Nat := if k = 24 then 7 else if k = 25 then 9 else 4
noncomputable def xaastore (pc : Nat) (ls st : List Value) (h : Hp) : Option Rs := match st with
  | .ref x :: .int i :: .ref a :: r => pif ((24 ≤ (kd a).1 ∧ (kd a).1 ≤ 26) ∧ vp_in i (kd a).2 ∧ (kd x).1 = elc (kd a).1 ∧ wk a i.toNatClampNeg = true) (nxt (pc + 1) ls r (sP h a i.toNatClampNeg (some x))) none
  | .null :: .int i :: .ref a :: r => pif ((24 ≤ (kd a).1 ∧ (kd a).1 ≤ 26) ∧ vp_in i (kd a).2 ∧ wk a i.toNatClampNeg = true) (nxt (pc + 1) ls r (sP h a i.toNatClampNeg none)) none
  | _ => none
noncomputable def xalen (pc : Nat) (ls st : List Value) (h : Hp) : Option Rs := match st with
  | .ref a :: r => pif (20 ≤ (kd a).1 ∧ (kd a).1 ≤ 26) (nxt (pc + 1) ls (.int (Int32.ofNat (kd a).2) :: r) h) none
  | .retAddr 1 :: r => nxt (pc + 1) ls (.int (Int32.ofNat (hk h 0).2) :: r) h
  | _ => none
/-- a field of type 0 int, 1 boolean, 2 long, 3 a reference -/
def rdf (h : Hp) (t a k : Nat) : Value := if t ≤ 1 then .int (gI h a k) else if t = 2 then .long (gJ h a k) else va_rf (rp a k)
noncomputable def xget (c k t : Nat) (pc : Nat) (ls st : List Value) (h : Hp) : Option Rs := match st with
  | .ref a :: r => pif ((kd a).1 = c) (nxt (pc + 3) ls (rdf rp h t a k :: r) h) none
  | _ => none
noncomputable def xput (c k t : Nat) (pc : Nat) (ls st : List Value) (h : Hp) : Option Rs := match st with
  | .int x :: .ref a :: r => pif ((kd a).1 = c ∧ (t = 0 ∨ (t = 1 ∧ (x = 0 ∨ x = 1)))) (nxt (pc + 3) ls r (sI h a k x)) none
  | .long x :: .ref a :: r => pif ((kd a).1 = c ∧ t = 2) (nxt (pc + 3) ls r (sJ h a k x)) none
  | .ref x :: .ref a :: r => pif ((kd a).1 = c ∧ t = 3 ∧ wk a k = true) (nxt (pc + 3) ls r (sP h a k (some x))) none
  | .null :: .ref a :: r => pif ((kd a).1 = c ∧ t = 3 ∧ wk a k = true) (nxt (pc + 3) ls r (sP h a k none)) none
  | _ => none
noncomputable def xnewa (k : Nat) (pc n2 : Nat) (ls st : List Value) (h : Hp) : Option Rs := match st with
  | .int n :: r => pif (¬ n < 0 ∧ n.toNatClampNeg ≤ 1000000) (nxt (pc + n2) ls (.ref (hz h) :: r) (mkc h k n.toNatClampNeg)) none
  | _ => none
noncomputable def xcopy (pc : Nat) (ls st : List Value) (h : Hp) : Option Rs := match st with
  | .int n :: .int dp :: .ref a :: .int sp :: .ref a0 :: r => pif (((kd a).1 = 20 ∧ (kd a0).1 = 20) ∧ (¬ sp < 0 ∧ ¬ dp < 0 ∧ ¬ n < 0) ∧ sp.toNatClampNeg + n.toNatClampNeg ≤ (kd a0).2 ∧ dp.toNatClampNeg + n.toNatClampNeg ≤ (kd a).2 ∧ r = []) (nxt (pc + 3) ls r (sA h a (va_cpy (gI h a0) (gI h a) sp.toNatClampNeg dp.toNatClampNeg n.toNatClampNeg))) none
  | _ => none
noncomputable def xclone (pc : Nat) (ls st : List Value) (h : Hp) : Option Rs := match st with
  | .ref a :: r => pif ((kd a).1 = 20 ∧ r = []) (nxt (pc + 3) ls (.ref (hz h) :: r) (sA (mkc h 20 (kd a).2) (hz h) (gI h a))) none
  | _ => none
noncomputable def xcast (pc : Nat) (ls st : List Value) (h : Hp) : Option Rs := match st with
  | .ref a :: r => pif ((kd a).1 = 20) (nxt (pc + 3) ls (.ref a :: r) h) none
  | _ => none
def xslen (pc : Nat) (ls st : List Value) (h : Hp) : Option Rs := match st with
  | [.retAddr 0, .int x] => nxt (pc + 3) ls [.int 103, .int x] h
  | _ => none
noncomputable def xschar (pc : Nat) (ls st : List Value) (h : Hp) : Option Rs := match st with
  | [.int i, .retAddr 0] => pif (vp_in i 103) (nxt (pc + 3) ls [.int (nms i.toNatClampNeg)] h) none
  | _ => none
noncomputable def xmm (f : Int32 → Int32 → Int32) (pc : Nat) (ls st : List Value) (h : Hp) : Option Rs := match st with
  | .int y :: .int x :: r => pif ((r.map fun v => v.category).sum ≤ 8) (nxt (pc + 3) ls (.int (f x y) :: r) h) none
  | _ => none
/-- a call of M' with t things on the stack, the receiver among them if there is one -/
noncomputable def xcall (a b t : Nat) (pc : Nat) (st : List Value) : Option Rs :=
  pif (t ≤ st.length ∧ (((st.drop t).map fun v => v.category).sum ≤ 8 ∧ argOk (wM a) 0 (st.take t).reverse = true ∧ (entL (st.take t).reverse).length ≤ lM a) ∧ (b = 2 → ∃ x, (st.take t).reverse.head? = some (.ref x) ∧ (kd x).1 = oM a) ∧ (3 ≤ b → ∃ x, (st.take t).reverse.head? = some (.ref x))) (some (.inr (.inr (a, (st.take t).reverse, pc + 3, st.drop t)))) none
noncomputable def xinv (a b t : Nat) (pc : Nat) (ls st : List Value) (h : Hp) : Option Rs :=
  if b ≤ 4 then xcall kd a b t pc st
  else if b = 5 then (match st with
    | .ref _ :: r => pif (r = []) (nxt (pc + 3) ls r h) none
    | _ => none)
  else if b = 6 then xcopy kd pc ls st h
  else if b = 7 then xclone kd pc ls st h
  else if b = 8 then xslen pc ls st h
  else if b = 9 then xschar pc ls st h
  else if b = 10 then xmm (fun x y => if x < y then y else x) pc ls st h
  else xmm (fun x y => if y < x then y else x) pc ls st h
noncomputable def xireturn (rt : Option FieldType) (st : List Value) : Option Rs := match st with
  | [.int x] => pif (retOk rt x) (some (.inr (.inl (some (.int x))))) none
  | _ => none
def xlreturn (st : List Value) : Option Rs := match st with
  | [.long x] => some (.inr (.inl (some (.long x))))
  | _ => none
def xareturn (st : List Value) : Option Rs := match st with
  | [.ref a] => some (.inr (.inl (some (.ref a))))
  | [.null] => some (.inr (.inl (some .null)))
  | _ => none
def xreturn (st : List Value) : Option Rs := match st with
  | [] => some (.inr (.inl none))
  | _ => none
noncomputable def exi (e : En) (rt : Option FieldType) (pc : Nat) (ls st : List Value) (h : Hp) : Option Rs := match e with
  | (ins, _, a, b, t, _, v) => match ins with
    | .aconst_null => nxt (pc + 1) ls (.null :: st) h
    | .iconst n => nxt (pc + 1) ls (.int (Int32.ofInt n) :: st) h
    | .bipush n => nxt (pc + 2) ls (.int (Int8.ofInt n).toInt32 :: st) h
    | .sipush n => nxt (pc + 3) ls (.int (Int16.ofInt n).toInt32 :: st) h
    | .lconst n => nxt (pc + 1) ls (.long (Int64.ofNat n) :: st) h
    | .ldc _ => if b = 1 then nxt (pc + 2) ls (.retAddr 0 :: st) h else nxt (pc + 2) ls (.int (Int32.ofInt v) :: st) h
    | .ldc_w _ => nxt (pc + 3) ls (.int (Int32.ofInt v) :: st) h
    | .ldc2_w _ => nxt (pc + 3) ls (.long (Int64.ofInt v) :: st) h
    | .iload i => xldI pc ls st h i 2
    | .iload_n i => xldI pc ls st h i 1
    | .lload i => xldJ pc ls st h i 2
    | .lload_n i => xldJ pc ls st h i 1
    | .aload i => xldA pc ls st h i 2
    | .aload_n i => xldA pc ls st h i 1
    | .istore i => xstI pc ls st h b i 2
    | .istore_n i => xstI pc ls st h b i 1
    | .lstore i => xstJ pc ls st h b i 2
    | .lstore_n i => xstJ pc ls st h b i 1
    | .astore i => xstA pc ls st h b i 2
    | .astore_n i => xstA pc ls st h b i 1
    | .iinc i n => xinc pc ls st h b i n
    | .iadd => xbin (fun x y => x + y) pc ls st h
    | .isub => xbin (fun x y => x - y) pc ls st h
    | .imul => xbin (fun x y => x * y) pc ls st h
    | .iand => xbin (fun x y => x &&& y) pc ls st h
    | .ior => xbin (fun x y => x ||| y) pc ls st h
    | .ixor => xbin (fun x y => x ^^^ y) pc ls st h
    | .ishl => xbin (fun x y => x <<< (y &&& 31)) pc ls st h
    | .ishr => xbin (fun x y => x >>> (y &&& 31)) pc ls st h
    | .iushr => xbin (fun x y => (x.toUInt32 >>> (y.toUInt32 &&& Int32.toUInt32 31)).toInt32) pc ls st h
    | .idiv => xdiv (fun x y => x / y) pc ls st h
    | .irem => xdiv (fun x y => x - x / y * y) pc ls st h
    | .ineg => xun (fun x => -x) pc ls st h
    | .i2b => xun (fun x => x.toInt8.toInt32) pc ls st h
    | .ladd => xbinJ (fun x y => x + y) pc ls st h
    | .lsub => xbinJ (fun x y => x - y) pc ls st h
    | .lmul => xbinJ (fun x y => x * y) pc ls st h
    | .ldiv => xdivJ (fun x y => x / y) pc ls st h
    | .lrem => xdivJ (fun x y => x - x / y * y) pc ls st h
    | .lcmp => xcmp pc ls st h
    | .i2l => xi2l pc ls st h
    | .l2i => xl2i pc ls st h
    | .dup => xdup pc ls st h
    | .dup2 => xdup2 pc ls st h
    | .pop => xpop pc ls st h
    | .ifCond c off => xif c off pc ls st h
    | .if_icmp c off => xcmpi c off pc ls st h
    | .ifnull off => xnull off pc ls st h
    | .ifnonnull off => xnonnull off pc ls st h
    | .if_acmp c off => xacmp c off pc ls st h
    | .goto off => nxt (jt pc off) ls st h
    | .tableswitch d lo hi offs => xtab d lo hi offs pc ls st h
    | .lookupswitch d ps => xlook d ps pc ls st h
    | .iaload => xiaload kd pc ls st h
    | .baload => xbaload kd pc ls st h
    | .laload => xlaload kd pc ls st h
    | .aaload => xaaload kd rp pc ls st h
    | .iastore => xiastore kd pc ls st h
    | .bastore => xbastore kd pc ls st h
    | .lastore => xlastore kd pc ls st h
    | .aastore => xaastore kd wk pc ls st h
    | .arraylength => xalen kd pc ls st h
    | .getfield _ => xget kd rp a b t pc ls st h
    | .putfield _ => xput kd wk a b t pc ls st h
    | .new _ => nxt (pc + 3) ls (.ref (hz h) :: st) (mkc h a b)
    | .newarray _ => xnewa a pc 2 ls st h
    | .anewarray _ => xnewa a pc 3 ls st h
    | .checkcast _ => xcast kd pc ls st h
    | .invokestatic _ => xinv kd a b t pc ls st h
    | .invokevirtual _ => xinv kd a b t pc ls st h
    | .invokespecial _ => xinv kd a b t pc ls st h
    | .ireturn => xireturn rt st
    | .lreturn => xlreturn st
    | .areturn => xareturn st
    | .return_ => xreturn st
    | _ => none
end STEP
