/-! the two objects are made: runs without branches, reckoned over a list of cells -/
abbrev Cl : Type := Nat × Nat × List (Nat × Int32) × List (Nat × Option Nat)
def gtC : List Cl → Nat → Option Cl
  | [], _ => none
  | c :: r, k => match k with
    | 0 => some c
    | k + 1 => gtC r k
def adC (l : List Cl) (a : Nat) : Option Cl := match a with
  | 0 => none
  | k + 1 => gtC l k
def lkI : List (Nat × Int32) → Nat → Int32
  | [], _ => 0
  | (j, v) :: r, i => bif Nat.beq i j then v else lkI r i
def lkP : List (Nat × Option Nat) → Nat → Option Nat
  | [], _ => none
  | (j, v) :: r, i => bif Nat.beq i j then v else lkP r i
def upC : List Cl → Nat → (Cl → Cl) → List Cl
  | [], _, _ => []
  | c :: r, k, f => match k with
    | 0 => f c :: r
    | k + 1 => c :: upC r k f
def udC (l : List Cl) (a : Nat) (f : Cl → Cl) : List Cl := match a with
  | 0 => l
  | k + 1 => upC l k f
def smC : List Cl → Nat
  | [] => 0
  | c :: r => c.2.1 + smC r
def ptI (i : Nat) (v : Int32) (c : Cl) : Cl := (c.1, c.2.1, (i, v) :: c.2.2.1, c.2.2.2)
def ptP (i : Nat) (v : Option Nat) (c : Cl) : Cl := (c.1, c.2.1, c.2.2.1, (i, v) :: c.2.2.2)
def hpC (h0 : Hp) (l : List Cl) : Hp := (l.length + 1, hu h0 + smC l, (fun a => match adC l a with
    | some c => (c.1, c.2.1)
    | none => hk h0 a), (fun a => match adC l a with
    | some c => lkI c.2.2.1
    | none => gI h0 a), (fun a => match adC l a with
    | some _ => fun _ => 0
    | none => gJ h0 a), (fun a => match adC l a with
    | some c => lkP c.2.2.2
    | none => gP h0 a))
theorem gtC_ap (c : Cl) : ∀ (l : List Cl) (k : Nat), gtC (l ++ [c]) k = if k = l.length then some c else gtC l k := by
  intro l
  induction l with
  | nil =>
    intro k
    cases k with
    | zero => rfl
    | succ k => rw [if_neg (by simp)]; rfl
  | cons x r ih =>
    intro k
    cases k with
    | zero => rw [if_neg (by simp)]; rfl
    | succ k =>
      show gtC (r ++ [c]) k = if k + 1 = r.length + 1 then some c else gtC r k
      rw [ih k]
      by_cases q : k = r.length
      · rw [if_pos q, if_pos (by omega)]
      · rw [if_neg q, if_neg (by omega)]
theorem adC_ap (c : Cl) (l : List Cl) (a : Nat) : adC (l ++ [c]) a = if a = l.length + 1 then some c else adC l a := by
  cases a with
  | zero => rw [if_neg (by omega)]; rfl
  | succ k =>
    show gtC (l ++ [c]) k = if k + 1 = l.length + 1 then some c else gtC l k
    rw [gtC_ap]
    by_cases q : k = l.length
    · rw [if_pos q, if_pos (by omega)]
    · rw [if_neg q, if_neg (by omega)]
theorem gtC_up (f : Cl → Cl) : ∀ (l : List Cl) (k j : Nat), gtC (upC l k f) j = if j = k then (gtC l k).map f else gtC l j := by
  intro l
  induction l with
  | nil => intro k j; show none = _; split <;> rfl
  | cons x r ih =>
    intro k j
    cases k with
    | zero =>
      cases j with
      | zero => rfl
      | succ j => rw [if_neg (by omega)]; rfl
    | succ k =>
      cases j with
      | zero => rw [if_neg (by omega)]; rfl
      | succ j =>
        show gtC (upC r k f) j = if j + 1 = k + 1 then (gtC r k).map f else gtC r j
        rw [ih k j]
        by_cases q : j = k
        · rw [if_pos q, if_pos (by omega)]
        · rw [if_neg q, if_neg (by omega)]
theorem adC_up (f : Cl → Cl) (l : List Cl) (a b : Nat) : adC (udC l a f) b = if b = a then (adC l a).map f else adC l b := by
  cases a with
  | zero =>
    show adC l b = _
    split
    · next q => subst q; rfl
    · rfl
  | succ k =>
    cases b with
    | zero => rw [if_neg (by omega)]; rfl
    | succ j =>
      show gtC (upC l k f) j = if j + 1 = k + 1 then (gtC l k).map f else gtC l j
      rw [gtC_up]
      by_cases q : j = k
      · rw [if_pos q, if_pos (by omega)]
      · rw [if_neg q, if_neg (by omega)]
theorem upC_len (f : Cl → Cl) : ∀ (l : List Cl) (k : Nat), (upC l k f).length = l.length := by
  intro l
  induction l with
  | nil => intro k; rfl
  | cons x r ih =>
    intro k
    cases k with
    | zero => rfl
    | succ k => show (upC r k f).length + 1 = r.length + 1; rw [ih k]
theorem udC_len (f : Cl → Cl) (l : List Cl) (a : Nat) : (udC l a f).length = l.length := by
  cases a with
  | zero => rfl
  | succ k => exact upC_len f l k
theorem upC_sm (f : Cl → Cl) (hf : ∀ c, (f c).2.1 = c.2.1) : ∀ (l : List Cl) (k : Nat), smC (upC l k f) = smC l := by
  intro l
  induction l with
  | nil => intro k; rfl
  | cons x r ih =>
    intro k
    cases k with
    | zero => show (f x).2.1 + smC r = x.2.1 + smC r; rw [hf]
    | succ k => show x.2.1 + smC (upC r k f) = x.2.1 + smC r; rw [ih k]
theorem udC_sm (f : Cl → Cl) (hf : ∀ c, (f c).2.1 = c.2.1) (l : List Cl) (a : Nat) : smC (udC l a f) = smC l := by
  cases a with
  | zero => rfl
  | succ k => exact upC_sm f hf l k
theorem smC_ap (c : Cl) : ∀ l : List Cl, smC (l ++ [c]) = smC l + c.2.1 := by
  intro l
  induction l with
  | nil => show c.2.1 + 0 = 0 + c.2.1; omega
  | cons x r ih => show x.2.1 + smC (r ++ [c]) = x.2.1 + smC r + c.2.1; rw [ih]; omega
section HC
variable {h0 : Hp} {l : List Cl} {a : Nat} {c : Cl}
theorem hpC_k (e : adC l a = some c) : hk (hpC h0 l) a = (c.1, c.2.1) := by
  show (match adC l a with | some c => (c.1, c.2.1) | none => hk h0 a) = _
  rw [e]
theorem hpC_p (e : adC l a = some c) : gP (hpC h0 l) a = lkP c.2.2.2 := by
  show (match adC l a with | some c => lkP c.2.2.2 | none => gP h0 a) = _
  rw [e]
theorem hpC_i (e : adC l a = some c) : gI (hpC h0 l) a = lkI c.2.2.1 := by
  show (match adC l a with | some c => lkI c.2.2.1 | none => gI h0 a) = _
  rw [e]
theorem hpC_mk (k n : Nat) : mkc (hpC h0 l) k n = hpC h0 (l ++ [(k, n, [], [])]) := by
  have hl : (l ++ [((k, n, [], []) : Cl)]).length = l.length + 1 := by simp
  refine Prod.ext ?_ (Prod.ext ?_ (Prod.ext ?_ (Prod.ext ?_ (Prod.ext ?_ ?_))))
  · show l.length + 1 + 1 = (l ++ [((k, n, [], []) : Cl)]).length + 1
    rw [hl]
  · show hu h0 + smC l + n = hu h0 + smC (l ++ [((k, n, [], []) : Cl)])
    rw [smC_ap]; show _ = hu h0 + (smC l + n); omega
  · funext b
    show up1 (hk (hpC h0 l)) (l.length + 1) (k, n) b = (match adC (l ++ [((k, n, [], []) : Cl)]) b with | some c => (c.1, c.2.1) | none => hk h0 b)
    rw [adC_ap]
    unfold up1
    split <;> rfl
  · funext b
    show up1 (gI (hpC h0 l)) (l.length + 1) (fun _ => 0) b = (match adC (l ++ [((k, n, [], []) : Cl)]) b with | some c => lkI c.2.2.1 | none => gI h0 b)
    rw [adC_ap]
    unfold up1
    split <;> rfl
  · funext b
    show up1 (gJ (hpC h0 l)) (l.length + 1) (fun _ => 0) b = (match adC (l ++ [((k, n, [], []) : Cl)]) b with | some _ => fun _ => 0 | none => gJ h0 b)
    rw [adC_ap]
    unfold up1
    split <;> rfl
  · funext b
    show up1 (gP (hpC h0 l)) (l.length + 1) (fun _ => none) b = (match adC (l ++ [((k, n, [], []) : Cl)]) b with | some c => lkP c.2.2.2 | none => gP h0 b)
    rw [adC_ap]
    unfold up1
    split <;> rfl
theorem hpC_sI (e : adC l a = some c) (i : Nat) (v : Int32) : sI (hpC h0 l) a i v = hpC h0 (udC l a (ptI i v)) := by
  refine Prod.ext ?_ (Prod.ext ?_ (Prod.ext ?_ (Prod.ext ?_ (Prod.ext ?_ ?_))))
  · show l.length + 1 = (udC l a (ptI i v)).length + 1
    rw [udC_len]
  · show hu h0 + smC l = hu h0 + smC (udC l a (ptI i v))
    rw [udC_sm (ptI i v) (fun _ => rfl)]
  · funext b
    show hk (hpC h0 l) b = (match adC (udC l a (ptI i v)) b with | some c => (c.1, c.2.1) | none => hk h0 b)
    rw [adC_up]
    by_cases q : b = a
    · rw [if_pos q]; subst q; rw [e, hpC_k e]; rfl
    · rw [if_neg q]; rfl
  · funext b
    show up2 (gI (hpC h0 l)) a i v b = (match adC (udC l a (ptI i v)) b with | some c => lkI c.2.2.1 | none => gI h0 b)
    rw [adC_up]
    unfold up2
    by_cases q : b = a
    · subst q
      rw [if_pos rfl, e, hpC_i e]
      funext j
      show (if b = b ∧ j = i then v else lkI c.2.2.1 j) = (bif Nat.beq j i then v else lkI c.2.2.1 j)
      by_cases q : j = i
      · subst q; rw [if_pos ⟨rfl, rfl⟩, Nat.beq_refl]; rfl
      · rw [if_neg (fun z => q z.2)]
        cases hb : Nat.beq j i with
        | true => exact absurd (Nat.eq_of_beq_eq_true hb) q
        | false => rfl
    · rw [if_neg q]
      funext j
      rw [if_neg (fun z => q z.1)]
      rfl
  · funext b
    show gJ (hpC h0 l) b = (match adC (udC l a (ptI i v)) b with | some _ => fun _ => 0 | none => gJ h0 b)
    rw [adC_up]
    by_cases q : b = a
    · rw [if_pos q]
      subst q
      rw [e]
      show (match adC l b with | some _ => fun _ => 0 | none => gJ h0 b) = _
      rw [e]
      rfl
    · rw [if_neg q]; rfl
  · funext b
    show gP (hpC h0 l) b = (match adC (udC l a (ptI i v)) b with | some c => lkP c.2.2.2 | none => gP h0 b)
    rw [adC_up]
    by_cases q : b = a
    · rw [if_pos q]; subst q; rw [e, hpC_p e]; rfl
    · rw [if_neg q]; rfl
theorem hpC_sP (e : adC l a = some c) (i : Nat) (v : Option Nat) : sP (hpC h0 l) a i v = hpC h0 (udC l a (ptP i v)) := by
  refine Prod.ext ?_ (Prod.ext ?_ (Prod.ext ?_ (Prod.ext ?_ (Prod.ext ?_ ?_))))
  · show l.length + 1 = (udC l a (ptP i v)).length + 1
    rw [udC_len]
  · show hu h0 + smC l = hu h0 + smC (udC l a (ptP i v))
    rw [udC_sm (ptP i v) (fun _ => rfl)]
  · funext b
    show hk (hpC h0 l) b = (match adC (udC l a (ptP i v)) b with | some c => (c.1, c.2.1) | none => hk h0 b)
    rw [adC_up]
    by_cases q : b = a
    · rw [if_pos q]; subst q; rw [e, hpC_k e]; rfl
    · rw [if_neg q]; rfl
  · funext b
    show gI (hpC h0 l) b = (match adC (udC l a (ptP i v)) b with | some c => lkI c.2.2.1 | none => gI h0 b)
    rw [adC_up]
    by_cases q : b = a
    · rw [if_pos q]; subst q; rw [e, hpC_i e]; rfl
    · rw [if_neg q]; rfl
  · funext b
    show gJ (hpC h0 l) b = (match adC (udC l a (ptP i v)) b with | some _ => fun _ => 0 | none => gJ h0 b)
    rw [adC_up]
    by_cases q : b = a
    · rw [if_pos q]
      subst q
      rw [e]
      show (match adC l b with | some _ => fun _ => 0 | none => gJ h0 b) = _
      rw [e]
      rfl
    · rw [if_neg q]; rfl
  · funext b
    show up2 (gP (hpC h0 l)) a i v b = (match adC (udC l a (ptP i v)) b with | some c => lkP c.2.2.2 | none => gP h0 b)
    rw [adC_up]
    unfold up2
    by_cases q : b = a
    · subst q
      rw [if_pos rfl, e, hpC_p e]
      funext j
      show (if b = b ∧ j = i then v else lkP c.2.2.2 j) = (bif Nat.beq j i then v else lkP c.2.2.2 j)
      by_cases q : j = i
      · subst q; rw [if_pos ⟨rfl, rfl⟩, Nat.beq_refl]; rfl
      · rw [if_neg (fun z => q z.2)]
        cases hb : Nat.beq j i with
        | true => exact absurd (Nat.eq_of_beq_eq_true hb) q
        | false => rfl
    · rw [if_neg q]
      funext j
      rw [if_neg (fun z => q z.1)]
      rfl
end HC
abbrev Cs : Type := (Nat × List Value × List Value × List Cl) ⊕ Unit ⊕ (Nat × List Value × Nat × List Value)
abbrev nxC (pc : Nat) (ls st : List Value) (l : List Cl) : Option Cs := some (.inl (pc, ls, st, l))
def isR : Option Value → Bool
  | some (.ref _) => true
  | _ => false
def clC (a b t pc : Nat) (st : List Value) : Option Cs :=
  bif Nat.ble t st.length && (Nat.ble ((st.drop t).map fun v => v.category).sum 8 && (argOk (wM a) 0 (st.take t).reverse && (Nat.ble (entL (st.take t).reverse).length (lM a) && (!(Nat.beq b 2) && isR (st.take t).reverse.head?)))) then some (.inr (.inr (a, (st.take t).reverse, pc + 3, st.drop t))) else none
def cAld (i pc : Nat) (ls st : List Value) (l : List Cl) : Option Cs := match ls[i]? with
  | some (.ref x) => nxC (pc + 1) ls (.ref x :: st) l
  | _ => none
def cDup (pc : Nat) (ls st : List Value) (l : List Cl) : Option Cs := match st with
  | .ref x :: r => nxC (pc + 1) ls (.ref x :: .ref x :: r) l
  | _ => none
def cGet (a b t pc : Nat) (ls st : List Value) (l : List Cl) : Option Cs := match st with
  | .ref x :: r => (match adC l x with
    | some c => bif Nat.beq c.1 a && Nat.beq t 3 then nxC (pc + 3) ls (va_rf (lkP c.2.2.2 b) :: r) l else none
    | none => none)
  | _ => none
def cPut (a b t pc : Nat) (ls st : List Value) (l : List Cl) : Option Cs := match st with
  | .int x :: .ref o :: r => (match adC l o with
    | some c => bif Nat.beq c.1 a && (Nat.beq t 0 || (Nat.beq t 1 && (decide (x = 0) || decide (x = 1)))) then nxC (pc + 3) ls r (udC l o (ptI b x)) else none
    | none => none)
  | .ref x :: .ref o :: r => (match adC l o with
    | some c => bif Nat.beq c.1 a && Nat.beq t 3 then nxC (pc + 3) ls r (udC l o (ptP b (some x))) else none
    | none => none)
  | .null :: .ref o :: r => (match adC l o with
    | some c => bif Nat.beq c.1 a && Nat.beq t 3 then nxC (pc + 3) ls r (udC l o (ptP b none)) else none
    | none => none)
  | _ => none
def cNew (a k pc : Nat) (ls st : List Value) (l : List Cl) : Option Cs := match st with
  | .int n :: r => bif decide (¬ n < 0 ∧ n.toNatClampNeg ≤ 1000000) then nxC (pc + k) ls (.ref (l.length + 1) :: r) (l ++ [(a, n.toNatClampNeg, [], [])]) else none
  | _ => none
def cIst (pc : Nat) (ls st : List Value) (l : List Cl) : Option Cs := match st with
  | .int x :: .int i :: .ref o :: r => (match adC l o with
    | some c => bif Nat.beq c.1 20 && decide (¬ (i < 0 ∨ c.2.1 ≤ i.toNatClampNeg)) then nxC (pc + 1) ls r (udC l o (ptI i.toNatClampNeg x)) else none
    | none => none)
  | _ => none
def cBst (pc : Nat) (ls st : List Value) (l : List Cl) : Option Cs := match st with
  | .int x :: .int i :: .ref o :: r => (match adC l o with
    | some c => bif Nat.beq c.1 22 && decide (¬ (i < 0 ∨ c.2.1 ≤ i.toNatClampNeg)) then nxC (pc + 1) ls r (udC l o (ptI i.toNatClampNeg (vp_nar .byte x))) else none
    | none => none)
  | _ => none
def cAst (pc : Nat) (ls st : List Value) (l : List Cl) : Option Cs := match st with
  | .ref x :: .int i :: .ref o :: r => (match adC l o, adC l x with
    | some c, some cx => bif (Nat.ble 24 c.1 && Nat.ble c.1 26) && (decide (¬ (i < 0 ∨ c.2.1 ≤ i.toNatClampNeg)) && Nat.beq cx.1 (elc c.1)) then nxC (pc + 1) ls r (udC l o (ptP i.toNatClampNeg (some x))) else none
    | _, _ => none)
  | _ => none
def cObj (pc : Nat) (ls st : List Value) (l : List Cl) : Option Cs := match st with
  | [.ref _] => nxC (pc + 3) ls [] l
  | _ => none
def cInv (a b t pc : Nat) (ls st : List Value) (l : List Cl) : Option Cs := if b = 5 then cObj pc ls st l else if b ≤ 4 then clC a b t pc st else none
def cRet (st : List Value) : Option Cs := match st with
  | [] => some (.inr (.inl ()))
  | _ => none
def cst (e : En) (pc : Nat) (ls st : List Value) (l : List Cl) : Option Cs := match e with
  | (ins, _, a, b, t, _, v) => match ins with
    | .aconst_null => nxC (pc + 1) ls (.null :: st) l
    | .iconst n => nxC (pc + 1) ls (.int (Int32.ofInt n) :: st) l
    | .bipush n => nxC (pc + 2) ls (.int (Int8.ofInt n).toInt32 :: st) l
    | .sipush n => nxC (pc + 3) ls (.int (Int16.ofInt n).toInt32 :: st) l
    | .ldc _ => if b = 1 then none else nxC (pc + 2) ls (.int (Int32.ofInt v) :: st) l
    | .aload_n i => cAld i pc ls st l
    | .dup => cDup pc ls st l
    | .getfield _ => cGet a b t pc ls st l
    | .putfield _ => cPut a b t pc ls st l
    | .new _ => nxC (pc + 3) ls (.ref (l.length + 1) :: st) (l ++ [(a, b, [], [])])
    | .newarray _ => cNew a 2 pc ls st l
    | .anewarray _ => cNew a 3 pc ls st l
    | .iastore => cIst pc ls st l
    | .bastore => cBst pc ls st l
    | .aastore => cAst pc ls st l
    | .invokespecial _ => cInv a b t pc ls st l
    | .return_ => cRet st
    | _ => none
def rsC (h0 : Hp) (y : Cs) : Rs := match y with
  | .inl (pc, ls, st, l) => .inl (pc, ls, st, hpC h0 l)
  | .inr (.inl _) => .inr (.inl none)
  | .inr (.inr z) => .inr (.inr z)
theorem bfs {α : Type} {b : Bool} {x : α} {y : Option α} (q : (bif b then y else none) = some x) : b = true ∧ y = some x := by
  cases b with
  | false => cases q
  | true => exact ⟨rfl, q⟩
theorem vin {i : Int32} {n : Nat} (q : decide (¬ (i < 0 ∨ n ≤ i.toNatClampNeg)) = true) : vp_in i n := show ¬ (i < 0 ∨ n ≤ i.toNatClampNeg) from of_decide_eq_true q
theorem beqT {a b : Nat} (h : Nat.beq a b = true) : a = b := Nat.eq_of_beq_eq_true h
section CO
variable {h0 : Hp} {e : En} {rt : Option FieldType} {pc : Nat} {ls st : List Value} {l : List Cl} {y : Cs}
theorem clC_ok {a b t : Nat} (q : clC a b t pc st = some y) : xcall (hk (hpC h0 l)) a b t pc st = some (rsC h0 y) := by
  unfold clC at q
  obtain ⟨q1, q2⟩ := bfs q
  cases q2
  simp only [Bool.and_eq_true] at q1
  obtain ⟨a1, a2, a3, a4, a5, a6⟩ := q1
  have h6 : ∃ x, (st.take t).reverse.head? = some (.ref x) := by
    revert a6
    cases (st.take t).reverse.head? with
    | none => intro z; cases z
    | some w => cases w <;> intro z <;> first | exact ⟨_, rfl⟩ | cases z
  have h5 : b ≠ 2 := by
    intro z
    subst z
    cases a5
  unfold xcall
  rw [pif_t ⟨Nat.le_of_ble_eq_true a1, ⟨Nat.le_of_ble_eq_true a2, a3, Nat.le_of_ble_eq_true a4⟩, fun z => absurd z h5, fun _ => h6⟩]
  rfl
theorem cAld_ok {i : Nat} (q : cAld i pc ls st l = some y) : xldA pc ls st (hpC h0 l) i 1 = some (rsC h0 y) := by
  unfold cAld at q
  split at q
  · next x z =>
    cases q
    skip
    unfold xldA
    rw [z]
    rfl
  · cases q
theorem cDup_ok  (q : cDup pc ls st l = some y) : xdup pc ls st (hpC h0 l) = some (rsC h0 y) := by
  unfold cDup at q
  split at q
  · cases q; rfl
  · cases q
theorem cGet_ok {a b t : Nat} (q : cGet a b t pc ls st l = some y) : xget (hk (hpC h0 l)) (gP (hpC h0 l)) a b t pc ls st (hpC h0 l) = some (rsC h0 y) := by
  unfold cGet at q
  split at q
  · split at q
    · next x r _ c z =>
      obtain ⟨q1, q2⟩ := bfs q
      cases q2
      simp only [Bool.and_eq_true] at q1
      obtain ⟨a1, a2⟩ := q1
      show pif ((hk (hpC h0 l) x).1 = a) (nxt (pc + 3) ls (rdf (gP (hpC h0 l)) (hpC h0 l) t x b :: r) (hpC h0 l)) none = _
      rw [hpC_k z, pif_t (beqT a1)]
      have : t = 3 := beqT a2
      subst this
      show nxt (pc + 3) ls (va_rf (gP (hpC h0 l) x b) :: r) (hpC h0 l) = _
      rw [hpC_p z]
      rfl
    · cases q
  · cases q
theorem cPut_ok {a b t : Nat} (q : cPut a b t pc ls st l = some y) : xput (hk (hpC h0 l)) (fun _ _ => true) a b t pc ls st (hpC h0 l) = some (rsC h0 y) := by
  unfold cPut at q
  split at q
  · split at q
    · next x o r _ c z =>
      obtain ⟨q1, q2⟩ := bfs q
      cases q2
      simp only [Bool.and_eq_true, Bool.or_eq_true, decide_eq_true_eq] at q1
      obtain ⟨a1, a2⟩ := q1
      show pif ((hk (hpC h0 l) o).1 = a ∧ (t = 0 ∨ (t = 1 ∧ (x = 0 ∨ x = 1)))) (nxt (pc + 3) ls r (sI (hpC h0 l) o b x)) none = _
      rw [hpC_k z, pif_t ⟨beqT a1, a2.imp beqT (fun w => ⟨beqT w.1, w.2⟩)⟩, hpC_sI z]
      rfl
    · cases q
  · split at q
    · next x o r _ c z =>
      obtain ⟨q1, q2⟩ := bfs q
      cases q2
      simp only [Bool.and_eq_true] at q1
      obtain ⟨a1, a2⟩ := q1
      show pif ((hk (hpC h0 l) o).1 = a ∧ t = 3 ∧ true = true) (nxt (pc + 3) ls r (sP (hpC h0 l) o b (some x))) none = _
      rw [hpC_k z, pif_t ⟨beqT a1, beqT a2, rfl⟩, hpC_sP z]
      rfl
    · cases q
  · split at q
    · next o r _ c z =>
      obtain ⟨q1, q2⟩ := bfs q
      cases q2
      simp only [Bool.and_eq_true] at q1
      obtain ⟨a1, a2⟩ := q1
      show pif ((hk (hpC h0 l) o).1 = a ∧ t = 3 ∧ true = true) (nxt (pc + 3) ls r (sP (hpC h0 l) o b none)) none = _
      rw [hpC_k z, pif_t ⟨beqT a1, beqT a2, rfl⟩, hpC_sP z]
      rfl
    · cases q
  · cases q
theorem cNew_ok {a k : Nat} (q : cNew a k pc ls st l = some y) : xnewa a pc k ls st (hpC h0 l) = some (rsC h0 y) := by
  unfold cNew at q
  split at q
  · next n r =>
    obtain ⟨q1, q2⟩ := bfs q
    cases q2
    show pif (¬ n < 0 ∧ n.toNatClampNeg ≤ 1000000) (nxt (pc + k) ls (.ref (hz (hpC h0 l)) :: r) (mkc (hpC h0 l) a n.toNatClampNeg)) none = _
    rw [pif_t (of_decide_eq_true q1), hpC_mk]
    rfl
  · cases q
theorem cIst_ok  (q : cIst pc ls st l = some y) : xiastore (hk (hpC h0 l)) pc ls st (hpC h0 l) = some (rsC h0 y) := by
  unfold cIst at q
  split at q
  · split at q
    · next x i o r _ c z =>
      obtain ⟨q1, q2⟩ := bfs q
      cases q2
      rw [Bool.and_eq_true] at q1
      obtain ⟨a1, a2⟩ := q1
      show pif ((hk (hpC h0 l) o).1 = 20 ∧ vp_in i (hk (hpC h0 l) o).2) (nxt (pc + 1) ls r (sI (hpC h0 l) o i.toNatClampNeg x)) none = _
      rw [hpC_k z, pif_t ⟨beqT a1, vin a2⟩, hpC_sI z]
      rfl
    · cases q
  · cases q
theorem cBst_ok  (q : cBst pc ls st l = some y) : xbastore (hk (hpC h0 l)) pc ls st (hpC h0 l) = some (rsC h0 y) := by
  unfold cBst at q
  split at q
  · split at q
    · next x i o r _ c z =>
      obtain ⟨q1, q2⟩ := bfs q
      cases q2
      rw [Bool.and_eq_true] at q1
      obtain ⟨a1, a2⟩ := q1
      have a1 : c.1 = 22 := beqT a1
      show pif (((hk (hpC h0 l) o).1 = 22 ∨ (hk (hpC h0 l) o).1 = 23) ∧ vp_in i (hk (hpC h0 l) o).2) (nxt (pc + 1) ls r (sI (hpC h0 l) o i.toNatClampNeg (if (hk (hpC h0 l) o).1 = 22 then vp_nar .byte x else vp_nar .boolean x))) none = _
      rw [hpC_k z, pif_t ⟨Or.inl a1, vin a2⟩, if_pos a1, hpC_sI z]
      rfl
    · cases q
  · cases q
theorem cAst_ok  (q : cAst pc ls st l = some y) : xaastore (hk (hpC h0 l)) (fun _ _ => true) pc ls st (hpC h0 l) = some (rsC h0 y) := by
  unfold cAst at q
  split at q
  · split at q
    · next x i o r _ _ c cx z z2 =>
      obtain ⟨q1, q2⟩ := bfs q
      cases q2
      rw [Bool.and_eq_true, Bool.and_eq_true, Bool.and_eq_true] at q1
      obtain ⟨⟨a1, a2⟩, a3, a4⟩ := q1
      show pif ((24 ≤ (hk (hpC h0 l) o).1 ∧ (hk (hpC h0 l) o).1 ≤ 26) ∧ vp_in i (hk (hpC h0 l) o).2 ∧ (hk (hpC h0 l) x).1 = elc (hk (hpC h0 l) o).1 ∧ true = true) (nxt (pc + 1) ls r (sP (hpC h0 l) o i.toNatClampNeg (some x))) none = _
      rw [hpC_k z, hpC_k z2, pif_t ⟨⟨Nat.le_of_ble_eq_true a1, Nat.le_of_ble_eq_true a2⟩, vin a3, beqT a4, rfl⟩, hpC_sP z]
      rfl
    · cases q
  · cases q
theorem cRet_ok  (q : cRet st = some y) : xreturn st = some (rsC h0 y) := by
  unfold cRet at q
  split at q
  · cases q; rfl
  · cases q
theorem cInv_ok {a b t : Nat} (q : cInv a b t pc ls st l = some y) : xinv (hk (hpC h0 l)) a b t pc ls st (hpC h0 l) = some (rsC h0 y) := by
  unfold cInv at q
  unfold xinv
  by_cases h5 : b = 5
  · subst h5
    rw [if_pos rfl] at q
    unfold cObj at q
    split at q
    · cases q
      rw [if_neg (by omega), if_pos rfl]
      show pif (([] : List Value) = []) _ none = _
      rw [pif_t rfl]
      rfl
    · cases q
  · rw [if_neg h5] at q
    split at q
    · next z =>
      rw [if_pos z]
      exact clC_ok q
    · cases q
set_option maxHeartbeats 4000000 in
theorem cst_ok (q : cst e pc ls st l = some y) : exi (hk (hpC h0 l)) (gP (hpC h0 l)) (fun _ _ => true) e rt pc ls st (hpC h0 l) = some (rsC h0 y) := by
  obtain ⟨ins, len, a, b, t, pl, v⟩ := e
  cases ins with
  | aconst_null => cases q; rfl
  | iconst _ => cases q; rfl
  | bipush _ => cases q; rfl
  | sipush _ => cases q; rfl
  | ldc _ =>
    have q : (if b = 1 then none else nxC (pc + 2) ls (.int (Int32.ofInt v) :: st) l) = some y := q
    show (if b = 1 then nxt (pc + 2) ls (.retAddr 0 :: st) _ else nxt (pc + 2) ls (.int (Int32.ofInt v) :: st) _) = _
    split at q
    · cases q
    · next z => rw [if_neg z]; cases q; rfl
  | aload_n _ => exact cAld_ok q
  | dup => exact cDup_ok q
  | getfield _ => exact cGet_ok q
  | putfield _ => exact cPut_ok q
  | new _ =>
    cases q
    show nxt (pc + 3) ls (.ref (hz (hpC h0 l)) :: st) (mkc (hpC h0 l) a b) = _
    rw [hpC_mk]
    rfl
  | newarray _ => exact cNew_ok q
  | anewarray _ => exact cNew_ok q
  | iastore => exact cIst_ok q
  | bastore => exact cBst_ok q
  | aastore => exact cAst_ok q
  | invokespecial _ => exact cInv_ok q
  | return_ => exact cRet_ok q
  | _ => exact absurd (show (none : Option Cs) = some _ from q) (by simp)
end CO
def sim : Nat → Nat → Nat → Nat → List Value → List Value → List Cl → Option (List Cl)
  | 0, _, _, _, _, _, _ => none
  | n + 1, d, M, pc, ls, st, l => match prg M pc with
    | none => none
    | some e => bif ckE M e ls.length then (match cst e pc ls st l with
      | none => none
      | some (.inl (pc', ls', st', l')) => sim n d M pc' ls' st' l'
      | some (.inr (.inl _)) => some l
      | some (.inr (.inr (M', as, pc', st'))) => (match d with
        | 0 => none
        | d' + 1 => (match sim n d' M' 0 (ent (lM M') as) [] l with
          | none => none
          | some l' => sim n (d' + 1) M pc' ls st' l'))) else none
theorem sim_ok (h0 : Hp) : ∀ (n : Nat) {d M pc : Nat} {ls st : List Value} {l l' : List Cl}, sim n d M pc ls st l = some l' → wpN false n d M pc ls st (hpC h0 l) (eqP none (hpC h0 l')) := by
  intro n
  induction n with
  | zero => intro d M pc ls st l l' q; cases q
  | succ n ih =>
    intro d M pc ls st l l' q
    unfold sim at q
    cases hp : prg M pc with
    | none => rw [hp] at q; cases q
    | some e =>
      rw [hp] at q
      dsimp only at q
      obtain ⟨q1, q2⟩ := bfs q
      cases hc : cst e pc ls st l with
      | none => rw [hc] at q2; cases q2
      | some y =>
        rw [hc] at q2
        have hx := cst_ok (h0 := h0) (rt := rM M) hc
        have hr : res false M pc ls st (hpC h0 l) = some (rsC h0 y) := by
          unfold res
          rw [hp]
          show (bif ckE M e ls.length then exi (kdm false (hpC h0 l)) (rpm false (hpC h0 l)) (wkm false) e (rM M) pc ls st (hpC h0 l) else none) = _
          rw [q1, kdm_f, rpm_f, wkm_f]
          exact hx
        unfold wpN
        rw [hr]
        rcases y with ⟨pc', ls', st', l2⟩ | u | ⟨M', as, pc', st'⟩
        · exact ih q2
        · cases q2; exact ⟨rfl, rfl⟩
        · cases d with
          | zero => cases q2
          | succ d' =>
            have q2 : (match sim n d' M' 0 (ent (lM M') as) [] l with
              | none => none
              | some l' => sim n (d' + 1) M pc' ls st' l') = some l' := q2
            cases hs : sim n d' M' 0 (ent (lM M') as) [] l with
            | none => rw [hs] at q2; cases q2
            | some l2 =>
              rw [hs] at q2
              exact wpN_mono n (fun r h' z => by obtain ⟨rfl, rfl⟩ := z; exact ih q2) (ih hs)
