/-! what a text says: the class's steps, the model's tokens -/
def vop (x : Int32) : Nat := (x &&& nI 15).toNatClampNeg
def vwi (x : Int32) : Int32 := x >>> (nI 4 &&& 31)
def vbd (r : Int64) : Option Int32 := if lN 1000000000 < r ∨ r < -1000000000 then none else some r.toInt32
/-- one reckoning: what is left on the stack, and so -/
def vrk (op : Nat) (a b : Int32) (r : List Int32) (so : Bool) : Option (List Int32 × Bool) :=
  if op = 2 then (vbd (a.toInt64 + b.toInt64)).map (fun x => (x :: r, so))
  else if op = 3 then (vbd (a.toInt64 - b.toInt64)).map (fun x => (x :: r, so))
  else if op = 4 then (vbd (a.toInt64 * b.toInt64)).map (fun x => (x :: r, so))
  else if op = 5 then (if b = nI 0 then none else (vbd (a.toInt64 / b.toInt64)).map (fun x => (x :: r, so)))
  else if op = 6 then some (r, decide (a.toInt64 < b.toInt64))
  else if op = 7 then some (r, decide (b.toInt64 < a.toInt64))
  else some (r, decide (a.toInt64 = b.toInt64))
def vrl (op : Nat) (l : List Int32) (s : Bool) : Option (List Int32 × Bool) := match l with
  | b :: a :: r => vrk op a b r s
  | _ => none
abbrev VS : Type := List Int32 × Bool × Nat
def vone (env : Nat → Int32) (x : Int32) (z : VS) : Option VS :=
  if vop x = 0 then (if 64 ≤ z.1.length then none else some (vwi x :: z.1, z.2.1, z.2.2))
  else if vop x = 1 then (if 64 ≤ z.1.length ∨ nI 12 ≤ vwi x then none else some (env (vwi x).toNatClampNeg :: z.1, z.2.1, z.2.2))
  else if vop x ≤ 8 then (vrl (vop x) z.1 z.2.1).map (fun y => (y.1, y.2, z.2.2))
  else if vop x = 9 then some (z.1, !z.2.1, z.2.2)
  else if z.2.1 = decide (vop x = 10) then some (z.1, z.2.1, (vwi x).toNatClampNeg)
  else some z
def vrun (env : Nat → Int32) (st : Nat → Int32) : Nat → Nat → VS → Option VS
  | 0, _, z => some z
  | k + 1, at', z => if at' < z.2.2 then vrun env st k (at' + 1) z else (vone env (st at') z).bind (fun y => vrun env st k (at' + 1) y)
/-- the last clause with that head that holds: what is on the stack behind it -/
def vho (env st cl : Nat → Int32) (hd : Int32) : Nat → Option (List Int32)
  | 0 => none
  | c + 1 =>
    if cl (4 * c) = hd then
      (match vrun env st ((cl (4 * c + 3)).toNatClampNeg - (cl (4 * c + 2)).toNatClampNeg) (cl (4 * c + 2)).toNatClampNeg ([], true, (cl (4 * c + 2)).toNatClampNeg) with
      | some (_, true, _) => (match vrun env st ((cl (4 * c + 2)).toNatClampNeg - (cl (4 * c + 1)).toNatClampNeg) (cl (4 * c + 1)).toNatClampNeg ([], true, (cl (4 * c + 1)).toNatClampNeg) with
        | some (l, _, _) => some l
        | none => vho env st cl hd c)
      | _ => vho env st cl hd c)
    else vho env st cl hd c
/-- the words of a text of the class: steps, clauses -/
abbrev Tk : Type := (Nat → Int32) × Nat × (Nat → Int32) × Nat
def tOk (T : Tk) : Prop := T.2.1 ≤ 400 ∧ T.2.2.2 ≤ 12 ∧ (∀ i, i < T.2.1 → ¬ T.1 i < nI 0) ∧
  ∀ c, c < T.2.2.2 → ∃ hd p1 p2 p3 : Nat, hd < 4 ∧ p1 ≤ p2 ∧ p2 ≤ p3 ∧ p3 ≤ T.2.1 ∧ T.2.2.1 (4 * c) = nI hd ∧ T.2.2.1 (4 * c + 1) = nI p1 ∧ T.2.2.1 (4 * c + 2) = nI p2 ∧ T.2.2.1 (4 * c + 3) = nI p3
def tSay (T : Tk) (hd : Nat) (env : Nat → Int32) : Option (List Int32) := vho env T.1 T.2.2.1 (nI hd) T.2.2.2
/-- the text that stands in a cell -/
def tAt (h : Hp) (a : Nat) (T : Tk) : Prop := ∃ s c, (121 ≤ a ∧ a < hz h ∧ 121 ≤ s ∧ s < hz h ∧ 121 ≤ c ∧ c < hz h) ∧ gP h a 0 = some s ∧ gP h a 1 = some c ∧ hk h a = (9, 2) ∧ hk h s = (20, T.2.1) ∧ hk h c = (20, 4 * T.2.2.2) ∧ gI h s = T.1 ∧ gI h c = T.2.2.1
/-! the model's reading of tokens: c codes, v numbers, e the end, env what is asked; n bounds how deep, the rows how long -/
section MT
variable (c v : Nat → Int32) (e : Nat) (env : Nat → Int32)
def cda (k : Nat) : Int32 := if k < e then c k else nI 0
abbrev ER : Type := Int64 × Bool × Nat × Bool
/-- a loop that ends by itself -/
def q_wh {α : Type} (f : α → Option (α ⊕ α)) : Nat → α → Option α
  | 0, _ => none
  | k + 1, s => (f s).bind (fun z => match z with
    | .inl s' => q_wh f k s'
    | .inr s' => some s')
def bnd (x : Int64) (live br : Bool) : Int64 × Bool := if br || (live && (decide (lN 1000000000 < x) || decide (x < -1000000000))) then (lN 0, true) else (x, false)
def fsum (E : Bool → Nat → Bool → Option ER) (live : Bool) (s : ER) : Option (ER ⊕ ER) :=
  if cda c e s.2.2.1 = nI 143 ∨ cda c e s.2.2.1 = nI 145 then
    (E live (s.2.2.1 + 1) s.2.2.2).map (fun t =>
      .inl ((bnd (if cda c e s.2.2.1 = nI 143 then s.1 + t.1 else s.1 - t.1) live t.2.2.2).1, false, t.2.2.1, (bnd (if cda c e s.2.2.1 = nI 143 then s.1 + t.1 else s.1 - t.1) live t.2.2.2).2))
  else some (.inr s)
def fterm (E : Bool → Nat → Bool → Option ER) (live : Bool) (s : ER) : Option (ER ⊕ ER) :=
  if cda c e s.2.2.1 = nI 142 then
    (E live (s.2.2.1 + 1) s.2.2.2).map (fun t => .inl ((bnd (s.1 * t.1) live t.2.2.2).1, false, t.2.2.1, (bnd (s.1 * t.1) live t.2.2.2).2))
  else if cda c e s.2.2.1 = nI 147 then
    (E live (s.2.2.1 + 1) s.2.2.2).map (fun t =>
      if t.1 = lN 0 then .inl ((bnd (s.1 / lN 1) live (t.2.2.2 || live)).1, false, t.2.2.1, (bnd (s.1 / lN 1) live (t.2.2.2 || live)).2)
      else .inl ((bnd (s.1 / t.1) live t.2.2.2).1, false, t.2.2.1, (bnd (s.1 / t.1) live t.2.2.2).2))
  else some (.inr s)
def ftest (E : Bool → Nat → Bool → Option ER) (live : Bool) (s : ER) : Option (ER ⊕ ER) :=
  if cda c e s.2.2.1 = nI 6 then (E (live && !s.2.1) (s.2.2.1 + 1) s.2.2.2).map (fun t => .inl (lN 0, s.2.1 || t.2.1, t.2.2.1, t.2.2.2))
  else some (.inr s)
def fboth (E : Bool → Nat → Bool → Option ER) (live : Bool) (s : ER) : Option (ER ⊕ ER) :=
  if cda c e s.2.2.1 = nI 7 then (E (live && s.2.1) (s.2.2.1 + 1) s.2.2.2).map (fun t => .inl (lN 0, s.2.1 && t.2.1, t.2.2.1, t.2.2.2))
  else some (.inr s)
def fnot (s : Bool × Nat) : Option (Bool × Nat ⊕ Bool × Nat) := if cda c e s.2 = nI 8 then some (.inl (!s.1, s.2 + 1)) else some (.inr s)
def fpart (E : Bool → Nat → Bool → Option ER) (live : Bool) (go : Nat) (br : Bool) : Option ER :=
  if cda c e go = nI 191 then (E live (go + 1) br).map (fun t => (t.1, false, t.2.2.1 + 1, t.2.2.2))
  else if !live || br then some (lN 0, false, go + 1, br)
  else if cda c e go = nI 50 then some ((cda v e go).toInt64, false, go + 1, br)
  else if nI 9 ≤ cda c e go ∧ cda c e go ≤ nI 20 then some ((env ((cda c e go).toNatClampNeg - 9)).toInt64, false, go + 1, br) else none
def fcmp (s : Int32) (a b : Int64) : Bool := if s = nI 160 then decide (a < b) else if s = nI 162 then decide (b < a) else decide (a = b)
def fpos (E3 E0 : Bool → Nat → Bool → Option ER) (live : Bool) (go : Nat) (br : Bool) : Option ER :=
  if cda c e go = nI 140 then (E3 live (go + 1) br).map (fun t => (lN 0, t.2.1, t.2.2.1 + 1, t.2.2.2))
  else (E0 live go br).bind (fun s => (E0 live (s.2.2.1 + 1) s.2.2.2).map (fun t => (lN 0, live && !t.2.2.2 && fcmp (cda c e s.2.2.1) s.1 t.1, t.2.2.1, t.2.2.2)))
/-- tags: 0 sum, 1 term, 2 part, 3 test, 4 both, 5 plain, 6 positive -/
def ev : Nat → Nat → Bool → Nat → Bool → Option ER
  | 0, _, _, _, _ => none
  | n + 1, tag, live, go, br => match tag with
    | 0 => (ev n 1 live go br).bind (fun r => q_wh (fsum c e (ev n 1) live) 401 r)
    | 1 => (ev n 2 live go br).bind (fun r => q_wh (fterm c e (ev n 2) live) 401 r)
    | 2 => fpart c v e env (ev n 0) live go br
    | 3 => (ev n 4 live go br).bind (fun r => q_wh (ftest c e (ev n 4) live) 401 r)
    | 4 => (ev n 5 live go br).bind (fun r => q_wh (fboth c e (ev n 5) live) 401 r)
    | 5 => (q_wh (fnot c e) 401 (false, go)).bind (fun s => (ev n 6 live s.2 br).map (fun t => (lN 0, xor t.2.1 s.1, t.2.2.1, t.2.2.2)))
    | _ => fpos c e (ev n 3) (ev n 0) live go br
/-- one clause: its head, its sum, whether it holds, where it ends -/
def ecl (go : Nat) : Option (Int32 × Int64 × Bool × Nat) :=
  let hd := cda c e go
  (if hd = nI 4 then some ((lN 0, false, go + 1, false) : ER) else ev c v e env 64 0 true (go + 1) false).bind (fun s =>
    (if cda c e s.2.2.1 = nI 5 then ev c v e env 64 3 true (s.2.2.1 + 1) false else some ((lN 0, true, s.2.2.1, false) : ER)).map (fun t =>
      (hd, s.1, t.2.1 && !t.2.2.2 && !s.2.2.2, t.2.2.1 + 1)))
/-- what the model is told by a text -/
def mAsk (hd : Int32) (go : Nat) : Option (Option Int64) :=
  (q_wh (fun (s : Nat × Option Int64) => if s.1 < e then (ecl c v e env s.1).map (fun t => .inl (t.2.2.2, if t.2.2.1 ∧ t.1 = hd then some t.2.1 else s.2)) else some (.inr s)) 401 (go, none)).map (fun s => s.2)
end MT
def mSay (K : Nat → Int32) (t hd : Nat) (env : Nat → Int32) : Option (Option Int64) :=
  mAsk (fun k => K (391 + k)) (fun k => K (4391 + k)) (400 * t + (K (381 + t)).toNatClampNeg) env (nI (hd + 1)) (400 * t)
/-- a text of the class says what the model's does -/
def tEq (K : Nat → Int32) (t : Nat) (T : Tk) : Prop := rg (K (381 + t)) 0 400 ∧ tOk T ∧
  (∀ hd env, hd < 3 → ∃ x, mSay K t hd env = some (x.map Int32.toInt64) ∧ ((x = none ∧ tSay T hd env = none) ∨ ∃ y, x = some y ∧ tSay T hd env = some [y])) ∧
  (∀ env, ∃ x, mSay K t 3 env = some x ∧ (x.isSome ↔ (tSay T 3 env).isSome))
