/-! what steps do, what tokens say -/
def AT (st : Nat → Int32) (z : Nat) (cs : List Int32) : Prop := ∀ i, i < cs.length → st (z + i) = cs.getD i 0
theorem AT_0 (st : Nat → Int32) (z : Nat) : AT st z [] := fun i hi => absurd hi (Nat.not_lt_zero i)
theorem gd_l {a b : List Int32} {i : Nat} (h : i < a.length) : (a ++ b).getD i 0 = a.getD i 0 := by
  rw [List.getD_eq_getElem?_getD, List.getD_eq_getElem?_getD, List.getElem?_append_left h]
theorem gd_r {a b : List Int32} {i : Nat} (h : a.length ≤ i) : (a ++ b).getD i 0 = b.getD (i - a.length) 0 := by
  rw [List.getD_eq_getElem?_getD, List.getD_eq_getElem?_getD, List.getElem?_append_right h]
theorem AT_app {st : Nat → Int32} {z : Nat} {a b : List Int32} : AT st z (a ++ b) ↔ AT st z a ∧ AT st (z + a.length) b := by
  constructor
  · intro h
    refine ⟨fun i hi => ?_, fun i hi => ?_⟩
    · have := h i (by rw [List.length_append]; omega)
      rw [this, gd_l hi]
    · have := h (a.length + i) (by rw [List.length_append]; omega)
      rw [Nat.add_assoc, this, gd_r (by omega), Nat.add_sub_cancel_left]
  · rintro ⟨h1, h2⟩ i hi
    by_cases c : i < a.length
    · rw [gd_l c]; exact h1 i c
    · rw [gd_r (by omega), ← h2 (i - a.length) (by rw [List.length_append] at hi; omega)]
      congr 1
      omega
theorem AT_1 {st : Nat → Int32} {z : Nat} {x : Int32} : AT st z [x] ↔ st z = x := by
  constructor
  · intro h; exact h 0 (by show 0 < 1; omega)
  · intro h i hi
    have : i = 0 := by have : i < 1 := hi; omega
    subst this
    exact h
theorem AT_cg {st st' : Nat → Int32} {z : Nat} {cs : List Int32} (hh : ∀ i, z ≤ i → i < z + cs.length → st' i = st i) (h : AT st z cs) : AT st' z cs := fun i hi => by
  rw [hh (z + i) (by omega) (by omega)]; exact h i hi
section VR
variable {env : Nat → Int32} {st : Nat → Int32}
theorem vrun_add : ∀ a b z (s : VS), vrun env st (a + b) z s = (vrun env st a z s).bind (fun y => vrun env st b (z + a) y)
  | 0, b, z, s => by rw [Nat.zero_add]; rfl
  | a + 1, b, z, s => by
    rw [show a + 1 + b = (a + b) + 1 by omega]
    show (if z < s.2.2 then vrun env st (a + b) (z + 1) s else (vone env (st z) s).bind (fun y => vrun env st (a + b) (z + 1) y)) = (if z < s.2.2 then vrun env st a (z + 1) s else (vone env (st z) s).bind (fun y => vrun env st a (z + 1) y)).bind (fun y => vrun env st b (z + (a + 1)) y)
    by_cases c : z < s.2.2
    · rw [if_pos c, if_pos c, vrun_add a b (z + 1) s, show z + 1 + a = z + (a + 1) by omega]
    · rw [if_neg c, if_neg c]
      cases vone env (st z) s with
      | none => rfl
      | some y =>
        show vrun env st (a + b) (z + 1) y = (vrun env st a (z + 1) y).bind _
        rw [vrun_add a b (z + 1) y, show z + 1 + a = z + (a + 1) by omega]
theorem vrun_1 {z : Nat} {s : VS} (h : s.2.2 ≤ z) : vrun env st 1 z s = vone env (st z) s := by
  show (if z < s.2.2 then vrun env st 0 (z + 1) s else (vone env (st z) s).bind (fun y => vrun env st 0 (z + 1) y)) = _
  rw [if_neg (by omega)]
  cases vone env (st z) s <;> rfl
/-- steps that are skipped -/
theorem vrun_sk : ∀ k z (s : VS), z + k ≤ s.2.2 → vrun env st k z s = some s
  | 0, _, _, _ => rfl
  | k + 1, z, s, h => by
    show (if z < s.2.2 then vrun env st k (z + 1) s else _) = _
    rw [if_pos (by omega)]
    exact vrun_sk k (z + 1) s (by omega)
end VR
theorem vone_op (env : Nat → Int32) {op : Nat} (h1 : 2 ≤ op) (h2 : op ≤ 8) (l : List Int32) (so : Bool) (sk : Nat) : vone env (stp 0 op) (l, so, sk) = (vrl op l so).map (fun y => (y.1, y.2, sk)) := by
  unfold vone
  rw [stp_o (by omega), if_neg (by omega), if_neg (by omega), if_pos h2]
theorem bnd_d (x : Int64) (live : Bool) : bnd x live true = (lN 0, true) := by
  unfold bnd
  rw [Bool.true_or, if_pos rfl]
theorem bnd_n (x : Int64) : bnd x false false = (x, false) := by
  unfold bnd
  rw [Bool.false_and, Bool.or_false, if_neg (by decide)]
theorem bnd_v (x : Int64) : bnd x true false = match vbd x with
    | none => (lN 0, true)
    | some y => (y.toInt64, false) := by
  unfold bnd
  cases e : vbd x with
  | none =>
    have h := vbd_n e
    rw [Bool.false_or, Bool.true_and, if_pos]
    rw [Bool.or_eq_true, decide_eq_true_iff, decide_eq_true_iff]
    exact h
  | some y =>
    obtain ⟨h1, h2, h3⟩ := vbd_s e
    rw [Bool.false_or, Bool.true_and, if_neg]
    · rw [h3]
      have : x.toInt32.toInt64 = x := by
        apply Int64.toInt_inj.1
        rw [Int32.toInt_toInt64, Int64.toInt_toInt32]
        rw [Int64.lt_iff_toInt_lt] at h1 h2
        have k1 : (lN 1000000000).toInt = 1000000000 := by decide
        have k2 : (-1000000000 : Int64).toInt = -1000000000 := by decide
        exact Int.bmod_eq_of_le (by omega) (by omega)
      show (x, false) = (x.toInt32.toInt64, false)
      rw [this]
    · rw [Bool.or_eq_true, decide_eq_true_iff, decide_eq_true_iff]
      rintro (q | q)
      · exact h1 q
      · exact h2 q
/-- where the kept tokens stand -/
def CTX (B : Nat → Int32) (n m : Nat) (c v : Nat → Int32) (e o : Nat) : Prop := (∀ j, j ≤ m → cda c e (o + j) = mcJ B n j) ∧ ∀ j, j < m → cda v e (o + j) = mvJ B n j
/-- what an evaluation comes to: none is BROKEN -/
def evR (r : Option Int32) (g : Nat) : ER := match r with
  | none => (lN 0, false, g, true)
  | some y => (y.toInt64, false, g, false)
def VOK (env : Nat → Int32) (cs : List Int32) (z : Nat) (r : Option Int32) (lim : Nat) : Prop := ∀ (st : Nat → Int32) (l : List Int32) (so : Bool) (sk : Nat), AT st z cs → sk ≤ z → l.length ≤ lim → vrun env st cs.length z (l, so, sk) = r.map (fun y => (y :: l, so, sk))
section SE
variable (B : Nat → Int32) (n m : Nat)
/-- a SUM (tag 0) or a part (tag 2): steps and tokens say the same -/
def SEM (tag fu lim j z : Nat) (cs : List Int32) (j' : Nat) : Prop := ∀ c v e o env, CTX B n m c v e o → ∃ r : Option Int32, VOK env cs z r lim ∧ ∀ N, fu ≤ N → ev c v e env N tag true (o + j) false = some (evR r (o + j')) ∧ ∀ live br, (live && !br) = false → ev c v e env N tag live (o + j) br = some (lN 0, false, o + j', br)
/-- from within a SUM on: the term so far t, and ahead of it what waits -/
def contE (c v : Nat → Int32) (e : Nat) (env : Nat → Int32) (N : Nat) (live : Bool) (wt : Option (Bool × Int64)) (t : Int64) (g : Nat) (br : Bool) (kk kk' : Nat) : Option ER :=
  (q_wh (fterm c e (ev c v e env N 2) live) kk (t, false, g, br)).bind (fun r => match wt with
    | none => q_wh (fsum c e (ev c v e env (N + 1) 1) live) kk' r
    | some w => q_wh (fsum c e (ev c v e env (N + 1) 1) live) kk' ((bnd (if w.1 then w.2 + r.1 else w.2 - r.1) live r.2.2.2).1, false, r.2.2.1, (bnd (if w.1 then w.2 + r.1 else w.2 - r.1) live r.2.2.2).2))
def wtS (wt : Option Bool) (a t : Int32) (l : List Int32) : List Int32 := match wt with
  | none => t :: l
  | some _ => t :: a :: l
def wtC (wt : Option Bool) : List Int32 := match wt with
  | none => []
  | some true => [stp 0 2]
  | some false => [stp 0 3]
def wtE (wt : Option Bool) (a : Int64) : Option (Bool × Int64) := wt.map (fun b => (b, a))
/-- what a and t come to when what waits is done -/
def wtR (wt : Option Bool) (a t : Int32) : Option Int32 := match wt with
  | none => some t
  | some true => vbd (a.toInt64 + t.toInt64)
  | some false => vbd (a.toInt64 - t.toInt64)
def SEML (fu dep j z : Nat) (wt : Option Bool) (cs : List Int32) (j' : Nat) : Prop := ∀ c v e o env, CTX B n m c v e o → ∃ R : Int32 → Int32 → Option Int32, (∀ (a t : Int32) (st : Nat → Int32) (l : List Int32) (so : Bool) (sk : Nat), AT st z cs → sk ≤ z → l.length ≤ 2 * dep + 2 → vrun env st cs.length z (wtS wt a t l, so, sk) = (R a t).map (fun y => (y :: l, so, sk))) ∧ ∀ N, fu ≤ N → ∀ kk kk', m - j < kk → m - j < kk' → (∀ a t, contE c v e env N true (wtE wt a.toInt64) t.toInt64 (o + j) false kk kk' = some (evR (R a t) (o + j'))) ∧ ∀ live br (a : Int64), (live && !br) = false → (br = true ∨ a = lN 0) → contE c v e env N live (wtE wt a) (lN 0) (o + j) br kk kk' = some (lN 0, false, o + j', br)
end SE
/-- what waits is done -/
theorem wt_run {env st : Nat → Int32} {wt : Option Bool} {a t : Int32} {l : List Int32} {so : Bool} {sk z : Nat} (h : AT st z (wtC wt)) (hs : sk ≤ z) : vrun env st (wtC wt).length z (wtS wt a t l, so, sk) = (wtR wt a t).map (fun y => (y :: l, so, sk)) := by
  cases wt with
  | none => rfl
  | some b =>
    cases b with
    | true =>
      show vrun env st 1 z (t :: a :: l, so, sk) = _
      rw [vrun_1 hs, AT_1.mp h, vone_op env (by omega) (by omega)]
      show ((vbd (a.toInt64 + t.toInt64)).map (fun x => (x :: l, so))).map _ = (vbd (a.toInt64 + t.toInt64)).map _
      cases vbd (a.toInt64 + t.toInt64) <;> rfl
    | false =>
      show vrun env st 1 z (t :: a :: l, so, sk) = _
      rw [vrun_1 hs, AT_1.mp h, vone_op env (by omega) (by omega)]
      show ((vbd (a.toInt64 - t.toInt64)).map (fun x => (x :: l, so))).map _ = (vbd (a.toInt64 - t.toInt64)).map _
      cases vbd (a.toInt64 - t.toInt64) <;> rfl
/-- what a term behind what waits comes to, the model's -/
def wtX (wt : Option (Bool × Int64)) (live : Bool) (r : ER) : ER := match wt with
  | none => r
  | some w => ((bnd (if w.1 then w.2 + r.1 else w.2 - r.1) live r.2.2.2).1, false, r.2.2.1, (bnd (if w.1 then w.2 + r.1 else w.2 - r.1) live r.2.2.2).2)
theorem contE_x (c v : Nat → Int32) (e : Nat) (env : Nat → Int32) (N : Nat) (live : Bool) (wt : Option (Bool × Int64)) (t : Int64) (g : Nat) (br : Bool) (kk kk' : Nat) : contE c v e env N live wt t g br kk kk' = (q_wh (fterm c e (ev c v e env N 2) live) kk (t, false, g, br)).bind (fun r => q_wh (fsum c e (ev c v e env (N + 1) 1) live) kk' (wtX wt live r)) := by
  unfold contE
  cases wt <;> rfl
theorem wtX_l (wt : Option Bool) (a t : Int32) (g : Nat) : wtX (wtE wt a.toInt64) true (t.toInt64, false, g, false) = evR (wtR wt a t) g := by
  cases wt with
  | none => rfl
  | some b =>
    cases b with
    | true =>
      show ((bnd (a.toInt64 + t.toInt64) true false).1, false, g, (bnd (a.toInt64 + t.toInt64) true false).2) = evR (vbd (a.toInt64 + t.toInt64)) g
      rw [bnd_v]
      cases vbd (a.toInt64 + t.toInt64) <;> rfl
    | false =>
      show ((bnd (a.toInt64 - t.toInt64) true false).1, false, g, (bnd (a.toInt64 - t.toInt64) true false).2) = evR (vbd (a.toInt64 - t.toInt64)) g
      rw [bnd_v]
      cases vbd (a.toInt64 - t.toInt64) <;> rfl
theorem wtX_d (wt : Option Bool) (a : Int64) (g : Nat) (live br : Bool) (hd : (live && !br) = false) (ha : br = true ∨ a = lN 0) : wtX (wtE wt a) live (lN 0, false, g, br) = (lN 0, false, g, br) := by
  cases wt with
  | none => rfl
  | some b =>
    show ((bnd (if b then a + lN 0 else a - lN 0) live br).1, false, g, (bnd (if b then a + lN 0 else a - lN 0) live br).2) = (lN 0, false, g, br)
    cases br with
    | true => rw [bnd_d]
    | false =>
      have hl : live = false := by cases live <;> simp_all
      have ha' : a = lN 0 := by rcases ha with q | q; cases q; exact q
      subst hl
      subst ha'
      have h0 : (if b then lN 0 + lN 0 else lN 0 - lN 0) = lN 0 := by cases b <;> decide
      rw [bnd_n, h0]
theorem q_wh1 {α : Type} {f : α → Option (α ⊕ α)} {s s' : α} {k : Nat} (hk : 0 < k) (h : f s = some (.inr s')) : q_wh f k s = some s' := by
  cases k with
  | zero => omega
  | succ k =>
    show (f s).bind _ = _
    rw [h]; rfl
theorem q_wh2 {α : Type} {f : α → Option (α ⊕ α)} {s s' : α} {k : Nat} (h : f s = some (.inl s')) : q_wh f (k + 1) s = q_wh f k s' := by
  show (f s).bind _ = _
  rw [h]; rfl
