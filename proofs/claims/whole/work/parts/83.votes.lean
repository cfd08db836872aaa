/-! votes noted (the class) -/
theorem vp_z (p : Prop) : vp_nar .boolean (bz p) = bz p := by
  by_cases c : p
  · rw [q_bt c]; decide
  · rw [q_bf c]; decide
def tdS (a i : Nat) : Bool := tkS a i || Nat.beq a 92
theorem Tk_td {h h' : Hp} (x : FrS tkS h h') : FrS tdS h h' := x.mono (fun a i e => (bor e).1)
theorem Td_fr {h h' : Hp} (x : FrS tdS h h') : Fr h h' := x.mono (fun a i e => by
  have key : ∀ k, scr k i = true → Nat.beq a k = false := by
    intro k hk
    cases q : Nat.beq a k with
    | false => rfl
    | true =>
      obtain rfl := Nat.eq_of_beq_eq_true q
      rw [hk] at e; cases e
  unfold tdS tkS
  rw [key 80 rfl, key 81 rfl, key 82 rfl, key 90 rfl, key 91 rfl, key 92 rfl]
  cases q1 : Nat.beq a 88 with
  | false => rfl
  | true =>
    cases q2 : Nat.beq i 9 with
    | false => rfl
    | true =>
      obtain rfl := Nat.eq_of_beq_eq_true q1
      obtain rfl := Nat.eq_of_beq_eq_true q2
      cases e)
theorem WH_td {h h' : Hp} {K : Nat → Int32} {m : Nat} {wf : Nat → Nat} (x : FrS tdS h h') (w : WH h m wf K) : WH h' m wf K := by
  obtain ⟨w1, w2, w3, w4⟩ := w
  exact ⟨by rw [x.g (a := 88) (i := 6) rfl]; exact w1, w2, fun i hi => ⟨by rw [x.g (a := 89) (i := i) rfl]; exact (w3 i hi).1, (w3 i hi).2⟩, w4⟩
