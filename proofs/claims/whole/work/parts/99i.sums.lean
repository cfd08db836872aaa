/-! SUMS: steps and tokens say the same -/
section FS
variable {c v : Nat → Int32} {e : Nat} {env : Nat → Int32}
theorem fterm_n {E : Bool → Nat → Bool → Option ER} {live : Bool} {s : ER} (h1 : ¬ cda c e s.2.2.1 = nI 142) (h2 : ¬ cda c e s.2.2.1 = nI 147) : fterm c e E live s = some (.inr s) := by
  unfold fterm
  rw [if_neg h1, if_neg h2]
theorem fsum_n {E : Bool → Nat → Bool → Option ER} {live : Bool} {s : ER} (h1 : ¬ cda c e s.2.2.1 = nI 143) (h2 : ¬ cda c e s.2.2.1 = nI 145) : fsum c e E live s = some (.inr s) := by
  unfold fsum
  rw [if_neg (fun u => u.elim h1 h2)]
/-- a + or - leads on -/
theorem fsum_st {N k : Nat} {live br : Bool} {x : Int64} {g : Nat} {b : Bool} (hg : cda c e g = if b then nI 143 else nI 145) {p : ER} (hp : ev c v e env N 2 live (g + 1) br = some p) (hf : p.2.1 = false) : q_wh (fsum c e (ev c v e env (N + 1) 1) live) (k + 1) (x, false, g, br) = contE c v e env N live (some (b, x)) p.1 p.2.2.1 p.2.2.2 401 k := by
  rw [contE_x]
  have he : ev c v e env (N + 1) 1 live (g + 1) br = (ev c v e env N 2 live (g + 1) br).bind (fun r => q_wh (fterm c e (ev c v e env N 2) live) 401 r) := rfl
  rw [hp] at he
  have he2 : ev c v e env (N + 1) 1 live (g + 1) br = q_wh (fterm c e (ev c v e env N 2) live) 401 p := he
  obtain ⟨p1, p2, p3, p4⟩ := p
  have hf' : p2 = false := hf
  subst hf'
  show (fsum c e (ev c v e env (N + 1) 1) live (x, false, g, br)).bind _ = _
  unfold fsum
  have hc : cda c e g = nI 143 ∨ cda c e g = nI 145 := by cases b <;> simp_all
  have hc2 : (if cda c e g = nI 143 then True else False) = (b = true) := by
    cases b with
    | true => rw [if_pos (by rw [hg]; rfl)]; simp
    | false => rw [if_neg (by rw [hg]; decide)]; simp
  show (if cda c e g = nI 143 ∨ cda c e g = nI 145 then (ev c v e env (N + 1) 1 live (g + 1) br).map _ else _).bind _ = _
  rw [if_pos hc, he2]
  cases q_wh (fterm c e (ev c v e env N 2) live) 401 (p1, false, p3, p4) with
  | none => rfl
  | some r =>
    show q_wh (fsum c e (ev c v e env (N + 1) 1) live) k ((bnd (if cda c e g = nI 143 then x + r.1 else x - r.1) live r.2.2.2).1, false, r.2.2.1, (bnd (if cda c e g = nI 143 then x + r.1 else x - r.1) live r.2.2.2).2) = q_wh (fsum c e (ev c v e env (N + 1) 1) live) k (wtX (some (b, x)) live r)
    have hx : (if cda c e g = nI 143 then x + r.1 else x - r.1) = (if b then x + r.1 else x - r.1) := by
      cases b with
      | true => rw [if_pos (by rw [hg]; rfl)]; rfl
      | false => rw [if_neg (by rw [hg]; decide)]; rfl
    rw [hx]
    rfl
end FS
section SS
variable {B : Nat → Int32} {n m : Nat}
theorem mc42 (o : TOK B n m) (j : Nat) : (mcJ B n j = nI 142) = (tg B n j = 1042) := mc_s o j (u := 42) (by omega)
theorem mc43 (o : TOK B n m) (j : Nat) : (mcJ B n j = nI 143) = (tg B n j = 1043) := mc_s o j (u := 43) (by omega)
theorem mc45 (o : TOK B n m) (j : Nat) : (mcJ B n j = nI 145) = (tg B n j = 1045) := mc_s o j (u := 45) (by omega)
theorem mc47 (o : TOK B n m) (j : Nat) : (mcJ B n j = nI 147) = (tg B n j = 1047) := mc_s o j (u := 47) (by omega)
theorem mc91 (o : TOK B n m) (j : Nat) : (mcJ B n j = nI 191) = (tg B n j = 1091) := mc_s o j (u := 91) (by omega)
theorem mc93 (o : TOK B n m) (j : Nat) : (mcJ B n j = nI 193) = (tg B n j = 1093) := mc_s o j (u := 93) (by omega)
theorem evR_p (r : Option Int32) (g : Nat) : (evR r g).2.2.1 = g ∧ (evR r g).2.1 = false := by cases r <;> exact ⟨rfl, rfl⟩
theorem evR_e (r : Option Int32) (g : Nat) : evR r g = ((evR r g).1, false, g, (evR r g).2.2.2) := by cases r <;> rfl
/-- a SUM ends -/
theorem seml_e (o : TOK B n m) {fu dep j z : Nat} (hj : j ≤ m) (h1 : tg B n j ≠ 1042) (h2 : tg B n j ≠ 1043) (h3 : tg B n j ≠ 1045) (h4 : tg B n j ≠ 1047) (wt : Option Bool) : SEML B n m fu dep j z wt (wtC wt) j := by
  intro c v e o' env cx
  have k1 : ¬ cda c e (o' + j) = nI 142 := by rw [cx.1 j hj, mc42 o]; exact h1
  have k2 : ¬ cda c e (o' + j) = nI 143 := by rw [cx.1 j hj, mc43 o]; exact h2
  have k3 : ¬ cda c e (o' + j) = nI 145 := by rw [cx.1 j hj, mc45 o]; exact h3
  have k4 : ¬ cda c e (o' + j) = nI 147 := by rw [cx.1 j hj, mc47 o]; exact h4
  refine ⟨wtR wt, fun a t st l so sk ha hs _ => wt_run ha hs, fun N _ kk kk' hk hk' => ⟨fun a t => ?_, fun live br a hd ha => ?_⟩⟩
  · rw [contE_x, q_wh1 (by omega) (fterm_n (s := (t.toInt64, false, o' + j, false)) k1 k4)]
    show q_wh _ kk' (wtX (wtE wt a.toInt64) true (t.toInt64, false, o' + j, false)) = _
    rw [wtX_l]
    exact q_wh1 (by omega) (fsum_n (by rw [(evR_p _ _).1]; exact k2) (by rw [(evR_p _ _).1]; exact k3))
  · rw [contE_x, q_wh1 (by omega) (fterm_n (s := (lN 0, false, o' + j, br)) k1 k4)]
    show q_wh _ kk' (wtX (wtE wt a) live (lN 0, false, o' + j, br)) = _
    rw [wtX_d wt a _ live br hd ha]
    exact q_wh1 (by omega) (fsum_n (s := (lN 0, false, o' + j, br)) k2 k3)
def mdR (op : Nat) (t y : Int32) : Option Int32 := if op = 4 then vbd (t.toInt64 * y.toInt64) else if y = nI 0 then none else vbd (t.toInt64 / y.toInt64)
theorem wtS_c (wt : Option Bool) (a : Int32) (l : List Int32) : ∃ q : List Int32, (∀ t, wtS wt a t l = t :: q) ∧ q.length ≤ l.length + 1 := by
  cases wt with
  | none => exact ⟨l, fun _ => rfl, by omega⟩
  | some b => exact ⟨a :: l, fun _ => rfl, by show l.length + 1 ≤ l.length + 1; omega⟩
theorem l00 : lN 0 * lN 0 = lN 0 := by decide
theorem l01 : lN 0 / lN 1 = lN 0 := by decide
/-- a * or / -/
theorem seml_m (o : TOK B n m) {fu dep j z j1 j2 : Nat} {wt : Option Bool} {cs1 cs2 : List Int32} {op : Nat} (hop : (op = 4 ∧ tg B n j = 1042) ∨ (op = 5 ∧ tg B n j = 1047)) (hj : j < j1) (hj1 : j1 ≤ m) (s1 : SEM B n m 2 fu (2 * dep + 4) (j + 1) z cs1 j1) (s2 : SEML B n m fu dep j1 (z + cs1.length + 1) wt cs2 j2) : SEML B n m fu dep j z wt (cs1 ++ ([stp 0 op] ++ cs2)) j2 := by
  intro c v e o' env cx
  obtain ⟨r, r1, r2⟩ := s1 c v e o' env cx
  obtain ⟨R, q1, q2⟩ := s2 c v e o' env cx
  refine ⟨fun a t => r.bind (fun y => (mdR op t y).bind (fun t' => R a t')), fun a t st l so sk hat hs hl => ?_, fun N hN kk kk' hk hk' => ?_⟩
  · obtain ⟨w, w1, w2⟩ := wtS_c wt a l
    obtain ⟨a1, a2⟩ := AT_app.mp hat
    obtain ⟨a3, a4⟩ := AT_app.mp a2
    rw [List.length_append, List.length_append, vrun_add, r1 st (wtS wt a t l) so sk a1 hs (by rw [w1]; show w.length + 1 ≤ _; omega)]
    cases r with
    | none => rfl
    | some y =>
      show vrun env st (1 + cs2.length) (z + cs1.length) (y :: wtS wt a t l, so, sk) = ((mdR op t y).bind (fun t' => R a t')).map _
      rw [vrun_add, vrun_1 (show sk ≤ z + cs1.length by omega), AT_1.mp a3, vone_op env (by omega) (by omega), w1]
      have hv : vrl op (y :: t :: w) so = (mdR op t y).map (fun x => (x :: w, so)) := by
        rcases hop with ⟨rfl, _⟩ | ⟨rfl, _⟩
        · rfl
        · show (if y = nI 0 then none else (vbd (t.toInt64 / y.toInt64)).map (fun x => (x :: w, so))) = (if y = nI 0 then none else vbd (t.toInt64 / y.toInt64)).map (fun x => (x :: w, so))
          by_cases cy : y = nI 0
          · rw [if_pos cy, if_pos cy]; rfl
          · rw [if_neg cy, if_neg cy]
      rw [hv]
      cases mdR op t y with
      | none => rfl
      | some t' =>
        have := q1 a t' st l so sk a4 (by omega) hl
        rw [w1] at this
        exact this
  · obtain ⟨k0, rfl⟩ : ∃ k, kk = k + 1 := ⟨kk - 1, by omega⟩
    obtain ⟨e1, e2⟩ := r2 N hN
    obtain ⟨f1, f2⟩ := q2 N hN k0 kk' (by omega) (by omega)
    have hcd := cx.1 j (by omega)
    -- one step of the term
    have stp1 : ∀ (live br : Bool) (t : Int64) (p1 : Int64) (p4 : Bool), ev c v e env N 2 live (o' + (j + 1)) br = some (p1, false, o' + j1, p4) → fterm c e (ev c v e env N 2) live (t, false, o' + j, br) = some (.inl (if op = 4 then ((bnd (t * p1) live p4).1, false, o' + j1, (bnd (t * p1) live p4).2) else if p1 = lN 0 then ((bnd (t / lN 1) live (p4 || live)).1, false, o' + j1, (bnd (t / lN 1) live (p4 || live)).2) else ((bnd (t / p1) live p4).1, false, o' + j1, (bnd (t / p1) live p4).2))) := by
      intro live br t p1 p4 hp
      unfold fterm
      rcases hop with ⟨rfl, ht⟩ | ⟨rfl, ht⟩
      · have hc : cda c e (o' + j) = nI 142 := by rw [hcd, mc42 o]; exact ht
        show (if cda c e (o' + j) = nI 142 then (ev c v e env N 2 live (o' + j + 1) br).map _ else _) = _
        rw [if_pos hc, Nat.add_assoc, hp]
        rfl
      · have hc : cda c e (o' + j) = nI 147 := by rw [hcd, mc47 o]; exact ht
        have hc2 : ¬ cda c e (o' + j) = nI 142 := by rw [hc]; decide
        show (if cda c e (o' + j) = nI 142 then _ else if cda c e (o' + j) = nI 147 then (ev c v e env N 2 live (o' + j + 1) br).map _ else _) = _
        rw [if_neg hc2, if_pos hc, Nat.add_assoc, hp]
        show some (if p1 = lN 0 then _ else _) = some (Sum.inl (if p1 = lN 0 then _ else _))
        by_cases cz : p1 = lN 0
        · rw [if_pos cz, if_pos cz]
        · rw [if_neg cz, if_neg cz]
    have go : ∀ (live : Bool) (w : Option (Bool × Int64)) (t : Int64) (br : Bool) (x : ER), fterm c e (ev c v e env N 2) live (t, false, o' + j, br) = some (.inl x) → x.2.1 = false → contE c v e env N live w t (o' + j) br (k0 + 1) kk' = contE c v e env N live w x.1 x.2.2.1 x.2.2.2 k0 kk' := by
      intro live w t br x hx hxf
      obtain ⟨x1, x2, x3, x4⟩ := x
      have : x2 = false := hxf
      subst this
      rw [contE_x, contE_x, q_wh2 hx]
    refine ⟨fun a t => ?_, fun live br a hd ha => ?_⟩
    · cases r with
      | none =>
        have h1 := stp1 true false t.toInt64 (lN 0) true e1
        rw [go _ _ _ _ _ h1 (by rcases hop with ⟨rfl, _⟩ | ⟨rfl, _⟩ <;> rfl)]
        have hx : (if op = 4 then ((bnd (t.toInt64 * lN 0) true true).1, false, o' + j1, (bnd (t.toInt64 * lN 0) true true).2) else if lN 0 = lN 0 then ((bnd (t.toInt64 / lN 1) true (true || true)).1, false, o' + j1, (bnd (t.toInt64 / lN 1) true (true || true)).2) else ((bnd (t.toInt64 / lN 0) true true).1, false, o' + j1, (bnd (t.toInt64 / lN 0) true true).2) : ER) = (lN 0, false, o' + j1, true) := by
          rw [bnd_d, Bool.true_or, bnd_d, bnd_d, if_pos rfl]
          split <;> rfl
        rw [hx]
        exact f2 true true a.toInt64 rfl (Or.inl rfl)
      | some y =>
        have h1 := stp1 true false t.toInt64 y.toInt64 false e1
        have hx : (if op = 4 then ((bnd (t.toInt64 * y.toInt64) true false).1, false, o' + j1, (bnd (t.toInt64 * y.toInt64) true false).2) else if y.toInt64 = lN 0 then ((bnd (t.toInt64 / lN 1) true (false || true)).1, false, o' + j1, (bnd (t.toInt64 / lN 1) true (false || true)).2) else ((bnd (t.toInt64 / y.toInt64) true false).1, false, o' + j1, (bnd (t.toInt64 / y.toInt64) true false).2) : ER) = evR (mdR op t y) (o' + j1) := by
          unfold mdR
          by_cases c4 : op = 4
          · rw [if_pos c4, if_pos c4, bnd_v]
            cases vbd (t.toInt64 * y.toInt64) <;> rfl
          · rw [if_neg c4, if_neg c4]
            by_cases cy : y = nI 0
            · rw [if_pos (by rw [i64_0]; exact cy), if_pos cy, Bool.false_or, bnd_d]
              rfl
            · rw [if_neg (by rw [i64_0]; exact cy), if_neg cy, bnd_v]
              cases vbd (t.toInt64 / y.toInt64) <;> rfl
        rw [go _ _ _ _ _ h1 (by rw [hx]; exact (evR_p _ _).2), hx]
        show _ = some (evR ((mdR op t y).bind (fun t' => R a t')) (o' + j2))
        cases mdR op t y with
        | none => exact f2 true true a.toInt64 rfl (Or.inl rfl)
        | some t' => exact f1 a t'
    · have h1 := stp1 live br (lN 0) (lN 0) br (e2 live br hd)
      have hx : (if op = 4 then ((bnd (lN 0 * lN 0) live br).1, false, o' + j1, (bnd (lN 0 * lN 0) live br).2) else if lN 0 = lN 0 then ((bnd (lN 0 / lN 1) live (br || live)).1, false, o' + j1, (bnd (lN 0 / lN 1) live (br || live)).2) else ((bnd (lN 0 / lN 0) live br).1, false, o' + j1, (bnd (lN 0 / lN 0) live br).2) : ER) = (lN 0, false, o' + j1, br) := by
        rw [l00, l01, if_pos rfl]
        cases br with
        | true => rw [Bool.true_or, bnd_d]; split <;> rfl
        | false =>
          have hl : live = false := by cases live <;> simp_all
          subst hl
          rw [Bool.false_or, bnd_n]
          split <;> rfl
      rw [go _ _ _ _ _ h1 (by rw [hx]), hx]
      exact f2 live br a hd ha
/-- a + or - -/
theorem seml_a (o : TOK B n m) {fu dep j z j1 j2 : Nat} {wt : Option Bool} {cs1 cs2 : List Int32} {b : Bool} (hop : tg B n j = if b then 1043 else 1045) (hj : j < j1) (hj1 : j1 ≤ m) (s1 : SEM B n m 2 fu (2 * dep + 4) (j + 1) (z + (wtC wt).length) cs1 j1) (s2 : SEML B n m fu dep j1 (z + (wtC wt).length + cs1.length) (some b) cs2 j2) : SEML B n m fu dep j z wt (wtC wt ++ (cs1 ++ cs2)) j2 := by
  intro c v e o' env cx
  obtain ⟨r, r1, r2⟩ := s1 c v e o' env cx
  obtain ⟨R, q1, q2⟩ := s2 c v e o' env cx
  have hm4 := o.m400
  refine ⟨fun a t => (wtR wt a t).bind (fun a' => r.bind (fun y => R a' y)), fun a t st l so sk hat hs hl => ?_, fun N hN kk kk' hk hk' => ?_⟩
  · obtain ⟨a1, a2⟩ := AT_app.mp hat
    obtain ⟨a3, a4⟩ := AT_app.mp a2
    rw [List.length_append, List.length_append, vrun_add, wt_run a1 hs]
    show ((wtR wt a t).map (fun y => (y :: l, so, sk))).bind _ = ((wtR wt a t).bind (fun a' => r.bind (fun y => R a' y))).map _
    cases wtR wt a t with
    | none => rfl
    | some a' =>
      show vrun env st (cs1.length + cs2.length) (z + (wtC wt).length) (a' :: l, so, sk) = (r.bind (fun y => R a' y)).map _
      rw [vrun_add, r1 st (a' :: l) so sk a3 (by omega) (by show l.length + 1 ≤ _; omega)]
      cases r with
      | none => rfl
      | some y => exact q1 a' y st l so sk a4 (by omega) hl
  · obtain ⟨k0, rfl⟩ : ∃ k, kk' = k + 1 := ⟨kk' - 1, by omega⟩
    obtain ⟨e1, e2⟩ := r2 N hN
    obtain ⟨f1, f2⟩ := q2 N hN 401 k0 (by omega) (by omega)
    have hcd := cx.1 j (by omega)
    have hg : cda c e (o' + j) = if b then nI 143 else nI 145 := by
      rw [hcd]
      cases b with
      | true => show mcJ B n j = nI 143; rw [mc43 o]; exact hop
      | false => show mcJ B n j = nI 145; rw [mc45 o]; exact hop
    have k1 : ¬ cda c e (o' + j) = nI 142 := by rw [hg]; cases b <;> decide
    have k4 : ¬ cda c e (o' + j) = nI 147 := by rw [hg]; cases b <;> decide
    refine ⟨fun a t => ?_, fun live br a hd ha => ?_⟩
    · rw [contE_x, q_wh1 (by omega) (fterm_n (s := (t.toInt64, false, o' + j, false)) k1 k4)]
      show q_wh _ (k0 + 1) (wtX (wtE wt a.toInt64) true (t.toInt64, false, o' + j, false)) = _
      rw [wtX_l]
      show q_wh _ (k0 + 1) (evR (wtR wt a t) (o' + j)) = some (evR ((wtR wt a t).bind (fun a' => r.bind (fun y => R a' y))) (o' + j2))
      cases wtR wt a t with
      | none =>
        show q_wh _ (k0 + 1) (lN 0, false, o' + j, true) = _
        rw [fsum_st hg (e2 true true rfl) rfl]
        exact f2 true true (lN 0) rfl (Or.inl rfl)
      | some a' =>
        show q_wh _ (k0 + 1) (a'.toInt64, false, o' + j, false) = some (evR (r.bind (fun y => R a' y)) (o' + j2))
        rw [fsum_st hg e1 (evR_p _ _).2]
        cases r with
        | none => exact f2 true true a'.toInt64 rfl (Or.inl rfl)
        | some y => exact f1 a' y
    · rw [contE_x, q_wh1 (by omega) (fterm_n (s := (lN 0, false, o' + j, br)) k1 k4)]
      show q_wh _ (k0 + 1) (wtX (wtE wt a) live (lN 0, false, o' + j, br)) = _
      rw [wtX_d wt a _ live br hd ha, fsum_st hg (e2 live br hd) rfl]
      exact f2 live br (lN 0) hd (Or.inr rfl)
/-- a SUM -/
theorem sem_s (o : TOK B n m) {fu dep j z j1 j2 : Nat} {cs1 cs2 : List Int32} (s1 : SEM B n m 2 fu (2 * dep + 4) j z cs1 j1) (s2 : SEML B n m fu dep j1 (z + cs1.length) none cs2 j2) : SEM B n m 0 (fu + 2) (2 * dep + 2) j z (cs1 ++ cs2) j2 := by
  intro c v e o' env cx
  obtain ⟨r, r1, r2⟩ := s1 c v e o' env cx
  obtain ⟨R, q1, q2⟩ := s2 c v e o' env cx
  have hm4 := o.m400
  refine ⟨r.bind (fun y => R (nI 0) y), fun st l so sk hat hs hl => ?_, fun N' hN' => ?_⟩
  · obtain ⟨a1, a2⟩ := AT_app.mp hat
    rw [List.length_append, vrun_add, r1 st l so sk a1 hs (by omega)]
    cases r with
    | none => rfl
    | some y => exact q1 (nI 0) y st l so sk a2 (by omega) hl
  · obtain ⟨N, rfl⟩ : ∃ N, N' = N + 2 := ⟨N' - 2, by omega⟩
    obtain ⟨e1, e2⟩ := r2 N (by omega)
    obtain ⟨f1, f2⟩ := q2 N (by omega) 401 401 (by omega) (by omega)
    have hev : ∀ live br (p : ER), p.2.1 = false → ev c v e env N 2 live (o' + j) br = some p → ev c v e env (N + 2) 0 live (o' + j) br = contE c v e env N live none p.1 p.2.2.1 p.2.2.2 401 401 := by
      intro live br p hpf hp
      obtain ⟨p1, p2, p3, p4⟩ := p
      have : p2 = false := hpf
      subst this
      show ((ev c v e env N 2 live (o' + j) br).bind (fun r => q_wh (fterm c e (ev c v e env N 2) live) 401 r)).bind (fun r => q_wh (fsum c e (ev c v e env (N + 1) 1) live) 401 r) = _
      rw [hp, contE_x]
      rfl
    refine ⟨?_, fun live br hd => ?_⟩
    · rw [hev true false _ (evR_p _ _).2 e1]
      cases r with
      | none => exact f2 true true (lN 0) rfl (Or.inl rfl)
      | some y => exact f1 (nI 0) y
    · rw [hev live br _ rfl (e2 live br hd)]
      exact f2 live br (lN 0) hd (Or.inr rfl)
/-- a part in brackets -/
theorem sem_b (o : TOK B n m) {fu lim lim' j z j1 : Nat} {cs : List Int32} (hl : lim' ≤ lim) (hj : j ≤ m) (ht : tg B n j = 1091) (s1 : SEM B n m 0 fu lim (j + 1) z cs j1) : SEM B n m 2 (fu + 1) lim' j z cs (j1 + 1) := by
  intro c v e o' env cx
  obtain ⟨r, r1, r2⟩ := s1 c v e o' env cx
  refine ⟨r, fun st l so sk hat hs hll => r1 st l so sk hat hs (by omega), fun N' hN' => ?_⟩
  obtain ⟨N, rfl⟩ : ∃ N, N' = N + 1 := ⟨N' - 1, by omega⟩
  obtain ⟨e1, e2⟩ := r2 N (by omega)
  have hc : cda c e (o' + j) = nI 191 := by rw [cx.1 j hj, mc91 o]; exact ht
  have hev : ∀ live br, ev c v e env (N + 1) 2 live (o' + j) br = (ev c v e env N 0 live (o' + (j + 1)) br).map (fun t => (t.1, false, t.2.2.1 + 1, t.2.2.2)) := by
    intro live br
    show fpart c v e env (ev c v e env N 0) live (o' + j) br = _
    unfold fpart
    rw [if_pos hc]
    rfl
  refine ⟨?_, fun live br hd => ?_⟩
  · rw [hev, e1]
    cases r <;> rfl
  · rw [hev, e2 live br hd]
    rfl
/-- a number, a word -/
theorem sem_l (o : TOK B n m) {lim j z : Nat} (hl : lim < 64) (hj : j < m) (ht : 8 ≤ tg B n j ∧ tg B n j ≤ 20) : SEM B n m 2 1 lim j z [if tg B n j = 20 then stp (tnm B n j) 0 else stp (tg B n j - 8) 1] (j + 1) := by
  intro c v e o' env cx
  have h1 := cx.1 j (by omega)
  have h2 := cx.2 j hj
  have hn : ¬ cda c e (o' + j) = nI 191 := by rw [h1, mc91 o]; omega
  have hev : ∀ N live br, ev c v e env (N + 1) 2 live (o' + j) br = fpart c v e env (ev c v e env N 0) live (o' + j) br := fun _ _ _ => rfl
  have hdead : ∀ N', 1 ≤ N' → ∀ live br, (live && !br) = false → ev c v e env N' 2 live (o' + j) br = some (lN 0, false, o' + (j + 1), br) := by
    intro N' hN' live br hd
    obtain ⟨N, rfl⟩ : ∃ N, N' = N + 1 := ⟨N' - 1, by omega⟩
    rw [hev]
    unfold fpart
    rw [if_neg hn, if_pos (by cases live <;> cases br <;> simp_all)]
    rfl
  rcases mc_all o j with ⟨q1, q2⟩ | ⟨q1, q2, q3, q4⟩ | ⟨q1, _⟩ | ⟨q1, _⟩ | ⟨u, _, q1, _⟩
  · rw [if_neg (by omega)]
    refine ⟨some (env (tg B n j - 8)), fun st l so sk hat hs hll => ?_, fun N' hN' => ⟨?_, hdead N' hN'⟩⟩
    · show vrun env st 1 z (l, so, sk) = _
      rw [vrun_1 hs, AT_1.mp hat]
      unfold vone
      rw [stp_o (by omega), stp_w (by omega) (by omega), if_neg (by omega), if_pos rfl, if_neg, nI_clamp (by omega)]
      · rfl
      · rw [nI_leI (by omega) (by omega)]
        show ¬ (64 ≤ l.length ∨ 12 ≤ tg B n j - 8)
        omega
    · obtain ⟨N, rfl⟩ : ∃ N, N' = N + 1 := ⟨N' - 1, by omega⟩
      rw [hev]
      unfold fpart
      rw [if_neg hn, if_neg (by decide), h1, q2, if_neg (by rw [nI_eq (by omega) (by omega)]; omega), if_pos (by rw [nI_leI (by omega) (by omega), nI_leI (by omega) (by omega)]; omega), nI_clamp (by omega), show tg B n j + 1 - 9 = tg B n j - 8 by omega]
      rfl
  · rw [if_pos q1]
    refine ⟨some (nI (tnm B n j)), fun st l so sk hat hs hll => ?_, fun N' hN' => ⟨?_, hdead N' hN'⟩⟩
    · show vrun env st 1 z (l, so, sk) = _
      rw [vrun_1 hs, AT_1.mp hat]
      unfold vone
      rw [stp_o (by omega), stp_w (by omega) (by omega), if_pos rfl, if_neg (by show ¬ 64 ≤ l.length; omega)]
      rfl
    · obtain ⟨N, rfl⟩ : ∃ N, N' = N + 1 := ⟨N' - 1, by omega⟩
      rw [hev]
      unfold fpart
      rw [if_neg hn, if_neg (by decide), h1, h2, q2, q3, if_pos rfl]
      rfl
  · omega
  · omega
  · omega
end SS
