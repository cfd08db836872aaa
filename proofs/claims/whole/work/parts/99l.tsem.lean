/-! TESTS: steps and tokens say the same -/
/-- what is left behind a TEST: none is BROKEN -/
def resB (r : Option Bool) (x : Option VS) (l : List Int32) (e : Nat) : Prop := match r with
  | none => x = none
  | some q => ∃ sk, sk ≤ e ∧ x = some (l, q, sk)
def evB (r : Option Bool) (x : Option ER) (g : Nat) : Prop := match r with
  | none => ∃ q, x = some (lN 0, q, g, true)
  | some q => x = some (lN 0, q, g, false)
section TS
variable (B : Nat → Int32) (n m : Nat)
def TSEM (tag fu lim j z : Nat) (cs : List Int32) (j' : Nat) : Prop := ∀ c v e o env, CTX B n m c v e o → ∃ r : Option Bool, (∀ (st : Nat → Int32) (l : List Int32) (so : Bool) (sk : Nat), AT st z cs → sk ≤ z → l.length ≤ lim → resB r (vrun env st cs.length z (l, so, sk)) l (z + cs.length)) ∧ ∀ N, fu ≤ N → evB r (ev c v e env N tag true (o + j) false) (o + j') ∧ ∀ live br, (live && !br) = false → ∃ q, ev c v e env N tag live (o + j) br = some (lN 0, q, o + j', br)
end TS
section TT
variable {B : Nat → Int32} {n m : Nat}
theorem mc60 (o : TOK B n m) (j : Nat) : (mcJ B n j = nI 160) = (tg B n j = 1060) := mc_s o j (u := 60) (by omega)
theorem mc61 (o : TOK B n m) (j : Nat) : (mcJ B n j = nI 161) = (tg B n j = 1061) := mc_s o j (u := 61) (by omega)
theorem mc62 (o : TOK B n m) (j : Nat) : (mcJ B n j = nI 162) = (tg B n j = 1062) := mc_s o j (u := 62) (by omega)
theorem mc40 (o : TOK B n m) (j : Nat) : (mcJ B n j = nI 140) = (tg B n j = 1040) := mc_s o j (u := 40) (by omega)
theorem mc41 (o : TOK B n m) (j : Nat) : (mcJ B n j = nI 141) = (tg B n j = 1041) := mc_s o j (u := 41) (by omega)
def cmR (op : Nat) (a b : Int32) : Bool := if op = 6 then decide (a.toInt64 < b.toInt64) else if op = 7 then decide (b.toInt64 < a.toInt64) else decide (a.toInt64 = b.toInt64)
/-- a comparison -/
theorem tsem_c (o : TOK B n m) {fu dep j z j1 j2 op : Nat} {cs1 cs2 : List Int32} (hj : j ≤ m) (hj1 : j1 ≤ m) (hn : tg B n j ≠ 1040) (hop : (op = 6 ∧ tg B n j1 = 1060) ∨ (op = 7 ∧ tg B n j1 = 1062) ∨ (op = 8 ∧ tg B n j1 = 1061)) (s1 : SEM B n m 0 fu (2 * dep + 2) j z cs1 j1) (s2 : SEM B n m 0 fu (2 * dep + 2) (j1 + 1) (z + cs1.length) cs2 j2) : TSEM B n m 6 (fu + 1) (2 * dep + 1) j z (cs1 ++ (cs2 ++ [stp 0 op])) j2 := by
  intro c v e o' env cx
  obtain ⟨r1, a1, a2⟩ := s1 c v e o' env cx
  obtain ⟨r2, b1, b2⟩ := s2 c v e o' env cx
  refine ⟨r1.bind (fun a => r2.map (fun b => cmR op a b)), fun st l so sk hat hs hl => ?_, fun N' hN' => ?_⟩
  · obtain ⟨t1, t2⟩ := AT_app.mp hat
    obtain ⟨t3, t4⟩ := AT_app.mp t2
    rw [List.length_append, List.length_append, vrun_add, a1 st l so sk t1 hs (by omega)]
    cases r1 with
    | none => rfl
    | some a =>
      show resB (r2.map (fun b => cmR op a b)) (vrun env st (cs2.length + 1) (z + cs1.length) (a :: l, so, sk)) l _
      rw [vrun_add, b1 st (a :: l) so sk t3 (by omega) (by show l.length + 1 ≤ _; omega)]
      cases r2 with
      | none => rfl
      | some b =>
        refine ⟨sk, by omega, ?_⟩
        show vrun env st 1 (z + cs1.length + cs2.length) (b :: a :: l, so, sk) = some (l, cmR op a b, sk)
        rw [vrun_1 (by show sk ≤ _; omega), AT_1.mp t4, vone_op env (by omega) (by omega)]
        rcases hop with ⟨rfl, _⟩ | ⟨rfl, _⟩ | ⟨rfl, _⟩ <;> rfl
  · obtain ⟨N, rfl⟩ : ∃ N, N' = N + 1 := ⟨N' - 1, by omega⟩
    obtain ⟨e1, e2⟩ := a2 N (by omega)
    obtain ⟨f1, f2⟩ := b2 N (by omega)
    have h40 : ¬ cda c e (o' + j) = nI 140 := by rw [cx.1 j hj, mc40 o]; exact hn
    have hcd := cx.1 j1 hj1
    have hev : ∀ live br (p : ER), ev c v e env N 0 live (o' + j) br = some p → ev c v e env (N + 1) 6 live (o' + j) br = (ev c v e env N 0 live (p.2.2.1 + 1) p.2.2.2).map (fun t => (lN 0, live && !t.2.2.2 && fcmp (cda c e p.2.2.1) p.1 t.1, t.2.2.1, t.2.2.2)) := by
      intro live br p hp
      show fpos c e (ev c v e env N 3) (ev c v e env N 0) live (o' + j) br = _
      unfold fpos
      rw [if_neg h40, hp]
      rfl
    refine ⟨?_, fun live br hd => ?_⟩
    · rw [hev true false _ e1, (evR_p r1 (o' + j1)).1, Nat.add_assoc]
      cases r1 with
      | none =>
        show evB none ((ev c v e env N 0 true (o' + (j1 + 1)) true).map _) _
        rw [f2 true true rfl]
        exact ⟨_, rfl⟩
      | some a =>
        show evB (r2.map (fun b => cmR op a b)) ((ev c v e env N 0 true (o' + (j1 + 1)) false).map _) _
        rw [f1]
        cases r2 with
        | none => exact ⟨_, rfl⟩
        | some b =>
          show some ((lN 0, true && !false && fcmp (cda c e (o' + j1)) a.toInt64 b.toInt64, o' + j2, false) : ER) = some (lN 0, cmR op a b, o' + j2, false)
          have hf : fcmp (cda c e (o' + j1)) a.toInt64 b.toInt64 = cmR op a b := by
            unfold fcmp cmR
            rw [hcd]
            rcases hop with ⟨rfl, ht⟩ | ⟨rfl, ht⟩ | ⟨rfl, ht⟩
            · rw [if_pos (by rw [mc60 o]; exact ht), if_pos rfl]
            · rw [if_neg (by rw [mc60 o]; omega), if_pos (by rw [mc62 o]; exact ht), if_neg (by omega), if_pos rfl]
            · rw [if_neg (by rw [mc60 o]; omega), if_neg (by rw [mc62 o]; omega), if_neg (by omega), if_neg (by omega)]
          rw [hf]
          rfl
    · rw [hev live br _ (e2 live br hd)]
      show ∃ q, (ev c v e env N 0 live (o' + j1 + 1) br).map _ = _
      rw [Nat.add_assoc, f2 live br hd]
      exact ⟨_, rfl⟩
/-- a TEST in brackets -/
theorem tsem_b (o : TOK B n m) {fu lim lim' j z j1 : Nat} {cs : List Int32} (hl : lim' ≤ lim) (hj : j ≤ m) (ht : tg B n j = 1040) (s1 : TSEM B n m 3 fu lim (j + 1) z cs j1) : TSEM B n m 6 (fu + 1) lim' j z cs (j1 + 1) := by
  intro c v e o' env cx
  obtain ⟨r, r1, r2⟩ := s1 c v e o' env cx
  refine ⟨r, fun st l so sk hat hs hll => r1 st l so sk hat hs (by omega), fun N' hN' => ?_⟩
  obtain ⟨N, rfl⟩ : ∃ N, N' = N + 1 := ⟨N' - 1, by omega⟩
  obtain ⟨e1, e2⟩ := r2 N (by omega)
  have hc : cda c e (o' + j) = nI 140 := by rw [cx.1 j hj, mc40 o]; exact ht
  have hev : ∀ live br, ev c v e env (N + 1) 6 live (o' + j) br = (ev c v e env N 3 live (o' + (j + 1)) br).map (fun t => (lN 0, t.2.1, t.2.2.1 + 1, t.2.2.2)) := by
    intro live br
    show fpos c e (ev c v e env N 3) (ev c v e env N 0) live (o' + j) br = _
    unfold fpos
    rw [if_pos hc]
    rfl
  refine ⟨?_, fun live br hd => ?_⟩
  · rw [hev]
    cases r with
    | none => obtain ⟨q, hq⟩ := e1; rw [hq]; exact ⟨q, rfl⟩
    | some q =>
      have hq : ev c v e env N 3 true (o' + (j + 1)) false = some (lN 0, q, o' + j1, false) := e1
      rw [hq]; rfl
  · obtain ⟨q, hq⟩ := e2 live br hd
    rw [hev, hq]
    exact ⟨q, rfl⟩
def oddN : Nat → Bool
  | 0 => false
  | k + 1 => !oddN k
theorem fnot_k (o : TOK B n m) {c v : Nat → Int32} {e o' : Nat} (cx : CTX B n m c v e o') : ∀ k j (b : Bool) K, k < K → j + k ≤ m → (∀ i, i < k → tg B n (j + i) = 7) → tg B n (j + k) ≠ 7 → q_wh (fnot c e) K (b, o' + j) = some (xor b (oddN k), o' + (j + k))
  | 0, j, b, K, hK, hjm, _, hn => by
    have h1 : ¬ cda c e (o' + j) = nI 8 := by rw [cx.1 j (by omega), mc_w o j (w := 7) (by omega)]; exact hn
    refine (q_wh1 (s' := (b, o' + j)) (by omega) ?_).trans ?_
    · show (if cda c e (o' + j) = nI 8 then _ else _) = _
      rw [if_neg h1]
    · show some (b, o' + j) = some (xor b false, o' + (j + 0))
      rw [Bool.xor_false]
      rfl
  | k + 1, j, b, K, hK, hjm, hy, hn => by
    obtain ⟨K', rfl⟩ : ∃ k, K = k + 1 := ⟨K - 1, by omega⟩
    have h1 : cda c e (o' + j) = nI 8 := by rw [cx.1 j (by omega), mc_w o j (w := 7) (by omega)]; exact hy 0 (by omega)
    refine (q_wh2 (s' := (!b, o' + (j + 1))) ?_).trans ?_
    · show (if cda c e (o' + j) = nI 8 then _ else _) = _
      rw [if_pos h1]
      rfl
    · rw [fnot_k o cx k (j + 1) (!b) K' (by omega) (by omega) (fun i hi => by rw [show j + 1 + i = j + (i + 1) by omega]; exact hy (i + 1) (by omega)) (by rw [show j + 1 + k = j + (k + 1) by omega]; exact hn)]
      show some (xor (!b) (oddN k), _) = some (xor b (!oddN k), _)
      rw [show j + 1 + k = j + (k + 1) by omega]
      cases b <;> cases oddN k <;> rfl
def flC (b : Bool) : List Int32 := if b then [stp 0 9] else []
/-- a row of "not" -/
theorem tsem_n (o : TOK B n m) {fu lim j z j1 k : Nat} {cs : List Int32} (hjm : j + k ≤ m) (hy : ∀ i, i < k → tg B n (j + i) = 7) (hn : tg B n (j + k) ≠ 7) (s1 : TSEM B n m 6 fu lim (j + k) z cs j1) : TSEM B n m 5 (fu + 1) lim j z (cs ++ flC (oddN k)) j1 := by
  intro c v e o' env cx
  obtain ⟨r, r1, r2⟩ := s1 c v e o' env cx
  have hm4 := o.m400
  refine ⟨r.map (fun q => xor q (oddN k)), fun st l so sk hat hs hll => ?_, fun N' hN' => ?_⟩
  · obtain ⟨t1, t2⟩ := AT_app.mp hat
    rw [List.length_append, vrun_add]
    have h1 := r1 st l so sk t1 hs hll
    cases r with
    | none =>
      have h1' : vrun env st cs.length z (l, so, sk) = none := h1
      rw [h1']; rfl
    | some q =>
      obtain ⟨sk', k1, k2⟩ := h1
      rw [k2]
      cases hk : oddN k with
      | false =>
        rw [hk] at t2
        refine ⟨sk', ?_, ?_⟩
        · show sk' ≤ z + (cs.length + 0)
          omega
        · show some (l, q, sk') = some (l, xor q false, sk')
          rw [Bool.xor_false]
      | true =>
        rw [hk] at t2
        refine ⟨sk', ?_, ?_⟩
        · show sk' ≤ z + (cs.length + 1)
          omega
        · show vrun env st 1 (z + cs.length) (l, q, sk') = some (l, xor q true, sk')
          rw [vrun_1 (by show sk' ≤ _; omega), AT_1.mp t2]
          unfold vone
          rw [stp_o (by omega), if_neg (by omega), if_neg (by omega), if_neg (by omega), if_pos rfl]
          show some (l, !q, sk') = _
          cases q <;> rfl
  · obtain ⟨N, rfl⟩ : ∃ N, N' = N + 1 := ⟨N' - 1, by omega⟩
    obtain ⟨e1, e2⟩ := r2 N (by omega)
    have hf := fnot_k o cx k j false 401 (by omega) hjm hy hn
    rw [Bool.false_xor] at hf
    have hev : ∀ live br, ev c v e env (N + 1) 5 live (o' + j) br = (ev c v e env N 6 live (o' + (j + k)) br).map (fun t => (lN 0, xor t.2.1 (oddN k), t.2.2.1, t.2.2.2)) := by
      intro live br
      show (q_wh (fnot c e) 401 (false, o' + j)).bind _ = _
      rw [hf]
      rfl
    refine ⟨?_, fun live br hd => ?_⟩
    · rw [hev]
      cases r with
      | none => obtain ⟨q, hq⟩ := e1; rw [hq]; exact ⟨_, rfl⟩
      | some q =>
        have hq : ev c v e env N 6 true (o' + (j + k)) false = some (lN 0, q, o' + j1, false) := e1
        rw [hq]; rfl
    · obtain ⟨q, hq⟩ := e2 live br hd
      rw [hev, hq]
      exact ⟨_, rfl⟩
/-! rows of "and" and "or" -/
/-- from within a TEST on: what the "or" ahead have come to, and this row of "and" so far -/
def contT (c v : Nat → Int32) (e : Nat) (env : Nat → Int32) (N : Nat) (live : Bool) (ov : Option Bool) (p : Bool) (g : Nat) (br : Bool) (kk kk' : Nat) : Option ER :=
  (q_wh (fboth c e (ev c v e env N 5) (live && !ov.getD false)) kk (lN 0, p, g, br)).bind (fun r => q_wh (ftest c e (ev c v e env (N + 1) 4) live) kk' (lN 0, ov.getD false || r.2.1, r.2.2.1, r.2.2.2))
def TSL (B : Nat → Int32) (n m fu lim j z : Nat) (cs : List Int32) (Ta Ts j' : Nat) : Prop := (z ≤ Ta ∧ Ta ≤ z + cs.length ∧ z ≤ Ts ∧ Ts ≤ z + cs.length) ∧ ∀ c v e o env, CTX B n m c v e o → ∃ R : Bool → Bool → Option Bool, (∀ p, R true p = some true) ∧ (∀ (vv p : Bool) (st : Nat → Int32) (l : List Int32) (so : Bool) (sk : Nat), AT st z cs → l.length ≤ lim → ((vv = true ∧ so = true ∧ sk = Ts) ∨ (vv = false ∧ p = false ∧ so = false ∧ sk = Ta) ∨ (vv = false ∧ so = p ∧ sk ≤ z)) → resB (R vv p) (vrun env st cs.length z (l, so, sk)) l (z + cs.length)) ∧ ∀ N, fu ≤ N → ∀ kk kk', m - j < kk → m - j < kk' → (∀ ov p, evB (R (ov.getD false) p) (contT c v e env N true ov p (o + j) false kk kk') (o + j')) ∧ ∀ live br ov p, (live && !br) = false → ∃ q, contT c v e env N live ov p (o + j) br kk kk' = some (lN 0, q, o + j', br)
theorem fboth_n {c : Nat → Int32} {e : Nat} {E : Bool → Nat → Bool → Option ER} {live : Bool} {s : ER} (h1 : ¬ cda c e s.2.2.1 = nI 7) : fboth c e E live s = some (.inr s) := by
  unfold fboth
  rw [if_neg h1]
theorem ftest_n {c : Nat → Int32} {e : Nat} {E : Bool → Nat → Bool → Option ER} {live : Bool} {s : ER} (h1 : ¬ cda c e s.2.2.1 = nI 6) : ftest c e E live s = some (.inr s) := by
  unfold ftest
  rw [if_neg h1]
theorem mcA (o : TOK B n m) (j : Nat) : (mcJ B n j = nI 7) = (tg B n j = 6) := mc_w o j (w := 6) (by omega)
theorem mcO (o : TOK B n m) (j : Nat) : (mcJ B n j = nI 6) = (tg B n j = 5) := mc_w o j (w := 5) (by omega)
/-- a TEST ends -/
theorem tsl_e (o : TOK B n m) {fu lim j z : Nat} (hj : j ≤ m) (h1 : tg B n j ≠ 5) (h2 : tg B n j ≠ 6) : TSL B n m fu lim j z [] z z j := by
  refine ⟨⟨Nat.le_refl _, Nat.le_refl _, Nat.le_refl _, Nat.le_refl _⟩, ?_⟩
  intro c v e o' env cx
  have k1 : ¬ cda c e (o' + j) = nI 7 := by rw [cx.1 j hj, mcA o]; exact h2
  have k2 : ¬ cda c e (o' + j) = nI 6 := by rw [cx.1 j hj, mcO o]; exact h1
  have hev : ∀ N live ov p br kk kk', 0 < kk → 0 < kk' → contT c v e env N live ov p (o' + j) br kk kk' = some (lN 0, ov.getD false || p, o' + j, br) := by
    intro N live ov p br kk kk' hk hk'
    unfold contT
    rw [q_wh1 hk (fboth_n (s := (lN 0, p, o' + j, br)) k1)]
    exact q_wh1 hk' (ftest_n (s := (lN 0, ov.getD false || p, o' + j, br)) k2)
  refine ⟨fun vv p => some (vv || p), fun p => rfl, fun vv p st l so sk _ _ hc => ?_, fun N _ kk kk' hk hk' => ⟨fun ov p => hev N true ov p false kk kk' (by omega) (by omega), fun live br ov p _ => ⟨_, hev N live ov p br kk kk' (by omega) (by omega)⟩⟩⟩
  refine ⟨sk, ?_, ?_⟩
  · rcases hc with ⟨_, _, h⟩ | ⟨_, _, _, h⟩ | ⟨_, _, h⟩
    · show sk ≤ z + 0; omega
    · show sk ≤ z + 0; omega
    · show sk ≤ z + 0; omega
  · show some (l, so, sk) = some (l, vv || p, sk)
    rcases hc with ⟨h1, h2, _⟩ | ⟨h1, h2, h3, _⟩ | ⟨h1, h2, _⟩
    · rw [h1, h2, Bool.true_or]
    · rw [h1, h2, h3]; rfl
    · rw [h1, h2, Bool.false_or]
theorem vone_sk (env : Nat → Int32) {w op : Nat} (hw : w < 1000000) (hop : op = 10 ∨ op = 11) (l : List Int32) (so : Bool) (sk : Nat) : vone env (stp w op) (l, so, sk) = some (l, so, if so = decide (op = 10) then w else sk) := by
  unfold vone
  rw [stp_o (by omega), stp_w hw (by omega), if_neg (by omega), if_neg (by omega), if_neg (by omega), if_neg (by omega), nI_clamp (by omega)]
  by_cases c : so = decide (op = 10)
  · rw [if_pos c, if_pos c]
  · rw [if_neg c, if_neg c]
/-- an "and" -/
theorem tsl_a (o : TOK B n m) {fu lim j z j1 j2 Ta Ts : Nat} {cs1 cs2 : List Int32} (ht : tg B n j = 6) (hj : j < j1) (hj1 : j1 ≤ m) (hz : z + cs1.length + cs2.length < 100000) (s1 : TSEM B n m 5 fu lim (j + 1) (z + 1) cs1 j1) (s2 : TSL B n m fu lim j1 (z + 1 + cs1.length) cs2 Ta Ts j2) : TSL B n m fu lim j z ([stp Ta 11] ++ (cs1 ++ cs2)) z Ts j2 := by
  obtain ⟨⟨b1, b2, b3, b4⟩, s2⟩ := s2
  have hlen : ([stp Ta 11] ++ (cs1 ++ cs2)).length = 1 + (cs1.length + cs2.length) := by rw [List.length_append, List.length_append]; rfl
  refine ⟨⟨Nat.le_refl _, by omega, by omega, by rw [hlen]; omega⟩, ?_⟩
  intro c v e o' env cx
  obtain ⟨r, r1, r2⟩ := s1 c v e o' env cx
  obtain ⟨R, q0, q1, q2⟩ := s2 c v e o' env cx
  refine ⟨fun vv p => if vv then some true else if p then r.bind (fun q => R false q) else R false false, fun p => rfl, fun vv p st l so sk hat hl hc => ?_, fun N hN kk kk' hk hk' => ?_⟩
  · obtain ⟨a1, a2⟩ := AT_app.mp hat
    obtain ⟨a3, a4⟩ := AT_app.mp a2
    have a1' := AT_1.mp a1
    rw [hlen]
    have e0 : z + (1 + (cs1.length + cs2.length)) = z + 1 + cs1.length + cs2.length := by omega
    rw [e0]
    -- from the next loop's start on
    have nxt : ∀ (s : VS) x, vrun env st (1 + cs1.length) z s = some x → vrun env st (1 + (cs1.length + cs2.length)) z s = vrun env st cs2.length (z + 1 + cs1.length) x := by
      intro s x hx
      rw [← Nat.add_assoc, vrun_add, hx]
      show vrun env st cs2.length (z + (1 + cs1.length)) x = _
      rw [← Nat.add_assoc]
    have skp : sk ≤ z → so = false → vrun env st (1 + cs1.length) z (l, so, sk) = some (l, false, Ta) := by
      intro h1 h2
      rw [vrun_add, vrun_1 h1, a1', vone_sk env (by omega) (Or.inr rfl), h2]
      show vrun env st cs1.length (z + 1) (l, false, Ta) = _
      exact vrun_sk _ _ _ (by show z + 1 + cs1.length ≤ Ta; omega)
    rcases hc with ⟨h1, h2, h3⟩ | ⟨h1, h2, h3, h4⟩ | ⟨h1, h2, h3⟩
    · rw [h1, h2]
      have hx : vrun env st (1 + cs1.length) z (l, true, sk) = some (l, true, sk) := vrun_sk _ _ _ (by show z + (1 + cs1.length) ≤ sk; omega)
      rw [nxt _ _ hx]
      have := q1 true true st l true sk a4 hl (Or.inl ⟨rfl, rfl, h3⟩)
      rw [q0] at this
      exact this
    · rw [h1, h2, nxt _ _ (skp (by omega) h3)]
      exact q1 false false st l false Ta a4 hl (Or.inr (Or.inl ⟨rfl, rfl, rfl, rfl⟩))
    · rw [h1]
      cases p with
      | false =>
        rw [nxt _ _ (skp h3 h2)]
        exact q1 false false st l false Ta a4 hl (Or.inr (Or.inl ⟨rfl, rfl, rfl, rfl⟩))
      | true =>
        rw [h2]
        have h0 : vrun env st 1 z (l, true, sk) = some (l, true, sk) := by
          rw [vrun_1 h3, a1', vone_sk env (by omega) (Or.inr rfl)]
          rfl
        have hr := r1 st l true sk a3 (by omega) hl
        have h5 : vrun env st (1 + cs1.length) z (l, true, sk) = vrun env st cs1.length (z + 1) (l, true, sk) := by
          rw [vrun_add, h0]; rfl
        show resB (r.bind (fun q => R false q)) _ _ _
        cases r with
        | none =>
          have hr' : vrun env st cs1.length (z + 1) (l, true, sk) = none := hr
          show vrun env st (1 + (cs1.length + cs2.length)) z (l, true, sk) = none
          rw [← Nat.add_assoc, vrun_add, h5, hr']
          rfl
        | some q =>
          obtain ⟨sk', k1, k2⟩ := hr
          rw [k2] at h5
          rw [nxt _ _ h5]
          exact q1 false q st l q sk' a4 hl (Or.inr (Or.inr ⟨rfl, rfl, k1⟩))
  · obtain ⟨k0, rfl⟩ : ∃ k, kk = k + 1 := ⟨kk - 1, by omega⟩
    obtain ⟨e1, e2⟩ := r2 N hN
    obtain ⟨f1, f2⟩ := q2 N hN k0 kk' (by omega) (by omega)
    have hc : cda c e (o' + j) = nI 7 := by rw [cx.1 j (by omega), mcA o]; exact ht
    have hev : ∀ live ov p br (x : ER), ev c v e env N 5 ((live && !ov.getD false) && p) (o' + (j + 1)) br = some x → contT c v e env N live ov p (o' + j) br (k0 + 1) kk' = contT c v e env N live ov (p && x.2.1) x.2.2.1 x.2.2.2 k0 kk' := by
      intro live ov p br x hx
      unfold contT
      rw [q_wh2 (s' := (lN 0, p && x.2.1, x.2.2.1, x.2.2.2))]
      unfold fboth
      show (if cda c e (o' + j) = nI 7 then (ev c v e env N 5 ((live && !ov.getD false) && p) (o' + j + 1) br).map _ else _) = _
      rw [if_pos hc, Nat.add_assoc, hx]
      rfl
    refine ⟨fun ov p => ?_, fun live br ov p hd => ?_⟩
    · by_cases cl : (true && !ov.getD false && p) = true
      · have hp : p = true := by revert cl; cases ov.getD false <;> cases p <;> simp
        have hv : ov.getD false = false := by revert cl; cases ov.getD false <;> cases p <;> simp
        show evB (if ov.getD false then some true else if p then r.bind (fun q => R false q) else R false false) _ _
        rw [hv, hp]
        show evB (r.bind (fun q => R false q)) _ _
        cases r with
        | none =>
          obtain ⟨q, hq⟩ := e1
          rw [hev true ov true false _ (by rw [hv]; exact hq)]
          exact f2 true true ov _ rfl
        | some q =>
          have hq : ev c v e env N 5 true (o' + (j + 1)) false = some (lN 0, q, o' + j1, false) := e1
          rw [hev true ov true false _ (by rw [hv]; exact hq)]
          have := f1 ov q
          rw [hv] at this
          exact this
      · have hd : ((true && !ov.getD false && p) && !false) = false := by revert cl; cases ov.getD false <;> cases p <;> simp
        obtain ⟨q, hq⟩ := e2 _ false hd
        rw [hev true ov p false _ hq]
        show evB (if ov.getD false then some true else if p then r.bind (fun q => R false q) else R false false) (contT c v e env N true ov (p && q) (o' + j1) false k0 kk') _
        have := f1 ov (p && q)
        cases hv : ov.getD false with
        | true =>
          rw [hv, q0] at this
          exact this
        | false =>
          have hp : p = false := by rw [hv] at cl; revert cl; cases p <;> simp
          rw [hv, hp] at this
          rw [hp]
          exact this
    · obtain ⟨q, hq⟩ := e2 ((live && !ov.getD false) && p) br (by revert hd; cases live <;> cases br <;> simp)
      rw [hev live ov p br _ hq]
      exact f2 live br ov _ hd
/-- an "or" -/
theorem tsl_o (o : TOK B n m) {fu lim j z j1 j2 Ta Ts : Nat} {cs1 cs2 : List Int32} (ht : tg B n j = 5) (hj : j < j1) (hj1 : j1 ≤ m) (hz : z + cs1.length + cs2.length < 100000) (s1 : TSEM B n m 5 fu lim (j + 1) (z + 1) cs1 j1) (s2 : TSL B n m fu lim j1 (z + 1 + cs1.length) cs2 Ta Ts j2) : TSL B n m fu lim j z ([stp Ts 10] ++ (cs1 ++ cs2)) z z j2 := by
  obtain ⟨⟨b1, b2, b3, b4⟩, s2⟩ := s2
  have hm4 := o.m400
  have hlen : ([stp Ts 10] ++ (cs1 ++ cs2)).length = 1 + (cs1.length + cs2.length) := by rw [List.length_append, List.length_append]; rfl
  refine ⟨⟨Nat.le_refl _, by omega, Nat.le_refl _, by omega⟩, ?_⟩
  intro c v e o' env cx
  obtain ⟨r, r1, r2⟩ := s1 c v e o' env cx
  obtain ⟨R, q0, q1, q2⟩ := s2 c v e o' env cx
  refine ⟨fun vv p => if vv || p then some true else r.bind (fun q => R false q), fun p => rfl, fun vv p st l so sk hat hl hc => ?_, fun N hN kk kk' hk hk' => ?_⟩
  · obtain ⟨a1, a2⟩ := AT_app.mp hat
    obtain ⟨a3, a4⟩ := AT_app.mp a2
    have a1' := AT_1.mp a1
    rw [hlen]
    have e0 : z + (1 + (cs1.length + cs2.length)) = z + 1 + cs1.length + cs2.length := by omega
    rw [e0]
    have nxt : ∀ (s : VS) x, vrun env st (1 + cs1.length) z s = some x → vrun env st (1 + (cs1.length + cs2.length)) z s = vrun env st cs2.length (z + 1 + cs1.length) x := by
      intro s x hx
      rw [← Nat.add_assoc, vrun_add, hx]
      show vrun env st cs2.length (z + (1 + cs1.length)) x = _
      rw [← Nat.add_assoc]
    have skp : sk ≤ z → so = true → vrun env st (1 + cs1.length) z (l, so, sk) = some (l, true, Ts) := by
      intro h1 h2
      rw [vrun_add, vrun_1 h1, a1', vone_sk env (by omega) (Or.inl rfl), h2]
      show vrun env st cs1.length (z + 1) (l, true, Ts) = _
      exact vrun_sk _ _ _ (by show z + 1 + cs1.length ≤ Ts; omega)
    have sof : sk ≤ z → so = false → resB (r.bind (fun q => R false q)) (vrun env st (1 + (cs1.length + cs2.length)) z (l, so, sk)) l (z + 1 + cs1.length + cs2.length) := by
      intro h1 h2
      rw [h2]
      have h0 : vrun env st 1 z (l, false, sk) = some (l, false, sk) := by
        rw [vrun_1 h1, a1', vone_sk env (by omega) (Or.inl rfl)]
        rfl
      have hr := r1 st l false sk a3 (by omega) hl
      have h5 : vrun env st (1 + cs1.length) z (l, false, sk) = vrun env st cs1.length (z + 1) (l, false, sk) := by
        rw [vrun_add, h0]; rfl
      cases r with
      | none =>
        have hr' : vrun env st cs1.length (z + 1) (l, false, sk) = none := hr
        show vrun env st (1 + (cs1.length + cs2.length)) z (l, false, sk) = none
        rw [← Nat.add_assoc, vrun_add, h5, hr']
        rfl
      | some q =>
        obtain ⟨sk', k1, k2⟩ := hr
        rw [k2] at h5
        rw [nxt _ _ h5]
        exact q1 false q st l q sk' a4 hl (Or.inr (Or.inr ⟨rfl, rfl, k1⟩))
    have sot : sk ≤ z → so = true → resB (some true) (vrun env st (1 + (cs1.length + cs2.length)) z (l, so, sk)) l (z + 1 + cs1.length + cs2.length) := by
      intro h1 h2
      rw [nxt _ _ (skp h1 h2)]
      have := q1 true true st l true Ts a4 hl (Or.inl ⟨rfl, rfl, rfl⟩)
      rw [q0] at this
      exact this
    rcases hc with ⟨h1, h2, h3⟩ | ⟨h1, h2, h3, h4⟩ | ⟨h1, h2, h3⟩
    · rw [h1]; exact sot (by omega) h2
    · rw [h1, h2]; exact sof (by omega) h3
    · rw [h1]
      cases p with
      | true => exact sot h3 h2
      | false => exact sof h3 h2
  · obtain ⟨k0, rfl⟩ : ∃ k, kk' = k + 1 := ⟨kk' - 1, by omega⟩
    obtain ⟨e1, e2⟩ := r2 N hN
    obtain ⟨f1, f2⟩ := q2 N hN 401 k0 (by omega) (by omega)
    have hc : cda c e (o' + j) = nI 6 := by rw [cx.1 j (by omega), mcO o]; exact ht
    have hc7 : ¬ cda c e (o' + j) = nI 7 := by rw [hc]; decide
    have hev : ∀ live (ov : Option Bool) p br (x : ER), ev c v e env N 5 (live && !(ov.getD false || p)) (o' + (j + 1)) br = some x → x.1 = lN 0 → contT c v e env N live ov p (o' + j) br kk (k0 + 1) = contT c v e env N live (some (ov.getD false || p)) x.2.1 x.2.2.1 x.2.2.2 401 k0 := by
      intro live ov p br x hx hx0
      obtain ⟨x1, x2, x3, x4⟩ := x
      have : x1 = lN 0 := hx0
      subst this
      have he : ev c v e env (N + 1) 4 (live && !(ov.getD false || p)) (o' + (j + 1)) br = q_wh (fboth c e (ev c v e env N 5) (live && !(ov.getD false || p))) 401 (lN 0, x2, x3, x4) := by
        show (ev c v e env N 5 (live && !(ov.getD false || p)) (o' + (j + 1)) br).bind _ = _
        rw [hx]
        rfl
      unfold contT
      rw [q_wh1 (by omega) (fboth_n (s := (lN 0, p, o' + j, br)) hc7)]
      show (ftest c e (ev c v e env (N + 1) 4) live (lN 0, ov.getD false || p, o' + j, br)).bind _ = (q_wh (fboth c e (ev c v e env N 5) (live && !(ov.getD false || p))) 401 (lN 0, x2, x3, x4)).bind _
      unfold ftest
      show (if cda c e (o' + j) = nI 6 then (ev c v e env (N + 1) 4 (live && !(ov.getD false || p)) (o' + j + 1) br).map _ else _).bind _ = _
      rw [if_pos hc, Nat.add_assoc, he]
      cases q_wh (fboth c e (ev c v e env N 5) (live && !(ov.getD false || p))) 401 (lN 0, x2, x3, x4) <;> rfl
    refine ⟨fun ov p => ?_, fun live br ov p hd => ?_⟩
    · cases hv : (ov.getD false || p) with
      | true =>
        obtain ⟨q, hq⟩ := e2 (true && !(ov.getD false || p)) false (by rw [hv]; rfl)
        rw [hev true ov p false _ hq rfl]
        show evB (if ov.getD false || p then some true else r.bind (fun q => R false q)) (contT c v e env N true (some (ov.getD false || p)) q (o' + j1) false 401 k0) _
        have := f1 (some (ov.getD false || p)) q
        rw [hv]
        rw [hv] at this
        have h2 : R ((some true : Option Bool).getD false) q = some true := q0 q
        rw [h2] at this
        exact this
      | false =>
        show evB (if ov.getD false || p then some true else r.bind (fun q => R false q)) _ _
        rw [hv]
        show evB (r.bind (fun q => R false q)) _ _
        cases r with
        | none =>
          obtain ⟨q, hq⟩ := e1
          rw [hev true ov p false _ (by rw [hv]; exact hq) rfl]
          exact f2 true true _ _ rfl
        | some q =>
          have hq : ev c v e env N 5 true (o' + (j + 1)) false = some (lN 0, q, o' + j1, false) := e1
          rw [hev true ov p false _ (by rw [hv]; exact hq) rfl]
          have := f1 (some (ov.getD false || p)) q
          rw [hv] at this
          rw [hv]
          exact this
    · obtain ⟨q, hq⟩ := e2 (live && !(ov.getD false || p)) br (by revert hd; cases live <;> cases br <;> simp)
      rw [hev live ov p br _ hq rfl]
      exact f2 live br _ _ hd
theorem q_wh0 {α : Type} {f : α → Option (α ⊕ α)} {s : α} {k : Nat} (h : f s = none) : q_wh f (k + 1) s = none := by
  show (f s).bind _ = _
  rw [h]; rfl
theorem fboth_0 {c : Nat → Int32} {e : Nat} {E : Bool → Nat → Bool → Option ER} {live : Bool} : ∀ k (s r : ER), q_wh (fboth c e E live) k s = some r → s.1 = lN 0 → r.1 = lN 0
  | 0, s, r, h, _ => by cases h
  | k + 1, s, r, h, h0 => by
    by_cases c1 : cda c e s.2.2.1 = nI 7
    · cases hE : E (live && s.2.1) (s.2.2.1 + 1) s.2.2.2 with
      | none =>
        have hf : fboth c e E live s = none := by unfold fboth; rw [if_pos c1, hE]; rfl
        rw [q_wh0 hf] at h
        cases h
      | some t =>
        have hf : fboth c e E live s = some (.inl (lN 0, s.2.1 && t.2.1, t.2.2.1, t.2.2.2)) := by unfold fboth; rw [if_pos c1, hE]; rfl
        rw [q_wh2 hf] at h
        exact fboth_0 k _ r h rfl
    · rw [q_wh1 (by omega) (fboth_n c1)] at h
      cases h
      exact h0
/-- a TEST -/
theorem tsem_t (o : TOK B n m) {fu lim j z j1 j2 Ta Ts : Nat} {cs1 cs2 : List Int32} (s1 : TSEM B n m 5 fu lim j z cs1 j1) (s2 : TSL B n m fu lim j1 (z + cs1.length) cs2 Ta Ts j2) : TSEM B n m 3 (fu + 2) lim j z (cs1 ++ cs2) j2 := by
  obtain ⟨_, s2⟩ := s2
  have hm4 := o.m400
  intro c v e o' env cx
  obtain ⟨r, r1, r2⟩ := s1 c v e o' env cx
  obtain ⟨R, q0, q1, q2⟩ := s2 c v e o' env cx
  refine ⟨r.bind (fun q => R false q), fun st l so sk hat hs hl => ?_, fun N' hN' => ?_⟩
  · obtain ⟨a1, a2⟩ := AT_app.mp hat
    rw [List.length_append, vrun_add, ← Nat.add_assoc]
    have hr := r1 st l so sk a1 hs hl
    cases r with
    | none =>
      have hr' : vrun env st cs1.length z (l, so, sk) = none := hr
      rw [hr']; rfl
    | some q =>
      obtain ⟨sk', k1, k2⟩ := hr
      rw [k2]
      exact q1 false q st l q sk' a2 hl (Or.inr (Or.inr ⟨rfl, rfl, k1⟩))
  · obtain ⟨N, rfl⟩ : ∃ N, N' = N + 2 := ⟨N' - 2, by omega⟩
    obtain ⟨e1, e2⟩ := r2 N (by omega)
    obtain ⟨f1, f2⟩ := q2 N (by omega) 401 401 (by omega) (by omega)
    have hev : ∀ live br q g b', ev c v e env N 5 live (o' + j) br = some (lN 0, q, g, b') → ev c v e env (N + 2) 3 live (o' + j) br = contT c v e env N live none q g b' 401 401 := by
      intro live br q g b' hp
      show ((ev c v e env N 5 live (o' + j) br).bind (fun r => q_wh (fboth c e (ev c v e env N 5) live) 401 r)).bind (fun r => q_wh (ftest c e (ev c v e env (N + 1) 4) live) 401 r) = _
      rw [hp]
      unfold contT
      show (q_wh (fboth c e (ev c v e env N 5) live) 401 (lN 0, q, g, b')).bind _ = (q_wh (fboth c e (ev c v e env N 5) (live && !false)) 401 (lN 0, q, g, b')).bind _
      have hl : (live && !false) = live := by cases live <;> rfl
      rw [hl]
      cases hb : q_wh (fboth c e (ev c v e env N 5) live) 401 (lN 0, q, g, b') with
      | none => rfl
      | some r =>
        have h0 := fboth_0 401 _ r hb rfl
        obtain ⟨x1, x2, x3, x4⟩ := r
        have h0' : x1 = lN 0 := h0
        subst h0'
        show q_wh _ 401 (lN 0, x2, x3, x4) = q_wh _ 401 (lN 0, false || x2, x3, x4)
        rw [Bool.false_or]
    refine ⟨?_, fun live br hd => ?_⟩
    · cases r with
      | none =>
        obtain ⟨q, hq⟩ := e1
        rw [hev true false q _ _ hq]
        exact f2 true true none q rfl
      | some q =>
        have hq : ev c v e env N 5 true (o' + j) false = some (lN 0, q, o' + j1, false) := e1
        rw [hev true false q _ _ hq]
        exact f1 none q
    · obtain ⟨q, hq⟩ := e2 live br hd
      rw [hev live br q _ _ hq]
      exact f2 live br none q hd
end TT
