/-! reading a CLAUSE, both -/
/-- whether a clause holds: what is on the stack behind it -/
def clsR (env st : Nat → Int32) (p1 p2 p3 : Nat) : Option (List Int32) :=
  match vrun env st (p3 - p2) p2 ([], true, p2) with
  | some (_, true, _) => (match vrun env st (p2 - p1) p1 ([], true, p1) with
    | some (l, _, _) => some l
    | none => none)
  | _ => none
theorem vho_s (env st cl : Nat → Int32) (hd : Int32) (c : Nat) : vho env st cl hd (c + 1) = if cl (4 * c) = hd then (match clsR env st (cl (4 * c + 1)).toNatClampNeg (cl (4 * c + 2)).toNatClampNeg (cl (4 * c + 3)).toNatClampNeg with
    | some l => some l
    | none => vho env st cl hd c) else vho env st cl hd c := by
  show (if cl (4 * c) = hd then _ else _) = _
  by_cases e : cl (4 * c) = hd
  · rw [if_pos e, if_pos e]
    unfold clsR
    cases vrun env st ((cl (4 * c + 3)).toNatClampNeg - (cl (4 * c + 2)).toNatClampNeg) (cl (4 * c + 2)).toNatClampNeg ([], true, (cl (4 * c + 2)).toNatClampNeg) with
    | none => rfl
    | some x =>
      obtain ⟨x1, x2, x3⟩ := x
      cases x2 with
      | false => rfl
      | true =>
        cases vrun env st ((cl (4 * c + 2)).toNatClampNeg - (cl (4 * c + 1)).toNatClampNeg) (cl (4 * c + 1)).toNatClampNeg ([], true, (cl (4 * c + 1)).toNatClampNeg) with
        | none => rfl
        | some y => obtain ⟨y1, y2, y3⟩ := y; rfl
  · rw [if_neg e, if_neg e]
def CSEM (B : Nat → Int32) (n m hd j z : Nat) (csS csT : List Int32) (j' : Nat) : Prop := ∀ c v e o env, CTX B n m c v e o → ∃ (r : Option (List Int32)) (val : Int64), (∀ st, AT st z (csS ++ csT) → clsR env st z (z + csS.length) (z + csS.length + csT.length) = r) ∧ ecl c v e env (o + j) = some (nI (hd + 1), val, r.isSome, o + j' + 1) ∧ (hd < 3 → ∀ l, r = some l → ∃ y : Int32, l = [y] ∧ val = y.toInt64)
section CL
variable {B : Nat → Int32} {n m : Nat}
/-- what the part ahead of "if" comes to -/
def SHD (B : Nat → Int32) (n m hd j z : Nat) (csS : List Int32) (j1 : Nat) : Prop := ∀ c v e o env, CTX B n m c v e o → ∃ (rs : Option (List Int32)) (val : Int64), (∀ st, AT st z csS → (match vrun env st csS.length z ([], true, z) with
    | some (l, _, _) => some l
    | none => none) = rs) ∧ (if cda c e (o + j) = nI 4 then some ((lN 0, false, o + j + 1, false) : ER) else ev c v e env 64 0 true (o + j + 1) false) = some (val, false, o + j1, !rs.isSome) ∧ (hd < 3 → ∀ l, rs = some l → ∃ y : Int32, l = [y] ∧ val = y.toInt64)
theorem shd_stop (o : TOK B n m) {j z : Nat} (hj : j ≤ m) (ht : tg B n j = 3) : SHD B n m 3 j z [] (j + 1) := by
  intro c v e o' env cx
  have hc : cda c e (o' + j) = nI 4 := by rw [cx.1 j hj, mc_w o j (w := 3) (by omega)]; exact ht
  refine ⟨some [], lN 0, fun st _ => rfl, ?_, fun h => by omega⟩
  rw [if_pos hc]
  rfl
theorem shd_sum (o : TOK B n m) {hd j z j1 : Nat} {cs : List Int32} (hj : j ≤ m) (hd3 : hd < 3) (ht : tg B n j = hd) (s : SEM B n m 0 (fuP 0 + 2) 2 (j + 1) z cs j1) : SHD B n m hd j z cs j1 := by
  intro c v e o' env cx
  obtain ⟨r, r1, r2⟩ := s c v e o' env cx
  have hc : ¬ cda c e (o' + j) = nI 4 := by rw [cx.1 j hj, mc_w o j (w := 3) (by omega)]; omega
  obtain ⟨e1, _⟩ := r2 64 (by unfold fuP; omega)
  refine ⟨r.map (fun y => [y]), (evR r (o' + j1)).1, fun st hat => ?_, ?_, fun _ l hl => ?_⟩
  · rw [r1 st [] true z hat (Nat.le_refl _) (Nat.zero_le _)]
    cases r <;> rfl
  · rw [if_neg hc, Nat.add_assoc, e1]
    cases r <;> rfl
  · cases r with
    | none => cases hl
    | some y => cases hl; exact ⟨y, rfl, rfl⟩
/-- a clause without "if" -/
theorem csem_0 (o : TOK B n m) {hd j z j1 : Nat} {cs : List Int32} (hj : j ≤ m) (hj1 : j1 ≤ m) (hd4 : hd < 4) (ht : tg B n j = hd) (hn : tg B n j1 ≠ 4) (s : SHD B n m hd j z cs j1) : CSEM B n m hd j z cs [] j1 := by
  intro c v e o' env cx
  obtain ⟨rs, val, a1, a2, a3⟩ := s c v e o' env cx
  have hc : cda c e (o' + j) = nI (hd + 1) := by rw [cx.1 j hj, mc_w o j (w := hd) (by omega)]; exact ht
  have hc5 : ¬ cda c e (o' + j1) = nI 5 := by rw [cx.1 j1 hj1, mc_w o j1 (w := 4) (by omega)]; exact hn
  refine ⟨rs, val, fun st hat => ?_, ?_, a3⟩
  · rw [List.append_nil] at hat
    unfold clsR
    have h0 : z + cs.length + ([] : List Int32).length - (z + cs.length) = 0 := by show z + cs.length + 0 - (z + cs.length) = 0; omega
    rw [h0, show z + cs.length - z = cs.length by omega]
    exact a1 st hat
  · unfold ecl
    show ((if cda c e (o' + j) = nI 4 then some ((lN 0, false, o' + j + 1, false) : ER) else ev c v e env 64 0 true (o' + j + 1) false).bind _) = _
    rw [a2]
    show (if cda c e (o' + j1) = nI 5 then _ else _ : Option ER).map _ = _
    rw [if_neg hc5]
    show some (cda c e (o' + j), val, true && !false && !(!rs.isSome), o' + j1 + 1) = _
    rw [hc]
    cases rs <;> rfl
/-- a clause with "if" -/
theorem csem_1 (o : TOK B n m) {hd j z j1 j2 : Nat} {cs cs2 : List Int32} (hj : j ≤ m) (hj1 : j1 ≤ m) (hd4 : hd < 4) (ht : tg B n j = hd) (hn : tg B n j1 = 4) (s : SHD B n m hd j z cs j1) (t : TSEM B n m 3 (fuQ 0 + 3) 1 (j1 + 1) (z + cs.length) cs2 j2) : CSEM B n m hd j z cs cs2 j2 := by
  intro c v e o' env cx
  obtain ⟨rs, val, a1, a2, a3⟩ := s c v e o' env cx
  obtain ⟨rt, b1, b2⟩ := t c v e o' env cx
  obtain ⟨e1, _⟩ := b2 64 (by unfold fuQ; omega)
  have hc : cda c e (o' + j) = nI (hd + 1) := by rw [cx.1 j hj, mc_w o j (w := hd) (by omega)]; exact ht
  have hc5 : cda c e (o' + j1) = nI 5 := by rw [cx.1 j1 hj1, mc_w o j1 (w := 4) (by omega)]; exact hn
  refine ⟨if rt = some true then rs else none, val, fun st hat => ?_, ?_, fun h l hl => ?_⟩
  · obtain ⟨t1, t2⟩ := AT_app.mp hat
    have hr := b1 st [] true (z + cs.length) t2 (Nat.le_refl _) (Nat.zero_le _)
    unfold clsR
    rw [show z + cs.length + cs2.length - (z + cs.length) = cs2.length by omega, show z + cs.length - z = cs.length by omega]
    cases rt with
    | none =>
      have hr' : vrun env st cs2.length (z + cs.length) ([], true, z + cs.length) = none := hr
      rw [hr', if_neg (by simp)]
    | some q =>
      obtain ⟨sk, k1, k2⟩ := hr
      rw [k2]
      cases q with
      | false => rw [if_neg (by simp)]
      | true =>
        rw [if_pos rfl]
        exact a1 st t1
  · unfold ecl
    show ((if cda c e (o' + j) = nI 4 then some ((lN 0, false, o' + j + 1, false) : ER) else ev c v e env 64 0 true (o' + j + 1) false).bind _) = _
    rw [a2]
    show (if cda c e (o' + j1) = nI 5 then ev c v e env 64 3 true (o' + j1 + 1) false else _ : Option ER).map _ = _
    rw [if_pos hc5, Nat.add_assoc o' j1 1]
    cases rt with
    | none =>
      obtain ⟨q, hq⟩ := e1
      rw [hq, if_neg (by simp)]
      show some (cda c e (o' + j), val, q && !true && !(!rs.isSome), o' + j2 + 1) = _
      rw [hc]
      cases q <;> rfl
    | some q =>
      have hq : ev c v e env 64 3 true (o' + (j1 + 1)) false = some (lN 0, q, o' + j2, false) := e1
      rw [hq]
      show some (cda c e (o' + j), val, q && !false && !(!rs.isSome), o' + j2 + 1) = _
      rw [hc]
      cases q with
      | false => rw [if_neg (by simp)]; rfl
      | true => rw [if_pos rfl]; cases rs <;> rfl
  · by_cases c1 : rt = some true
    · rw [if_pos c1] at hl; exact a3 h l hl
    · rw [if_neg c1] at hl; cases hl
def clS (a i : Nat) : Bool := rcS a i || Nat.beq a 79
theorem rc_cl {h h' : Hp} (x : FrS rcS h h') : FrS clS h h' := x.mono (fun a i e => (bor e).1)
def CLO (B : Nat → Int32) (n m j p z j' p' hd : Nat) (csS csT : List Int32) : Prop :=
  (∀ h ci, ci < 12 → RC h B n j p z (4 * ci) → ∃ h', FrS clS h h' ∧ RC h' B n j' p' (z + csS.length + csT.length) (4 * (ci + 1)) ∧ AT (gI h' 78) z (csS ++ csT) ∧ (∀ i, i < z → gI h' 78 i = gI h 78 i) ∧ (∀ i, i < 4 * ci → gI h' 79 i = gI h 79 i) ∧ (gI h' 79 (4 * ci) = nI hd ∧ gI h' 79 (4 * ci + 1) = nI z ∧ gI h' 79 (4 * ci + 2) = nI (z + csS.length) ∧ gI h' 79 (4 * ci + 3) = nI (z + csS.length + csT.length)) ∧ ∀ D F, 60 ≤ D → cwp true D 49 [.ref 76] h F = F (some (.int (nI 1))) h') ∧
  ∀ h, MS h B n m j p → ∃ h', FrS psS h h' ∧ MS h' B n m j' p' ∧ ∀ D F, 60 ≤ D → cwp true D 180 [.ref 101] h F = F none h'
def CLN (B : Nat → Int32) (n m j p z k : Nat) : Prop :=
  (∀ h ci, ci < 12 → RC h B n j p z (4 * ci) → ∃ h', FrS clS h h' ∧ FC h' B n k ∧ ∀ D F, 60 ≤ D → cwp true D 49 [.ref 76] h F = F (some (.int (nI 0))) h') ∧
  ∀ h, MS h B n m j p → ∃ h', FrS psS h h' ∧ MX h' B n k ∧ ∀ D F, 60 ≤ D → cwp true D 180 [.ref 101] h F = F none h'
/-- the four numbers of a clause -/
def clW (h : Hp) (cn : Nat) (a b c e : Int32) : Hp := sI (sI (sI (sI (sI h 79 cn a) 79 (cn + 1) b) 79 (cn + 2) c) 79 (cn + 3) e) 76 11 (nI (cn + 4))
theorem clW_r {h : Hp} {j p z cn : Nat} (r : RC h B n j p z cn) (a b c e : Int32) : RC (clW h cn a b c e) B n j p z (cn + 4) := by
  obtain ⟨⟨⟨r1, r2, r3⟩, r4, r5, r6⟩, r7, r8, r9⟩ := r
  have g : ∀ y i, y ≠ 79 → (y = 76 → i ≠ 11) → gI (clW h cn a b c e) y i = gI h y i := by
    intro y i h1 h2
    unfold clW
    by_cases e : y = 76
    · subst e; rw [q_gm (h2 rfl), q_gn h1, q_gn h1, q_gn h1, q_gn h1]
    · rw [q_gn e, q_gn h1, q_gn h1, q_gn h1, q_gn h1]
  exact ⟨⟨⟨by rw [g 76 2 (by omega) (by omega)]; exact r1, fun i hi => by rw [g 77 i (by omega) (by omega)]; exact r2 i hi, by rw [g 76 3 (by omega) (by omega)]; exact r3⟩, by rw [g 76 4 (by omega) (by omega)]; exact r4, by rw [g 76 5 (by omega) (by omega)]; exact r5, fun u => by rw [g 76 6 (by omega) (by omega)]; exact r6 u⟩, by rw [g 76 7 (by omega) (by omega)]; exact r7, by rw [g 76 9 (by omega) (by omega)]; exact r8, q_gs _ _ _ _⟩
theorem clW_g {h : Hp} {cn : Nat} (a b c e : Int32) : gI (clW h cn a b c e) 78 = gI h 78 ∧ (∀ i, i < cn → gI (clW h cn a b c e) 79 i = gI h 79 i) ∧ gI (clW h cn a b c e) 79 cn = a ∧ gI (clW h cn a b c e) 79 (cn + 1) = b ∧ gI (clW h cn a b c e) 79 (cn + 2) = c ∧ gI (clW h cn a b c e) 79 (cn + 3) = e := by
  unfold clW
  refine ⟨?_, fun i hi => ?_, ?_, ?_, ?_, ?_⟩
  · rw [q_gn (by omega), q_gn (by omega), q_gn (by omega), q_gn (by omega), q_gn (by omega)]
  · rw [q_gn (by omega), q_gm (by omega), q_gm (by omega), q_gm (by omega), q_gm (by omega)]
  · rw [q_gn (by omega), q_gm (by omega), q_gm (by omega), q_gm (by omega), q_gs]
  · rw [q_gn (by omega), q_gm (by omega), q_gm (by omega), q_gs]
  · rw [q_gn (by omega), q_gm (by omega), q_gs]
  · rw [q_gn (by omega), q_gs]
/-- from behind the SUM on -/
theorem cl_if (o : TOK B n m) {j1 p1 z1 : Nat} (hj1 : j1 ≤ m) (hp1 : p1 ≤ 50) (hz1 : z1 ≤ j1) : (∃ j2 p2 cs2, j1 ≤ j2 ∧ j2 ≤ m ∧ p2 ≤ 50 ∧ cs2.length ≤ j2 - j1 ∧ nnL cs2 ∧ ((tg B n j1 ≠ 4 ∧ cs2 = [] ∧ j2 = j1) ∨ (tg B n j1 = 4 ∧ TSEM B n m 3 (fuQ 0 + 3) 1 (j1 + 1) z1 cs2 j2)) ∧ (∀ h ci hd z, ci < 12 → RC h B n j1 p1 z1 (4 * ci) → ∃ h', FrS clS h h' ∧ RC h' B n j2 p2 (z1 + cs2.length) (4 * (ci + 1)) ∧ AT (gI h' 78) z1 cs2 ∧ (∀ i, i < z1 → gI h' 78 i = gI h 78 i) ∧ (∀ i, i < 4 * ci → gI h' 79 i = gI h 79 i) ∧ (gI h' 79 (4 * ci) = nI hd ∧ gI h' 79 (4 * ci + 1) = nI z ∧ gI h' 79 (4 * ci + 2) = nI z1 ∧ gI h' 79 (4 * ci + 3) = nI (z1 + cs2.length)) ∧ ∀ D F (v3 : Value), 50 ≤ D → wp true D 49 53 [.ref 76, .int (nI hd), .int (nI z), v3] [] h F = F (some (.int (nI 1))) h') ∧ ∀ h, MS h B n m j1 p1 → ∃ h', FrS psS h h' ∧ MS h' B n m j2 p2 ∧ ∀ D F, 50 ≤ D → wp true D 180 37 [.ref 101] [] h F = F none h') ∨ ∃ k, k ≤ m ∧ (∀ h ci hd z, ci < 12 → RC h B n j1 p1 z1 (4 * ci) → ∃ h', FrS clS h h' ∧ FC h' B n k ∧ ∀ D F (v3 : Value), 50 ≤ D → wp true D 49 53 [.ref 76, .int (nI hd), .int (nI z), v3] [] h F = F (some (.int (nI 0))) h') ∧ ∀ h, MS h B n m j1 p1 → ∃ h', FrS psS h h' ∧ MX h' B n k ∧ ∀ D F, 50 ≤ D → wp true D 180 37 [.ref 101] [] h F = F none h' := by
  have hm4 := o.m400
  -- the numbers are written
  have fin : ∀ (g : Hp) (j2 p2 z2 ci hd z : Nat), ci < 12 → RC g B n j2 p2 z2 (4 * ci) → ∀ D F, wp true D 49 80 [.ref 76, .int (nI hd), .int (nI z), .int (nI z1)] [] g F = F (some (.int (nI 1))) (clW g (4 * ci) (nI hd) (nI z) (nI z1) (nI z2)) := by
    intro g j2 p2 z2 ci hd z hci r D F
    have g9 := r.2.2.1
    have g11 := r.2.2.2
    have k1 : gI (sI g 79 (4 * ci) (nI hd)) 76 11 = nI (4 * ci) := by rw [q_gn (by omega)]; exact g11
    have k2 : gI (sI (sI g 79 (4 * ci) (nI hd)) 79 (4 * ci + 1) (nI z)) 76 11 = nI (4 * ci) := by rw [q_gn (by omega)]; exact k1
    have k3 : gI (sI (sI (sI g 79 (4 * ci) (nI hd)) 79 (4 * ci + 1) (nI z)) 79 (4 * ci + 2) (nI z1)) 76 11 = nI (4 * ci) := by rw [q_gn (by omega)]; exact k2
    have k4 : gI (sI (sI (sI g 79 (4 * ci) (nI hd)) 79 (4 * ci + 1) (nI z)) 79 (4 * ci + 2) (nI z1)) 76 9 = nI z2 := by rw [q_gn (by omega), q_gn (by omega), q_gn (by omega)]; exact g9
    have k5 : gI (sI (sI (sI (sI g 79 (4 * ci) (nI hd)) 79 (4 * ci + 1) (nI z)) 79 (4 * ci + 2) (nI z1)) 79 (4 * ci + 3) (nI z2)) 76 11 = nI (4 * ci) := by rw [q_gn (by omega)]; exact k3
    unfold clW
    simp (disch := omega) only [r49_80, r49_81, r49_84, r49_85, r49_88, r49_89, r49_90, r49_91, r49_94, r49_95, r49_98, r49_99, r49_100, r49_101, r49_102, r49_103, r49_106, r49_107, r49_110, r49_111, r49_112, r49_113, r49_114, r49_115, r49_118, r49_119, r49_122, r49_123, r49_124, r49_125, r49_128, r49_129, r49_130, r49_131, r49_134, r49_135, r49_136, r49_139, r49_140, g11, k1, k2, k3, k4, k5, kdC, kdM, rpC, rpM, q_rs, q_rn, Option.toList_some, Option.toList_none, List.cons_append, List.nil_append, true_and, and_true, eq_self, ↓reduceIte, not_true_eq_false, not_false_eq_true, Nat.reduceEqDiff, Nat.reduceLeDiff, Nat.reduceLT, Nat.reduceAdd, Nat.reduceMul, Nat.reduceSub, false_or, or_false, true_or, or_true, false_and, and_false, reduceCtorEq, q_n0, q_n1, q_em, q_em2, q_b0, q_b1, Classical.not_not, nI_add, pk_mul, nI_clamp, q_vp, nI_eq, nI_leI, nI_ltI, q_sub, show 4 * ci < 48 by omega, show 4 * ci + 1 < 48 by omega, show 4 * ci + 2 < 48 by omega, show 4 * ci + 3 < 48 by omega]
  have clx : ∀ (g : Hp) (ci hd z z2 : Nat), FrS clS g (clW g (4 * ci) (nI hd) (nI z) (nI z1) (nI z2)) := fun g ci hd z z2 => (((((FrS.refl g).sI _ rfl).sI _ rfl).sI _ rfl).sI _ rfl).sI _ rfl
  by_cases c4 : tg B n j1 = 4
  · have hjm : j1 < m := o.l hj1 (by omega)
    have hk : kdI (tg B n j1) = nI 4 := by rw [c4]; rfl
    have ht := fun (h : Hp) (zm : MS h B n m j1 p1) F d => m176y o hj1 zm (show mcJ B n j1 = nI 5 by rw [mc_w o j1 (w := 4) (by omega)]; exact c4) d F
    rcases tests_all o 8 0 rfl (j1 + 1) p1 z1 (by omega) hp1 (by omega) with ⟨j2, p2, cs2, a1, a2, a3, a4, a5, ⟨a6, a7⟩, a8⟩ | ⟨k, a1, a2, a3⟩
    · left
      refine ⟨j2, p2, cs2, by omega, a2, a3, by omega, a5, Or.inr ⟨c4, a8⟩, fun h ci hd z hci r => ?_, fun h zm => ?_⟩
      · obtain ⟨h1, b1, b2, b3, b4⟩ := c43r o r
        obtain ⟨h2, e1, e2, e3, e4, e5⟩ := a6 h1 (4 * ci) b2
        obtain ⟨w1, w2, w3, w4, w5, w6⟩ := clW_g (h := h2) (cn := 4 * ci) (nI hd) (nI z) (nI z1) (nI (z1 + cs2.length))
        have x79 : ∀ i, gI h2 79 i = gI h 79 i := fun i => by rw [e1.g (a := 79) (i := i) rfl, b1.g (a := 79) (i := i) rfl]
        refine ⟨clW h2 (4 * ci) (nI hd) (nI z) (nI z1) (nI (z1 + cs2.length)), (rc_cl ((av_rc b1).trans e1)).trans (clx h2 ci hd z (z1 + cs2.length)), clW_r e2 _ _ _ _, by rw [w1]; exact e3, fun i hi => by rw [w1, e4 i hi, b3], fun i hi => by rw [w2 i hi, x79], ⟨w3, w4, w5, w6⟩, fun D F v3 hD => ?_⟩
        obtain ⟨D', rfl⟩ : ∃ d, D = d + 2 := ⟨D - 2, by omega⟩
        have h4 := r.1.2.1
        rw [hk] at h4
        have e5' := fun F => e5 (D' + 1) F (by unfold DTs; omega)
        refine Eq.trans ?_ (fin h2 j2 p2 (z1 + cs2.length) ci hd z hci e2 (D' + 2) F)
        simp (disch := omega) only [r49_53, r49_54, r49_57, r49_58, r49_59, r49_62, r49_63, r49_66, r49_67, r49_70, r49_71, r49_72, r49_75, r.2.2.1, h4, b4, e5', kdC, kdM, rpC, rpM, q_rs, q_rn, Option.toList_some, Option.toList_none, List.cons_append, List.nil_append, true_and, and_true, eq_self, ↓reduceIte, not_true_eq_false, not_false_eq_true, Nat.reduceEqDiff, Nat.reduceLeDiff, Nat.reduceLT, Nat.reduceAdd, Nat.reduceMul, Nat.reduceSub, false_or, or_false, true_or, or_true, false_and, and_false, reduceCtorEq, q_n0, q_n1, q_em, q_em2, q_b0, q_b1, Classical.not_not, nI_add, pk_mul, nI_clamp, q_vp, nI_eq, nI_leI, nI_ltI, q_sub]
      · obtain ⟨h2, e1, e2, e3⟩ := a7 (sI h 101 14 (nI (j1 + 1))) (MS_t zm)
        refine ⟨h2, ((FrS.refl h).sI _ rfl).trans e1, e2, fun D F hD => ?_⟩
        obtain ⟨D', rfl⟩ : ∃ d, D = d + 2 := ⟨D - 2, by omega⟩
        have e3' := fun F => e3 (D' + 1) F (by unfold DTs; omega)
        have t1 := fun F d => ht h zm F d
        simp (disch := omega) only [r180_37, r180_38, r180_39, r180_42, r180_45, r180_46, r180_47, r180_50, t1, e3', kdC, kdM, rpC, rpM, q_rs, q_rn, Option.toList_some, Option.toList_none, List.cons_append, List.nil_append, true_and, and_true, eq_self, ↓reduceIte, not_true_eq_false, not_false_eq_true, Nat.reduceEqDiff, Nat.reduceLeDiff, Nat.reduceLT, Nat.reduceAdd, Nat.reduceMul, Nat.reduceSub, false_or, or_false, true_or, or_true, false_and, and_false, reduceCtorEq, q_n0, q_n1, q_em, q_em2, q_b0, q_b1, Classical.not_not]
    · right
      refine ⟨k, a1, fun h ci hd z hci r => ?_, fun h zm => ?_⟩
      · obtain ⟨h1, b1, b2, b3, b4⟩ := c43r o r
        obtain ⟨h2, e1, e2, e5⟩ := a2 h1 (4 * ci) b2
        refine ⟨h2, rc_cl ((av_rc b1).trans e1), e2, fun D F v3 hD => ?_⟩
        obtain ⟨D', rfl⟩ : ∃ d, D = d + 2 := ⟨D - 2, by omega⟩
        have h4 := r.1.2.1
        rw [hk] at h4
        have e5' := fun F => e5 (D' + 1) F (by unfold DTs; omega)
        simp (disch := omega) only [r49_53, r49_54, r49_57, r49_58, r49_59, r49_62, r49_63, r49_66, r49_67, r49_70, r49_71, r49_72, r49_75, r49_78, r49_79, r.2.2.1, h4, b4, e5', kdC, kdM, rpC, rpM, q_rs, q_rn, Option.toList_some, Option.toList_none, List.cons_append, List.nil_append, true_and, and_true, eq_self, ↓reduceIte, not_true_eq_false, not_false_eq_true, Nat.reduceEqDiff, Nat.reduceLeDiff, Nat.reduceLT, Nat.reduceAdd, Nat.reduceMul, Nat.reduceSub, false_or, or_false, true_or, or_true, false_and, and_false, reduceCtorEq, q_n0, q_n1, q_em, q_em2, q_b0, q_b1, Classical.not_not, nI_add, pk_mul, nI_clamp, q_vp, nI_eq, nI_leI, nI_ltI, q_sub]
      · obtain ⟨h2, e1, e2, e3⟩ := a3 (sI h 101 14 (nI (j1 + 1))) (MS_t zm)
        refine ⟨h2, ((FrS.refl h).sI _ rfl).trans e1, e2, fun D F hD => ?_⟩
        obtain ⟨D', rfl⟩ : ∃ d, D = d + 2 := ⟨D - 2, by omega⟩
        have e3' := fun F => e3 (D' + 1) F (by unfold DTs; omega)
        have t1 := fun F d => ht h zm F d
        simp (disch := omega) only [r180_37, r180_38, r180_39, r180_42, r180_45, r180_46, r180_47, r180_50, t1, e3', kdC, kdM, rpC, rpM, q_rs, q_rn, Option.toList_some, Option.toList_none, List.cons_append, List.nil_append, true_and, and_true, eq_self, ↓reduceIte, not_true_eq_false, not_false_eq_true, Nat.reduceEqDiff, Nat.reduceLeDiff, Nat.reduceLT, Nat.reduceAdd, Nat.reduceMul, Nat.reduceSub, false_or, or_false, true_or, or_true, false_and, and_false, reduceCtorEq, q_n0, q_n1, q_em, q_em2, q_b0, q_b1, Classical.not_not]
  · left
    refine ⟨j1, p1, [], Nat.le_refl _, hj1, hp1, Nat.zero_le _, (fun x hx => absurd hx (List.not_mem_nil)), Or.inl ⟨c4, rfl, rfl⟩, fun h ci hd z hci r => ?_, fun h zm => ?_⟩
    · obtain ⟨w1, w2, w3, w4, w5, w6⟩ := clW_g (h := h) (cn := 4 * ci) (nI hd) (nI z) (nI z1) (nI z1)
      refine ⟨clW h (4 * ci) (nI hd) (nI z) (nI z1) (nI z1), clx h ci hd z z1, clW_r r _ _ _ _, AT_0 _ _, fun i _ => by rw [w1], w2, ⟨w3, w4, w5, w6⟩, fun D F v3 hD => ?_⟩
      have h4 := r.1.2.1
      have hk : ¬ kdI (tg B n j1) = nI 4 := by rw [kd_w o j1 (by omega)]; exact c4
      refine Eq.trans ?_ (fin h j1 p1 z1 ci hd z hci r D F)
      simp (disch := omega) only [r49_53, r49_54, r49_57, r49_58, r49_59, r49_62, r49_63, r49_66, r49_67, r49_70, r49_71, r49_72, r49_75, r.2.2.1, h4, hk, kdC, kdM, rpC, rpM, q_rs, q_rn, Option.toList_some, Option.toList_none, List.cons_append, List.nil_append, true_and, and_true, eq_self, ↓reduceIte, not_true_eq_false, not_false_eq_true, Nat.reduceEqDiff, Nat.reduceLeDiff, Nat.reduceLT, Nat.reduceAdd, Nat.reduceMul, Nat.reduceSub, false_or, or_false, true_or, or_true, false_and, and_false, reduceCtorEq, q_n0, q_n1, q_em, q_em2, q_b0, q_b1, Classical.not_not, nI_add, pk_mul, nI_clamp, q_vp, nI_eq, nI_leI, nI_ltI, q_sub]
    · have t1 := fun F d => m176n o hj1 zm (show ¬ mcJ B n j1 = nI 5 by rw [mc_w o j1 (w := 4) (by omega)]; exact c4) d F
      refine ⟨h, FrS.refl h, zm, fun D F hD => ?_⟩
      obtain ⟨D', rfl⟩ : ∃ d, D = d + 2 := ⟨D - 2, by omega⟩
      simp (disch := omega) only [r180_37, r180_38, r180_39, r180_42, r180_45, r180_46, r180_47, r180_50, t1, kdC, kdM, rpC, rpM, q_rs, q_rn, Option.toList_some, Option.toList_none, List.cons_append, List.nil_append, true_and, and_true, eq_self, ↓reduceIte, not_true_eq_false, not_false_eq_true, Nat.reduceEqDiff, Nat.reduceLeDiff, Nat.reduceLT, Nat.reduceAdd, Nat.reduceMul, Nat.reduceSub, false_or, or_false, true_or, or_true, false_and, and_false, reduceCtorEq, q_n0, q_n1, q_em, q_em2, q_b0, q_b1, Classical.not_not]
end CL
