/-! the two objects, made -/
def mk1 : Option (List Cl) := sim 2000 9 86 0 [.ref 1] [] [(11, 12, [], [])]
def mk2 (l : List Cl) : Option (List Cl) := sim 2000 9 146 0 [.ref 101] [] (l ++ [(12, 35, [], [])])
def lsC : List Nat → (Nat → Bool) → Bool
  | [], _ => true
  | a :: r, f => f a && lsC r f
def onC (l : List Cl) (a : Nat) (f : Cl → Bool) : Bool := match adC l a with
  | some c => f c
  | none => false
def ckK (l : List Cl) : Bool := lsC (List.range 121) (fun a => Nat.beq a 0 || onC l a (fun c => Nat.beq c.1 (T0 a).1 && Nat.beq c.2.1 (T0 a).2))
def ckP (l : List Cl) : Bool := lsC (List.range 121) (fun a => Nat.beq a 0 || onC l a (fun c => lsC (List.range 41) (fun i => match st0 a i with
  | none => true
  | some r => (match lkP c.2.2.2 i with
    | some s => Nat.beq s r
    | none => false))))
def ckZ (l : List Cl) : Bool := lsC [2, 3, 4, 5, 6, 7, 8, 9, 10, 11, 12, 13, 14, 15, 16, 17, 18, 19, 20, 21, 22, 23, 75, 77, 100, 102, 105, 107] (fun a => onC l a (fun c => c.2.2.1.all (fun p => decide (p.2 = 0))))
def ckN (l : List Cl) : Bool := lsC [25, 50, 74] (fun a => onC l a (fun c => c.2.2.2.isEmpty)) && (onC l 86 (fun c => (lkP c.2.2.2 2).isNone) && onC l 88 (fun c => (lkP c.2.2.2 12).isNone))
def ckI (l : List Cl) : Bool := onC l 103 (fun c => decide (c.2.2.1 = [(217, 1), (216, 6)])) && (onC l 24 (fun c => decide (lkI c.2.2.1 0 = 6 ∧ lkI c.2.2.1 1 = 1 ∧ lkI c.2.2.1 2 = 0 ∧ lkI c.2.2.1 3 = 0)) &&
  (onC l 1 (fun c => decide (lkI c.2.2.1 10 = 0 ∧ lkI c.2.2.1 11 = -1)) && (onC l 101 (fun c => decide (lkI c.2.2.1 0 = 0 ∧ lkI c.2.2.1 8 = 0 ∧ lkI c.2.2.1 9 = -1)) && (onC l 106 (fun c => lsC (List.range 103) (fun i => decide (lkI c.2.2.1 i = nms i))) && onC l 76 (fun c => decide (lkI c.2.2.1 1 = 0))))))
def ckA (l : List Cl) : Bool := Nat.beq l.length 120 && (Nat.ble (smC l) U0 && (ckK l && (ckP l && (ckZ l && (ckN l && ckI l)))))
def mkC : Bool := match mk1 with
  | none => false
  | some l => Nat.beq l.length 100 && (match mk2 l with
    | none => false
    | some l2 => ckA l2)
set_option maxRecDepth 100000 in
theorem mkC_ok : mkC = true := by decide +kernel
theorem onC_e {l : List Cl} {a : Nat} {f : Cl → Bool} (q : onC l a f = true) : ∃ c, adC l a = some c ∧ f c = true := by
  unfold onC at q
  cases e : adC l a with
  | none => rw [e] at q; cases q
  | some c => rw [e] at q; exact ⟨c, rfl, q⟩
theorem lsC_e {f : Nat → Bool} : ∀ {L : List Nat}, lsC L f = true → ∀ a ∈ L, f a = true := by
  intro L
  induction L with
  | nil => intro _ a ha; cases ha
  | cons x r ih =>
    intro q a ha
    have q : (f x && lsC r f) = true := q
    rw [Bool.and_eq_true] at q
    rcases List.mem_cons.mp ha with rfl | ha
    · exact q.1
    · exact ih q.2 a ha
theorem lkI_z {es : List (Nat × Int32)} (q : es.all (fun p => decide (p.2 = 0)) = true) (i : Nat) : lkI es i = 0 := by
  induction es with
  | nil => rfl
  | cons p r ih =>
    rw [List.all_cons, Bool.and_eq_true] at q
    show (bif Nat.beq i p.1 then p.2 else lkI r i) = 0
    cases Nat.beq i p.1 with
    | true => exact of_decide_eq_true q.1
    | false => exact ih q.2
set_option maxRecDepth 100000 in
set_option maxHeartbeats 4000000 in
theorem st0_i {a i : Nat} (hi : 41 ≤ i) : st0 a i = none := by
  have hb : ∀ k, k < 41 → Nat.beq i k = false := fun k hk => by
    cases e : Nat.beq i k with
    | false => rfl
    | true => have := Nat.eq_of_beq_eq_true e; omega
  unfold st0
  simp (disch := decide) only [hb, cond_false, Bool.cond_self]
theorem made_z {h0 : Hp} {l : List Cl} (z : ckZ l = true) {a : Nat} (ha : a ∈ [2, 3, 4, 5, 6, 7, 8, 9, 10, 11, 12, 13, 14, 15, 16, 17, 18, 19, 20, 21, 22, 23, 75, 77, 100, 102, 105, 107]) (i : Nat) : gI (hpC h0 l) a i = 0 := by
  obtain ⟨c, e, q⟩ := onC_e (lsC_e z a ha)
  rw [hpC_i e]
  exact lkI_z q i
theorem made_o {h0 : Hp} {L : Nat} {l : List Cl} (h99 : hk h0 0 = (99, L)) (hl : l.length = 120) (k : ckK l = true) (p : ckP l = true) : OKS L (gI h0 0) (hpC h0 l) := by
  refine ⟨by show 121 ≤ l.length + 1; omega, fun a ha h0 => ?_, h99, fun a i r e => ?_, rfl⟩
  · have q := lsC_e k a (List.mem_range.mpr ha)
    rw [Bool.or_eq_true] at q
    rcases q with q | q
    · exact absurd (beqT q) h0
    · obtain ⟨c, e, q⟩ := onC_e q
      rw [Bool.and_eq_true] at q
      rw [hpC_k e]
      exact Prod.ext (beqT q.1) (beqT q.2)
  · have ha := st0_lt e
    have hi : i < 41 := Nat.lt_of_not_le (fun z => by rw [st0_i z] at e; cases e)
    have q := lsC_e p a (List.mem_range.mpr ha)
    rw [Bool.or_eq_true] at q
    rcases q with q | q
    · have := beqT q
      subst this
      cases e
    · obtain ⟨c, e2, q⟩ := onC_e q
      have q := lsC_e q i (List.mem_range.mpr hi)
      rw [e] at q
      rw [hpC_p e2]
      cases e3 : lkP c.2.2.2 i with
      | none => rw [e3] at q; cases q
      | some s =>
        rw [e3] at q
        have q : Nat.beq s r = true := q
        rw [beqT q]
theorem K0_e (i : Nat) (h1 : i ≠ 216) (h2 : i ≠ 217) : lkI [(217, 1), (216, 6)] i = 0 := by
  show (bif Nat.beq i 217 then (1 : Int32) else bif Nat.beq i 216 then 6 else 0) = 0
  cases e : Nat.beq i 217 with
  | true => exact absurd (beqT e) h2
  | false =>
    cases e : Nat.beq i 216 with
    | true => exact absurd (beqT e) h1
    | false => rfl
theorem rg0 {a b : Int} (ha : a ≤ 0) (hb : 0 ≤ b) : rg (0 : Int32) a b := ⟨ha, hb⟩
theorem made_s {h : Hp} (hK : gI h 103 = lkI [(217, 1), (216, 6)]) (z : ∀ a, a ∈ [2, 3, 4, 5, 6, 7, 8, 9, 10, 11, 12, 13, 14, 15, 16, 17, 18, 19, 20, 21, 22, 23] → ∀ i, gI h a i = 0) (h24 : gI h 24 0 = 6 ∧ gI h 24 1 = 1 ∧ gI h 24 2 = 0 ∧ gI h 24 3 = 0) : STS h 0 (gI h 103) := by
  rw [hK]
  have k0 := K0_e
  generalize hk9 : lkI [(217, 1), (216, 6)] = K at k0
  have k216 : K 216 = 6 := by rw [← hk9]; rfl
  have k217 : K 217 = 1 := by rw [← hk9]; rfl
  have n376 : nf K = 0 := by unfold nf; rw [k0 376 (by omega) (by omega)]; rfl
  have n377 : np K = 0 := by unfold np; rw [k0 377 (by omega) (by omega)]; rfl
  have n378 : nt K = 0 := by unfold nt; rw [k0 378 (by omega) (by omega)]; rfl
  have n379 : ns K = 0 := by unfold ns; rw [k0 379 (by omega) (by omega)]; rfl
  have n380 : nx K = 0 := by unfold nx; rw [k0 380 (by omega) (by omega)]; rfl
  have ar : ∀ c n b s, c ∈ [2, 3, 4, 5, 6, 7, 8, 9, 10, 11, 12, 13, 14, 15, 16, 17, 18, 19, 20, 21, 22, 23] → (∀ i, i < n → b + s * i ≠ 216 ∧ b + s * i ≠ 217) → AR h K c n b s := by
    intro c n b s hc hi i hn
    rw [z c hc, k0 _ (hi i hn).1 (hi i hn).2]
  rw [STS_iff]
  refine ⟨⟨⟨?_, ?_⟩, ?_, ar 4 24 0 9 (by decide) (fun i hi => by omega), ar 5 24 1 9 (by decide) (fun i hi => by omega), ar 6 24 2 9 (by decide) (fun i hi => by omega), ?_⟩, ⟨⟨?_, ?_, ?_, ?_⟩, ?_⟩, ⟨⟨?_, ?_⟩, ?_, ar 9 12 220 2 (by decide) (fun i hi => by omega), ar 10 12 221 2 (by decide) (fun i hi => by omega)⟩,
    ⟨⟨?_, ?_⟩, ?_, ar 12 12 244 5 (by decide) (fun i hi => by omega), ar 13 12 245 5 (by decide) (fun i hi => by omega), ar 14 12 246 5 (by decide) (fun i hi => by omega), ar 15 12 247 5 (by decide) (fun i hi => by omega), ar 16 12 248 5 (by decide) (fun i hi => by omega)⟩,
    ⟨⟨?_, ?_⟩, ⟨?_, ar 17 12 304 6 (by decide) (fun i hi => by omega), ar 18 12 305 6 (by decide) (fun i hi => by omega), ar 19 12 306 6 (by decide) (fun i hi => by omega), ar 20 12 307 6 (by decide) (fun i hi => by omega), ar 21 12 308 6 (by decide) (fun i hi => by omega), ar 22 12 309 6 (by decide) (fun i hi => by omega)⟩, ?_⟩, ?_, ?_, ?_⟩
  · rw [k0 376 (by omega) (by omega)]; exact rg0 (by omega) (by omega)
  · rw [n376]; intro f hf; omega
  · rw [z 3 (by decide), k0 376 (by omega) (by omega)]
  · intro f r hf hr
    rw [z 7 (by decide), k0 _ (by omega) (by omega)]
  · rw [k216]; exact ⟨by decide, by decide⟩
  · rw [k217]; exact ⟨by decide, by decide⟩
  · rw [k0 218 (by omega) (by omega)]; exact rg0 (by omega) (by omega)
  · rw [k0 219 (by omega) (by omega)]; exact rg0 (by omega) (by omega)
  · intro i hi
    rcases (show i = 0 ∨ i = 1 ∨ i = 2 ∨ i = 3 by omega) with rfl | rfl | rfl | rfl
    · rw [h24.1]; exact k216.symm
    · rw [h24.2.1]; exact k217.symm
    · rw [h24.2.2.1]; exact (k0 218 (by omega) (by omega)).symm
    · rw [h24.2.2.2]; exact (k0 219 (by omega) (by omega)).symm
  · rw [k0 377 (by omega) (by omega)]; exact rg0 (by omega) (by omega)
  · rw [n377]; intro f hf; omega
  · rw [z 8 (by decide), k0 377 (by omega) (by omega)]
  · rw [k0 378 (by omega) (by omega)]; exact rg0 (by omega) (by omega)
  · rw [n378]; intro f hf; omega
  · rw [z 11 (by decide), k0 378 (by omega) (by omega)]
  · rw [k0 379 (by omega) (by omega)]; exact rg0 (by omega) (by omega)
  · rw [n379]; intro f hf; omega
  · rw [z 11 (by decide), k0 379 (by omega) (by omega)]
  · refine ⟨id, ⟨fun i hi => by rw [n379] at hi; omega, fun i j _ hj => by rw [n379] at hj; omega⟩, fun i hi => by rw [n379] at hi; omega⟩
  · rw [k0 380 (by omega) (by omega)]; exact rg0 (by omega) (by omega)
  · rw [z 2 (by decide), k0 380 (by omega) (by omega)]
  · intro t ht; rw [n380] at ht; omega
theorem made_i {h0 : Hp} {l : List Cl} (hu0 : hu h0 = 0) (hl : l.length = 120) (hs : smC l ≤ U0) (z : ckZ l = true) (hn : ckN l = true) (hi : ckI l = true) : Inv 0 (hpC h0 l) := by
  unfold ckI at hi
  unfold ckN at hn
  simp only [Bool.and_eq_true] at hi hn
  obtain ⟨i103, i24, i1, i101, i106, i76⟩ := hi
  obtain ⟨nT, n86, n88⟩ := hn
  obtain ⟨c103, a103, b103⟩ := onC_e i103
  obtain ⟨c24, a24, b24⟩ := onC_e i24
  obtain ⟨c1, a1, b1⟩ := onC_e i1
  obtain ⟨c101, a101, b101⟩ := onC_e i101
  obtain ⟨c106, a106, b106⟩ := onC_e i106
  obtain ⟨c76, a76, b76⟩ := onC_e i76
  obtain ⟨c86, a86, b86⟩ := onC_e n86
  obtain ⟨c88, a88, b88⟩ := onC_e n88
  have b103 := of_decide_eq_true b103
  have b24 := of_decide_eq_true b24
  have b1 := of_decide_eq_true b1
  have b101 := of_decide_eq_true b101
  have b76 := of_decide_eq_true b76
  have zz : ∀ a, a ∈ [2, 3, 4, 5, 6, 7, 8, 9, 10, 11, 12, 13, 14, 15, 16, 17, 18, 19, 20, 21, 22, 23, 75, 77, 100, 102, 105, 107] → ∀ i, gI (hpC h0 l) a i = 0 := fun a ha i => made_z z ha i
  have hz1 : hz (hpC h0 l) = 121 := by show l.length + 1 = 121; omega
  refine ⟨made_s (by rw [hpC_i a103, b103]) (fun a ha i => zz a (by revert ha; revert a; decide) i) (by rw [hpC_i a24]; exact b24), ?_, ⟨?_, ?_, ?_⟩, ⟨?_, ?_, ?_, ?_, ?_⟩, ⟨?_, ?_⟩, ?_, ⟨?_, ?_, ?_⟩, Or.inl ⟨?_, ?_, ?_⟩, ?_⟩
  · intro k hk
    rw [zz 75 (by decide), zz 105 (by decide)]
    exact ⟨rfl, Or.inl rfl, fun w => absurd w (by decide)⟩
  · intro i hi
    rw [zz 77 (by decide), zz 107 (by decide)]
    exact ⟨rfl, by decide⟩
  · rw [hpC_i a76, hpC_i a101, b76, b101.2.1]
  · rw [hpC_i a76, b76]; exact rg0 (by omega) (by omega)
  · rw [zz 100 (by decide), zz 102 (by decide)]
  · rw [zz 100 (by decide), zz 102 (by decide)]
  · rw [zz 100 (by decide), zz 102 (by decide)]
  · rw [zz 100 (by decide), zz 102 (by decide)]
  · rw [zz 100 (by decide), zz 102 (by decide)]
  · rw [hpC_i a1, hpC_i a101, b1.1, b101.1]
  · rw [hpC_i a1, hpC_i a101, b1.2, b101.2.2]
  · intro i hi
    rw [hpC_i a106]
    exact of_decide_eq_true (lsC_e b106 i (List.mem_range.mpr hi))
  · rw [hz1]; exact Nat.le_refl _
  · intro b hb1 hb2
    omega
  · intro c hc t ht a ha
    obtain ⟨cc, ac, bc⟩ := onC_e (lsC_e nT c (by rcases hc with rfl | rfl | rfl <;> decide))
    rw [hpC_p ac, List.isEmpty_iff.mp bc] at ha
    cases ha
  · rw [hpC_p a86]; exact Option.isNone_iff_eq_none.mp b86
  · rw [hz1]; exact Nat.le_refl _
  · show hu h0 + smC l ≤ U0 + 450 * 0
    omega
  · apply CAS_none
    rw [hpC_p a88]; exact Option.isNone_iff_eq_none.mp b88
/-- both objects stand -/
theorem made {h0 : Hp} {L : Nat} (h99 : hk h0 0 = (99, L)) (hu0 : hu h0 = 0) : ∃ l1 l2, mk1 = some l1 ∧ l1.length = 100 ∧ mk2 l1 = some l2 ∧ OKS L (gI h0 0) (hpC h0 l2) ∧ Inv 0 (hpC h0 l2) := by
  have q := mkC_ok
  unfold mkC at q
  cases e1 : mk1 with
  | none => rw [e1] at q; cases q
  | some l1 =>
    rw [e1] at q
    dsimp only at q
    rw [Bool.and_eq_true] at q
    cases e2 : mk2 l1 with
    | none => rw [e2] at q; cases q.2
    | some l2 =>
      rw [e2] at q
      obtain ⟨q1, q2⟩ := q
      have q2 : ckA l2 = true := q2
      unfold ckA at q2
      simp only [Bool.and_eq_true] at q2
      obtain ⟨b1, b2, b3, b4, b5, b6, b7⟩ := q2
      exact ⟨l1, l2, rfl, beqT q1, e2, made_o h99 (beqT b1) b3 b4, made_i hu0 (beqT b1) (Nat.le_of_ble_eq_true b2) b5 b6 b7⟩
