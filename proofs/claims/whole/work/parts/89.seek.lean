/-! what a set comes to -/
section SQ
variable {K : Nat → Int32} {Tm Ts : Tk} {σ : Nat → Nat}
theorem mdD_cg {M M' t : Nat} : ∀ i, (∀ j, j < i → M.testBit (σ j) = M'.testBit (σ j)) → mdD K Tm σ M t i = mdD K Tm σ M' t i
  | 0, _ => rfl
  | i + 1, hh => by
    unfold mdD
    rw [mdD_cg i (fun j hj => hh j (by omega)), hh i (by omega)]
theorem seq_md (hσ : isTurn K σ) (M t : Nat) : shwL K Tm t (seqM K σ M) = mdD K Tm σ (sbt K (ns K) ||| M) t (ns K) := by
  have key : ∀ p : Nat → Bool, (∀ s, p s = true ↔ (isSent K s ∨ M.testBit s = true)) → ∀ n, n ≤ ns K → ((((List.range n).map σ).filter p).foldl (fun dp s => shw K Tm s t dp) (K (244 + 5 * t + 3), nI 0)) = mdD K Tm σ (sbt K (ns K) ||| M) t n := by
    intro p hp n
    induction n with
    | zero => intro _; rfl
    | succ n ih =>
      intro hn
      rw [List.range_succ, List.map_append, List.filter_append, List.foldl_append, ih (by omega)]
      show List.foldl _ _ (List.filter p [σ n]) = pif ((sbt K (ns K) ||| M).testBit (σ n) = true) _ _
      have hb : (sbt K (ns K) ||| M).testBit (σ n) = true ↔ (isSent K (σ n) ∨ M.testBit (σ n) = true) := by
        rw [Nat.testBit_or, Bool.or_eq_true, sbt_bit]
        exact ⟨fun q => q.imp (fun u => u.2) id, fun q => q.imp (fun u => ⟨hσ.1 n (by omega), u⟩) id⟩
      by_cases c : (sbt K (ns K) ||| M).testBit (σ n) = true
      · rw [pif_t c, List.filter_cons_of_pos ((hp (σ n)).mpr (hb.mp c))]
        rfl
      · rw [pif_f c, List.filter_cons_of_neg (fun u => c (hb.mpr ((hp (σ n)).mp u)))]
        rfl
  refine key _ (fun s => ?_) (ns K) (Nat.le_refl _)
  rw [Bool.or_eq_true]
  exact ⟨fun u => u.imp (fun v => @of_decide_eq_true _ (Classical.propDecidable _) v) id, fun u => u.imp (fun v => @decide_eq_true _ (Classical.propDecidable _) v) id⟩
/-- how many stop it by a set -/
noncomputable def sqC (K : Nat → Int32) (Tm Ts : Tk) (σ : Nat → Nat) (M : Nat) : Nat := cntT (fun t => isStp K Ts t (mdD K Tm σ (sbt K (ns K) ||| M) t (ns K))) (nt K)
theorem std_i (w : WF K) (hσ : isTurn K σ) (M : Nat) : isStd K Tm Ts (seqM K σ M) ↔ ¬ nI (sqC K Tm Ts σ M) < K 217 := by
  have h1 := w.2.2.1.2.1
  have h2 := rg_n h1 (by omega)
  have h3 := rg_nI h1 (by omega)
  have hc : stpN K Tm Ts (seqM K σ M) = sqC K Tm Ts σ M := by
    unfold stpN sqC
    exact cnt_cg (nt K) (fun t _ => by show isStp K Ts t (shwL K Tm t (seqM K σ M)) ↔ _; rw [seq_md hσ])
  have hl : sqC K Tm Ts σ M ≤ 12 := by have := cnt_le (fun t => isStp K Ts t (mdD K Tm σ (sbt K (ns K) ||| M) t (ns K))) (nt K); have := w.hnt; unfold sqC; omega
  unfold isStd
  rw [hc, h3, nI_ltI (by omega) (by omega), nI_clamp (by omega)]
  omega
theorem turn_u {σ' : Nat → Nat} (x : isTurn K σ) (y : isTurn K σ') : ∀ i, i < ns K → σ' i = σ i := by
  have hp : ∀ i, ∃ j, i < ns K → j < ns K ∧ σ j = σ' i := by
    intro i
    by_cases c : i < ns K
    · obtain ⟨j, h1, h2⟩ := turn_on x (σ' i) (y.1 i c)
      exact ⟨j, fun _ => ⟨h1, h2⟩⟩
    · exact ⟨0, fun q => absurd q c⟩
  have hp' : ∃ p : Nat → Nat, ∀ i, i < ns K → p i < ns K ∧ σ (p i) = σ' i := ⟨fun i => Classical.choose (hp i), fun i hi => Classical.choose_spec (hp i) hi⟩
  obtain ⟨p, hp⟩ := hp'
  have mono : ∀ i j, i < j → j < ns K → p i < p j := by
    intro i j hij hj
    have := y.2 i j hij hj
    rw [← (hp i (by omega)).2, ← (hp j hj).2] at this
    exact (turn_lt x (hp i (by omega)).1 (hp j hj).1).mp this
  have lo : ∀ i, i < ns K → i ≤ p i := by
    intro i
    induction i with
    | zero => intro _; omega
    | succ i ih => intro hi; have := ih (by omega); have := mono i (i + 1) (by omega) hi; omega
  have hi : ∀ k i, i + k + 1 = ns K → p i ≤ i := by
    intro k
    induction k with
    | zero => intro i e; have := (hp i (by omega)).1; omega
    | succ k ih => intro i e; have h1 := ih (i + 1) (by omega); have h2 := mono i (i + 1) (by omega) (by omega); omega
  intro i h1
  have h2 := lo i h1
  have h3 := hi (ns K - i - 1) i (by omega)
  have h4 := (hp i h1).2
  rw [show p i = i by omega] at h4
  exact h4.symm
theorem isLst_t {σ' : Nat → Nat} (x : isTurn K σ) (y : isTurn K σ') (o : Option Nat) : isLst K σ' Tm Ts o ↔ isLst K σ Tm Ts o := by
  have h1 : turL K σ' = turL K σ := by
    unfold turL
    exact List.map_congr_left (fun i hi => turn_u x y i (List.mem_range.mp hi))
  have h2 : ∀ M, seqM K σ' M = seqM K σ M := fun M => by unfold seqM; rw [h1]
  have h3 : ∀ M, isCho K σ' Tm Ts M ↔ isCho K σ Tm Ts M := fun M => by unfold isCho; rw [h2]
  cases o with
  | none => exact ⟨fun q M u => q M ((h3 M).mpr u), fun q M u => q M ((h3 M).mp u)⟩
  | some B => exact ⟨fun q => ⟨(h3 B).mp q.1, fun M u => q.2 M ((h3 M).mpr u)⟩, fun q => ⟨(h3 B).mpr q.1, fun M u => q.2 M ((h3 M).mp u)⟩⟩
theorem tAt_u {h : Hp} {a : Nat} {T T' : Tk} (x : tAt h a T) (y : tAt h a T') : T = T' := by
  obtain ⟨s, c, _, p0, p1, k0, k1, k2, g0, g1⟩ := x
  obtain ⟨s', c', _, p0', p1', k0', k1', k2', g0', g1'⟩ := y
  rw [p0] at p0'; cases p0'
  rw [p1] at p1'; cases p1'
  rw [k1] at k1'
  rw [k2] at k2'
  obtain ⟨t1, t2, t3, t4⟩ := T
  obtain ⟨u1, u2, u3, u4⟩ := T'
  simp only at *
  subst g0
  subst g1
  rw [← g0', ← g1']
  have e1 : t2 = u2 := congrArg Prod.snd k1'
  have e2 : 4 * t4 = 4 * u4 := congrArg Prod.snd k2'
  rw [e1, show t4 = u4 by omega]
/-! the best of what was seen -/
def lxe (a b : Nat) : Prop := a = b ∨ ltx a b
theorem lxe_tr {a b c : Nat} (x : lxe a b) (y : lxe b c) : lxe a c := by
  rcases x with rfl | x
  · exact y
  · rcases y with rfl | y
    · exact Or.inr x
    · exact Or.inr (ltx_tr x y)
def PB (b b' : Option Nat) (P : Nat → Prop) : Prop := (b' = b ∨ ∃ C, P C ∧ b' = some C) ∧ (∀ C, P C → ∃ B, b' = some B ∧ lxe B C) ∧ ∀ B0, b = some B0 → ∃ B, b' = some B ∧ lxe B B0
theorem PB_0 {b : Option Nat} {P : Nat → Prop} (h : ∀ C, ¬ P C) : PB b b P := ⟨Or.inl rfl, fun C hC => absurd hC (h C), fun B0 e => ⟨B0, e, Or.inl rfl⟩⟩
theorem PB_cg {b b' : Option Nat} {P Q : Nat → Prop} (x : PB b b' P) (h : ∀ C, P C ↔ Q C) : PB b b' Q := by
  rw [show Q = P from funext fun C => (propext (h C)).symm]; exact x
theorem PB_tr {b b1 b2 : Option Nat} {P Q : Nat → Prop} (x : PB b b1 P) (y : PB b1 b2 Q) : PB b b2 (fun C => P C ∨ Q C) := by
  obtain ⟨x1, x2, x3⟩ := x
  obtain ⟨y1, y2, y3⟩ := y
  refine ⟨?_, ?_, ?_⟩
  · rcases y1 with rfl | ⟨C, h1, h2⟩
    · rcases x1 with rfl | ⟨C, h1, h2⟩
      · exact Or.inl rfl
      · exact Or.inr ⟨C, Or.inl h1, h2⟩
    · exact Or.inr ⟨C, Or.inr h1, h2⟩
  · rintro C (h1 | h1)
    · obtain ⟨B, e, l⟩ := x2 C h1
      obtain ⟨B2, e2, l2⟩ := y3 B e
      exact ⟨B2, e2, lxe_tr l2 l⟩
    · exact y2 C h1
  · intro B0 e
    obtain ⟨B, e1, l⟩ := x3 B0 e
    obtain ⟨B2, e2, l2⟩ := y3 B e1
    exact ⟨B2, e2, lxe_tr l2 l⟩
theorem PB_b {b b' : Option Nat} {P : Nat → Prop} (x : PB b b' P) (hb : ∀ B, b = some B → B < 4096) (hP : ∀ C, P C → C < 4096) : ∀ B, b' = some B → B < 4096 := by
  intro B e
  rcases x.1 with h | ⟨C, h1, h2⟩
  · exact hb B (h ▸ e)
  · rw [h2] at e; cases e; exact hP _ h1
/-- sets that may come of c when k more are taken from turn i on -/
def sek (K : Nat → Int32) (σ : Nat → Nat) (i k c C : Nat) : Prop := C < 2 ^ ns K ∧ (∀ s, s < ns K → C.testBit s = true → ¬ isSent K s) ∧ (∀ j, j < i → C.testBit (σ j) = c.testBit (σ j)) ∧ cntT (fun j => i ≤ j ∧ C.testBit (σ j) = true) (ns K) = k
noncomputable def frN (K : Nat → Int32) (σ : Nat → Nat) (i : Nat) : Nat := cntT (fun j => i ≤ j ∧ ¬ isSent K (σ j)) (ns K)
theorem cnt_0 {P : Nat → Prop} : ∀ n, (∀ i, i < n → ¬ P i) → cntT P n = 0
  | 0, _ => rfl
  | n + 1, h => by rw [cnt_s, cnt_0 n (fun i hi => h i (by omega)), pif_f (h n (by omega))]
theorem cnt_mo {P Q : Nat → Prop} : ∀ n, (∀ i, i < n → P i → Q i) → cntT P n ≤ cntT Q n
  | 0, _ => Nat.le_refl 0
  | n + 1, h => by
    rw [cnt_s, cnt_s]
    have := cnt_mo n (fun i hi => h i (by omega))
    by_cases c : P n
    · rw [pif_t c, pif_t (h n (by omega) c)]; omega
    · rw [pif_f c]; omega
/-- counting from i on -/
theorem cnt_fr (P : Nat → Prop) {i : Nat} : ∀ n, i < n → cntT (fun j => i ≤ j ∧ P j) n = cntT (fun j => i + 1 ≤ j ∧ P j) n + pif (P i) 1 0
  | 0, h => by omega
  | n + 1, h => by
    rw [cnt_s, cnt_s]
    by_cases e : i = n
    · subst e
      rw [cnt_0 i (fun j hj u => by omega), cnt_0 i (fun j hj u => by omega)]
      have h2 : ¬ (i + 1 ≤ i ∧ P i) := fun u => by omega
      rw [pif_f h2]
      by_cases c : P i
      · rw [pif_t c, pif_t ⟨Nat.le_refl i, c⟩]
      · rw [pif_f c, pif_f (fun u => c u.2)]
    · have ih := cnt_fr P (i := i) n (by omega)
      rw [ih]
      by_cases c : P n
      · rw [pif_t (show i ≤ n ∧ P n from ⟨by omega, c⟩), pif_t (show i + 1 ≤ n ∧ P n from ⟨by omega, c⟩)]; omega
      · rw [pif_f (show ¬ (i ≤ n ∧ P n) from fun u => c u.2), pif_f (show ¬ (i + 1 ≤ n ∧ P n) from fun u => c u.2)]; omega
theorem frN_s {i : Nat} (hi : i < ns K) : frN K σ i = frN K σ (i + 1) + pif (¬ isSent K (σ i)) 1 0 := cnt_fr (fun j => ¬ isSent K (σ j)) (ns K) hi
theorem sek_no (hσ : isTurn K σ) {i k c : Nat} (h : frN K σ i < k) : ∀ C, ¬ sek K σ i k c C := by
  rintro C ⟨h1, h2, h3, h4⟩
  have := cnt_mo (P := fun j => i ≤ j ∧ C.testBit (σ j) = true) (Q := fun j => i ≤ j ∧ ¬ isSent K (σ j)) (ns K) (fun j hj u => ⟨u.1, h2 _ (hσ.1 j hj) u.2⟩)
  unfold frN at h
  omega
theorem sek_end (hσ : isTurn K σ) {c : Nat} (hc : c < 2 ^ ns K) (hu : ∀ s, s < ns K → c.testBit s = true → ¬ isSent K s) {C : Nat} : sek K σ (ns K) 0 c C ↔ C = c := by
  constructor
  · rintro ⟨h1, h2, h3, h4⟩
    apply Nat.eq_of_testBit_eq
    intro s
    by_cases e : s < ns K
    · obtain ⟨j, hj, rfl⟩ := turn_on hσ s e
      exact h3 j hj
    · have a1 : C.testBit s = false := by
        cases q : C.testBit s with
        | false => rfl
        | true => exact absurd (bit_lt h1 q) e
      have a2 : c.testBit s = false := by
        cases q : c.testBit s with
        | false => rfl
        | true => exact absurd (bit_lt hc q) e
      rw [a1, a2]
  · rintro rfl
    exact ⟨hc, hu, fun j _ => rfl, cnt_0 _ (fun j hj u => by omega)⟩
/-- c is taken from turns ahead of i -/
def ahd (K : Nat → Int32) (σ : Nat → Nat) (i c : Nat) : Prop := c < 2 ^ ns K ∧ (∀ s, s < ns K → c.testBit s = true → ¬ isSent K s) ∧ ∀ j, i ≤ j → j < ns K → c.testBit (σ j) = false
theorem ahd_s {i c : Nat} (x : ahd K σ i c) : ahd K σ (i + 1) c := ⟨x.1, x.2.1, fun j h1 h2 => x.2.2 j (by omega) h2⟩
theorem ahd_y (hσ : isTurn K σ) {i c : Nat} (x : ahd K σ i c) (hi : i < ns K) (hf : ¬ isSent K (σ i)) : ahd K σ (i + 1) (c ||| 2 ^ σ i) := by
  refine ⟨Nat.or_lt_two_pow x.1 (Nat.pow_lt_pow_right (by omega) (hσ.1 i hi)), fun s hs hb => ?_, fun j h1 h2 => ?_⟩
  · rw [Nat.testBit_or, Bool.or_eq_true, Nat.testBit_two_pow, decide_eq_true_iff] at hb
    rcases hb with hb | hb
    · exact x.2.1 s hs hb
    · rw [← hb]; exact hf
  · rw [Nat.testBit_or, x.2.2 j (by omega) h2, Bool.false_or, Nat.testBit_two_pow]
    refine decide_eq_false (fun e => ?_)
    have := hσ.2 i j (by omega) h2
    rw [e] at this
    exact ltS_irr _ this
/-- a sheet that is sent -/
theorem sek_s (hσ : isTurn K σ) {i k c : Nat} (x : ahd K σ i c) (hi : i < ns K) (hs : isSent K (σ i)) {C : Nat} : sek K σ i k c C ↔ sek K σ (i + 1) k c C := by
  have hci := x.2.2 i (Nat.le_refl _) hi
  constructor
  · rintro ⟨h1, h2, h3, h4⟩
    have hb : C.testBit (σ i) = false := by
      cases q : C.testBit (σ i) with
      | false => rfl
      | true => exact absurd hs (h2 _ (hσ.1 i hi) q)
    refine ⟨h1, h2, fun j hj => ?_, ?_⟩
    · by_cases e : j = i
      · rw [e, hb, hci]
      · exact h3 j (by omega)
    · rw [cnt_fr (fun j => C.testBit (σ j) = true) (ns K) hi, pif_f (by rw [hb]; simp)] at h4
      exact h4
  · rintro ⟨h1, h2, h3, h4⟩
    have hb : C.testBit (σ i) = false := by rw [h3 i (by omega)]; exact hci
    refine ⟨h1, h2, fun j hj => h3 j (by omega), ?_⟩
    rw [cnt_fr (fun j => C.testBit (σ j) = true) (ns K) hi, pif_f (by rw [hb]; simp)]
    exact h4
/-- a sheet that is free -/
theorem sek_f (hσ : isTurn K σ) {i k c : Nat} (x : ahd K σ i c) (hi : i < ns K) (hf : ¬ isSent K (σ i)) {C : Nat} : sek K σ i k c C ↔ (sek K σ (i + 1) k c C ∨ (0 < k ∧ sek K σ (i + 1) (k - 1) (c ||| 2 ^ σ i) C)) := by
  have hci := x.2.2 i (Nat.le_refl _) hi
  have hne : ∀ j, j < i → σ j ≠ σ i := fun j hj e => by
    have := hσ.2 j i hj hi
    rw [e] at this
    exact ltS_irr _ this
  have hor : ∀ j, j < i → (c ||| 2 ^ σ i).testBit (σ j) = c.testBit (σ j) := by
    intro j hj
    rw [Nat.testBit_or, Nat.testBit_two_pow, decide_eq_false (fun e => hne j hj e.symm), Bool.or_false]
  have hoi : (c ||| 2 ^ σ i).testBit (σ i) = true := by rw [Nat.testBit_or, Nat.testBit_two_pow_self, Bool.or_true]
  constructor
  · rintro ⟨h1, h2, h3, h4⟩
    rw [cnt_fr (fun j => C.testBit (σ j) = true) (ns K) hi] at h4
    cases q : C.testBit (σ i) with
    | false =>
      left
      refine ⟨h1, h2, fun j hj => ?_, ?_⟩
      · by_cases e : j = i
        · rw [e, q, hci]
        · exact h3 j (by omega)
      · rw [pif_f (by rw [q]; simp)] at h4; exact h4
    | true =>
      right
      rw [pif_t q] at h4
      refine ⟨by omega, h1, h2, fun j hj => ?_, by omega⟩
      by_cases e : j = i
      · rw [e, q, hoi]
      · rw [hor j (by omega)]; exact h3 j (by omega)
  · rintro (⟨h1, h2, h3, h4⟩ | ⟨h0, h1, h2, h3, h4⟩)
    · have hb : C.testBit (σ i) = false := by rw [h3 i (by omega)]; exact hci
      refine ⟨h1, h2, fun j hj => h3 j (by omega), ?_⟩
      rw [cnt_fr (fun j => C.testBit (σ j) = true) (ns K) hi, pif_f (by rw [hb]; simp)]
      exact h4
    · have hb : C.testBit (σ i) = true := by rw [h3 i (by omega)]; exact hoi
      refine ⟨h1, h2, fun j hj => by rw [h3 j (by omega)]; exact hor j hj, ?_⟩
      rw [cnt_fr (fun j => C.testBit (σ j) = true) (ns K) hi, pif_t hb]
      omega
end SQ
