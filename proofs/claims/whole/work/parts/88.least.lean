/-! sets in their order -/
def ltx (a b : Nat) : Prop := ∃ i, a.testBit i = true ∧ b.testBit i = false ∧ ∀ j, j < i → a.testBit j = b.testBit j
theorem ltx_irr (a : Nat) : ¬ ltx a a := fun ⟨i, h1, h2, _⟩ => by rw [h1] at h2; cases h2
theorem ltx_tr {a b c : Nat} (x : ltx a b) (y : ltx b c) : ltx a c := by
  obtain ⟨i, a1, a2, a3⟩ := x
  obtain ⟨j, b1, b2, b3⟩ := y
  rcases Nat.lt_trichotomy i j with e | e | e
  · exact ⟨i, a1, by rw [← b3 i e]; exact a2, fun k hk => (a3 k hk).trans (b3 k (by omega))⟩
  · subst e; rw [a2] at b1; cases b1
  · exact ⟨j, by rw [a3 j e]; exact b1, b2, fun k hk => (a3 k (by omega)).trans (b3 k hk)⟩
def allN (f : Nat → Bool) : Nat → Bool
  | 0 => true
  | n + 1 => f n && allN f n
theorem allN_x {f : Nat → Bool} : ∀ n, allN f n = true → ∀ i, i < n → f i = true
  | 0, _, i, hi => by omega
  | n + 1, h, i, hi => by
    unfold allN at h
    rw [Bool.and_eq_true] at h
    by_cases e : i = n
    · rw [e]; exact h.1
    · exact allN_x n h.2 i (by omega)
def lowC (x : Nat) : Bool := Nat.beq x 0 || (List.range 12).any (fun i => Nat.beq (Nat.land x (4294967296 - x)) (2 ^ i) && Nat.beq (x % 2 ^ (i + 1)) (2 ^ i))
theorem lowA : allN lowC 4096 = true := by decide +kernel
theorem low_x {x : Nat} (hx : x < 4096) (h0 : x ≠ 0) : ∃ i, i < 12 ∧ x &&& (4294967296 - x) = 2 ^ i ∧ x.testBit i = true ∧ ∀ j, j < i → x.testBit j = false := by
  have h1 := allN_x 4096 lowA x hx
  unfold lowC at h1
  rw [Bool.or_eq_true, List.any_eq_true] at h1
  rcases h1 with h1 | ⟨i, hi, h1⟩
  · exact absurd (Nat.eq_of_beq_eq_true h1) h0
  · rw [Bool.and_eq_true] at h1
    have e1 := Nat.eq_of_beq_eq_true h1.1
    have e2 := Nat.eq_of_beq_eq_true h1.2
    have hb : ∀ j, j ≤ i → x.testBit j = (2 ^ i).testBit j := by
      intro j hj
      rw [← e2, Nat.testBit_mod_two_pow, decide_eq_true (show j < i + 1 by omega), Bool.true_and]
    refine ⟨i, List.mem_range.mp hi, e1, ?_, fun j hj => ?_⟩
    · rw [hb i (Nat.le_refl _), Nat.testBit_two_pow_self]
    · rw [hb j (by omega), Nat.testBit_two_pow]
      exact decide_eq_false (by omega)
theorem n_neg {x : Nat} (hx : x ≤ 4294967296) : -(nI x) = nI (4294967296 - x) := by
  apply Int32.toBitVec_inj.1
  show -(BitVec.ofNat 32 x) = BitVec.ofNat 32 (4294967296 - x)
  apply BitVec.eq_of_toNat_eq
  rw [BitVec.toNat_neg, BitVec.toNat_ofNat, BitVec.toNat_ofNat]
  omega
theorem low_and {i a : Nat} : (2 ^ i &&& a = 0) ↔ a.testBit i = false := by
  constructor
  · intro e
    have := congrArg (fun z => z.testBit i) e
    simp only [Nat.testBit_and, Nat.testBit_two_pow_self, Bool.true_and, Nat.zero_testBit] at this
    exact this
  · intro e
    apply Nat.eq_of_testBit_eq
    intro j
    rw [Nat.testBit_and, Nat.zero_testBit, Nat.testBit_two_pow]
    by_cases c : i = j
    · subst c; rw [e, Bool.and_false]
    · rw [decide_eq_false c, Bool.false_and]
theorem xor_bit {a b i : Nat} : (a ^^^ b).testBit i = false ↔ a.testBit i = b.testBit i := by
  rw [Nat.testBit_xor]
  cases a.testBit i <;> cases b.testBit i <;> simp
theorem ltx_i {a b : Nat} (ha : a < 4096) (hb : b < 4096) : (nI (a ^^^ b) &&& -(nI (a ^^^ b)) &&& nI a = nI 0) ↔ ¬ ltx a b := by
  have hx : a ^^^ b < 2 ^ 12 := Nat.xor_lt_two_pow (show a < 2 ^ 12 from ha) (show b < 2 ^ 12 from hb)
  have hx' : a ^^^ b < 4096 := hx
  rw [n_neg (by omega), n_and, n_and]
  by_cases c : a ^^^ b = 0
  · rw [c, Nat.zero_and, Nat.zero_and]
    refine ⟨fun _ => ?_, fun _ => rfl⟩
    rintro ⟨i, h1, h2, _⟩
    have : (a ^^^ b).testBit i = false := by rw [c]; exact Nat.zero_testBit i
    rw [xor_bit, h1, h2] at this
    cases this
  · obtain ⟨i, h1, h2, h3, h4⟩ := low_x hx' c
    have hle : 2 ^ i &&& a ≤ a := Nat.and_le_right
    rw [h2, nI_eq (by omega) (by omega), low_and]
    constructor
    · intro e
      rintro ⟨j, k1, k2, k3⟩
      rcases Nat.lt_trichotomy i j with q | q | q
      · have := xor_bit.mpr (k3 i q); rw [h3] at this; cases this
      · subst q; rw [k1] at e; cases e
      · have := xor_bit.mp (h4 j q); rw [k1, k2] at this; cases this
    · intro e
      cases q : a.testBit i with
      | false => rfl
      | true =>
        refine absurd ⟨i, q, ?_, fun j hj => xor_bit.mp (h4 j hj)⟩ e
        cases q2 : b.testBit i with
        | false => rfl
        | true =>
          have : (a ^^^ b).testBit i = false := xor_bit.mpr (q.trans q2.symm)
          rw [h3] at this; cases this
theorem ltx_tot {a b : Nat} (ha : a < 4096) (hb : b < 4096) (hn : a ≠ b) : ltx a b ∨ ltx b a := by
  have hx : a ^^^ b < 2 ^ 12 := Nat.xor_lt_two_pow (show a < 2 ^ 12 from ha) (show b < 2 ^ 12 from hb)
  have c : a ^^^ b ≠ 0 := fun e => hn (by
    apply Nat.eq_of_testBit_eq
    intro i
    apply xor_bit.mp
    rw [e]; exact Nat.zero_testBit i)
  obtain ⟨i, h1, h2, h3, h4⟩ := low_x (show a ^^^ b < 4096 from hx) c
  have hne : ¬ a.testBit i = b.testBit i := fun e => by rw [xor_bit.mpr e] at h3; cases h3
  cases q : a.testBit i with
  | true =>
    left
    refine ⟨i, q, ?_, fun j hj => xor_bit.mp (h4 j hj)⟩
    cases q2 : b.testBit i with
    | false => rfl
    | true => exact absurd (q.trans q2.symm) hne
  | false =>
    right
    refine ⟨i, ?_, q, fun j hj => (xor_bit.mp (h4 j hj)).symm⟩
    cases q2 : b.testBit i with
    | true => rfl
    | false => exact absurd (q.trans q2.symm) hne
theorem bit_lt {M n i : Nat} (h : M < 2 ^ n) (hb : M.testBit i = true) : i < n := by
  have h1 := Nat.ge_two_pow_of_testBit hb
  rcases Nat.lt_or_ge i n with q | q
  · exact q
  · have := Nat.pow_le_pow_right (n := 2) (by omega) q
    omega
theorem beats_i {n A B : Nat} (hA : A < 2 ^ n) : beats n A B ↔ (onesN n A < onesN n B ∨ (onesN n A = onesN n B ∧ ltx A B)) := by
  unfold beats
  constructor
  · rintro (h | ⟨h1, i, _, h2, h3, h4⟩)
    · exact Or.inl h
    · exact Or.inr ⟨h1, i, h2, h3, h4⟩
  · rintro (h | ⟨h1, i, h2, h3, h4⟩)
    · exact Or.inl h
    · exact Or.inr ⟨h1, i, bit_lt hA h2, h2, h3, h4⟩
theorem beats_tr {n A B C : Nat} (hA : A < 2 ^ n) (hB : B < 2 ^ n) (x : beats n A B) (y : beats n B C) : beats n A C := by
  rw [beats_i hA] at *
  rw [beats_i hB] at y
  rcases x with x | ⟨x1, x2⟩ <;> rcases y with y | ⟨y1, y2⟩
  · left; omega
  · left; omega
  · left; omega
  · exact Or.inr ⟨by omega, ltx_tr x2 y2⟩
theorem beats_irr {n A : Nat} (hA : A < 2 ^ n) : ¬ beats n A A := by
  rw [beats_i hA]
  rintro (h | ⟨_, h⟩)
  · omega
  · exact ltx_irr _ h
theorem isLst_u {K : Nat → Int32} {σ : Nat → Nat} {Tm Ts : Tk} {x y : Option Nat} (hx : isLst K σ Tm Ts x) (hy : isLst K σ Tm Ts y) : x = y := by
  cases x with
  | none =>
    cases y with
    | none => rfl
    | some B => exact absurd hy.1 (hx B)
  | some A =>
    cases y with
    | none => exact absurd hx.1 (hy A)
    | some B =>
      rcases hx.2 B hy.1 with e | e
      · rw [e]
      · rcases hy.2 A hx.1 with e2 | e2
        · rw [e2]
        · exact absurd (beats_tr hx.1.1 hy.1.1 e e2) (beats_irr hx.1.1)
theorem ones_n {n M : Nat} (hn : n ≤ 12) (hM : M < 2 ^ n) : onesN 12 M = onesN n M := by
  rw [ones_cnt, ones_cnt]
  have := cnt_cut (fun i => M.testBit i = true) n (12 - n)
  rw [show n + (12 - n) = 12 by omega] at this
  rw [← this]
  exact cnt_cg 12 (fun i _ => ⟨fun q => ⟨bit_lt hM q, q⟩, fun q => q.2⟩)
/-! counting by turns -/
theorem cnt_ch {P Q : Nat → Prop} {i0 : Nat} : ∀ n, (∀ i, i < n → i ≠ i0 → (P i ↔ Q i)) → i0 < n → cntT P n + pif (Q i0) 1 0 = cntT Q n + pif (P i0) 1 0
  | 0, _, hi => by omega
  | n + 1, hh, hi => by
    rw [cnt_s, cnt_s]
    by_cases e : i0 = n
    · subst e
      rw [cnt_cg (P := P) (Q := Q) i0 (fun i h1 => hh i (by omega) (by omega))]
      omega
    · have ih := cnt_ch n (fun i h1 h2 => hh i (by omega) h2) (by omega)
      rw [propext (hh n (by omega) (fun q => e q.symm))]
      omega
theorem cnt_pm (Q : Nat → Prop) : ∀ n (f : Nat → Nat), (∀ i, i < n → f i < n) → (∀ i j, i < j → j < n → f i ≠ f j) → cntT (fun i => Q (f i)) n = cntT Q n
  | 0, _, _, _ => rfl
  | n + 1, f, h1, h2 => by
    have hv := h1 n (by omega)
    have ih := cnt_pm Q n (fun i => if f i = n then f n else f i) (by
      intro i hi
      show (if f i = n then f n else f i) < n
      have a1 := h1 i (by omega)
      have a2 := h2 i n hi (by omega)
      split <;> omega) (by
      intro i j hij hj
      show (if f i = n then f n else f i) ≠ (if f j = n then f n else f j)
      have a1 := h2 i j hij (by omega)
      have a2 := h2 i n (by omega) (by omega)
      have a3 := h2 j n hj (by omega)
      split <;> split <;> omega)
    rw [cnt_s, cnt_s]
    by_cases e : f n = n
    · have : cntT (fun i => Q (f i)) n = cntT (fun i => Q (if f i = n then f n else f i)) n := cnt_cg n (fun i hi => by
        show Q (f i) ↔ Q (if f i = n then f n else f i)
        rw [if_neg (fun q => h2 i n hi (by omega) (q.trans e.symm))])
      rw [this, ih, e]
    · obtain ⟨i0, k1, k2⟩ := pig (n + 1) f h1 h2 n (by omega)
      have hne : i0 ≠ n := fun q => by rw [q] at k2; exact e k2
      have hc := cnt_ch (P := fun i => Q (f i)) (Q := fun i => Q (if f i = n then f n else f i)) (i0 := i0) n (fun i h3 h4 => by
        show Q (f i) ↔ Q (if f i = n then f n else f i)
        have q : ¬ f i = n := fun q => by
          rcases Nat.lt_or_ge i i0 with z | z
          · exact h2 i i0 z (by omega) (q.trans k2.symm)
          · exact h2 i0 i (by omega) (by omega) (k2.trans q.symm)
        rw [if_neg q]) (by omega)
      rw [ih] at hc
      rw [if_pos k2, k2] at hc
      omega
