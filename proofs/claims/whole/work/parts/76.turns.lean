/-! the next sheet of a set, by turns -/
theorem pig : ∀ n (f : Nat → Nat), (∀ i, i < n → f i < n) → (∀ i j, i < j → j < n → f i ≠ f j) → ∀ s, s < n → ∃ i, i < n ∧ f i = s
  | 0, f, _, _, s, hs => by omega
  | n + 1, f, h1, h2, s, hs => by
    have hv := h1 n (by omega)
    by_cases e1 : s = f n
    · exact ⟨n, by omega, e1.symm⟩
    · have ih := pig n (fun i => if f i = n then f n else f i) (by
        intro i hi
        show (if f i = n then f n else f i) < n
        have a1 := h1 i (by omega)
        have a2 := h2 i n hi (by omega)
        split
        · omega
        · omega) (by
        intro i j hij hj
        show (if f i = n then f n else f i) ≠ (if f j = n then f n else f j)
        have a1 := h2 i j hij (by omega)
        have a2 := h2 i n (by omega) (by omega)
        have a3 := h2 j n hj (by omega)
        split
        · split
          · omega
          · omega
        · split
          · omega
          · omega)
      by_cases e2 : s = n
      · obtain ⟨i, hi, ei⟩ := ih (f n) (by omega)
        have ei' : (if f i = n then f n else f i) = f n := ei
        by_cases e3 : f i = n
        · exact ⟨i, by omega, by omega⟩
        · rw [if_neg e3] at ei'
          exact absurd ei' (h2 i n hi (by omega))
      · obtain ⟨i, hi, ei⟩ := ih s (by omega)
        have ei' : (if f i = n then f n else f i) = s := ei
        by_cases e3 : f i = n
        · rw [if_pos e3] at ei'; omega
        · rw [if_neg e3] at ei'; exact ⟨i, by omega, ei'⟩
section TU
variable {K : Nat → Int32} {σ : Nat → Nat} {M : Nat} {l : Option Nat}
theorem ltS_irr (a : Nat) : ¬ ltS K a a := by
  unfold ltS
  rintro (q | q)
  · exact Int32.lt_irrefl q
  · omega
theorem ltS_tr {a b c : Nat} (h1 : ltS K a b) (h2 : ltS K b c) : ltS K a c := by
  unfold ltS at *
  simp only [Int32.lt_iff_toInt_lt, ← Int32.toInt_inj] at *
  omega
theorem turn_on (x : isTurn K σ) : ∀ s, s < ns K → ∃ i, i < ns K ∧ σ i = s := pig (ns K) σ x.1 (fun i j hij hj e => by
  have := x.2 i j hij hj
  rw [e] at this
  exact ltS_irr _ this)
theorem turn_lt (x : isTurn K σ) {i j : Nat} (hi : i < ns K) (hj : j < ns K) : ltS K (σ i) (σ j) ↔ i < j := by
  constructor
  · intro q
    rcases Nat.lt_or_ge i j with z | z
    · exact z
    · rcases Nat.lt_or_ge j i with z2 | z2
      · exact absurd (ltS_tr q (x.2 j i z2 hi)) (ltS_irr _)
      · obtain rfl : i = j := by omega
        exact absurd q (ltS_irr _)
  · intro q; exact x.2 i j q hj
theorem af_min : ∀ n, (q_lp (afB K M l) n 0 none = none → ∀ s, s < n → ¬ caS K M l s) ∧ ∀ b, q_lp (afB K M l) n 0 none = some b → b < n ∧ caS K M l b ∧ ∀ s, s < n → caS K M l s → s = b ∨ ltS K b s
  | 0 => ⟨fun _ s hs => by omega, fun b e => by cases e⟩
  | n + 1 => by
    obtain ⟨i1, i2⟩ := af_min n
    rw [q_lpR, Nat.zero_add]
    generalize q_lp (afB K M l) n 0 none = r at *
    unfold afB
    by_cases c : caS K M l n ∧ ∀ j, r = some j → K (304 + 6 * n + 1) < K (304 + 6 * j + 1)
    · rw [pif_t c]
      refine ⟨fun e => (by cases e), fun b e => ?_⟩
      cases e
      refine ⟨by omega, c.1, fun s hs hc => ?_⟩
      by_cases e : s = n
      · exact Or.inl e
      · right
        cases r with
        | none => exact absurd hc (i1 rfl s (by omega))
        | some j =>
          obtain ⟨j1, j2, j3⟩ := i2 j rfl
          have hlt : ltS K n j := Or.inl (c.2 j rfl)
          rcases j3 s (by omega) hc with q | q
          · rw [q]; exact hlt
          · exact ltS_tr hlt q
    · rw [pif_f c]
      refine ⟨fun e s hs hc => ?_, fun b e => ?_⟩
      · by_cases es : s = n
        · subst es
          exact c ⟨hc, fun j ej => by rw [e] at ej; cases ej⟩
        · exact i1 e s (by omega) hc
      · obtain ⟨j1, j2, j3⟩ := i2 b e
        refine ⟨by omega, j2, fun s hs hc => ?_⟩
        by_cases es : s = n
        · subst es
          right
          have hn : ¬ K (304 + 6 * s + 1) < K (304 + 6 * b + 1) := fun z => c ⟨hc, fun j ej => by rw [e] at ej; cases ej; exact z⟩
          unfold ltS
          rw [Int32.lt_iff_toInt_lt] at hn
          rw [Int32.lt_iff_toInt_lt, ← Int32.toInt_inj]
          omega
        · exact j3 s (by omega) hc
/-- l is the one ahead of turn p -/
def atP (K : Nat → Int32) (σ : Nat → Nat) (l : Option Nat) (p : Nat) : Prop := (l = none ∧ p = 0) ∨ ∃ i, i < ns K ∧ l = some (σ i) ∧ p = i + 1
theorem ca_p (x : isTurn K σ) {p : Nat} (hp : atP K σ l p) {i : Nat} (hi : i < ns K) : caS K M l (σ i) ↔ (p ≤ i ∧ M.testBit (σ i) = true) := by
  unfold caS
  rcases hp with ⟨rfl, rfl⟩ | ⟨j, hj, rfl, rfl⟩
  · exact ⟨fun q => ⟨by omega, q.1⟩, fun q => ⟨q.2, fun j ej => by cases ej⟩⟩
  · constructor
    · intro q
      have := (turn_lt x hj hi).mp (q.2 (σ j) rfl)
      exact ⟨by omega, q.1⟩
    · intro q
      exact ⟨q.2, fun j' ej => by cases ej; exact (turn_lt x hj hi).mpr (by omega)⟩
theorem af_turn (x : isTurn K σ) {p : Nat} (hp : atP K σ l p) : (q_lp (afB K M l) (ns K) 0 none = none ∧ ∀ i, p ≤ i → i < ns K → M.testBit (σ i) = false) ∨ ∃ i, p ≤ i ∧ i < ns K ∧ q_lp (afB K M l) (ns K) 0 none = some (σ i) ∧ M.testBit (σ i) = true ∧ ∀ j, p ≤ j → j < i → M.testBit (σ j) = false := by
  obtain ⟨m1, m2⟩ := af_min (K := K) (M := M) (l := l) (ns K)
  cases e : q_lp (afB K M l) (ns K) 0 none with
  | none =>
    left
    refine ⟨rfl, fun i h1 h2 => ?_⟩
    have := m1 e (σ i) (x.1 i h2)
    rw [ca_p x hp h2] at this
    cases q : M.testBit (σ i) with
    | false => rfl
    | true => exact absurd ⟨h1, q⟩ this
  | some b =>
    right
    obtain ⟨b1, b2, b3⟩ := m2 b e
    obtain ⟨i, hi, rfl⟩ := turn_on x b b1
    obtain ⟨c1, c2⟩ := (ca_p x hp hi).mp b2
    refine ⟨i, c1, hi, rfl, c2, fun j h1 h2 => ?_⟩
    cases q : M.testBit (σ j) with
    | false => rfl
    | true =>
      have hj : j < ns K := by omega
      have hc := (ca_p (M := M) x hp hj).mpr ⟨h1, q⟩
      rcases b3 (σ j) (x.1 j hj) hc with z | z
      · have := x.2 j i h2 hi
        rw [z] at this
        exact absurd this (ltS_irr _)
      · have := (turn_lt x hi hj).mp z
        omega
end TU
