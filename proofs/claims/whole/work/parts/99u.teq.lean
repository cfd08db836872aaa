/-! what a new text says in both; older texts say what they said -/
section NT
variable {B : Nat → Int32} {n m : Nat}
theorem nn_at {cs : List Int32} (h : nnL cs) {k : Nat} (hk : k < cs.length) : ¬ cs.getD k 0 < nI 0 := by
  have : cs.getD k 0 = cs[k] := by
    rw [List.getD_eq_getElem?_getD, List.getElem?_eq_getElem hk]
    rfl
  rw [this]
  exact h _ (List.getElem_mem hk)
/-- the new text -/
theorem tEq_new (o : TOK B n m) {i : Nat} {cs : List Int32} {HD P1 P2 P3 : Nat → Nat} (hi : i ≤ 12) (hcs : cs.length ≤ 400) (hnn : nnL cs) (hs : SEQ B n m i (m + 1) cs HD P1 P2 P3) {f f2 : Nat → Int32} (hf : ∀ k, k < cs.length → f k = cs.getD k 0) (hf2 : ∀ k, k < i → f2 (4 * k) = nI (HD k) ∧ f2 (4 * k + 1) = nI (P1 k) ∧ f2 (4 * k + 2) = nI (P2 k) ∧ f2 (4 * k + 3) = nI (P3 k)) {K : Nat → Int32} {t : Nat} (hK1 : K (381 + t) = nI m) (hK2 : ∀ j, j < m → K (391 + (400 * t + j)) = mcJ B n j ∧ K (4391 + (400 * t + j)) = mvJ B n j) : tEq K t (f, cs.length, f2, i) := by
  have hm4 := o.m400
  obtain ⟨b, hs⟩ := hs
  have hcl : (K (381 + t)).toNatClampNeg = m := by rw [hK1, nI_clamp (by omega)]
  have cx : CTX B n m (fun k => K (391 + k)) (fun k => K (4391 + k)) (400 * t + m) (400 * t) := by
    refine ⟨fun j hj => ?_, fun j hj => ?_⟩
    · unfold cda
      by_cases c : j < m
      · rw [if_pos (by omega)]; exact (hK2 j c).1
      · obtain rfl : j = m := by omega
        rw [if_neg (by omega)]
        unfold mcJ
        rw [pif_t o.2.2.2.1]
    · unfold cda
      rw [if_pos (by omega)]
      exact (hK2 j hj).2
  have hat : AT f 0 cs := fun k hk => by rw [Nat.zero_add]; exact hf k hk
  -- what is said, for one asking
  have key : ∀ (hd : Nat) (env : Nat → Int32), hd < 4 → ∃ (rs : Nat → Option (List Int32)) (vl : Nat → Int64), (∀ k, k < i → HD k < 3 → ∀ l, rs k = some l → ∃ y : Int32, l = [y] ∧ vl k = y.toInt64) ∧ mSay K t hd env = some (q_lp (fun k a => if (rs k).isSome ∧ nI (HD k + 1) = nI (hd + 1) then some (vl k) else a) i 0 none) ∧ ∀ k, k < i → vho env f f2 (nI hd) (k + 1) = if HD k = hd then (match rs k with
      | some l => some l
      | none => vho env f f2 (nI hd) k) else vho env f f2 (nI hd) k := by
    intro hd env hhd
    obtain ⟨rs, vl, a1, a2, a3⟩ := hs _ _ _ _ env cx (Nat.le_refl _)
    refine ⟨rs, vl, a2, ?_, fun k hk => ?_⟩
    · have h1 := a3 (nI (hd + 1)) (401 - i) none
      rw [show 401 - i + i = 401 by omega] at h1
      unfold mSay mAsk
      rw [hcl, h1, q_wh1 (s' := (400 * t + (m + 1), q_lp (fun k a => if (rs k).isSome ∧ nI (HD k + 1) = nI (hd + 1) then some (vl k) else a) i 0 none)) (by omega)]
      · rfl
      · show (if 400 * t + (m + 1) < 400 * t + m then _ else _) = _
        rw [if_neg (by omega)]
    · obtain ⟨e0, e1, e2, e3⟩ := hf2 k hk
      obtain ⟨b0, b1, b2, b3⟩ := b k hk
      rw [vho_s, e0, e1, e2, e3, nI_clamp (by omega), nI_clamp (by omega), nI_clamp (by omega), a1 f hat k hk]
      by_cases c : HD k = hd
      · rw [if_pos (by rw [c]), if_pos c]
        cases rs k <;> rfl
      · rw [if_neg (by rw [nI_eq (by omega) (by omega)]; exact c), if_neg c]
  refine ⟨by rw [hK1]; exact ⟨by rw [nI_toInt (by omega)]; omega, by rw [nI_toInt (by omega)]; omega⟩, ⟨hcs, hi, fun k hk => ?_, fun k hk => ?_⟩, fun hd env hhd => ?_, fun env => ?_⟩
  · show ¬ f k < nI 0
    rw [hf k hk]
    exact nn_at hnn hk
  · obtain ⟨b0, b1, b2, b3⟩ := b k hk
    obtain ⟨e0, e1, e2, e3⟩ := hf2 k hk
    exact ⟨HD k, P1 k, P2 k, P3 k, b0, b1, b2, b3, e0, e1, e2, e3⟩
  · obtain ⟨rs, vl, a2, a3, a4⟩ := key hd env (by omega)
    have rel : ∀ k, k ≤ i → (q_lp (fun k a => if (rs k).isSome ∧ nI (HD k + 1) = nI (hd + 1) then some (vl k) else a) k 0 none = none ∧ vho env f f2 (nI hd) k = none) ∨ ∃ y : Int32, q_lp (fun k a => if (rs k).isSome ∧ nI (HD k + 1) = nI (hd + 1) then some (vl k) else a) k 0 none = some y.toInt64 ∧ vho env f f2 (nI hd) k = some [y] := by
      intro k
      induction k with
      | zero => intro _; exact Or.inl ⟨rfl, rfl⟩
      | succ k ih =>
        intro hk
        have b0 := (b k (by omega)).1
        rw [q_lpR, Nat.zero_add, a4 k (by omega)]
        by_cases c : HD k = hd
        · rw [if_pos c]
          cases hr : rs k with
          | none =>
            rw [if_neg (by simp)]
            exact ih (by omega)
          | some l =>
            rw [if_pos ⟨rfl, by rw [c]⟩]
            obtain ⟨y, y1, y2⟩ := a2 k (by omega) (by omega) l hr
            right
            exact ⟨y, by rw [y2], by rw [y1]⟩
        · rw [if_neg c, if_neg (fun u => c (by have := u.2; rw [nI_eq (by omega) (by omega)] at this; omega))]
          exact ih (by omega)
    rcases rel i (Nat.le_refl _) with ⟨r1, r2⟩ | ⟨y, r1, r2⟩
    · exact ⟨none, by rw [a3, r1]; rfl, Or.inl ⟨rfl, r2⟩⟩
    · exact ⟨some y, by rw [a3, r1]; rfl, Or.inr ⟨y, rfl, r2⟩⟩
  · obtain ⟨rs, vl, a2, a3, a4⟩ := key 3 env (by omega)
    have rel : ∀ k, k ≤ i → ((q_lp (fun k a => if (rs k).isSome ∧ nI (HD k + 1) = nI (3 + 1) then some (vl k) else a) k 0 none).isSome ↔ (vho env f f2 (nI 3) k).isSome) := by
      intro k
      induction k with
      | zero => intro _; exact Iff.rfl
      | succ k ih =>
        intro hk
        have b0 := (b k (by omega)).1
        rw [q_lpR, Nat.zero_add, a4 k (by omega)]
        by_cases c : HD k = 3
        · rw [if_pos c]
          cases hr : rs k with
          | none =>
            rw [if_neg (by simp)]
            exact ih (by omega)
          | some l =>
            rw [if_pos ⟨rfl, by rw [c]⟩]
            exact Iff.rfl
        · rw [if_neg c, if_neg (fun u => c (by have := u.2; rw [nI_eq (by omega) (by omega)] at this; omega))]
          exact ih (by omega)
    exact ⟨_, a3, rel i (Nat.le_refl _)⟩
end NT
