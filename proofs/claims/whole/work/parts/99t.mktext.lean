/-! a Text is made (the class) -/
def nwA (h : Hp) (L : Nat) (f : Nat → Int32) : Hp := sA (mkc h 20 L) (hz h) f
theorem kd78 (h : Hp) : kdm true h 78 = (20, 400) := rfl
theorem kd79 (h : Hp) : kdm true h 79 = (20, 48) := rfl
section MK
variable {h : Hp}
theorem mk_k (k n : Nat) (h1 : 121 ≤ hz h) : kdm true (mkc h k n) (hz h) = (k, n) := by
  rw [kd_big h1]
  exact if_pos rfl
theorem mk_g (k n : Nat) {b : Nat} (hb : b ≠ hz h) : gI (mkc h k n) b = gI h b := if_neg hb
theorem mk_p (k n : Nat) {b : Nat} (hb : b ≠ hz h) : gP (mkc h k n) b = gP h b := if_neg hb
theorem mk_h (k n : Nat) {b : Nat} (hb : b ≠ hz h) : hk (mkc h k n) b = hk h b := if_neg hb
theorem c265 {S cap : Nat} (hS : S = 78 ∧ cap = 400 ∨ S = 79 ∧ cap = 48) {L : Nat} (hL : L ≤ cap) (h1 : 121 ≤ hz h) : ∃ f, (∀ k, k < L → f k = gI h S k) ∧ ∀ d F, cwp true d 265 [.ref S, .int (nI L)] h F = F (some (.ref (hz h))) (nwA h L f) := by
  have hcap : cap ≤ 400 := by omega
  have hkS : ∀ g : Hp, kdm true g S = (20, cap) := by
    intro g
    rcases hS with ⟨rfl, rfl⟩ | ⟨rfl, rfl⟩ <;> rfl
  have hS' : S ≠ hz h := by omega
  by_cases c : L = cap
  · refine ⟨gI h S, fun _ _ => rfl, fun d F => ?_⟩
    have hk2 : kdm true (sA (mkc h 20 cap) (hz h) (gI h S)) (hz h) = (20, cap) := by
      rw [kd_big h1]
      exact if_pos rfl
    subst c
    unfold nwA
    simp (disch := omega) only [e265, r265_0, r265_1, r265_2, r265_3, r265_6, r265_7, r265_10, r265_13, r265_13n, r265_14, r265_15, r265_17, r265_17n, r265_18, r265_19, r265_20, r265_20n, r265_21, r265_22, r265_23, r265_24, r265_25, r265_28, r265_31, r265_31n, r265_32, r265_32n, hkS, hk2, kdC, kdM, rpC, rpM, q_rs, q_rn, Option.toList_some, Option.toList_none, List.cons_append, List.nil_append, true_and, and_true, eq_self, ↓reduceIte, not_true_eq_false, not_false_eq_true, Nat.reduceEqDiff, Nat.reduceLeDiff, Nat.reduceLT, Nat.reduceAdd, Nat.reduceMul, Nat.reduceSub, false_or, or_false, true_or, or_true, false_and, and_false, reduceCtorEq, q_n0, q_n1, q_em, q_em2, q_b0, q_b1, Classical.not_not, nI_add, pk_mul, nI_clamp, q_vp, nI_eq, nI_leI, nI_ltI, q_sub]
  · refine ⟨va_cpy (gI (mkc h 20 L) S) (gI (mkc h 20 L) (hz h)) 0 0 L, fun k hk => ?_, fun d F => ?_⟩
    · unfold va_cpy
      rw [if_pos (by omega), mk_g 20 L hS', show 0 + (k - 0) = k by omega]
    · have hk2 := mk_k (h := h) 20 L h1
      unfold nwA
      simp (disch := omega) only [e265, r265_0, r265_1, r265_2, r265_3, r265_6, r265_7, r265_10, r265_13, r265_13n, r265_14, r265_15, r265_17, r265_17n, r265_18, r265_19, r265_20, r265_20n, r265_21, r265_22, r265_23, r265_24, r265_25, r265_28, r265_31, r265_31n, r265_32, r265_32n, hkS, hk2, kdC, kdM, rpC, rpM, q_rs, q_rn, Option.toList_some, Option.toList_none, List.cons_append, List.nil_append, true_and, and_true, eq_self, ↓reduceIte, not_true_eq_false, not_false_eq_true, Nat.reduceEqDiff, Nat.reduceLeDiff, Nat.reduceLT, Nat.reduceAdd, Nat.reduceMul, Nat.reduceSub, false_or, or_false, true_or, or_true, false_and, and_false, reduceCtorEq, q_n0, q_n1, q_em, q_em2, q_b0, q_b1, Classical.not_not, nI_add, pk_mul, nI_clamp, q_vp, nI_eq, nI_leI, nI_ltI, q_sub, c, show ¬ cap < L by omega, show L < cap by omega, Nat.zero_add, Nat.le_refl, show L ≤ cap by omega, show ¬ L < 0 by omega, show L ≤ 1000000 by omega, Nat.not_lt_zero]
/-- the heap with a new Text: its steps f, its clauses f2 -/
def txN (h : Hp) (z : Nat) (f : Nat → Int32) (i : Nat) (f2 : Nat → Int32) : Hp := sP (sP (nwA (nwA (mkc h 9 2) z f) (4 * i) f2) (hz h) 0 (some (hz h + 1))) (hz h) 1 (some (hz h + 2))
theorem txN_z (z : Nat) (f : Nat → Int32) (i : Nat) (f2 : Nat → Int32) : hz (txN h z f i f2) = hz h + 3 ∧ hu (txN h z f i f2) = hu h + 2 + z + 4 * i := ⟨rfl, rfl⟩
theorem txN_o (z : Nat) (f : Nat → Int32) (i : Nat) (f2 : Nat → Int32) {b : Nat} (hb : b < hz h) : gI (txN h z f i f2) b = gI h b ∧ gP (txN h z f i f2) b = gP h b ∧ hk (txN h z f i f2) b = hk h b := by
  have e1 : hz (mkc h 9 2) = hz h + 1 := rfl
  have e2 : hz (nwA (mkc h 9 2) z f) = hz h + 2 := rfl
  refine ⟨?_, ?_, ?_⟩
  · unfold txN
    rw [q_gIP, q_gIP]
    unfold nwA
    rw [q_gan (by show b ≠ hz h + 2; omega), mk_g 20 _ (by show b ≠ hz h + 2; omega), q_gan (by show b ≠ hz h + 1; omega), mk_g 20 _ (by show b ≠ hz h + 1; omega), mk_g 9 2 (by omega)]
  · unfold txN
    rw [q_pn (by omega), q_pn (by omega)]
    unfold nwA
    show gP (mkc (sA (mkc (mkc h 9 2) 20 z) (hz (mkc h 9 2)) f) 20 (4 * i)) b = _
    rw [mk_p 20 _ (by show b ≠ hz h + 2; omega)]
    show gP (mkc (mkc h 9 2) 20 z) b = _
    rw [mk_p 20 _ (by show b ≠ hz h + 1; omega), mk_p 9 2 (by omega)]
  · show hk (mkc (sA (mkc (mkc h 9 2) 20 z) (hz (mkc h 9 2)) f) 20 (4 * i)) b = _
    rw [mk_h 20 _ (by show b ≠ hz h + 2; omega)]
    show hk (mkc (mkc h 9 2) 20 z) b = _
    rw [mk_h 20 _ (by show b ≠ hz h + 1; omega), mk_h 9 2 (by omega)]
theorem txN_n (z : Nat) (f : Nat → Int32) (i : Nat) (f2 : Nat → Int32) : (gP (txN h z f i f2) (hz h) 0 = some (hz h + 1) ∧ gP (txN h z f i f2) (hz h) 1 = some (hz h + 2)) ∧ (hk (txN h z f i f2) (hz h) = (9, 2) ∧ hk (txN h z f i f2) (hz h + 1) = (20, z) ∧ hk (txN h z f i f2) (hz h + 2) = (20, 4 * i)) ∧ gI (txN h z f i f2) (hz h + 1) = f ∧ gI (txN h z f i f2) (hz h + 2) = f2 := by
  refine ⟨⟨?_, ?_⟩, ⟨?_, ?_, ?_⟩, ?_, ?_⟩
  · unfold txN; rw [q_pm (by omega), q_ps]
  · unfold txN; rw [q_ps]
  · show hk (mkc (sA (mkc (mkc h 9 2) 20 z) (hz (mkc h 9 2)) f) 20 (4 * i)) (hz h) = _
    rw [mk_h 20 _ (by show hz h ≠ hz h + 2; omega)]
    show hk (mkc (mkc h 9 2) 20 z) (hz h) = _
    rw [mk_h 20 _ (by show hz h ≠ hz h + 1; omega)]
    exact if_pos rfl
  · show hk (mkc (sA (mkc (mkc h 9 2) 20 z) (hz (mkc h 9 2)) f) 20 (4 * i)) (hz h + 1) = _
    rw [mk_h 20 _ (by show hz h + 1 ≠ hz h + 2; omega)]
    exact if_pos rfl
  · exact if_pos rfl
  · unfold txN
    rw [q_gIP, q_gIP]
    unfold nwA
    rw [q_gan (by show hz h + 1 ≠ hz h + 2; omega), mk_g 20 _ (by show hz h + 1 ≠ hz h + 2; omega)]
    exact q_ga _ _ _
  · unfold txN
    rw [q_gIP, q_gIP]
    exact q_ga _ _ _
/-- the class makes it -/
theorem c41_t {z i : Nat} (h1 : 121 ≤ hz h) (h9 : gI h 76 9 = nI z) (h11 : gI h 76 11 = nI (4 * i)) (hz' : z ≤ 400) (hi : i ≤ 12) : ∃ f f2, (∀ k, k < z → f k = gI h 78 k) ∧ (∀ k, k < 4 * i → f2 k = gI h 79 k) ∧ ∀ D F (v1 v2 v3 : Value), wp true (D + 1) 41 105 [.ref 76, v1, v2, v3] [] h F = F (some (.ref (hz h))) (txN h z f i f2) := by
  have e1 : hz (mkc h 9 2) = hz h + 1 := rfl
  obtain ⟨f, a1, a2⟩ := c265 (h := mkc h 9 2) (S := 78) (cap := 400) (Or.inl ⟨rfl, rfl⟩) hz' (by omega)
  have e2 : hz (nwA (mkc h 9 2) z f) = hz h + 2 := rfl
  obtain ⟨f2, b1, b2⟩ := c265 (h := nwA (mkc h 9 2) z f) (S := 79) (cap := 48) (L := 4 * i) (Or.inr ⟨rfl, rfl⟩) (by omega) (by omega)
  have g9 : gI (mkc h 9 2) 76 9 = nI z := by rw [mk_g 9 2 (by omega)]; exact h9
  have g11 : gI (nwA (mkc h 9 2) z f) 76 11 = nI (4 * i) := by
    unfold nwA
    rw [q_gan (by omega), mk_g 20 _ (by omega), mk_g 9 2 (by omega)]; exact h11
  have k9 : kdm true (nwA (nwA (mkc h 9 2) z f) (4 * i) f2) (hz h) = (9, 2) := by
    rw [kd_big h1]
    show hk (mkc (sA (mkc (mkc h 9 2) 20 z) (hz (mkc h 9 2)) f) 20 (4 * i)) (hz h) = _
    rw [mk_h 20 _ (by show hz h ≠ hz h + 2; omega)]
    show hk (mkc (mkc h 9 2) 20 z) (hz h) = _
    rw [mk_h 20 _ (by show hz h ≠ hz h + 1; omega)]
    exact if_pos rfl
  have k9b : kdm true (sP (nwA (nwA (mkc h 9 2) z f) (4 * i) f2) (hz h) 0 (some (hz h + 1))) (hz h) = (9, 2) := by
    rw [kd_big h1]
    rw [kd_big h1] at k9
    exact k9
  refine ⟨f, f2, fun k hk => by rw [a1 k hk, mk_g 9 2 (by omega)], fun k hk => ?_, fun D F v1 v2 v3 => ?_⟩
  · rw [b1 k hk]
    unfold nwA
    rw [q_gan (by omega), mk_g 20 _ (by omega), mk_g 9 2 (by omega)]
  · rw [e1] at a2
    rw [e2] at b2
    unfold txN
    simp (disch := omega) only [r41_105, r41_108, r41_109, r41_110, r41_113, r41_114, r41_117, r41_120, r41_121, r41_124, r41_125, r41_128, r41_131, r41_134, r41_134n, e78, r78_0, r78_1, r78_4, r78_5, r78_5n, r78_6, r78_6n, r78_9, r78_10, r78_10n, r78_11, r78_11n, r78_14, g9, g11, a2, b2, k9, k9b, wk_big h1, kdC, kdM, rpC, rpM, q_rs, q_rn, Option.toList_some, Option.toList_none, List.cons_append, List.nil_append, true_and, and_true, eq_self, ↓reduceIte, not_true_eq_false, not_false_eq_true, Nat.reduceEqDiff, Nat.reduceLeDiff, Nat.reduceLT, Nat.reduceAdd, Nat.reduceMul, Nat.reduceSub, false_or, or_false, true_or, or_true, false_and, and_false, reduceCtorEq, q_n0, q_n1, q_em, q_em2, q_b0, q_b1, Classical.not_not]
end MK
