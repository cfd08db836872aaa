/-! says: the class's tables -/
theorem q_dec (j : Nat) : nI (j + 1) + (-1) = nI j := by
  apply Int32.toBitVec_inj.1
  show BitVec.ofNat 32 (j + 1) + (-1 : BitVec 32) = BitVec.ofNat 32 j
  apply BitVec.eq_of_toNat_eq
  rw [BitVec.toNat_add, BitVec.toNat_ofNat, BitVec.toNat_ofNat, show (-1 : BitVec 32).toNat = 4294967295 by decide]
  omega
theorem q_dec0 : nI 0 + (-1) = (-1 : Int32) := by decide
theorem ixu {W k k' s s' : Nat} (h1 : s < W) (h2 : s' < W) (e : k * W + s = k' * W + s') : k = k' ∧ s = s' := by
  rcases Nat.lt_trichotomy k k' with q | q | q
  · have := Nat.mul_le_mul_right W (show k + 1 ≤ k' from q)
    rw [Nat.add_mul, Nat.one_mul] at this
    omega
  · subst q; exact ⟨rfl, by omega⟩
  · have := Nat.mul_le_mul_right W (show k' + 1 ≤ k from q)
    rw [Nat.add_mul, Nat.one_mul] at this
    omega
theorem frm {t W u s : Nat} (h1 : W ≤ t) (h2 : u ≤ s) : nI t - nI W - nI u + nI s = nI (t - W + (s - u)) := by
  apply Int32.toBitVec_inj.1
  show BitVec.ofNat 32 t - BitVec.ofNat 32 W - BitVec.ofNat 32 u + BitVec.ofNat 32 s = BitVec.ofNat 32 (t - W + (s - u))
  apply BitVec.eq_of_toNat_eq
  simp only [BitVec.toNat_add, BitVec.toNat_sub, BitVec.toNat_ofNat]
  omega
/-- a table of rows -/
def TB (T : Nat → Int32) (W c : Nat) (G : Nat → Nat → Nat) : Prop := ∀ k s, k ≤ c → s < W → T (k * W + s) = nI (G k s)
def gad (u : Nat) (G : Nat → Nat → Nat) (k s : Nat) : Nat := G k s + (if 1 ≤ k ∧ u ≤ s then G (k - 1) (s - u) else 0)
/-- rows behind m are done, and row m up to s0 -/
def gmx (u : Nat) (G : Nat → Nat → Nat) (m s0 k s : Nat) : Nat := if m < k ∨ (k = m ∧ s < s0) then gad u G k s else G k s
theorem gmx_low {u : Nat} {G : Nat → Nat → Nat} {m s0 k s : Nat} (h : s0 ≤ u) (hs : k = m → s < s0 → True) : gmx u G m s0 k s = gmx u G m 0 k s := by
  unfold gmx
  by_cases c : m < k
  · rw [if_pos (Or.inl c), if_pos (Or.inl c)]
  · rw [if_neg (show ¬ (m < k ∨ (k = m ∧ s < 0)) by omega)]
    by_cases c2 : k = m ∧ s < s0
    · rw [if_pos (Or.inr c2)]
      unfold gad
      rw [if_neg (by omega), Nat.add_zero]
    · rw [if_neg (by omega)]
theorem gmx_nx {u : Nat} {G : Nat → Nat → Nat} {m W k s : Nat} (hs : s < W) : gmx u G (m + 1) W k s = gmx u G m 0 k s := by
  unfold gmx
  by_cases c : m < k
  · rw [if_pos (show m + 1 < k ∨ (k = m + 1 ∧ s < W) by omega), if_pos (Or.inl c)]
  · rw [if_neg (by omega), if_neg (by omega)]
section CW
variable {h : Hp} {A : Nat}
/-- the class's table stands in cell A -/
def okW (h : Hp) (A : Nat) : Prop := gP h 86 2 = some A ∧ 121 ≤ A ∧ hk h A = (20, 24973)
theorem rp86 (h : Hp) : rpm true h 86 2 = gP h 86 2 := rfl
theorem okW.kd {f : Nat → Int32} (o : okW h A) : kdm true (sA h A f) A = (20, 24973) := by rw [kd_big o.2.1]; exact o.2.2
theorem okW.rp {f : Nat → Int32} (o : okW h A) : gP (sA h A f) 86 2 = some A := o.1
theorem cl85i (o : okW h A) {c W u m : Nat} {G : Nat → Nat → Nat} (hc : c ≤ 12) (hW : W ≤ 1921) (hm : 1 ≤ m) (hmc : m ≤ c) (hu : u ≤ 1921) : ∀ j s T, s + j = W ∨ (j = 0 ∧ W ≤ s) → s ≤ 1921 → u ≤ s → TB T W c (gmx u G m s) → ∃ T' v7, TB T' W c (gmx u G m W) ∧ ∀ d F, wp true d 85 26 [.ref 86, .int (nI c), .int (nI W), .int (nI u), .int (nI m), .int (nI (m * W)), .int (nI (m * W) - nI W - nI u), .int (nI s)] [] (sA h A T) F = wp true d 85 61 [.ref 86, .int (nI c), .int (nI W), .int (nI u), .int (nI m), .int (nI (m * W)), .int (nI (m * W) - nI W - nI u), v7] [] (sA h A T') F
  | 0, s, T, e, hs, hus, i1 => by
    have hWs : W ≤ s := by omega
    refine ⟨T, .int (nI s), fun k s' hk hs' => ?_, fun d F => ?_⟩
    · rw [i1 k s' hk hs']
      unfold gmx
      by_cases c1 : m < k ∨ (k = m ∧ s' < s)
      · rw [if_pos c1, if_pos (by omega)]
      · rw [if_neg c1, if_neg (by omega)]
    · rw [r85_26]
      simp (disch := omega) only [r85_28, r85_29, kdC, kdM, rpC, rpM, q_rs, q_rn, Option.toList_some, Option.toList_none, List.cons_append, List.nil_append, true_and, and_true, eq_self, ↓reduceIte, not_true_eq_false, not_false_eq_true, Nat.reduceEqDiff, Nat.reduceLeDiff, Nat.reduceLT, Nat.reduceAdd, Nat.reduceMul, Nat.reduceSub, false_or, or_false, true_or, or_true, false_and, and_false, reduceCtorEq, q_n0, q_n1, q_em, q_em2, q_b0, q_b1, Classical.not_not, nI_add, pk_mul, nI_clamp, q_vp, nI_eq, nI_leI, nI_ltI, q_sub, hWs]
  | j + 1, s, T, e, hs, hus, i1 => by
    have hsW : s < W := by omega
    have hmW : m * W ≤ 12 * 1921 := Nat.mul_le_mul (by omega) hW
    have hWm : W ≤ m * W := by have := Nat.mul_le_mul_right W hm; omega
    have hpr : m * W - W = (m - 1) * W := by rw [Nat.sub_mul, Nat.one_mul]
    have r1 := i1 m s hmc hsW
    have r2 := i1 (m - 1) (s - u) (by omega) (by omega)
    rw [show gmx u G m s m s = G m s by unfold gmx; rw [if_neg (by omega)]] at r1
    rw [show gmx u G m s (m - 1) (s - u) = G (m - 1) (s - u) by unfold gmx; rw [if_neg (by omega)]] at r2
    obtain ⟨T', v7, a1, a2⟩ := cl85i o hc hW hm hmc hu j (s + 1) (upd T (m * W + s) (nI (G m s + G (m - 1) (s - u)))) (by omega) (by omega) (by omega) (by
      intro k s' hk hs'
      unfold upd
      by_cases e1 : k * W + s' = m * W + s
      · obtain ⟨rfl, rfl⟩ := ixu hs' hsW e1
        rw [if_pos rfl]
        unfold gmx gad
        rw [if_pos (by omega), if_pos (by omega)]
      · rw [if_neg e1, i1 k s' hk hs']
        have e2 : ¬ (k = m ∧ s' = s) := fun q => e1 (by rw [q.1, q.2])
        unfold gmx
        by_cases c1 : m < k ∨ (k = m ∧ s' < s)
        · rw [if_pos c1, if_pos (by omega)]
        · rw [if_neg c1, if_neg (by omega)])
    refine ⟨T', v7, a1, fun d F => ?_⟩
    refine Eq.trans ?_ (a2 d F)
    have hf := frm hWm hus
    rw [hpr] at hf
    have hqs : nI (m * W) - nI W = nI (m * W - W) := by simp (disch := omega) only [q_sub]
    rw [hqs] at hf
    have hpW : (m - 1) * W + (s - u) < 24973 := by
      have : (m - 1) * W ≤ 11 * 1921 := Nat.mul_le_mul (by omega) hW
      omega
    generalize hmw : m * W = mW at *
    generalize hnw : (m - 1) * W = nW at *
    rw [r85_26]
    simp (disch := omega) only [r85_28, r85_29, r85_32, r85_33, r85_36, r85_38, r85_40, r85_41, r85_42, r85_43, r85_44, r85_47, r85_49, r85_51, r85_52, r85_53, r85_54, r85_55, r85_58, rp86, o.rp, o.kd, hf, q_ga, r1, r2, q_sIs, kdC, kdM, rpC, rpM, q_rs, q_rn, Option.toList_some, Option.toList_none, List.cons_append, List.nil_append, true_and, and_true, eq_self, ↓reduceIte, not_true_eq_false, not_false_eq_true, Nat.reduceEqDiff, Nat.reduceLeDiff, Nat.reduceLT, Nat.reduceAdd, Nat.reduceMul, Nat.reduceSub, false_or, or_false, true_or, or_true, false_and, and_false, reduceCtorEq, q_n0, q_n1, q_em, q_em2, q_b0, q_b1, Classical.not_not, nI_add, pk_mul, nI_clamp, q_vp, nI_eq, nI_leI, nI_ltI, q_sub, show ¬ W ≤ s by omega, show mW + s < 24973 by omega, hpW]
theorem cl85 (o : okW h A) {c W u : Nat} {G : Nat → Nat → Nat} (hc : c ≤ 12) (hW : W ≤ 1921) (hu : u ≤ 1921) : ∀ m T (v5 v6 v7 : Value), m ≤ c → TB T W c (gmx u G m 0) → ∃ T', TB T' W c (gad u G) ∧ ∀ d F, wp true d 85 3 [.ref 86, .int (nI c), .int (nI W), .int (nI u), .int (nI m), v5, v6, v7] [] (sA h A T) F = F none (sA h A T')
  | 0, T, v5, v6, v7, hm, i1 => by
    refine ⟨T, fun k s hk hs => ?_, fun d F => ?_⟩
    · rw [i1 k s hk hs]
      unfold gmx
      by_cases c1 : 0 < k
      · rw [if_pos (Or.inl c1)]
      · rw [if_neg (by omega)]
        unfold gad
        rw [if_neg (by omega), Nat.add_zero]
    · rw [r85_3]
      simp (disch := omega) only [e85, r85_0, r85_1, r85_5, r85_6, r85_9, r85_11, r85_12, r85_13, r85_15, r85_17, r85_18, r85_19, r85_20, r85_21, r85_23, r85_24, r85_28, r85_29, r85_32, r85_33, r85_36, r85_38, r85_40, r85_41, r85_42, r85_43, r85_44, r85_47, r85_49, r85_51, r85_52, r85_53, r85_54, r85_55, r85_58, r85_61, r85_64, r85_67, kdC, kdM, rpC, rpM, q_rs, q_rn, Option.toList_some, Option.toList_none, List.cons_append, List.nil_append, true_and, and_true, eq_self, ↓reduceIte, not_true_eq_false, not_false_eq_true, Nat.reduceEqDiff, Nat.reduceLeDiff, Nat.reduceLT, Nat.reduceAdd, Nat.reduceMul, Nat.reduceSub, false_or, or_false, true_or, or_true, false_and, and_false, reduceCtorEq, q_n0, q_n1, q_em, q_em2, q_b0, q_b1, Classical.not_not, nI_add, pk_mul, nI_clamp, q_vp, nI_eq, nI_leI, nI_ltI, q_sub]
  | m + 1, T, v5, v6, v7, hm, i1 => by
    have hmW : (m + 1) * W ≤ 12 * 1921 := Nat.mul_le_mul (by omega) hW
    obtain ⟨T1, w7, b1, b2⟩ := cl85i (G := G) o hc hW (m := m + 1) (by omega) hm hu (W - u) u T (by omega) (by omega) (Nat.le_refl _) (fun k s hk hs => by
      rw [i1 k s hk hs, gmx_low (s0 := u) (Nat.le_refl _) (fun _ _ => trivial)])
    obtain ⟨T', a1, a2⟩ := cl85 o hc hW hu m T1 (.int (nI ((m + 1) * W))) (.int (nI ((m + 1) * W) - nI W - nI u)) w7 (by omega) (fun k s hk hs => by
      rw [b1 k s hk hs, gmx_nx hs])
    refine ⟨T', a1, fun d F => ?_⟩
    refine Eq.trans ?_ (a2 d F)
    rw [r85_3]
    have b2' := fun F => b2 d F
    generalize hmw : (m + 1) * W = mW at *
    simp (disch := omega) only [r85_5, r85_6, r85_9, r85_11, r85_12, r85_13, r85_15, r85_17, r85_18, r85_19, r85_20, r85_21, r85_23, r85_24, kdC, kdM, rpC, rpM, q_rs, q_rn, Option.toList_some, Option.toList_none, List.cons_append, List.nil_append, true_and, and_true, eq_self, ↓reduceIte, not_true_eq_false, not_false_eq_true, Nat.reduceEqDiff, Nat.reduceLeDiff, Nat.reduceLT, Nat.reduceAdd, Nat.reduceMul, Nat.reduceSub, false_or, or_false, true_or, or_true, false_and, and_false, reduceCtorEq, q_n0, q_n1, q_em, q_em2, q_b0, q_b1, Classical.not_not, nI_add, pk_mul, nI_clamp, q_vp, nI_eq, nI_leI, nI_ltI, q_sub, hmw, show ¬ m + 1 < 1 by omega]
    refine Eq.trans (b2 d F) ?_
    simp (disch := omega) only [r85_61, r85_64, q_dec, kdC, kdM, rpC, rpM, q_rs, q_rn, Option.toList_some, Option.toList_none, List.cons_append, List.nil_append, true_and, and_true, eq_self, ↓reduceIte, not_true_eq_false, not_false_eq_true, Nat.reduceEqDiff, Nat.reduceLeDiff, Nat.reduceLT, Nat.reduceAdd, Nat.reduceMul, Nat.reduceSub, false_or, or_false, true_or, or_true, false_and, and_false, reduceCtorEq, q_n0, q_n1, q_em, q_em2, q_b0, q_b1, Classical.not_not]
theorem c85 (o : okW h A) {c W u : Nat} {G : Nat → Nat → Nat} (hc : c ≤ 12) (hW : W ≤ 1921) (hu : u ≤ 1921) {T : Nat → Int32} (i1 : TB T W c G) : ∃ T', TB T' W c (gad u G) ∧ ∀ d F, cwp true d 85 [.ref 86, .int (nI c), .int (nI W), .int (nI u)] (sA h A T) F = F none (sA h A T') := by
  obtain ⟨T', a1, a2⟩ := cl85 (G := G) o hc hW hu c T jn jn jn (Nat.le_refl _) (fun k s hk hs => by
    rw [i1 k s hk hs]
    unfold gmx
    rw [if_neg (by omega)])
  refine ⟨T', a1, fun d F => ?_⟩
  refine Eq.trans ?_ (a2 d F)
  simp (disch := omega) only [r85_0, r85_1, e85]
theorem cl264 (o : okW h A) {n : Nat} (hn : n ≤ 24973) : ∀ k i T, i + k = n → (∀ j, j < i → T j = nI 0) → ∃ T', (∀ j, j < n → T' j = nI 0) ∧ ∀ d F, wp true d 264 10 [.ref A, .int (nI 0), .int (nI n), .int (nI 0), .int (nI i)] [] (sA h A T) F = F none (sA h A T')
  | 0, i, T, e, i1 => by
    obtain rfl : i = n := e
    refine ⟨T, i1, fun d F => ?_⟩
    rw [r264_10]
    simp (disch := omega) only [e264, r264_0, r264_1, r264_2, r264_3, r264_4, r264_7, r264_8, r264_12, r264_13, r264_16, r264_17, r264_19, r264_20, r264_21, r264_24, r264_27, kdC, kdM, rpC, rpM, q_rs, q_rn, Option.toList_some, Option.toList_none, List.cons_append, List.nil_append, true_and, and_true, eq_self, ↓reduceIte, not_true_eq_false, not_false_eq_true, Nat.reduceEqDiff, Nat.reduceLeDiff, Nat.reduceLT, Nat.reduceAdd, Nat.reduceMul, Nat.reduceSub, false_or, or_false, true_or, or_true, false_and, and_false, reduceCtorEq, q_n0, q_n1, q_em, q_em2, q_b0, q_b1, Classical.not_not, nI_add, pk_mul, nI_clamp, q_vp, nI_eq, nI_leI, nI_ltI, q_sub, Nat.le_refl]
  | k + 1, i, T, e, i1 => by
    obtain ⟨T', a1, a2⟩ := cl264 o hn k (i + 1) (upd T i (nI 0)) (by omega) (by
      intro j hj
      unfold upd
      by_cases ej : j = i
      · rw [if_pos ej]
      · rw [if_neg ej]; exact i1 j (by omega))
    refine ⟨T', a1, fun d F => ?_⟩
    refine Eq.trans ?_ (a2 d F)
    rw [r264_10]
    simp (disch := omega) only [r264_12, r264_13, r264_16, r264_17, r264_19, r264_20, r264_21, r264_24, o.kd, q_sIs, kdC, kdM, rpC, rpM, q_rs, q_rn, Option.toList_some, Option.toList_none, List.cons_append, List.nil_append, true_and, and_true, eq_self, ↓reduceIte, not_true_eq_false, not_false_eq_true, Nat.reduceEqDiff, Nat.reduceLeDiff, Nat.reduceLT, Nat.reduceAdd, Nat.reduceMul, Nat.reduceSub, false_or, or_false, true_or, or_true, false_and, and_false, reduceCtorEq, q_n0, q_n1, q_em, q_em2, q_b0, q_b1, Classical.not_not, nI_add, pk_mul, nI_clamp, q_vp, nI_eq, nI_leI, nI_ltI, q_sub, show ¬ n ≤ i by omega, show i < 24973 by omega]
theorem c264 (o : okW h A) {n : Nat} (hn : n ≤ 24973) (T : Nat → Int32) : ∃ T', (∀ j, j < n → T' j = nI 0) ∧ ∀ d F, cwp true (d + 1) 264 [.ref A, .int (nI 0), .int (nI n), .int (nI 0)] (sA h A T) F = F none (sA h A T') := by
  obtain ⟨T', a1, a2⟩ := cl264 o hn n 0 T (by omega) (fun j hj => by omega)
  refine ⟨T', a1, fun d F => ?_⟩
  refine Eq.trans ?_ (a2 (d + 1) F)
  simp (disch := omega) only [r264_0, r264_1, r264_2, r264_3, r264_4, r264_7, r264_8, e264, o.kd, e262, r262_0, r262_1, r262_2, r262_46, r262_47, r262_59, r262_60, r262_61, r262_73, kdC, kdM, rpC, rpM, q_rs, q_rn, Option.toList_some, Option.toList_none, List.cons_append, List.nil_append, true_and, and_true, eq_self, ↓reduceIte, not_true_eq_false, not_false_eq_true, Nat.reduceEqDiff, Nat.reduceLeDiff, Nat.reduceLT, Nat.reduceAdd, Nat.reduceMul, Nat.reduceSub, false_or, or_false, true_or, or_true, false_and, and_false, reduceCtorEq, q_n0, q_n1, q_em, q_em2, q_b0, q_b1, Classical.not_not, nI_add, pk_mul, nI_clamp, q_vp, nI_eq, nI_leI, nI_ltI, q_sub, Nat.zero_le, hn]
end CW
