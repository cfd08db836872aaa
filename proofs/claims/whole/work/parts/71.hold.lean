/-! talks: hold, opensTalk (the class) -/
def exP (K : Nat → Int32) (x : Int32) (s : Nat) : Prop := isSent K s ∨ nI s = x
/-- doubt and proof of one behind the first i turns -/
noncomputable def hdD (K : Nat → Int32) (T : Tk) (σ : Nat → Nat) (x : Int32) (t : Nat) : Nat → Int32 × Int32
  | 0 => (K (244 + 5 * t + 3), nI 0)
  | i + 1 => pif (exP K x (σ i)) (shw K T (σ i) t (hdD K T σ x t i)) (hdD K T σ x t i)
noncomputable def hdF (K : Nat → Int32) (σ : Nat → Nat) (x : Int32) (m : Nat) (wf : Nat → Nat) : Nat → Int32
  | 0 => -1
  | i + 1 => pif (exP K x (σ i)) (q_lp (fpW K (σ i) wf) m 0 (hdF K σ x m wf i)) (hdF K σ x m wf i)
section HLD
variable {h : Hp} {K : Nat → Int32} {T : Tk} {t' a m : Nat} {wf σ : Nat → Nat} {x : Int32}
theorem cl65 (z : STS h 0 K) (hP : gP h 88 3 = some a) (te : tEq K t' T) (ta : tAt h a T) (hW : WH h m wf K) (hσ : isTurn K σ) (h23 : ∀ i, i < ns K → gI h 23 i = nI (σ i)) : ∀ k i h0 (v3 : Value), i + k = ns K → FrS tkS h h0 → (∀ j, j < m → DP h0 0 (wf j) = hdD K T σ x (wf j) i) → gI h0 88 9 = hdF K σ x m wf i → (∀ i, i < 4 → gI h0 81 i = nI 0) → ∃ h', FrS tkS h h' ∧ (∀ j, j < m → DP h' 0 (wf j) = hdD K T σ x (wf j) (ns K)) ∧ gI h' 88 9 = hdF K σ x m wf (ns K) ∧ (∀ i, i < 4 → gI h' 81 i = nI 0) ∧ ∀ d F, wp true (d + 5) 65 6 [.ref 88, .int x, .int (nI i), v3] [] h0 F = F none h'
  | 0, i, h0, v3, e, y, i1, i2, hw => by
    obtain rfl : i = ns K := e
    have w := z.1
    have h1 := w.hns
    have q := (STS_fr (Tk_fr y) (Or.inl rfl) z).2.1
    refine ⟨h0, y, i1, i2, hw, fun d F => ?_⟩
    rw [r65_6]
    simp (disch := omega) only [e65, r65_0, r65_1, r65_4, r65_5, r65_7, r65_8, r65_11, r65_14, r65_17, r65_18, r65_21, r65_24, r65_25, r65_26, r65_27, r65_28, r65_31, r65_34, r65_35, r65_36, r65_37, r65_40, r65_41, r65_42, r65_45, r65_46, r65_47, r65_48, r65_49, r65_52, r65_55, r65_58, q.hns, h1, kdC, kdM, rpC, rpM, q_rs, q_rn, Option.toList_some, Option.toList_none, List.cons_append, List.nil_append, true_and, and_true, eq_self, ↓reduceIte, not_true_eq_false, not_false_eq_true, Nat.reduceEqDiff, Nat.reduceLeDiff, Nat.reduceLT, Nat.reduceAdd, Nat.reduceMul, Nat.reduceSub, false_or, or_false, true_or, or_true, false_and, and_false, reduceCtorEq, q_n0, q_n1, q_em, q_em2, q_b0, q_b1, Classical.not_not, nI_add, pk_mul, nI_clamp, q_vp, nI_eq, nI_leI, nI_ltI, q_sub, Nat.le_refl]
  | k + 1, i, h0, v3, e, y, i1, i2, hw => by
    have w := z.1
    have h1 := w.hns
    have hi : i < ns K := by omega
    have hs := hσ.1 i hi
    have hs12 : σ i < 12 := by omega
    have z0 := STS_fr (Tk_fr y) (Or.inl rfl) z
    have q := z0.2.1
    have g23 : gI h0 23 i = nI (σ i) := by rw [y.g (a := 23) (i := i) rfl]; exact h23 i hi
    by_cases c : exP K x (σ i)
    · obtain ⟨h2, b1, b2, b3, b4, b5, b6⟩ := c66 (T := T) (s := σ i) (fr := 0) (to' := 0) z0 (by rw [y.p (a := 88) (i := 3) rfl]; exact hP) te (tAt_fr (Tk_fr y) ta) hs (WH_tk y hW) (by omega) (by omega) hw
      obtain ⟨h', a1, a2, a3, a4, a5⟩ := cl65 z hP te ta hW hσ h23 k (i + 1) h2 (.int (nI (σ i))) (by omega) (y.trans b1) (by
        intro j hj
        rw [b2 j hj, i1 j hj]
        show _ = pif (exP K x (σ i)) _ _
        rw [pif_t c]) (by
        rw [b4, i2]
        show _ = pif (exP K x (σ i)) _ _
        rw [pif_t c]) b5
      refine ⟨h', a1, a2, a3, a4, fun d F => ?_⟩
      have b6' := fun F => b6 d F
      refine Eq.trans ?_ (a5 d F)
      rw [r65_6]
      by_cases c1 : K (304 + 6 * σ i + 5) = nI 1
      · simp (disch := omega) only [e65, r65_0, r65_1, r65_4, r65_5, r65_7, r65_8, r65_11, r65_14, r65_17, r65_18, r65_21, r65_24, r65_25, r65_26, r65_27, r65_28, r65_31, r65_34, r65_35, r65_36, r65_37, r65_40, r65_41, r65_42, r65_45, r65_46, r65_47, r65_48, r65_49, r65_52, r65_55, r65_58, q.hns, h1, g23, q.s5, c1, b6', kdC, kdM, rpC, rpM, q_rs, q_rn, Option.toList_some, Option.toList_none, List.cons_append, List.nil_append, true_and, and_true, eq_self, ↓reduceIte, not_true_eq_false, not_false_eq_true, Nat.reduceEqDiff, Nat.reduceLeDiff, Nat.reduceLT, Nat.reduceAdd, Nat.reduceMul, Nat.reduceSub, false_or, or_false, true_or, or_true, false_and, and_false, reduceCtorEq, q_n0, q_n1, q_em, q_em2, q_b0, q_b1, Classical.not_not, nI_add, pk_mul, nI_clamp, q_vp, nI_eq, nI_leI, nI_ltI, q_sub, hs12, show ¬ ns K ≤ i by omega, show i < 12 by omega]
      · have c2 : nI (σ i) = x := c.resolve_left c1
        simp (disch := omega) only [e65, r65_0, r65_1, r65_4, r65_5, r65_7, r65_8, r65_11, r65_14, r65_17, r65_18, r65_21, r65_24, r65_25, r65_26, r65_27, r65_28, r65_31, r65_34, r65_35, r65_36, r65_37, r65_40, r65_41, r65_42, r65_45, r65_46, r65_47, r65_48, r65_49, r65_52, r65_55, r65_58, q.hns, h1, g23, q.s5, c1, b6', kdC, kdM, rpC, rpM, q_rs, q_rn, Option.toList_some, Option.toList_none, List.cons_append, List.nil_append, true_and, and_true, eq_self, ↓reduceIte, not_true_eq_false, not_false_eq_true, Nat.reduceEqDiff, Nat.reduceLeDiff, Nat.reduceLT, Nat.reduceAdd, Nat.reduceMul, Nat.reduceSub, false_or, or_false, true_or, or_true, false_and, and_false, reduceCtorEq, q_n0, q_n1, q_em, q_em2, q_b0, q_b1, Classical.not_not, nI_add, pk_mul, nI_clamp, q_vp, nI_eq, nI_leI, nI_ltI, q_sub, hs12, show ¬ ns K ≤ i by omega, show i < 12 by omega, eq_true c2]
    · obtain ⟨h', a1, a2, a3, a4, a5⟩ := cl65 z hP te ta hW hσ h23 k (i + 1) h0 (.int (nI (σ i))) (by omega) y (by
        intro j hj
        rw [i1 j hj]
        show _ = pif (exP K x (σ i)) _ _
        rw [pif_f c]) (by
        rw [i2]
        show _ = pif (exP K x (σ i)) _ _
        rw [pif_f c]) hw
      refine ⟨h', a1, a2, a3, a4, fun d F => ?_⟩
      refine Eq.trans ?_ (a5 d F)
      have c1 : ¬ K (304 + 6 * σ i + 5) = nI 1 := fun u => c (Or.inl u)
      have c2 : ¬ nI (σ i) = x := fun u => c (Or.inr u)
      rw [r65_6]
      simp (disch := omega) only [e65, r65_0, r65_1, r65_4, r65_5, r65_7, r65_8, r65_11, r65_14, r65_17, r65_18, r65_21, r65_24, r65_25, r65_26, r65_27, r65_28, r65_31, r65_34, r65_35, r65_36, r65_37, r65_40, r65_41, r65_42, r65_45, r65_46, r65_47, r65_48, r65_49, r65_52, r65_55, r65_58, q.hns, h1, g23, q.s5, c1, c2, kdC, kdM, rpC, rpM, q_rs, q_rn, Option.toList_some, Option.toList_none, List.cons_append, List.nil_append, true_and, and_true, eq_self, ↓reduceIte, not_true_eq_false, not_false_eq_true, Nat.reduceEqDiff, Nat.reduceLeDiff, Nat.reduceLT, Nat.reduceAdd, Nat.reduceMul, Nat.reduceSub, false_or, or_false, true_or, or_true, false_and, and_false, reduceCtorEq, q_n0, q_n1, q_em, q_em2, q_b0, q_b1, Classical.not_not, nI_add, pk_mul, nI_clamp, q_vp, nI_eq, nI_leI, nI_ltI, q_sub, hs12, show ¬ ns K ≤ i by omega, show i < 12 by omega]
theorem c65 (z : STS h 0 K) (hP : gP h 88 3 = some a) (te : tEq K t' T) (ta : tAt h a T) (hW : WH h m wf K) (hσ : isTurn K σ) (h23 : ∀ i, i < ns K → gI h 23 i = nI (σ i)) (hw0 : ∀ i, i < 4 → gI h 81 i = nI 0) (x : Int32) : ∃ h', FrS tkS h h' ∧ (∀ j, j < m → DP h' 0 (wf j) = hdD K T σ x (wf j) (ns K)) ∧ gI h' 88 9 = hdF K σ x m wf (ns K) ∧ (∀ i, i < 4 → gI h' 81 i = nI 0) ∧ ∀ d F, cwp true (d + 5) 65 [.ref 88, .int x] h F = F none h' := by
  obtain ⟨h1, b1, b2, b3, b4, b5⟩ := c64 z hW
  obtain ⟨h', a1, a2, a3, a4, a5⟩ := cl65 (T := T) (x := x) z hP te ta hW hσ h23 (ns K) 0 h1 jn (by omega) b1 b2 b3 (fun i hi => by rw [b4]; exact hw0 i hi)
  refine ⟨h', a1, a2, a3, a4, fun d F => ?_⟩
  refine Eq.trans ?_ (a5 d F)
  simp (disch := omega) only [r65_0, r65_1, r65_4, r65_5, e65, b5, kdC, kdM, rpC, rpM, q_rs, q_rn, Option.toList_some, Option.toList_none, List.cons_append, List.nil_append, true_and, and_true, eq_self, ↓reduceIte, not_true_eq_false, not_false_eq_true, Nat.reduceEqDiff, Nat.reduceLeDiff, Nat.reduceLT, Nat.reduceAdd, Nat.reduceMul, Nat.reduceSub, false_or, or_false, true_or, or_true, false_and, and_false, reduceCtorEq, q_n0, q_n1, q_em, q_em2, q_b0, q_b1, Classical.not_not]
end HLD
/-- a talk opened: the class's -/
theorem c136 {n : Nat} {h : Hp} (z : Inv n h) {v : Int32} (hv : v = nI 0 ∨ v = nI 1) {t1 t2 a1 a2 : Nat} (ht1 : t1 < nx (gI h 103)) (ht2 : t2 < nx (gI h 103)) (hp1 : gP h 25 t1 = some a1) (hp2 : gP h 25 t2 = some a2) : ∃ h' m wf, Fr h h' ∧ gP h' 88 3 = some a1 ∧ gP h' 88 4 = some a2 ∧ foI (gI h 103) v (nt (gI h 103)) m wf ∧ WH h' m wf (gI h 103) ∧ (∀ i, i < 12 → gI h' 81 i = nI 0) ∧ ∀ d F, cwp true (d + 3) 136 [.ref 1, .int (nI t1), .int (nI t2), .int v] h F = F (some (.int (nI 1))) h' := by
  have w := z.1.1
  have q := z.1.2.1
  obtain ⟨h', m, wf, b1, b2, b3, b4, b5, b6, b7⟩ := c63 z.1 hv a1 a2
  refine ⟨h', m, wf, b1, b2, b3, b4, b5, b6, fun d F => ?_⟩
  have h60a := fun F d => c60 h w q ht1 hp1 d F
  have h60b := fun F d => c60 h w q ht2 hp2 d F
  simp (disch := omega) only [e136, r136_0, r136_1, r136_4, r136_5, r136_8, r136_8n, r136_10, r136_11, r136_14, r136_15, r136_18, r136_18n, r136_20, r136_20n, r136_22, r136_22n, r136_25, r136_25n, r136_27, r136_27n, r136_30, r136_31, r136_32, r136_33, r136_36, r136_36n, r136_38, r136_38n, r136_40, r136_41, r136_44, r136_45, h60a, h60b, b7, kdC, kdM, rpC, rpM, q_rs, q_rn, Option.toList_some, Option.toList_none, List.cons_append, List.nil_append, true_and, and_true, eq_self, ↓reduceIte, not_true_eq_false, not_false_eq_true, Nat.reduceEqDiff, Nat.reduceLeDiff, Nat.reduceLT, Nat.reduceAdd, Nat.reduceMul, Nat.reduceSub, false_or, or_false, true_or, or_true, false_and, and_false, reduceCtorEq, q_n0, q_n1, q_em, q_em2, q_b0, q_b1, Classical.not_not]
theorem c136n {n : Nat} {h : Hp} (z : Inv n h) {x y v : Int32} (hxy : ¬ ((nI 0 ≤ x ∧ x < nI (nx (gI h 103))) ∧ (nI 0 ≤ y ∧ y < nI (nx (gI h 103))))) (d : Nat) (F : Po) : cwp true (d + 3) 136 [.ref 1, .int x, .int y, .int v] h F = F (some (.int (nI 0))) h := by
  have w := z.1.1
  have q := z.1.2.1
  have hn := w.hnx
  by_cases hx : nI 0 ≤ x ∧ x < nI (nx (gI h 103))
  · have hy : ¬ (nI 0 ≤ y ∧ y < nI (nx (gI h 103))) := fun u => hxy ⟨hx, u⟩
    obtain ⟨t, ht, rfl⟩ := q_ix (by omega) hx.1 hx.2
    obtain ⟨s, T, y1, _, _⟩ := z.1.2.2.1 t ht
    have h60a := fun F d => c60 h w q ht y1 d F
    have h60b := fun F d => c60n h w q hy d F
    simp (disch := omega) only [e136, r136_0, r136_1, r136_4, r136_5, r136_8, r136_8n, r136_10, r136_11, r136_14, r136_15, r136_18, r136_18n, r136_20, r136_20n, r136_22, r136_22n, r136_25, r136_25n, r136_27, r136_27n, r136_30, r136_31, r136_32, r136_33, r136_36, r136_36n, r136_38, r136_38n, r136_40, r136_41, r136_44, r136_45, h60a, h60b, kdC, kdM, rpC, rpM, q_rs, q_rn, Option.toList_some, Option.toList_none, List.cons_append, List.nil_append, true_and, and_true, eq_self, ↓reduceIte, not_true_eq_false, not_false_eq_true, Nat.reduceEqDiff, Nat.reduceLeDiff, Nat.reduceLT, Nat.reduceAdd, Nat.reduceMul, Nat.reduceSub, false_or, or_false, true_or, or_true, false_and, and_false, reduceCtorEq, q_n0, q_n1, q_em, q_em2, q_b0, q_b1, Classical.not_not]
  · have h60a := fun F d => c60n h w q hx d F
    by_cases hy : nI 0 ≤ y ∧ y < nI (nx (gI h 103))
    · obtain ⟨t, ht, rfl⟩ := q_ix (by omega) hy.1 hy.2
      obtain ⟨s, T, y1, _, _⟩ := z.1.2.2.1 t ht
      have h60b := fun F d => c60 h w q ht y1 d F
      simp (disch := omega) only [e136, r136_0, r136_1, r136_4, r136_5, r136_8, r136_8n, r136_10, r136_11, r136_14, r136_15, r136_18, r136_18n, r136_20, r136_20n, r136_22, r136_22n, r136_25, r136_25n, r136_27, r136_27n, r136_30, r136_31, r136_32, r136_33, r136_36, r136_36n, r136_38, r136_38n, r136_40, r136_41, r136_44, r136_45, h60a, h60b, kdC, kdM, rpC, rpM, q_rs, q_rn, Option.toList_some, Option.toList_none, List.cons_append, List.nil_append, true_and, and_true, eq_self, ↓reduceIte, not_true_eq_false, not_false_eq_true, Nat.reduceEqDiff, Nat.reduceLeDiff, Nat.reduceLT, Nat.reduceAdd, Nat.reduceMul, Nat.reduceSub, false_or, or_false, true_or, or_true, false_and, and_false, reduceCtorEq, q_n0, q_n1, q_em, q_em2, q_b0, q_b1, Classical.not_not]
    · have h60b := fun F d => c60n h w q hy d F
      simp (disch := omega) only [e136, r136_0, r136_1, r136_4, r136_5, r136_8, r136_8n, r136_10, r136_11, r136_14, r136_15, r136_18, r136_18n, r136_20, r136_20n, r136_22, r136_22n, r136_25, r136_25n, r136_27, r136_27n, r136_30, r136_31, r136_32, r136_33, r136_36, r136_36n, r136_38, r136_38n, r136_40, r136_41, r136_44, r136_45, h60a, h60b, kdC, kdM, rpC, rpM, q_rs, q_rn, Option.toList_some, Option.toList_none, List.cons_append, List.nil_append, true_and, and_true, eq_self, ↓reduceIte, not_true_eq_false, not_false_eq_true, Nat.reduceEqDiff, Nat.reduceLeDiff, Nat.reduceLT, Nat.reduceAdd, Nat.reduceMul, Nat.reduceSub, false_or, or_false, true_or, or_true, false_and, and_false, reduceCtorEq, q_n0, q_n1, q_em, q_em2, q_b0, q_b1, Classical.not_not]
