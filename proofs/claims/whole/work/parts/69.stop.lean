/-! talks: begin, stopsIt, stoppers (the class) -/
section ST
variable {h : Hp} {K : Nat → Int32} {T : Tk} {t' a m : Nat} {wf : Nat → Nat}
theorem cl64 (z : STS h 0 K) (hW : WH h m wf K) : ∀ k i h0, i + k = m → FrS tkS h h0 → (∀ j, j < i → DP h0 0 (wf j) = (K (244 + 5 * wf j + 3), nI 0)) → (∀ r t, r ≠ 0 → t < 12 → DP h0 r t = DP h r t) → gI h0 88 9 = -1 → gI h0 81 = gI h 81 → ∃ h', FrS tkS h h' ∧ (∀ j, j < m → DP h' 0 (wf j) = (K (244 + 5 * wf j + 3), nI 0)) ∧ (∀ r t, r ≠ 0 → t < 12 → DP h' r t = DP h r t) ∧ gI h' 88 9 = -1 ∧ gI h' 81 = gI h 81 ∧ ∀ d F, wp true d 64 7 [.ref 88, .int (nI i)] [] h0 F = F none h'
  | 0, i, h0, e, x, i1, i3, hf, hw => by
    obtain rfl : i = m := e
    obtain ⟨w1, w2, w3, w4⟩ := WH_tk x hW
    refine ⟨h0, x, i1, i3, hf, hw, fun d F => ?_⟩
    rw [r64_7]
    simp (disch := omega) only [e64, r64_0, r64_1, r64_2, r64_5, r64_6, r64_8, r64_9, r64_12, r64_15, r64_16, r64_19, r64_20, r64_23, r64_24, r64_25, r64_26, r64_29, r64_32, r64_33, r64_36, r64_37, r64_38, r64_39, r64_40, r64_41, r64_44, r64_45, r64_48, r64_49, r64_50, r64_51, r64_52, r64_55, r64_58, w1, kdC, kdM, rpC, rpM, q_rs, q_rn, Option.toList_some, Option.toList_none, List.cons_append, List.nil_append, true_and, and_true, eq_self, ↓reduceIte, not_true_eq_false, not_false_eq_true, Nat.reduceEqDiff, Nat.reduceLeDiff, Nat.reduceLT, Nat.reduceAdd, Nat.reduceMul, Nat.reduceSub, false_or, or_false, true_or, or_true, false_and, and_false, reduceCtorEq, q_n0, q_n1, q_em, q_em2, q_b0, q_b1, Classical.not_not, nI_add, pk_mul, nI_clamp, q_vp, nI_eq, nI_leI, nI_ltI, q_sub, Nat.le_refl]
  | k + 1, i, h0, e, x, i1, i3, hf, hw => by
    have w := z.1
    have h2 := w.hnt
    obtain ⟨w1, w2, w3, w4⟩ := WH_tk x hW
    have hi : i < m := by omega
    obtain ⟨e1, e2⟩ := w3 i hi
    have ht12 : wf i < 12 := by omega
    have q := (STS_fr (Tk_fr x) (Or.inl rfl) z).2.1
    have x1 : FrS tkS h (sI (sI h0 90 (wf i) (K (244 + 5 * wf i + 3))) 91 (wf i) (nI 0)) := (x.sI _ rfl).sI _ rfl
    have w1' : gI (sI h0 90 (wf i) (K (244 + 5 * wf i + 3))) 89 i = nI (wf i) := by rw [q_gn (by omega)]; exact e1
    have other : ∀ r t, (r ≠ 0 ∨ t ≠ wf i) → t < 12 → DP (sI (sI h0 90 (wf i) (K (244 + 5 * wf i + 3))) 91 (wf i) (nI 0)) r t = DP h0 r t := by
      intro r t hrt htl
      have hne : r * 12 + t ≠ wf i := by
        intro q
        rcases hrt with q1 | q1
        · omega
        · apply q1; omega
      unfold DP
      rw [q_gn (by omega), q_gm hne, q_gm hne, q_gn (by omega)]
    have hme : DP (sI (sI h0 90 (wf i) (K (244 + 5 * wf i + 3))) 91 (wf i) (nI 0)) 0 (wf i) = (K (244 + 5 * wf i + 3), nI 0) := by
      unfold DP
      rw [show 0 * 12 + wf i = wf i by omega, q_gs, q_gn (by omega), q_gs]
    have wfd : ∀ j, j < m → j ≠ i → wf j ≠ wf i := by
      intro j hj hji
      rcases Nat.lt_or_ge j i with q | q
      · have := w4 j i q hi; omega
      · have := w4 i j (by omega) hj; omega
    obtain ⟨h', a1, a2, a3, a4, a5, a6⟩ := cl64 z hW k (i + 1) (sI (sI h0 90 (wf i) (K (244 + 5 * wf i + 3))) 91 (wf i) (nI 0)) (by omega) x1 (by
      intro j hj
      by_cases ej : j = i
      · subst ej; exact hme
      · rw [other 0 (wf j) (Or.inr (wfd j (by omega) ej)) (by have := (w3 j (by omega)).2; omega)]
        exact i1 j (by omega)) (by
      intro r t hr htl
      rw [other r t (Or.inl hr) htl]
      exact i3 r t hr htl) (by rw [q_gn (by omega), q_gn (by omega)]; exact hf) (by rw [q_gn (by omega), q_gn (by omega)]; exact hw)
    refine ⟨h', a1, a2, a3, a4, a5, fun d F => ?_⟩
    refine Eq.trans ?_ (a6 d F)
    rw [r64_7]
    simp (disch := omega) only [e64, r64_0, r64_1, r64_2, r64_5, r64_6, r64_8, r64_9, r64_12, r64_15, r64_16, r64_19, r64_20, r64_23, r64_24, r64_25, r64_26, r64_29, r64_32, r64_33, r64_36, r64_37, r64_38, r64_39, r64_40, r64_41, r64_44, r64_45, r64_48, r64_49, r64_50, r64_51, r64_52, r64_55, r64_58, w1, e1, w1', q.t3, kdC, kdM, rpC, rpM, q_rs, q_rn, Option.toList_some, Option.toList_none, List.cons_append, List.nil_append, true_and, and_true, eq_self, ↓reduceIte, not_true_eq_false, not_false_eq_true, Nat.reduceEqDiff, Nat.reduceLeDiff, Nat.reduceLT, Nat.reduceAdd, Nat.reduceMul, Nat.reduceSub, false_or, or_false, true_or, or_true, false_and, and_false, reduceCtorEq, q_n0, q_n1, q_em, q_em2, q_b0, q_b1, Classical.not_not, nI_add, pk_mul, nI_clamp, q_vp, nI_eq, nI_leI, nI_ltI, q_sub, ht12, show ¬ m ≤ i by omega, show i < 12 by omega, show wf i < 156 by omega]
theorem c64 (z : STS h 0 K) (hW : WH h m wf K) : ∃ h', FrS tkS h h' ∧ (∀ j, j < m → DP h' 0 (wf j) = (K (244 + 5 * wf j + 3), nI 0)) ∧ gI h' 88 9 = -1 ∧ gI h' 81 = gI h 81 ∧ ∀ d F, cwp true d 64 [.ref 88] h F = F none h' := by
  have x0 : FrS tkS h (sI h 88 9 (-1)) := (FrS.refl h).sI _ rfl
  obtain ⟨h', a1, a2, a3, a4, a5, a6⟩ := cl64 z hW m 0 (sI h 88 9 (-1)) (by omega) x0 (fun j hj => by omega) (fun r t _ _ => by unfold DP; rw [q_gn (by omega), q_gn (by omega)]) (q_gs _ _ _ _) (by rw [q_gn (by omega)])
  refine ⟨h', a1, a2, a4, a5, fun d F => ?_⟩
  refine Eq.trans ?_ (a6 d F)
  simp (disch := omega) only [r64_0, r64_1, r64_2, r64_5, r64_6, e64, kdC, kdM, rpC, rpM, q_rs, q_rn, Option.toList_some, Option.toList_none, List.cons_append, List.nil_append, true_and, and_true, eq_self, ↓reduceIte, not_true_eq_false, not_false_eq_true, Nat.reduceEqDiff, Nat.reduceLeDiff, Nat.reduceLT, Nat.reduceAdd, Nat.reduceMul, Nat.reduceSub, false_or, or_false, true_or, or_true, false_and, and_false, reduceCtorEq, q_n0, q_n1, q_em, q_em2, q_b0, q_b1, Classical.not_not]
/-- one who is asked whether it is to be stopped -/
theorem c70 {t r : Nat} (z : STS h 0 K) (hP : gP h 88 4 = some a) (te : tEq K t' T) (ta : tAt h a T) (ht : t < nt K) (hr : r ≤ 12) (hw0 : ∀ i, i < 4 → gI h 81 i = nI 0) : ∃ h', FrS tkS h h' ∧ gI h' 90 = gI h 90 ∧ gI h' 91 = gI h 91 ∧ gI h' 88 9 = gI h 88 9 ∧ (∀ i, i < 4 → gI h' 81 i = nI 0) ∧ ∀ d F, cwp true (d + 3) 70 [.ref 88, .int (nI t), .int (nI r)] h F = F (some (.int (bz (isStp K T t (DP h r t))))) h' := by
  have w := z.1
  have q := z.2.1
  have h2 := w.hnt
  have ht12 : t < 12 := by omega
  by_cases cv : K (244 + 5 * t + 4) = nI 0
  · have hn : ¬ isStp K T t (DP h r t) := fun y => y.1 cv
    refine ⟨h, FrS.refl h, rfl, rfl, rfl, hw0, fun d F => ?_⟩
    rw [q_bf hn]
    simp (disch := omega) only [e70, r70_0, r70_1, r70_4, r70_7, r70_8, r70_9, r70_12, r70_13, r70_14, r70_15, r70_16, r70_17, r70_18, r70_21, r70_22, r70_23, r70_24, r70_26, r70_27, r70_28, r70_29, r70_32, r70_33, r70_36, r70_37, r70_40, r70_41, r70_44, q.t4, cv, kdC, kdM, rpC, rpM, q_rs, q_rn, Option.toList_some, Option.toList_none, List.cons_append, List.nil_append, true_and, and_true, eq_self, ↓reduceIte, not_true_eq_false, not_false_eq_true, Nat.reduceEqDiff, Nat.reduceLeDiff, Nat.reduceLT, Nat.reduceAdd, Nat.reduceMul, Nat.reduceSub, false_or, or_false, true_or, or_true, false_and, and_false, reduceCtorEq, q_n0, q_n1, q_em, q_em2, q_b0, q_b1, Classical.not_not, nI_add, pk_mul, nI_clamp, q_vp, nI_eq, nI_leI, nI_ltI, q_sub, ht12]
  · have x0 : FrS tkS h (tsh h (nI 0) (nI 0) (nI 0)) := (((FrS.refl h).sI _ rfl).sI _ rfl).sI _ rfl
    have hn0 : ∀ y, y ≠ 81 → gI (tsh h (nI 0) (nI 0) (nI 0)) y = gI h y := fun y hy => by unfold tsh; rw [q_gn hy, q_gn hy, q_gn hy]
    have hw : wdS (tsh h (nI 0) (nI 0) (nI 0)) (nI 0) (nI 0) (nI 0) := by
      unfold tsh
      refine ⟨fun i hi => ?_, ?_, ?_, ?_⟩
      · rw [q_gm (by omega), q_gm (by omega), q_gm (by omega)]; exact hw0 i hi
      · rw [q_gm (by omega), q_gm (by omega), q_gs]
      · rw [q_gm (by omega), q_gs]
      · rw [q_gs]
    have h68 := fun (F : Po) d => c68 (h := h) d F (nI 0) (nI 0) (nI 0)
    generalize tsh h (nI 0) (nI 0) (nI 0) = g0 at *
    have q0 := (STS_fr (Tk_fr x0) (Or.inl rfl) z).2.1
    have h69 := fun F d => c69 (h := g0) w q0 ht (show r * 12 + t < 156 by omega) d F
    have henv := ttl_env (h := g0) (K := K) (t := t) (dp := (gI g0 90 (r * 12 + t), gI g0 91 (r * 12 + t))) hw
    have x1 := ttl_x (h := g0) h x0 (K (244 + 5 * t)) (K (244 + 5 * t + 1)) (K (244 + 5 * t + 2)) (gI g0 90 (r * 12 + t)) (gI g0 91 (r * 12 + t))
    have hw1 := ttl_w (K (244 + 5 * t)) (K (244 + 5 * t + 1)) (K (244 + 5 * t + 2)) (gI g0 90 (r * 12 + t)) (gI g0 91 (r * 12 + t)) hw
    have hn1 := fun y (hy : y ≠ 81) => ttl_n (h := g0) (K (244 + 5 * t)) (K (244 + 5 * t + 1)) (K (244 + 5 * t + 2)) (gI g0 90 (r * 12 + t)) (gI g0 91 (r * 12 + t)) hy
    have hdp : (gI g0 90 (r * 12 + t), gI g0 91 (r * 12 + t)) = DP h r t := by unfold DP; rw [hn0 90 (by omega), hn0 91 (by omega)]
    generalize ttl g0 (K (244 + 5 * t)) (K (244 + 5 * t + 1)) (K (244 + 5 * t + 2)) (gI g0 90 (r * 12 + t)) (gI g0 91 (r * 12 + t)) = g1 at *
    rw [hdp] at henv
    have hP1 : gP g1 88 4 = some a := by rw [x1.p (a := 88) (i := 4) rfl]; exact hP
    have ta1 := tAt_fr (Tk_fr x1) ta
    obtain ⟨k1, k2⟩ := c2 g1 te.2.1 ta1 (hd := 3) (by omega) henv
    have fin : ∀ g2, As g1 g2 → FrS tkS h g2 ∧ gI g2 90 = gI h 90 ∧ gI g2 91 = gI h 91 ∧ gI g2 88 9 = gI h 88 9 ∧ (∀ i, i < 4 → gI g2 81 i = nI 0) := by
      intro g2 xa
      refine ⟨x1.trans (As_tk xa), ?_, ?_, ?_, fun i hi => ?_⟩
      · rw [xa.n (by omega) (by omega), hn1 90 (by omega), hn0 90 (by omega)]
      · rw [xa.n (by omega) (by omega), hn1 91 (by omega), hn0 91 (by omega)]
      · rw [xa.n (a := 88) (by omega) (by omega), hn1 88 (by omega), hn0 88 (by omega)]
      · rw [xa.n (a := 81) (by omega) (by omega)]; exact hw1.1 i hi
    cases es : tSay T 3 (envT K t (DP h r t) (nI 0) (nI 0) (nI 0)) with
    | none =>
      obtain ⟨g2, xa, k3⟩ := k1 es
      obtain ⟨f1, f2, f3, f4, f5⟩ := fin g2 xa
      have hn : ¬ isStp K T t (DP h r t) := fun y => by have := y.2; rw [es] at this; cases this
      refine ⟨g2, f1, f2, f3, f4, f5, fun d F => ?_⟩
      rw [q_bf hn]
      simp (disch := omega) only [e70, r70_0, r70_1, r70_4, r70_7, r70_8, r70_9, r70_12, r70_13, r70_14, r70_15, r70_16, r70_17, r70_18, r70_21, r70_22, r70_23, r70_24, r70_26, r70_27, r70_28, r70_29, r70_32, r70_33, r70_36, r70_37, r70_40, r70_41, r70_44, h68, h69, k3, rp88, hP1, q.t4, cv, kdC, kdM, rpC, rpM, q_rs, q_rn, Option.toList_some, Option.toList_none, List.cons_append, List.nil_append, true_and, and_true, eq_self, ↓reduceIte, not_true_eq_false, not_false_eq_true, Nat.reduceEqDiff, Nat.reduceLeDiff, Nat.reduceLT, Nat.reduceAdd, Nat.reduceMul, Nat.reduceSub, false_or, or_false, true_or, or_true, false_and, and_false, reduceCtorEq, q_n0, q_n1, q_em, q_em2, q_b0, q_b1, Classical.not_not, nI_add, pk_mul, nI_clamp, q_vp, nI_eq, nI_leI, nI_ltI, q_sub, ht12]
    | some l =>
      obtain ⟨g2, xa, _, k3⟩ := k2 l es
      obtain ⟨f1, f2, f3, f4, f5⟩ := fin g2 xa
      have hy : isStp K T t (DP h r t) := ⟨cv, by rw [es]; rfl⟩
      refine ⟨g2, f1, f2, f3, f4, f5, fun d F => ?_⟩
      rw [q_bt hy]
      simp (disch := omega) only [e70, r70_0, r70_1, r70_4, r70_7, r70_8, r70_9, r70_12, r70_13, r70_14, r70_15, r70_16, r70_17, r70_18, r70_21, r70_22, r70_23, r70_24, r70_26, r70_27, r70_28, r70_29, r70_32, r70_33, r70_36, r70_37, r70_40, r70_41, r70_44, h68, h69, k3, rp88, hP1, q.t4, cv, kdC, kdM, rpC, rpM, q_rs, q_rn, Option.toList_some, Option.toList_none, List.cons_append, List.nil_append, true_and, and_true, eq_self, ↓reduceIte, not_true_eq_false, not_false_eq_true, Nat.reduceEqDiff, Nat.reduceLeDiff, Nat.reduceLT, Nat.reduceAdd, Nat.reduceMul, Nat.reduceSub, false_or, or_false, true_or, or_true, false_and, and_false, reduceCtorEq, q_n0, q_n1, q_em, q_em2, q_b0, q_b1, Classical.not_not, nI_add, pk_mul, nI_clamp, q_vp, nI_eq, nI_leI, nI_ltI, q_sub, ht12]
theorem cl71 {r : Nat} (z : STS h 0 K) (hP : gP h 88 4 = some a) (te : tEq K t' T) (ta : tAt h a T) (hW : WH h m wf K) (hr : r ≤ 12) : ∀ k i h0, i + k = m → FrS tkS h h0 → gI h0 90 = gI h 90 → gI h0 91 = gI h 91 → gI h0 88 9 = gI h 88 9 → (∀ i, i < 4 → gI h0 81 i = nI 0) → ∃ h', FrS tkS h h' ∧ gI h' 90 = gI h 90 ∧ gI h' 91 = gI h 91 ∧ gI h' 88 9 = gI h 88 9 ∧ (∀ i, i < 4 → gI h' 81 i = nI 0) ∧ ∀ d F, wp true (d + 4) 71 4 [.ref 88, .int (nI r), .int (nI (cntT (fun i => isStp K T (wf i) (DP h r (wf i))) i)), .int (nI i)] [] h0 F = F (some (.int (nI (cntT (fun i => isStp K T (wf i) (DP h r (wf i))) m)))) h'
  | 0, i, h0, e, x, n1, n2, n3, hw => by
    obtain rfl : i = m := e
    obtain ⟨w1, w2, w3, w4⟩ := WH_tk x hW
    refine ⟨h0, x, n1, n2, n3, hw, fun d F => ?_⟩
    rw [r71_4]
    simp (disch := omega) only [e71, r71_0, r71_1, r71_2, r71_3, r71_5, r71_6, r71_9, r71_12, r71_13, r71_14, r71_15, r71_18, r71_19, r71_20, r71_21, r71_24, r71_27, r71_28, r71_29, r71_32, r71_35, r71_36, w1, kdC, kdM, rpC, rpM, q_rs, q_rn, Option.toList_some, Option.toList_none, List.cons_append, List.nil_append, true_and, and_true, eq_self, ↓reduceIte, not_true_eq_false, not_false_eq_true, Nat.reduceEqDiff, Nat.reduceLeDiff, Nat.reduceLT, Nat.reduceAdd, Nat.reduceMul, Nat.reduceSub, false_or, or_false, true_or, or_true, false_and, and_false, reduceCtorEq, q_n0, q_n1, q_em, q_em2, q_b0, q_b1, Classical.not_not, nI_add, pk_mul, nI_clamp, q_vp, nI_eq, nI_leI, nI_ltI, q_sub, Nat.le_refl]
  | k + 1, i, h0, e, x, n1, n2, n3, hw => by
    obtain ⟨w1, w2, w3, w4⟩ := WH_tk x hW
    have hi : i < m := by omega
    obtain ⟨e1, e2⟩ := w3 i hi
    obtain ⟨h1, b1, b2, b3, b4, b5, b6⟩ := c70 (T := T) (t := wf i) (r := r) (STS_fr (Tk_fr x) (Or.inl rfl) z) (by rw [x.p (a := 88) (i := 4) rfl]; exact hP) te (tAt_fr (Tk_fr x) ta) e2 hr hw
    have hdp : DP h0 r (wf i) = DP h r (wf i) := by unfold DP; rw [n1, n2]
    rw [hdp] at b6
    obtain ⟨h', a1, a2, a3, a4, a5, a6⟩ := cl71 z hP te ta hW hr k (i + 1) h1 (by omega) (x.trans b1) (b2.trans n1) (b3.trans n2) (b4.trans n3) b5
    refine ⟨h', a1, a2, a3, a4, a5, fun d F => ?_⟩
    have b6' := fun F => b6 d F
    refine Eq.trans ?_ (a6 d F)
    rw [cnt_s, r71_4]
    by_cases c : isStp K T (wf i) (DP h r (wf i))
    · rw [pif_t c]
      simp (disch := omega) only [e71, r71_0, r71_1, r71_2, r71_3, r71_5, r71_6, r71_9, r71_12, r71_13, r71_14, r71_15, r71_18, r71_19, r71_20, r71_21, r71_24, r71_27, r71_28, r71_29, r71_32, r71_35, r71_36, w1, e1, b6', c127_1, q_bt c, kdC, kdM, rpC, rpM, q_rs, q_rn, Option.toList_some, Option.toList_none, List.cons_append, List.nil_append, true_and, and_true, eq_self, ↓reduceIte, not_true_eq_false, not_false_eq_true, Nat.reduceEqDiff, Nat.reduceLeDiff, Nat.reduceLT, Nat.reduceAdd, Nat.reduceMul, Nat.reduceSub, false_or, or_false, true_or, or_true, false_and, and_false, reduceCtorEq, q_n0, q_n1, q_em, q_em2, q_b0, q_b1, Classical.not_not, nI_add, pk_mul, nI_clamp, q_vp, nI_eq, nI_leI, nI_ltI, q_sub, show ¬ m ≤ i by omega, show i < 12 by omega]
    · rw [pif_f c]
      simp (disch := omega) only [e71, r71_0, r71_1, r71_2, r71_3, r71_5, r71_6, r71_9, r71_12, r71_13, r71_14, r71_15, r71_18, r71_19, r71_20, r71_21, r71_24, r71_27, r71_28, r71_29, r71_32, r71_35, r71_36, w1, e1, b6', c127_0, q_bf c, kdC, kdM, rpC, rpM, q_rs, q_rn, Option.toList_some, Option.toList_none, List.cons_append, List.nil_append, true_and, and_true, eq_self, ↓reduceIte, not_true_eq_false, not_false_eq_true, Nat.reduceEqDiff, Nat.reduceLeDiff, Nat.reduceLT, Nat.reduceAdd, Nat.reduceMul, Nat.reduceSub, false_or, or_false, true_or, or_true, false_and, and_false, reduceCtorEq, q_n0, q_n1, q_em, q_em2, q_b0, q_b1, Classical.not_not, nI_add, pk_mul, nI_clamp, q_vp, nI_eq, nI_leI, nI_ltI, q_sub, show ¬ m ≤ i by omega, show i < 12 by omega, Nat.add_zero]
theorem c71 {r : Nat} (z : STS h 0 K) (hP : gP h 88 4 = some a) (te : tEq K t' T) (ta : tAt h a T) (hW : WH h m wf K) (hr : r ≤ 12) (hw0 : ∀ i, i < 4 → gI h 81 i = nI 0) : ∃ h', FrS tkS h h' ∧ gI h' 90 = gI h 90 ∧ gI h' 91 = gI h 91 ∧ gI h' 88 9 = gI h 88 9 ∧ (∀ i, i < 4 → gI h' 81 i = nI 0) ∧ ∀ d F, cwp true (d + 4) 71 [.ref 88, .int (nI r)] h F = F (some (.int (nI (cntT (fun i => isStp K T (wf i) (DP h r (wf i))) m)))) h' := by
  obtain ⟨h', a1, a2, a3, a4, a5, a6⟩ := cl71 z hP te ta hW hr m 0 h (by omega) (FrS.refl h) rfl rfl rfl hw0
  refine ⟨h', a1, a2, a3, a4, a5, fun d F => ?_⟩
  refine Eq.trans ?_ (a6 d F)
  simp (disch := omega) only [r71_0, r71_1, r71_2, r71_3, e71]
  rfl
end ST
