/-! talks: a sheet is shown to all that are followed (the class) -/
def WH (h : Hp) (m : Nat) (wf : Nat → Nat) (K : Nat → Int32) : Prop := gI h 88 6 = nI m ∧ m ≤ 12 ∧ (∀ i, i < m → gI h 89 i = nI (wf i) ∧ wf i < nt K) ∧ ∀ i j, i < j → j < m → wf i < wf j
def DP (h : Hp) (r t : Nat) : Int32 × Int32 := (gI h 90 (r * 12 + t), gI h 91 (r * 12 + t))
noncomputable def fpW (K : Nat → Int32) (s : Nat) (wf : Nat → Nat) (i : Nat) (fp : Int32) : Int32 := pif (isSho K s (wf i)) (swP K s (wf i) fp) fp
theorem shw_eq (K : Nat → Int32) (T : Tk) (s t : Nat) (dp : Int32 × Int32) : shw K T s t dp = pif (isSho K s t) (swD K T s t dp) dp := rfl
section SW2
variable {h : Hp} {K : Nat → Int32} {T : Tk} {t' a s m fr to' : Nat} {wf : Nat → Nat}
theorem WH_tk {h h' : Hp} (x : FrS tkS h h') (w : WH h m wf K) : WH h' m wf K := by
  obtain ⟨w1, w2, w3, w4⟩ := w
  exact ⟨by rw [x.g (a := 88) (i := 6) rfl]; exact w1, w2, fun i hi => ⟨by rw [x.g (a := 89) (i := i) rfl]; exact (w3 i hi).1, (w3 i hi).2⟩, w4⟩
theorem cl66 (z : STS h 0 K) (hP : gP h 88 3 = some a) (te : tEq K t' T) (ta : tAt h a T) (hs : s < ns K) (hW : WH h m wf K) (hf : fr ≤ 12) (ht : to' ≤ 12) : ∀ k i h0 (v5 v6 : Value), i + k = m → FrS tkS h h0 → (∀ j, j < i → DP h0 to' (wf j) = shw K T s (wf j) (DP h fr (wf j))) → (∀ j, i ≤ j → j < m → DP h0 fr (wf j) = DP h fr (wf j)) → (∀ r t, r ≠ to' → t < 12 → DP h0 r t = DP h r t) → wdS h0 (K (304 + 6 * s + 2)) (K (304 + 6 * s + 3)) (K (304 + 6 * s + 1)) → ∃ h', FrS tkS h h' ∧ (∀ j, j < m → DP h' to' (wf j) = shw K T s (wf j) (DP h fr (wf j))) ∧ (∀ r t, r ≠ to' → t < 12 → DP h' r t = DP h r t) ∧ gI h' 88 9 = q_lp (fpW K s wf) k i (gI h0 88 9) ∧ wdS h' (K (304 + 6 * s + 2)) (K (304 + 6 * s + 3)) (K (304 + 6 * s + 1)) ∧ ∀ d F, wp true (d + 4) 66 34 [.ref 88, .int (nI s), .int (nI fr), .int (nI to'), .int (nI i), v5, v6] [] h0 F = F none h'
  | 0, i, h0, v5, v6, e, x, i1, i2, i3, hw => by
    obtain rfl : i = m := e
    obtain ⟨w1, w2, w3, w4⟩ := WH_tk x hW
    refine ⟨h0, x, i1, i3, rfl, hw, fun d F => ?_⟩
    rw [r66_34]
    simp (disch := omega) only [e66, r66_0, r66_1, r66_2, r66_5, r66_8, r66_9, r66_10, r66_11, r66_14, r66_17, r66_18, r66_19, r66_20, r66_23, r66_26, r66_27, r66_28, r66_31, r66_32, r66_36, r66_37, r66_40, r66_43, r66_44, r66_47, r66_49, r66_50, r66_52, r66_53, r66_55, r66_56, r66_58, r66_59, r66_61, r66_62, r66_65, r66_67, r66_68, r66_71, r66_72, r66_74, r66_75, r66_77, r66_78, r66_79, r66_80, r66_81, r66_84, r66_86, r66_87, r66_90, r66_91, r66_93, r66_94, r66_96, r66_97, r66_98, r66_99, r66_100, r66_103, r66_104, r66_106, r66_109, r66_112, r66_113, r66_114, r66_116, r66_118, r66_121, r66_124, r66_127, w1, kdC, kdM, rpC, rpM, q_rs, q_rn, Option.toList_some, Option.toList_none, List.cons_append, List.nil_append, true_and, and_true, eq_self, ↓reduceIte, not_true_eq_false, not_false_eq_true, Nat.reduceEqDiff, Nat.reduceLeDiff, Nat.reduceLT, Nat.reduceAdd, Nat.reduceMul, Nat.reduceSub, false_or, or_false, true_or, or_true, false_and, and_false, reduceCtorEq, q_n0, q_n1, q_em, q_em2, q_b0, q_b1, Classical.not_not, nI_add, pk_mul, nI_clamp, q_vp, nI_eq, nI_leI, nI_ltI, q_sub, Nat.le_refl]
  | k + 1, i, h0, v5, v6, e, x, i1, i2, i3, hw => by
    have w := z.1
    have h1 := w.hns
    have h2 := w.hnt
    obtain ⟨w1, w2, w3, w4⟩ := WH_tk x hW
    have hi : i < m := by omega
    obtain ⟨e1, e2⟩ := w3 i hi
    have ht12 : wf i < 12 := by omega
    have ha : to' * 12 + wf i < 156 := by omega
    have hb : fr * 12 + wf i < 156 := by omega
    -- the row is copied
    have xc : FrS tkS h0 (sI (sI h0 90 (to' * 12 + wf i) (gI h0 90 (fr * 12 + wf i))) 91 (to' * 12 + wf i) (gI h0 91 (fr * 12 + wf i))) := ((FrS.refl h0).sI _ rfl).sI _ rfl
    have g91 : gI (sI h0 90 (to' * 12 + wf i) (gI h0 90 (fr * 12 + wf i))) 91 = gI h0 91 := q_gn (by omega)
    have hst : ∀ d F, wp true (d + 4) 66 34 [.ref 88, .int (nI s), .int (nI fr), .int (nI to'), .int (nI i), v5, v6] [] h0 F = wp true (d + 4) 66 99 [.ref 88, .int (nI s), .int (nI fr), .int (nI to'), .int (nI i), .int (nI (wf i)), .int (nI (to' * 12 + wf i))] [] (sI (sI h0 90 (to' * 12 + wf i) (gI h0 90 (fr * 12 + wf i))) 91 (to' * 12 + wf i) (gI h0 91 (fr * 12 + wf i))) F := by
      intro d F
      rw [r66_34]
      simp (disch := omega) only [r66_36, r66_37, r66_40, r66_43, r66_44, r66_47, r66_49, r66_50, r66_52, r66_53, r66_55, r66_56, r66_58, r66_59, r66_61, r66_62, r66_65, r66_67, r66_68, r66_71, r66_72, r66_74, r66_75, r66_77, r66_78, r66_79, r66_80, r66_81, r66_84, r66_86, r66_87, r66_90, r66_91, r66_93, r66_94, r66_96, r66_97, r66_98, w1, e1, g91, kdC, kdM, rpC, rpM, q_rs, q_rn, Option.toList_some, Option.toList_none, List.cons_append, List.nil_append, true_and, and_true, eq_self, ↓reduceIte, not_true_eq_false, not_false_eq_true, Nat.reduceEqDiff, Nat.reduceLeDiff, Nat.reduceLT, Nat.reduceAdd, Nat.reduceMul, Nat.reduceSub, false_or, or_false, true_or, or_true, false_and, and_false, reduceCtorEq, q_n0, q_n1, q_em, q_em2, q_b0, q_b1, Classical.not_not, nI_add, pk_mul, nI_clamp, q_vp, nI_eq, nI_leI, nI_ltI, q_sub, ha, hb, show ¬ m ≤ i by omega, show i < 12 by omega]
    have d90 : ∀ y, gI (sI (sI h0 90 (to' * 12 + wf i) (gI h0 90 (fr * 12 + wf i))) 91 (to' * 12 + wf i) (gI h0 91 (fr * 12 + wf i))) 90 y = if y = to' * 12 + wf i then gI h0 90 (fr * 12 + wf i) else gI h0 90 y := by
      intro y
      rw [q_gn (by omega), q_gi]
      simp
    have d91 : ∀ y, gI (sI (sI h0 90 (to' * 12 + wf i) (gI h0 90 (fr * 12 + wf i))) 91 (to' * 12 + wf i) (gI h0 91 (fr * 12 + wf i))) 91 y = if y = to' * 12 + wf i then gI h0 91 (fr * 12 + wf i) else gI h0 91 y := by
      intro y
      rw [q_gi, q_gn (by omega)]
      simp
    have d88 : gI (sI (sI h0 90 (to' * 12 + wf i) (gI h0 90 (fr * 12 + wf i))) 91 (to' * 12 + wf i) (gI h0 91 (fr * 12 + wf i))) 88 9 = gI h0 88 9 := by rw [q_gn (by omega), q_gn (by omega)]
    have hwc : wdS (sI (sI h0 90 (to' * 12 + wf i) (gI h0 90 (fr * 12 + wf i))) 91 (to' * 12 + wf i) (gI h0 91 (fr * 12 + wf i))) (K (304 + 6 * s + 2)) (K (304 + 6 * s + 3)) (K (304 + 6 * s + 1)) := by
      unfold wdS; rw [q_gn (by omega), q_gn (by omega)]; exact hw
    generalize sI (sI h0 90 (to' * 12 + wf i) (gI h0 90 (fr * 12 + wf i))) 91 (to' * 12 + wf i) (gI h0 91 (fr * 12 + wf i)) = hc at *
    have xh : FrS tkS h hc := x.trans xc
    have zc := STS_fr (Tk_fr xh) (Or.inl rfl) z
    have hfr := i2 i (Nat.le_refl _) hi
    have dpc : (gI hc 90 (to' * 12 + wf i), gI hc 91 (to' * 12 + wf i)) = DP h fr (wf i) := by
      rw [d90, d91, if_pos rfl, if_pos rfl]; exact hfr
    -- the row of another
    have other : ∀ (g : Hp), (∀ y, y ≠ to' * 12 + wf i → gI g 90 y = gI hc 90 y ∧ gI g 91 y = gI hc 91 y) → ∀ r t, (r ≠ to' ∨ t ≠ wf i) → t < 12 → DP g r t = DP h0 r t := by
      intro g hg r t hrt htl
      have hne : r * 12 + t ≠ to' * 12 + wf i := by
        intro q
        rcases hrt with q1 | q1
        · omega
        · apply q1; omega
      unfold DP
      rw [(hg _ hne).1, (hg _ hne).2, d90, d91, if_neg hne, if_neg hne]
    have wfd : ∀ j, j < m → j ≠ i → wf j ≠ wf i := by
      intro j hj hji
      rcases Nat.lt_or_ge j i with q | q
      · have := w4 j i q hi; omega
      · have := w4 i j (by omega) hj; omega
    by_cases c : isSho K s (wf i)
    · obtain ⟨h5, b1, b2, b3, b4, b5, b6⟩ := c67 (T := T) (at' := to' * 12 + wf i) zc (by rw [xh.p (a := 88) (i := 3) rfl]; exact hP) te (tAt_fr (Tk_fr xh) ta) hs e2 ha hwc
      rw [dpc] at b2 b3
      have hg : ∀ y, y ≠ to' * 12 + wf i → gI h5 90 y = gI hc 90 y ∧ gI h5 91 y = gI hc 91 y := fun y hy => by rw [b2, b3, pk_un hy, pk_un hy]; exact ⟨rfl, rfl⟩
      have hme : DP h5 to' (wf i) = shw K T s (wf i) (DP h fr (wf i)) := by
        unfold DP
        rw [b2, b3, pk_us, pk_us, shw_eq, pif_t c]
        rfl
      obtain ⟨h', a1, a2, a3, a4, a5, a6⟩ := cl66 z hP te ta hs hW hf ht k (i + 1) h5 (.int (nI (wf i))) (.int (nI (to' * 12 + wf i))) (by omega) (xh.trans b1) (by
        intro j hj
        by_cases ej : j = i
        · subst ej; exact hme
        · rw [other h5 hg to' (wf j) (Or.inr (wfd j (by omega) ej)) (by have := (w3 j (by omega)).2; omega)]
          exact i1 j (by omega)) (by
        intro j h1j h2j
        rw [other h5 hg fr (wf j) (Or.inr (wfd j h2j (by omega))) (by have := (w3 j h2j).2; omega)]
        exact i2 j (by omega) h2j) (by
        intro r t hr htl
        rw [other h5 hg r t (Or.inl hr) htl]
        exact i3 r t hr htl) b5
      refine ⟨h', a1, a2, a3, ?_, a5, fun d F => ?_⟩
      · rw [a4, b4, d88]
        show _ = q_lp (fpW K s wf) k (i + 1) (fpW K s wf i (gI h0 88 9))
        unfold fpW
        rw [pif_t c]
      · rw [hst]
        refine Eq.trans ?_ (a6 d F)
        have b6' := fun F => b6 d F
        have hsh : (¬ K (304 + 6 * s) = nI (wf i) ∧ K (304 + 6 * s + 4) >>> (K (244 + 5 * wf i + 1) &&& 31) &&& nI 1 = nI 1) := c
        simp (disch := omega) only [r66_99, r66_100, r66_103, r66_104, r66_106, r66_109, r66_112, r66_113, r66_114, r66_116, r66_118, r66_121, r66_124, cc26 _ hc _ w zc.2.1 hs e2, hsh, b6', kdC, kdM, rpC, rpM, q_rs, q_rn, Option.toList_some, Option.toList_none, List.cons_append, List.nil_append, true_and, and_true, eq_self, ↓reduceIte, not_true_eq_false, not_false_eq_true, Nat.reduceEqDiff, Nat.reduceLeDiff, Nat.reduceLT, Nat.reduceAdd, Nat.reduceMul, Nat.reduceSub, false_or, or_false, true_or, or_true, false_and, and_false, reduceCtorEq, q_n0, q_n1, q_em, q_em2, q_b0, q_b1, Classical.not_not, nI_add, pk_mul, nI_clamp, q_vp, nI_eq, nI_leI, nI_ltI, q_sub]
    · have hme : DP hc to' (wf i) = shw K T s (wf i) (DP h fr (wf i)) := by
        rw [shw_eq, pif_f c]; exact dpc
      obtain ⟨h', a1, a2, a3, a4, a5, a6⟩ := cl66 z hP te ta hs hW hf ht k (i + 1) hc (.int (nI (wf i))) (.int (nI (to' * 12 + wf i))) (by omega) xh (by
        intro j hj
        by_cases ej : j = i
        · subst ej; exact hme
        · rw [other hc (fun y _ => ⟨rfl, rfl⟩) to' (wf j) (Or.inr (wfd j (by omega) ej)) (by have := (w3 j (by omega)).2; omega)]
          exact i1 j (by omega)) (by
        intro j h1j h2j
        rw [other hc (fun y _ => ⟨rfl, rfl⟩) fr (wf j) (Or.inr (wfd j h2j (by omega))) (by have := (w3 j h2j).2; omega)]
        exact i2 j (by omega) h2j) (by
        intro r t hr htl
        rw [other hc (fun y _ => ⟨rfl, rfl⟩) r t (Or.inl hr) htl]
        exact i3 r t hr htl) hwc
      refine ⟨h', a1, a2, a3, ?_, a5, fun d F => ?_⟩
      · rw [a4, d88]
        show _ = q_lp (fpW K s wf) k (i + 1) (fpW K s wf i (gI h0 88 9))
        unfold fpW
        rw [pif_f c]
      · rw [hst]
        refine Eq.trans ?_ (a6 d F)
        have hsh : ¬ (¬ K (304 + 6 * s) = nI (wf i) ∧ K (304 + 6 * s + 4) >>> (K (244 + 5 * wf i + 1) &&& 31) &&& nI 1 = nI 1) := c
        simp (disch := omega) only [r66_99, r66_100, r66_103, r66_104, r66_106, r66_109, r66_112, r66_113, r66_114, r66_116, r66_118, r66_121, r66_124, cc26 _ hc _ w zc.2.1 hs e2, hsh, kdC, kdM, rpC, rpM, q_rs, q_rn, Option.toList_some, Option.toList_none, List.cons_append, List.nil_append, true_and, and_true, eq_self, ↓reduceIte, not_true_eq_false, not_false_eq_true, Nat.reduceEqDiff, Nat.reduceLeDiff, Nat.reduceLT, Nat.reduceAdd, Nat.reduceMul, Nat.reduceSub, false_or, or_false, true_or, or_true, false_and, and_false, reduceCtorEq, q_n0, q_n1, q_em, q_em2, q_b0, q_b1, Classical.not_not, nI_add, pk_mul, nI_clamp, q_vp, nI_eq, nI_leI, nI_ltI, q_sub]
theorem c66 (z : STS h 0 K) (hP : gP h 88 3 = some a) (te : tEq K t' T) (ta : tAt h a T) (hs : s < ns K) (hW : WH h m wf K) (hf : fr ≤ 12) (ht : to' ≤ 12) (hw0 : ∀ i, i < 4 → gI h 81 i = nI 0) : ∃ h', FrS tkS h h' ∧ (∀ j, j < m → DP h' to' (wf j) = shw K T s (wf j) (DP h fr (wf j))) ∧ (∀ r t, r ≠ to' → t < 12 → DP h' r t = DP h r t) ∧ gI h' 88 9 = q_lp (fpW K s wf) m 0 (gI h 88 9) ∧ (∀ i, i < 4 → gI h' 81 i = nI 0) ∧ ∀ d F, cwp true (d + 4) 66 [.ref 88, .int (nI s), .int (nI fr), .int (nI to')] h F = F none h' := by
  have w := z.1
  have q := z.2.1
  have h1 := w.hns
  have x0 : FrS tkS h (tsh h (K (304 + 6 * s + 2)) (K (304 + 6 * s + 3)) (K (304 + 6 * s + 1))) := (((FrS.refl h).sI _ rfl).sI _ rfl).sI _ rfl
  have hn : ∀ y, y ≠ 81 → gI (tsh h (K (304 + 6 * s + 2)) (K (304 + 6 * s + 3)) (K (304 + 6 * s + 1))) y = gI h y := fun y hy => by unfold tsh; rw [q_gn hy, q_gn hy, q_gn hy]
  have hw : wdS (tsh h (K (304 + 6 * s + 2)) (K (304 + 6 * s + 3)) (K (304 + 6 * s + 1))) (K (304 + 6 * s + 2)) (K (304 + 6 * s + 3)) (K (304 + 6 * s + 1)) := by
    unfold tsh
    refine ⟨fun i hi => ?_, ?_, ?_, ?_⟩
    · rw [q_gm (by omega), q_gm (by omega), q_gm (by omega)]; exact hw0 i hi
    · rw [q_gm (by omega), q_gm (by omega), q_gs]
    · rw [q_gm (by omega), q_gs]
    · rw [q_gs]
  have hdp : ∀ r t, DP (tsh h (K (304 + 6 * s + 2)) (K (304 + 6 * s + 3)) (K (304 + 6 * s + 1))) r t = DP h r t := fun r t => by unfold DP; rw [hn 90 (by omega), hn 91 (by omega)]
  have h889 := congrFun (hn 88 (by omega)) 9
  obtain ⟨h', a1, a2, a3, a4, a5, a6⟩ := cl66 z hP te ta hs hW hf ht m 0 (tsh h (K (304 + 6 * s + 2)) (K (304 + 6 * s + 3)) (K (304 + 6 * s + 1))) jn jn (by omega) x0 (fun j hj => by omega) (fun j _ _ => hdp fr (wf j)) (fun r t _ _ => hdp r t) hw
  refine ⟨h', a1, a2, a3, by rw [a4, h889], a5.1, fun d F => ?_⟩
  refine Eq.trans ?_ (a6 d F)
  simp (disch := omega) only [r66_0, r66_1, r66_2, r66_5, r66_8, r66_9, r66_10, r66_11, r66_14, r66_17, r66_18, r66_19, r66_20, r66_23, r66_26, r66_27, r66_28, r66_31, r66_32, e66, c68, kdC, kdM, rpC, rpM, q_rs, q_rn, Option.toList_some, Option.toList_none, List.cons_append, List.nil_append, true_and, and_true, eq_self, ↓reduceIte, not_true_eq_false, not_false_eq_true, Nat.reduceEqDiff, Nat.reduceLeDiff, Nat.reduceLT, Nat.reduceAdd, Nat.reduceMul, Nat.reduceSub, false_or, or_false, true_or, or_true, false_and, and_false, reduceCtorEq, q_n0, q_n1, q_em, q_em2, q_b0, q_b1, Classical.not_not, nI_add, pk_mul, nI_clamp, q_vp, nI_eq, nI_leI, nI_ltI, q_sub, q.s1, q.s2, q.s3, show s < 12 by omega]
end SW2
