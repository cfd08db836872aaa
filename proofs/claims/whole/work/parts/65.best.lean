/-! seen, best -/
section SF
variable {h : Hp} {K : Nat → Int32} {T : Tk} {wh : Int32} {p : PiS}
theorem c36 (w : WF K) (q : RS h 0 K) (cp : CP K T h p) (ok : okP (nf K) p) (h4 : gI h 83 4 = wh) (d : Nat) (F : Po) : cwp true (d + 2) 36 [.ref 83] h F = F (some (.int (nI (tkN (bdP K wh p) p.2 p.2)))) h := by
  have h1 := w.hnf
  have h5 := cp.1
  have hp := ok.1
  have hle2 := cnt_le (bdP K wh p) p.2
  have la := cl36a w q cp ok h4 jn jn jn jn p.2 0 d F (by omega)
  have lb := cl36b w q cp ok h4 p.2 0 d F (by omega)
  have e0 : cntT (bdP K wh p) 0 = 0 := rfl
  have et : tkN (bdP K wh p) p.2 0 = min (p.2 - cntT (bdP K wh p) p.2) (cntT (bdP K wh p) p.2) := by
    show min (mmN (bdP K wh p) p.2 0) (p.2 - mmN (bdP K wh p) p.2 0) = _
    unfold mmN
    rw [e0]
    omega
  rw [e0] at la
  rw [e0, et, Nat.sub_zero, Nat.sub_zero, Nat.sub_zero] at lb
  generalize cntT (bdP K wh p) p.2 = B at *
  simp (disch := omega) only [r36_0, r36_1, r36_2, r36_3, e36]
  refine Eq.trans la ?_
  simp (disch := omega) only [r36_41, r36_42, r36_45, r36_46, r36_47, r36_48, r36_49, r36_50, r36_51, r36_53, r36_54, r36_55, r36_58, r36_60, r36_61, h5, kdC, kdM, rpC, rpM, q_rs, q_rn, Option.toList_some, Option.toList_none, List.cons_append, List.nil_append, true_and, and_true, eq_self, ↓reduceIte, not_true_eq_false, not_false_eq_true, Nat.reduceEqDiff, Nat.reduceLeDiff, Nat.reduceLT, Nat.reduceAdd, Nat.reduceMul, Nat.reduceSub, false_or, or_false, true_or, or_true, false_and, and_false, reduceCtorEq, q_n0, q_n1, q_em, q_em2, q_b0, q_b1, Classical.not_not, nI_add, pk_mul, nI_clamp, q_vp, nI_eq, nI_leI, nI_ltI, q_sub, n_min]
  exact lb
theorem ml229i (hK : gI h 103 = K) (w : WF K) (hw : wh = nI 0 ∨ wh = nI 1) (mp : MP K T h p) (ok : okP (nf K) p) (v2 : Value) {c : Nat} (hc : c ≤ p.2) : ∀ k i d F, i + k = p.2 → wp true (d + 4) 229 21 [.ref 101, .int wh, v2, .int (nI c), .int (nI (cntT (fun i => bdP K wh p i ↔ i < c) i)), .int (nI i)] [] h F = wp true (d + 4) 229 72 [.ref 101, .int wh, v2, .int (nI c), .int (nI (cntT (fun i => bdP K wh p i ↔ i < c) p.2)), .int (nI p.2)] [] h F
  | 0, i, d, F, e => by
    obtain rfl : i = p.2 := e
    have h1 := w.hnf
    have h5 := mp.1
    have hp := ok.1
    rw [r229_21]
    simp (disch := omega) only [r229_23, r229_24, r229_27, h5, kdC, kdM, rpC, rpM, q_rs, q_rn, Option.toList_some, Option.toList_none, List.cons_append, List.nil_append, true_and, and_true, eq_self, ↓reduceIte, not_true_eq_false, not_false_eq_true, Nat.reduceEqDiff, Nat.reduceLeDiff, Nat.reduceLT, Nat.reduceAdd, Nat.reduceMul, Nat.reduceSub, false_or, or_false, true_or, or_true, false_and, and_false, reduceCtorEq, q_n0, q_n1, q_em, q_em2, q_b0, q_b1, Classical.not_not, nI_add, pk_mul, nI_clamp, q_vp, nI_eq, nI_leI, nI_ltI, q_sub, Nat.le_refl]
  | k + 1, i, d, F, e => by
    have h1 := w.hnf
    have h5 := mp.1
    have hp := ok.1
    refine Eq.trans ?_ (ml229i hK w hw mp ok v2 hc k (i + 1) d F (by omega))
    have b1 := mbad hK w hw mp ok (show i < p.2 by omega)
    rw [cnt_s, r229_21]
    by_cases c1 : i < c <;> by_cases c2 : bdP K wh p i
    · rw [pif_t ⟨fun _ => c1, fun _ => c2⟩]
      simp (disch := omega) only [r229_23, r229_24, r229_27, r229_30, r229_32, r229_33, r229_34, r229_37, r229_39, r229_40, r229_41, r229_44, r229_46, r229_47, r229_50, r229_51, r229_54, r229_55, r229_58, r229_59, r229_62, r229_63, r229_64, r229_66, r229_69, b1, h5, kdC, kdM, rpC, rpM, q_rs, q_rn, Option.toList_some, Option.toList_none, List.cons_append, List.nil_append, true_and, and_true, eq_self, ↓reduceIte, not_true_eq_false, not_false_eq_true, Nat.reduceEqDiff, Nat.reduceLeDiff, Nat.reduceLT, Nat.reduceAdd, Nat.reduceMul, Nat.reduceSub, false_or, or_false, true_or, or_true, false_and, and_false, reduceCtorEq, q_n0, q_n1, q_em, q_em2, q_b0, q_b1, Classical.not_not, nI_add, pk_mul, nI_clamp, q_vp, nI_eq, nI_leI, nI_ltI, q_sub, c2, show ¬ p.2 ≤ i by omega, show i < 24 by omega, show ¬ c ≤ i by omega]
    · rw [pif_f (fun z => c2 (z.mpr c1))]
      simp (disch := omega) only [r229_23, r229_24, r229_27, r229_30, r229_32, r229_33, r229_34, r229_37, r229_39, r229_40, r229_41, r229_44, r229_46, r229_47, r229_50, r229_51, r229_54, r229_55, r229_58, r229_59, r229_62, r229_63, r229_64, r229_66, r229_69, b1, h5, kdC, kdM, rpC, rpM, q_rs, q_rn, Option.toList_some, Option.toList_none, List.cons_append, List.nil_append, true_and, and_true, eq_self, ↓reduceIte, not_true_eq_false, not_false_eq_true, Nat.reduceEqDiff, Nat.reduceLeDiff, Nat.reduceLT, Nat.reduceAdd, Nat.reduceMul, Nat.reduceSub, false_or, or_false, true_or, or_true, false_and, and_false, reduceCtorEq, q_n0, q_n1, q_em, q_em2, q_b0, q_b1, Classical.not_not, nI_add, pk_mul, nI_clamp, q_vp, nI_eq, nI_leI, nI_ltI, q_sub, c2, show ¬ p.2 ≤ i by omega, show i < 24 by omega, show ¬ c ≤ i by omega, Nat.add_zero]
    · rw [pif_f (fun z => c1 (z.mp c2))]
      simp (disch := omega) only [r229_23, r229_24, r229_27, r229_30, r229_32, r229_33, r229_34, r229_37, r229_39, r229_40, r229_41, r229_44, r229_46, r229_47, r229_50, r229_51, r229_54, r229_55, r229_58, r229_59, r229_62, r229_63, r229_64, r229_66, r229_69, b1, h5, kdC, kdM, rpC, rpM, q_rs, q_rn, Option.toList_some, Option.toList_none, List.cons_append, List.nil_append, true_and, and_true, eq_self, ↓reduceIte, not_true_eq_false, not_false_eq_true, Nat.reduceEqDiff, Nat.reduceLeDiff, Nat.reduceLT, Nat.reduceAdd, Nat.reduceMul, Nat.reduceSub, false_or, or_false, true_or, or_true, false_and, and_false, reduceCtorEq, q_n0, q_n1, q_em, q_em2, q_b0, q_b1, Classical.not_not, nI_add, pk_mul, nI_clamp, q_vp, nI_eq, nI_leI, nI_ltI, q_sub, c2, show ¬ p.2 ≤ i by omega, show i < 24 by omega, show c ≤ i by omega, Nat.add_zero]
    · rw [pif_t ⟨fun z => absurd z c2, fun z => absurd z c1⟩]
      simp (disch := omega) only [r229_23, r229_24, r229_27, r229_30, r229_32, r229_33, r229_34, r229_37, r229_39, r229_40, r229_41, r229_44, r229_46, r229_47, r229_50, r229_51, r229_54, r229_55, r229_58, r229_59, r229_62, r229_63, r229_64, r229_66, r229_69, b1, h5, kdC, kdM, rpC, rpM, q_rs, q_rn, Option.toList_some, Option.toList_none, List.cons_append, List.nil_append, true_and, and_true, eq_self, ↓reduceIte, not_true_eq_false, not_false_eq_true, Nat.reduceEqDiff, Nat.reduceLeDiff, Nat.reduceLT, Nat.reduceAdd, Nat.reduceMul, Nat.reduceSub, false_or, or_false, true_or, or_true, false_and, and_false, reduceCtorEq, q_n0, q_n1, q_em, q_em2, q_b0, q_b1, Classical.not_not, nI_add, pk_mul, nI_clamp, q_vp, nI_eq, nI_leI, nI_ltI, q_sub, c2, show ¬ p.2 ≤ i by omega, show i < 24 by omega, show c ≤ i by omega]
/-- the best up to a cut, the model's -/
noncomputable def tkM (P : Nat → Prop) (N : Nat) : Nat → Nat
  | 0 => N
  | c + 1 => min (min (mmN P N c) (N - mmN P N c)) (tkM P N c)
theorem tkM_eq (P : Nat → Prop) (N : Nat) : ∀ c, c ≤ N → tkM P N (c + 1) = tkN P N c
  | 0, _ => by
    have := mm_le P (N := N) (c := 0) (by omega)
    show min (min (mmN P N 0) (N - mmN P N 0)) N = min (mmN P N 0) (N - mmN P N 0)
    omega
  | c + 1, hc => by
    have ih := tkM_eq P N c (by omega)
    show min (min (mmN P N (c + 1)) (N - mmN P N (c + 1))) (tkM P N (c + 1)) = min (tkN P N c) (min (mmN P N (c + 1)) (N - mmN P N (c + 1)))
    rw [ih]
    omega
theorem tkM_le (P : Nat → Prop) (N : Nat) : ∀ c, tkM P N c ≤ N
  | 0 => Nat.le_refl N
  | c + 1 => by
    show min (min (mmN P N c) (N - mmN P N c)) (tkM P N c) ≤ N
    have := tkM_le P N c
    omega
theorem ml229 (hK : gI h 103 = K) (w : WF K) (hw : wh = nI 0 ∨ wh = nI 1) (mp : MP K T h p) (ok : okP (nf K) p) : ∀ k c d F (v4 v5 : Value), c + k = p.2 + 1 → wp true (d + 4) 229 7 [.ref 101, .int wh, .int (nI (tkM (bdP K wh p) p.2 c)), .int (nI c), v4, v5] [] h F = F (some (.int (nI (tkM (bdP K wh p) p.2 (p.2 + 1))))) h
  | 0, c, d, F, v4, v5, e => by
    obtain rfl : c = p.2 + 1 := e
    have h1 := w.hnf
    have h5 := mp.1
    have hp := ok.1
    rw [r229_7]
    simp (disch := omega) only [e229, r229_0, r229_1, r229_4, r229_5, r229_6, r229_8, r229_9, r229_12, r229_15, r229_16, r229_18, r229_19, r229_23, r229_24, r229_27, r229_30, r229_32, r229_33, r229_34, r229_37, r229_39, r229_40, r229_41, r229_44, r229_46, r229_47, r229_50, r229_51, r229_54, r229_55, r229_58, r229_59, r229_62, r229_63, r229_64, r229_66, r229_69, r229_72, r229_74, r229_75, r229_78, r229_80, r229_81, r229_84, r229_86, r229_89, r229_90, r229_93, r229_95, r229_96, r229_98, r229_100, r229_101, r229_104, r229_106, r229_107, r229_110, r229_113, r229_114, h5, kdC, kdM, rpC, rpM, q_rs, q_rn, Option.toList_some, Option.toList_none, List.cons_append, List.nil_append, true_and, and_true, eq_self, ↓reduceIte, not_true_eq_false, not_false_eq_true, Nat.reduceEqDiff, Nat.reduceLeDiff, Nat.reduceLT, Nat.reduceAdd, Nat.reduceMul, Nat.reduceSub, false_or, or_false, true_or, or_true, false_and, and_false, reduceCtorEq, q_n0, q_n1, q_em, q_em2, q_b0, q_b1, Classical.not_not, nI_add, pk_mul, nI_clamp, q_vp, nI_eq, nI_leI, nI_ltI, q_sub, show p.2 < p.2 + 1 by omega]
  | k + 1, c, d, F, v4, v5, e => by
    have h1 := w.hnf
    have h5 := mp.1
    have hp := ok.1
    have hl := ml229i hK w hw mp ok (.int (nI (tkM (bdP K wh p) p.2 c))) (show c ≤ p.2 by omega) p.2 0 d F (by omega)
    rw [mm_eq _ (show c ≤ p.2 by omega)] at hl
    have e0 : cntT (fun i => bdP K wh p i ↔ i < c) 0 = 0 := rfl
    rw [e0] at hl
    have m1 := (mm_le (bdP K wh p) (N := p.2) (c := c) (by omega)).1
    have t1 := tkM_le (bdP K wh p) p.2 c
    have hs : tkM (bdP K wh p) p.2 (c + 1) = min (min (mmN (bdP K wh p) p.2 c) (p.2 - mmN (bdP K wh p) p.2 c)) (tkM (bdP K wh p) p.2 c) := rfl
    have ih := fun v4 v5 => ml229 hK w hw mp ok k (c + 1) d F v4 v5 (by omega)
    rw [hs] at ih
    have hst : wp true (d + 4) 229 7 [.ref 101, .int wh, .int (nI (tkM (bdP K wh p) p.2 c)), .int (nI c), v4, v5] [] h F = wp true (d + 4) 229 72 [.ref 101, .int wh, .int (nI (tkM (bdP K wh p) p.2 c)), .int (nI c), .int (nI (mmN (bdP K wh p) p.2 c)), .int (nI p.2)] [] h F := by
      rw [r229_7]
      simp (disch := omega) only [r229_8, r229_9, r229_12, r229_15, r229_16, r229_18, r229_19, h5, kdC, kdM, rpC, rpM, q_rs, q_rn, Option.toList_some, Option.toList_none, List.cons_append, List.nil_append, true_and, and_true, eq_self, ↓reduceIte, not_true_eq_false, not_false_eq_true, Nat.reduceEqDiff, Nat.reduceLeDiff, Nat.reduceLT, Nat.reduceAdd, Nat.reduceMul, Nat.reduceSub, false_or, or_false, true_or, or_true, false_and, and_false, reduceCtorEq, q_n0, q_n1, q_em, q_em2, q_b0, q_b1, Classical.not_not, nI_add, pk_mul, nI_clamp, q_vp, nI_eq, nI_leI, nI_ltI, q_sub, show ¬ p.2 < c by omega]
      exact hl
    rw [hst]
    generalize mmN (bdP K wh p) p.2 c = M at *
    generalize tkM (bdP K wh p) p.2 c = y at *
    by_cases c1 : p.2 - M ≤ M
    · rw [show min M (p.2 - M) = p.2 - M by omega] at ih
      by_cases c2 : y ≤ p.2 - M
      · rw [show min (p.2 - M) y = y by omega] at ih
        refine Eq.trans ?_ (ih (.int (nI M)) (.int (nI (p.2 - M))))
        simp (disch := omega) only [r229_72, r229_74, r229_75, r229_78, r229_80, r229_81, r229_84, r229_86, r229_89, r229_90, r229_93, r229_95, r229_96, r229_98, r229_100, r229_101, r229_104, r229_106, r229_107, r229_110, h5, kdC, kdM, rpC, rpM, q_rs, q_rn, Option.toList_some, Option.toList_none, List.cons_append, List.nil_append, true_and, and_true, eq_self, ↓reduceIte, not_true_eq_false, not_false_eq_true, Nat.reduceEqDiff, Nat.reduceLeDiff, Nat.reduceLT, Nat.reduceAdd, Nat.reduceMul, Nat.reduceSub, false_or, or_false, true_or, or_true, false_and, and_false, reduceCtorEq, q_n0, q_n1, q_em, q_em2, q_b0, q_b1, Classical.not_not, nI_add, pk_mul, nI_clamp, q_vp, nI_eq, nI_leI, nI_ltI, q_sub, c1, c2]
      · rw [show min (p.2 - M) y = p.2 - M by omega] at ih
        refine Eq.trans ?_ (ih (.int (nI M)) (.int (nI (p.2 - M))))
        simp (disch := omega) only [r229_72, r229_74, r229_75, r229_78, r229_80, r229_81, r229_84, r229_86, r229_89, r229_90, r229_93, r229_95, r229_96, r229_98, r229_100, r229_101, r229_104, r229_106, r229_107, r229_110, h5, kdC, kdM, rpC, rpM, q_rs, q_rn, Option.toList_some, Option.toList_none, List.cons_append, List.nil_append, true_and, and_true, eq_self, ↓reduceIte, not_true_eq_false, not_false_eq_true, Nat.reduceEqDiff, Nat.reduceLeDiff, Nat.reduceLT, Nat.reduceAdd, Nat.reduceMul, Nat.reduceSub, false_or, or_false, true_or, or_true, false_and, and_false, reduceCtorEq, q_n0, q_n1, q_em, q_em2, q_b0, q_b1, Classical.not_not, nI_add, pk_mul, nI_clamp, q_vp, nI_eq, nI_leI, nI_ltI, q_sub, c1, c2]
    · rw [show min M (p.2 - M) = M by omega] at ih
      by_cases c2 : y ≤ M
      · rw [show min M y = y by omega] at ih
        refine Eq.trans ?_ (ih (.int (nI M)) (.int (nI M)))
        simp (disch := omega) only [r229_72, r229_74, r229_75, r229_78, r229_80, r229_81, r229_84, r229_86, r229_89, r229_90, r229_93, r229_95, r229_96, r229_98, r229_100, r229_101, r229_104, r229_106, r229_107, r229_110, h5, kdC, kdM, rpC, rpM, q_rs, q_rn, Option.toList_some, Option.toList_none, List.cons_append, List.nil_append, true_and, and_true, eq_self, ↓reduceIte, not_true_eq_false, not_false_eq_true, Nat.reduceEqDiff, Nat.reduceLeDiff, Nat.reduceLT, Nat.reduceAdd, Nat.reduceMul, Nat.reduceSub, false_or, or_false, true_or, or_true, false_and, and_false, reduceCtorEq, q_n0, q_n1, q_em, q_em2, q_b0, q_b1, Classical.not_not, nI_add, pk_mul, nI_clamp, q_vp, nI_eq, nI_leI, nI_ltI, q_sub, c1, c2]
      · rw [show min M y = M by omega] at ih
        refine Eq.trans ?_ (ih (.int (nI M)) (.int (nI M)))
        simp (disch := omega) only [r229_72, r229_74, r229_75, r229_78, r229_80, r229_81, r229_84, r229_86, r229_89, r229_90, r229_93, r229_95, r229_96, r229_98, r229_100, r229_101, r229_104, r229_106, r229_107, r229_110, h5, kdC, kdM, rpC, rpM, q_rs, q_rn, Option.toList_some, Option.toList_none, List.cons_append, List.nil_append, true_and, and_true, eq_self, ↓reduceIte, not_true_eq_false, not_false_eq_true, Nat.reduceEqDiff, Nat.reduceLeDiff, Nat.reduceLT, Nat.reduceAdd, Nat.reduceMul, Nat.reduceSub, false_or, or_false, true_or, or_true, false_and, and_false, reduceCtorEq, q_n0, q_n1, q_em, q_em2, q_b0, q_b1, Classical.not_not, nI_add, pk_mul, nI_clamp, q_vp, nI_eq, nI_leI, nI_ltI, q_sub, c1, c2]
theorem m229 (hK : gI h 103 = K) (w : WF K) (hw : wh = nI 0 ∨ wh = nI 1) (mp : MP K T h p) (ok : okP (nf K) p) (d : Nat) (F : Po) : cwp true (d + 4) 229 [.ref 101, .int wh] h F = F (some (.int (nI (tkN (bdP K wh p) p.2 p.2)))) h := by
  have h5 := mp.1
  have hl := ml229 hK w hw mp ok (p.2 + 1) 0 d F jn jn (by omega)
  rw [tkM_eq _ _ _ (Nat.le_refl _)] at hl
  have e0 : tkM (bdP K wh p) p.2 0 = p.2 := rfl
  rw [e0] at hl
  simp (disch := omega) only [r229_0, r229_1, r229_4, r229_5, r229_6, e229, h5, kdC, kdM, rpC, rpM, q_rs, q_rn, Option.toList_some, Option.toList_none, List.cons_append, List.nil_append, true_and, and_true, eq_self, ↓reduceIte, not_true_eq_false, not_false_eq_true, Nat.reduceEqDiff, Nat.reduceLeDiff, Nat.reduceLT, Nat.reduceAdd, Nat.reduceMul, Nat.reduceSub, false_or, or_false, true_or, or_true, false_and, and_false, reduceCtorEq, q_n0, q_n1, q_em, q_em2, q_b0, q_b1, Classical.not_not]
  exact hl
end SF
theorem p_seen {n : Nat} {h : Hp} (z : Inv n h) (a b c : Int32) : PRI n h 109 230 [.int a, .int b, .int c] := by
  intro d
  have w := z.1.1
  have q := z.1.2.1
  have hn := w.hnx
  have hnf := w.hnf
  by_cases hA : nI 0 ≤ a ∧ a < nI (nx (gI h 103))
  · obtain ⟨t, ht, rfl⟩ := q_ix (by omega) hA.1 hA.2
    obtain ⟨s, T, y1, y2, y3⟩ := z.1.2.2.1 t ht
    have h60 := fun F d => c60 h w q ht y1 d F
    by_cases hB : b = nI 0 ∨ b = nI 1
    · by_cases hC : nI 0 ≤ c ∧ c ≤ nI 2
      · obtain ⟨h1, x1, x2, x3, x4⟩ := c33 z.1 y3 y2 b
        have hK := x1.K
        have q1 := (STS_fr x1 (Or.inl rfl) z.1).2.1
        obtain ⟨h2, u1, u2, u4⟩ := m226 (T := T) hK w (show t < 10 by omega) y3 hB
        have hK2 : gI h2 103 = gI h 103 := u1.K.trans hK
        have ok := pic_ok (gI h 103) T b
        have x4' := fun F => x4 (d + 895) F
        have u4' := fun F => u4 (d + 830) F
        have k1 := c35 w q1 x2 ok x3
        have k2 := c36 w q1 x2 ok x3
        have k3 := m228 hK2 w hB u2 ok
        have k4 := m229 hK2 w hB u2 ok
        generalize pic (gI h 103) T b = p at *
        obtain ⟨j, hj, rfl⟩ := q_ix2 (by omega) hC.1 hC.2
        rcases (show j = 0 ∨ j = 1 ∨ j = 2 by omega) with rfl | rfl | rfl
        · refine ⟨nI p.2, h1, h2, fun F => ?_, fun F => ?_, Inv_fr (x1.trans u1) z⟩
          · simp (disch := omega) only [e109, r109_0, r109_1, r109_4, r109_5, r109_8, r109_8n, r109_10, r109_10n, r109_12, r109_12n, r109_15, r109_16, r109_19, r109_22, r109_23, r109_24, r109_25, r109_28, r109_31, r109_32, r109_33, r109_34, r109_37, r109_37n, r109_39, r109_40, r109_43, r109_44, r109_47, r109_48, r109_51, r109_54, r109_55, r109_56, r109_57, r109_60, r109_61, r109_64, r109_67, r109_70, r109_71, r109_74, r109_77, h60, c126, hB, hC, x4', c125, x2.1, kdC, kdM, rpC, rpM, q_rs, q_rn, Option.toList_some, Option.toList_none, List.cons_append, List.nil_append, true_and, and_true, eq_self, ↓reduceIte, not_true_eq_false, not_false_eq_true, Nat.reduceEqDiff, Nat.reduceLeDiff, Nat.reduceLT, Nat.reduceAdd, Nat.reduceMul, Nat.reduceSub, false_or, or_false, true_or, or_true, false_and, and_false, reduceCtorEq, q_n0, q_n1, q_em, q_em2, q_b0, q_b1, Classical.not_not, nI_add, pk_mul, nI_clamp, q_vp, nI_eq, nI_leI, nI_ltI, q_sub]
          · simp (disch := omega) only [e230, r230_0, r230_1, r230_2, r230_5, r230_8, r230_9, r230_12, r230_15, r230_16, r230_17, r230_18, r230_21, r230_24, r230_25, r230_26, r230_27, r230_28, r230_29, r230_32, r230_33, r230_36, r230_37, r230_40, r230_43, r230_44, r230_45, r230_48, r230_49, r230_50, r230_53, r230_56, r230_57, r230_58, r230_61, c150 _ _ _ hK w, c152, hA, hB, hC, u4', c143, u2.1, kdC, kdM, rpC, rpM, q_rs, q_rn, Option.toList_some, Option.toList_none, List.cons_append, List.nil_append, true_and, and_true, eq_self, ↓reduceIte, not_true_eq_false, not_false_eq_true, Nat.reduceEqDiff, Nat.reduceLeDiff, Nat.reduceLT, Nat.reduceAdd, Nat.reduceMul, Nat.reduceSub, false_or, or_false, true_or, or_true, false_and, and_false, reduceCtorEq, q_n0, q_n1, q_em, q_em2, q_b0, q_b1, Classical.not_not, nI_add, pk_mul, nI_clamp, q_vp, nI_eq, nI_leI, nI_ltI, q_sub]
        · refine ⟨nI (cntT (cgP (bdP (gI h 103) b p)) p.2), h1, h2, fun F => ?_, fun F => ?_, Inv_fr (x1.trans u1) z⟩
          · simp (disch := omega) only [e109, r109_0, r109_1, r109_4, r109_5, r109_8, r109_8n, r109_10, r109_10n, r109_12, r109_12n, r109_15, r109_16, r109_19, r109_22, r109_23, r109_24, r109_25, r109_28, r109_31, r109_32, r109_33, r109_34, r109_37, r109_37n, r109_39, r109_40, r109_43, r109_44, r109_47, r109_48, r109_51, r109_54, r109_55, r109_56, r109_57, r109_60, r109_61, r109_64, r109_67, r109_70, r109_71, r109_74, r109_77, h60, c126, hB, hC, x4', c125, k1, kdC, kdM, rpC, rpM, q_rs, q_rn, Option.toList_some, Option.toList_none, List.cons_append, List.nil_append, true_and, and_true, eq_self, ↓reduceIte, not_true_eq_false, not_false_eq_true, Nat.reduceEqDiff, Nat.reduceLeDiff, Nat.reduceLT, Nat.reduceAdd, Nat.reduceMul, Nat.reduceSub, false_or, or_false, true_or, or_true, false_and, and_false, reduceCtorEq, q_n0, q_n1, q_em, q_em2, q_b0, q_b1, Classical.not_not, nI_add, pk_mul, nI_clamp, q_vp, nI_eq, nI_leI, nI_ltI, q_sub]
          · simp (disch := omega) only [e230, r230_0, r230_1, r230_2, r230_5, r230_8, r230_9, r230_12, r230_15, r230_16, r230_17, r230_18, r230_21, r230_24, r230_25, r230_26, r230_27, r230_28, r230_29, r230_32, r230_33, r230_36, r230_37, r230_40, r230_43, r230_44, r230_45, r230_48, r230_49, r230_50, r230_53, r230_56, r230_57, r230_58, r230_61, c150 _ _ _ hK w, c152, hA, hB, hC, u4', c143, k3, kdC, kdM, rpC, rpM, q_rs, q_rn, Option.toList_some, Option.toList_none, List.cons_append, List.nil_append, true_and, and_true, eq_self, ↓reduceIte, not_true_eq_false, not_false_eq_true, Nat.reduceEqDiff, Nat.reduceLeDiff, Nat.reduceLT, Nat.reduceAdd, Nat.reduceMul, Nat.reduceSub, false_or, or_false, true_or, or_true, false_and, and_false, reduceCtorEq, q_n0, q_n1, q_em, q_em2, q_b0, q_b1, Classical.not_not, nI_add, pk_mul, nI_clamp, q_vp, nI_eq, nI_leI, nI_ltI, q_sub]
        · refine ⟨nI (tkN (bdP (gI h 103) b p) p.2 p.2), h1, h2, fun F => ?_, fun F => ?_, Inv_fr (x1.trans u1) z⟩
          · simp (disch := omega) only [e109, r109_0, r109_1, r109_4, r109_5, r109_8, r109_8n, r109_10, r109_10n, r109_12, r109_12n, r109_15, r109_16, r109_19, r109_22, r109_23, r109_24, r109_25, r109_28, r109_31, r109_32, r109_33, r109_34, r109_37, r109_37n, r109_39, r109_40, r109_43, r109_44, r109_47, r109_48, r109_51, r109_54, r109_55, r109_56, r109_57, r109_60, r109_61, r109_64, r109_67, r109_70, r109_71, r109_74, r109_77, h60, c126, hB, hC, x4', c125, k2, kdC, kdM, rpC, rpM, q_rs, q_rn, Option.toList_some, Option.toList_none, List.cons_append, List.nil_append, true_and, and_true, eq_self, ↓reduceIte, not_true_eq_false, not_false_eq_true, Nat.reduceEqDiff, Nat.reduceLeDiff, Nat.reduceLT, Nat.reduceAdd, Nat.reduceMul, Nat.reduceSub, false_or, or_false, true_or, or_true, false_and, and_false, reduceCtorEq, q_n0, q_n1, q_em, q_em2, q_b0, q_b1, Classical.not_not, nI_add, pk_mul, nI_clamp, q_vp, nI_eq, nI_leI, nI_ltI, q_sub]
          · simp (disch := omega) only [e230, r230_0, r230_1, r230_2, r230_5, r230_8, r230_9, r230_12, r230_15, r230_16, r230_17, r230_18, r230_21, r230_24, r230_25, r230_26, r230_27, r230_28, r230_29, r230_32, r230_33, r230_36, r230_37, r230_40, r230_43, r230_44, r230_45, r230_48, r230_49, r230_50, r230_53, r230_56, r230_57, r230_58, r230_61, c150 _ _ _ hK w, c152, hA, hB, hC, u4', c143, k4, kdC, kdM, rpC, rpM, q_rs, q_rn, Option.toList_some, Option.toList_none, List.cons_append, List.nil_append, true_and, and_true, eq_self, ↓reduceIte, not_true_eq_false, not_false_eq_true, Nat.reduceEqDiff, Nat.reduceLeDiff, Nat.reduceLT, Nat.reduceAdd, Nat.reduceMul, Nat.reduceSub, false_or, or_false, true_or, or_true, false_and, and_false, reduceCtorEq, q_n0, q_n1, q_em, q_em2, q_b0, q_b1, Classical.not_not, nI_add, pk_mul, nI_clamp, q_vp, nI_eq, nI_leI, nI_ltI, q_sub]
      · refine ⟨-1, h, h, fun F => ?_, fun F => ?_, Inv_fr (Fr.refl h) z⟩
        · simp (disch := omega) only [e109, r109_0, r109_1, r109_4, r109_5, r109_8, r109_8n, r109_10, r109_10n, r109_12, r109_12n, r109_15, r109_16, r109_19, r109_22, r109_23, r109_24, r109_25, r109_28, r109_31, r109_32, r109_33, r109_34, r109_37, r109_37n, r109_39, r109_40, r109_43, r109_44, r109_47, r109_48, r109_51, r109_54, r109_55, r109_56, r109_57, r109_60, r109_61, r109_64, r109_67, r109_70, r109_71, r109_74, r109_77, h60, c126, c125, hB, hC, kdC, kdM, rpC, rpM, q_rs, q_rn, Option.toList_some, Option.toList_none, List.cons_append, List.nil_append, true_and, and_true, eq_self, ↓reduceIte, not_true_eq_false, not_false_eq_true, Nat.reduceEqDiff, Nat.reduceLeDiff, Nat.reduceLT, Nat.reduceAdd, Nat.reduceMul, Nat.reduceSub, false_or, or_false, true_or, or_true, false_and, and_false, reduceCtorEq, q_n0, q_n1, q_em, q_em2, q_b0, q_b1, Classical.not_not]
        · simp (disch := omega) only [e230, r230_0, r230_1, r230_2, r230_5, r230_8, r230_9, r230_12, r230_15, r230_16, r230_17, r230_18, r230_21, r230_24, r230_25, r230_26, r230_27, r230_28, r230_29, r230_32, r230_33, r230_36, r230_37, r230_40, r230_43, r230_44, r230_45, r230_48, r230_49, r230_50, r230_53, r230_56, r230_57, r230_58, r230_61, c150 _ _ _ rfl w, c152, c143, hA, hB, hC, kdC, kdM, rpC, rpM, q_rs, q_rn, Option.toList_some, Option.toList_none, List.cons_append, List.nil_append, true_and, and_true, eq_self, ↓reduceIte, not_true_eq_false, not_false_eq_true, Nat.reduceEqDiff, Nat.reduceLeDiff, Nat.reduceLT, Nat.reduceAdd, Nat.reduceMul, Nat.reduceSub, false_or, or_false, true_or, or_true, false_and, and_false, reduceCtorEq, q_n0, q_n1, q_em, q_em2, q_b0, q_b1, Classical.not_not]
    · refine ⟨-1, h, h, fun F => ?_, fun F => ?_, Inv_fr (Fr.refl h) z⟩
      · simp (disch := omega) only [e109, r109_0, r109_1, r109_4, r109_5, r109_8, r109_8n, r109_10, r109_10n, r109_12, r109_12n, r109_15, r109_16, r109_19, r109_22, r109_23, r109_24, r109_25, r109_28, r109_31, r109_32, r109_33, r109_34, r109_37, r109_37n, r109_39, r109_40, r109_43, r109_44, r109_47, r109_48, r109_51, r109_54, r109_55, r109_56, r109_57, r109_60, r109_61, r109_64, r109_67, r109_70, r109_71, r109_74, r109_77, h60, c126, hB, kdC, kdM, rpC, rpM, q_rs, q_rn, Option.toList_some, Option.toList_none, List.cons_append, List.nil_append, true_and, and_true, eq_self, ↓reduceIte, not_true_eq_false, not_false_eq_true, Nat.reduceEqDiff, Nat.reduceLeDiff, Nat.reduceLT, Nat.reduceAdd, Nat.reduceMul, Nat.reduceSub, false_or, or_false, true_or, or_true, false_and, and_false, reduceCtorEq, q_n0, q_n1, q_em, q_em2, q_b0, q_b1, Classical.not_not]
      · simp (disch := omega) only [e230, r230_0, r230_1, r230_2, r230_5, r230_8, r230_9, r230_12, r230_15, r230_16, r230_17, r230_18, r230_21, r230_24, r230_25, r230_26, r230_27, r230_28, r230_29, r230_32, r230_33, r230_36, r230_37, r230_40, r230_43, r230_44, r230_45, r230_48, r230_49, r230_50, r230_53, r230_56, r230_57, r230_58, r230_61, c150 _ _ _ rfl w, c152, hA, hB, kdC, kdM, rpC, rpM, q_rs, q_rn, Option.toList_some, Option.toList_none, List.cons_append, List.nil_append, true_and, and_true, eq_self, ↓reduceIte, not_true_eq_false, not_false_eq_true, Nat.reduceEqDiff, Nat.reduceLeDiff, Nat.reduceLT, Nat.reduceAdd, Nat.reduceMul, Nat.reduceSub, false_or, or_false, true_or, or_true, false_and, and_false, reduceCtorEq, q_n0, q_n1, q_em, q_em2, q_b0, q_b1, Classical.not_not]
  · have h60 := fun F d => c60n h w q hA d F
    refine ⟨-1, h, h, fun F => ?_, fun F => ?_, Inv_fr (Fr.refl h) z⟩
    · simp (disch := omega) only [e109, r109_0, r109_1, r109_4, r109_5, r109_8, r109_8n, r109_10, r109_10n, r109_12, r109_12n, r109_15, r109_16, r109_19, r109_22, r109_23, r109_24, r109_25, r109_28, r109_31, r109_32, r109_33, r109_34, r109_37, r109_37n, r109_39, r109_40, r109_43, r109_44, r109_47, r109_48, r109_51, r109_54, r109_55, r109_56, r109_57, r109_60, r109_61, r109_64, r109_67, r109_70, r109_71, r109_74, r109_77, h60, kdC, kdM, rpC, rpM, q_rs, q_rn, Option.toList_some, Option.toList_none, List.cons_append, List.nil_append, true_and, and_true, eq_self, ↓reduceIte, not_true_eq_false, not_false_eq_true, Nat.reduceEqDiff, Nat.reduceLeDiff, Nat.reduceLT, Nat.reduceAdd, Nat.reduceMul, Nat.reduceSub, false_or, or_false, true_or, or_true, false_and, and_false, reduceCtorEq, q_n0, q_n1, q_em, q_em2, q_b0, q_b1, Classical.not_not]
    · simp (disch := omega) only [e230, r230_0, r230_1, r230_2, r230_5, r230_8, r230_9, r230_12, r230_15, r230_16, r230_17, r230_18, r230_21, r230_24, r230_25, r230_26, r230_27, r230_28, r230_29, r230_32, r230_33, r230_36, r230_37, r230_40, r230_43, r230_44, r230_45, r230_48, r230_49, r230_50, r230_53, r230_56, r230_57, r230_58, r230_61, c150 _ _ _ rfl w, hA, kdC, kdM, rpC, rpM, q_rs, q_rn, Option.toList_some, Option.toList_none, List.cons_append, List.nil_append, true_and, and_true, eq_self, ↓reduceIte, not_true_eq_false, not_false_eq_true, Nat.reduceEqDiff, Nat.reduceLeDiff, Nat.reduceLT, Nat.reduceAdd, Nat.reduceMul, Nat.reduceSub, false_or, or_false, true_or, or_true, false_and, and_false, reduceCtorEq, q_n0, q_n1, q_em, q_em2, q_b0, q_b1, Classical.not_not]
