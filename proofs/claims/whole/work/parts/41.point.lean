/-! point, tenths, late -/
section PO
variable (d : Nat) (h : Hp) (F : Po) {K : Nat → Int32}
theorem m213 (hK : gI h 103 = K) (w : WF K) : cwp true d 213 [.ref 101] h F = F (some (.int (nI (np K)))) h := by
  have h1 := w.hnp
  simp (disch := omega) only [e213, r213_0, r213_1, r213_4, r213_7, r213_8, kdC, kdM, rpC, rpM, q_rs, q_rn, Option.toList_some, Option.toList_none, List.cons_append, List.nil_append, true_and, and_true, eq_self, ↓reduceIte, not_true_eq_false, not_false_eq_true, Nat.reduceEqDiff, Nat.reduceLeDiff, Nat.reduceLT, Nat.reduceAdd, Nat.reduceMul, Nat.reduceSub, false_or, or_false, true_or, or_true, false_and, and_false, reduceCtorEq, q_n0, q_n1, q_em, q_em2, q_b0, q_b1, Classical.not_not, nI_add, pk_mul, nI_clamp, q_vp, nI_eq, nI_leI, nI_ltI, q_sub, hK, h1]
theorem m214 (hK : gI h 103 = K) {p c : Nat} (hp : p < 12) (hc : c < 2) : cwp true d 214 [.ref 101, .int (nI p), .int (nI c)] h F = F (some (.int (K (220 + 2 * p + c)))) h := by
  simp (disch := omega) only [e214, r214_0, r214_1, r214_4, r214_7, r214_8, r214_9, r214_10, r214_11, r214_12, r214_13, r214_14, kdC, kdM, rpC, rpM, q_rs, q_rn, Option.toList_some, Option.toList_none, List.cons_append, List.nil_append, true_and, and_true, eq_self, ↓reduceIte, not_true_eq_false, not_false_eq_true, Nat.reduceEqDiff, Nat.reduceLeDiff, Nat.reduceLT, Nat.reduceAdd, Nat.reduceMul, Nat.reduceSub, false_or, or_false, true_or, or_true, false_and, and_false, reduceCtorEq, q_n0, q_n1, q_em, q_em2, q_b0, q_b1, Classical.not_not, nI_add, pk_mul, nI_clamp, q_vp, nI_eq, nI_leI, nI_ltI, q_sub, hK, show 220 + 2 * p + c < 8391 by omega]
theorem ml216_0 (hK : gI h 103 = K) (w : WF K) (x : Int32) : ∀ k p b (v : Value), p + k = np K → inO (np K) b → wp true (d + 1) 216 5 [.ref 101, .int x, .int (nI 0), .int (on b), .int (nI p), v] [] h F = F (some (.int (on (q_lp (blo K x) k p b)))) h
  | 0, p, b, v, e, hb => by
    have h1 := w.hnp
    rw [r216_5]
    simp (disch := omega) only [e216, r216_0, r216_1, r216_2, r216_3, r216_7, r216_8, r216_11, r216_14, r216_15, r216_17, r216_18, r216_21, r216_23, r216_24, r216_27, r216_29, r216_30, r216_33, r216_36, r216_38, r216_39, r216_42, r216_45, r216_46, r216_47, r216_50, r216_51, r216_54, r216_56, r216_57, r216_58, r216_59, r216_62, r216_65, r216_68, r216_70, r216_71, r216_72, r216_73, r216_76, r216_79, r216_81, r216_82, r216_85, r216_88, r216_89, m213 _ h _ hK w, kdC, kdM, rpC, rpM, q_rs, q_rn, Option.toList_some, Option.toList_none, List.cons_append, List.nil_append, true_and, and_true, eq_self, ↓reduceIte, not_true_eq_false, not_false_eq_true, Nat.reduceEqDiff, Nat.reduceLeDiff, Nat.reduceLT, Nat.reduceAdd, Nat.reduceMul, Nat.reduceSub, false_or, or_false, true_or, or_true, false_and, and_false, reduceCtorEq, q_n0, q_n1, q_em, q_em2, q_b0, q_b1, Classical.not_not, nI_add, pk_mul, nI_clamp, q_vp, nI_eq, nI_leI, nI_ltI, q_sub, show p = np K from e, Nat.le_refl]
    rfl
  | k + 1, p, b, v, e, hb => by
    have h1 := w.hnp
    have hp : p < 12 := by omega
    refine Eq.trans ?_ (ml216_0 hK w x k (p + 1) (blo K x p b) (.int (K (220 + 2 * p))) (by omega) (blo_in hb (by omega)))
    rw [r216_5]
    have g0 := fun F d => m214 d h F hK hp (show 0 < 2 by omega)
    by_cases e1 : K (220 + 2 * p) ≤ x
    · cases b with
      | none => simp (disch := omega) only [e216, r216_0, r216_1, r216_2, r216_3, r216_7, r216_8, r216_11, r216_14, r216_15, r216_17, r216_18, r216_21, r216_23, r216_24, r216_27, r216_29, r216_30, r216_33, r216_36, r216_38, r216_39, r216_42, r216_45, r216_46, r216_47, r216_50, r216_51, r216_54, r216_56, r216_57, r216_58, r216_59, r216_62, r216_65, r216_68, r216_70, r216_71, r216_72, r216_73, r216_76, r216_79, r216_81, r216_82, r216_85, r216_88, r216_89, m213 _ h _ hK w, g0, kdC, kdM, rpC, rpM, q_rs, q_rn, Option.toList_some, Option.toList_none, List.cons_append, List.nil_append, true_and, and_true, eq_self, ↓reduceIte, not_true_eq_false, not_false_eq_true, Nat.reduceEqDiff, Nat.reduceLeDiff, Nat.reduceLT, Nat.reduceAdd, Nat.reduceMul, Nat.reduceSub, false_or, or_false, true_or, or_true, false_and, and_false, reduceCtorEq, q_n0, q_n1, q_em, q_em2, q_b0, q_b1, Classical.not_not, nI_add, pk_mul, nI_clamp, q_vp, nI_eq, nI_leI, nI_ltI, q_sub, show ¬ np K ≤ p by omega, on_n, on_s, e1, blo, pif_T, Nat.add_zero]
      | some j =>
        have hj : j < np K := hb j rfl
        have g1 := fun F d => m214 d h F hK (show j < 12 by omega) (show 0 < 2 by omega)
        by_cases e2 : K (220 + 2 * j) < K (220 + 2 * p)
        · simp (disch := omega) only [e216, r216_0, r216_1, r216_2, r216_3, r216_7, r216_8, r216_11, r216_14, r216_15, r216_17, r216_18, r216_21, r216_23, r216_24, r216_27, r216_29, r216_30, r216_33, r216_36, r216_38, r216_39, r216_42, r216_45, r216_46, r216_47, r216_50, r216_51, r216_54, r216_56, r216_57, r216_58, r216_59, r216_62, r216_65, r216_68, r216_70, r216_71, r216_72, r216_73, r216_76, r216_79, r216_81, r216_82, r216_85, r216_88, r216_89, m213 _ h _ hK w, g0, g1, kdC, kdM, rpC, rpM, q_rs, q_rn, Option.toList_some, Option.toList_none, List.cons_append, List.nil_append, true_and, and_true, eq_self, ↓reduceIte, not_true_eq_false, not_false_eq_true, Nat.reduceEqDiff, Nat.reduceLeDiff, Nat.reduceLT, Nat.reduceAdd, Nat.reduceMul, Nat.reduceSub, false_or, or_false, true_or, or_true, false_and, and_false, reduceCtorEq, q_n0, q_n1, q_em, q_em2, q_b0, q_b1, Classical.not_not, nI_add, pk_mul, nI_clamp, q_vp, nI_eq, nI_leI, nI_ltI, q_sub, show ¬ np K ≤ p by omega, on_n, on_s, q_nm, e1, e2, blo, pif_T, Int32.not_le.mpr e2, Option.getD_some, Nat.add_zero]
        · have e3 : ¬ (K (220 + 2 * p) ≤ x ∧ (some j = none ∨ K (220 + 2 * ((some j).getD 0)) < K (220 + 2 * p))) := by
            rintro ⟨_, z | z⟩
            · cases z
            · exact e2 z
          rw [show blo K x p (some j) = some j from pif_f e3]
          simp (disch := omega) only [e216, r216_0, r216_1, r216_2, r216_3, r216_7, r216_8, r216_11, r216_14, r216_15, r216_17, r216_18, r216_21, r216_23, r216_24, r216_27, r216_29, r216_30, r216_33, r216_36, r216_38, r216_39, r216_42, r216_45, r216_46, r216_47, r216_50, r216_51, r216_54, r216_56, r216_57, r216_58, r216_59, r216_62, r216_65, r216_68, r216_70, r216_71, r216_72, r216_73, r216_76, r216_79, r216_81, r216_82, r216_85, r216_88, r216_89, m213 _ h _ hK w, g0, g1, kdC, kdM, rpC, rpM, q_rs, q_rn, Option.toList_some, Option.toList_none, List.cons_append, List.nil_append, true_and, and_true, eq_self, ↓reduceIte, not_true_eq_false, not_false_eq_true, Nat.reduceEqDiff, Nat.reduceLeDiff, Nat.reduceLT, Nat.reduceAdd, Nat.reduceMul, Nat.reduceSub, false_or, or_false, true_or, or_true, false_and, and_false, reduceCtorEq, q_n0, q_n1, q_em, q_em2, q_b0, q_b1, Classical.not_not, nI_add, pk_mul, nI_clamp, q_vp, nI_eq, nI_leI, nI_ltI, q_sub, show ¬ np K ≤ p by omega, on_n, on_s, q_nm, e1, Int32.not_lt.mp e2, Nat.add_zero]
    · have e3 : ¬ (K (220 + 2 * p) ≤ x ∧ (b = none ∨ K (220 + 2 * (b.getD 0)) < K (220 + 2 * p))) := fun z => e1 z.1
      rw [show blo K x p b = b from pif_f e3]
      simp (disch := omega) only [e216, r216_0, r216_1, r216_2, r216_3, r216_7, r216_8, r216_11, r216_14, r216_15, r216_17, r216_18, r216_21, r216_23, r216_24, r216_27, r216_29, r216_30, r216_33, r216_36, r216_38, r216_39, r216_42, r216_45, r216_46, r216_47, r216_50, r216_51, r216_54, r216_56, r216_57, r216_58, r216_59, r216_62, r216_65, r216_68, r216_70, r216_71, r216_72, r216_73, r216_76, r216_79, r216_81, r216_82, r216_85, r216_88, r216_89, m213 _ h _ hK w, g0, kdC, kdM, rpC, rpM, q_rs, q_rn, Option.toList_some, Option.toList_none, List.cons_append, List.nil_append, true_and, and_true, eq_self, ↓reduceIte, not_true_eq_false, not_false_eq_true, Nat.reduceEqDiff, Nat.reduceLeDiff, Nat.reduceLT, Nat.reduceAdd, Nat.reduceMul, Nat.reduceSub, false_or, or_false, true_or, or_true, false_and, and_false, reduceCtorEq, q_n0, q_n1, q_em, q_em2, q_b0, q_b1, Classical.not_not, nI_add, pk_mul, nI_clamp, q_vp, nI_eq, nI_leI, nI_ltI, q_sub, show ¬ np K ≤ p by omega, e1, Nat.add_zero]
theorem ml216_1 (hK : gI h 103 = K) (w : WF K) (x : Int32) : ∀ k p b (v : Value), p + k = np K → inO (np K) b → wp true (d + 1) 216 5 [.ref 101, .int x, .int (nI 1), .int (on b), .int (nI p), v] [] h F = F (some (.int (on (q_lp (bhi K x) k p b)))) h
  | 0, p, b, v, e, hb => by
    have h1 := w.hnp
    rw [r216_5]
    simp (disch := omega) only [e216, r216_0, r216_1, r216_2, r216_3, r216_7, r216_8, r216_11, r216_14, r216_15, r216_17, r216_18, r216_21, r216_23, r216_24, r216_27, r216_29, r216_30, r216_33, r216_36, r216_38, r216_39, r216_42, r216_45, r216_46, r216_47, r216_50, r216_51, r216_54, r216_56, r216_57, r216_58, r216_59, r216_62, r216_65, r216_68, r216_70, r216_71, r216_72, r216_73, r216_76, r216_79, r216_81, r216_82, r216_85, r216_88, r216_89, m213 _ h _ hK w, kdC, kdM, rpC, rpM, q_rs, q_rn, Option.toList_some, Option.toList_none, List.cons_append, List.nil_append, true_and, and_true, eq_self, ↓reduceIte, not_true_eq_false, not_false_eq_true, Nat.reduceEqDiff, Nat.reduceLeDiff, Nat.reduceLT, Nat.reduceAdd, Nat.reduceMul, Nat.reduceSub, false_or, or_false, true_or, or_true, false_and, and_false, reduceCtorEq, q_n0, q_n1, q_em, q_em2, q_b0, q_b1, Classical.not_not, nI_add, pk_mul, nI_clamp, q_vp, nI_eq, nI_leI, nI_ltI, q_sub, show p = np K from e, Nat.le_refl]
    rfl
  | k + 1, p, b, v, e, hb => by
    have h1 := w.hnp
    have hp : p < 12 := by omega
    refine Eq.trans ?_ (ml216_1 hK w x k (p + 1) (bhi K x p b) (.int (K (220 + 2 * p))) (by omega) (bhi_in hb (by omega)))
    rw [r216_5]
    have g0 := fun F d => m214 d h F hK hp (show 0 < 2 by omega)
    by_cases e1 : x ≤ K (220 + 2 * p)
    · cases b with
      | none => simp (disch := omega) only [e216, r216_0, r216_1, r216_2, r216_3, r216_7, r216_8, r216_11, r216_14, r216_15, r216_17, r216_18, r216_21, r216_23, r216_24, r216_27, r216_29, r216_30, r216_33, r216_36, r216_38, r216_39, r216_42, r216_45, r216_46, r216_47, r216_50, r216_51, r216_54, r216_56, r216_57, r216_58, r216_59, r216_62, r216_65, r216_68, r216_70, r216_71, r216_72, r216_73, r216_76, r216_79, r216_81, r216_82, r216_85, r216_88, r216_89, m213 _ h _ hK w, g0, kdC, kdM, rpC, rpM, q_rs, q_rn, Option.toList_some, Option.toList_none, List.cons_append, List.nil_append, true_and, and_true, eq_self, ↓reduceIte, not_true_eq_false, not_false_eq_true, Nat.reduceEqDiff, Nat.reduceLeDiff, Nat.reduceLT, Nat.reduceAdd, Nat.reduceMul, Nat.reduceSub, false_or, or_false, true_or, or_true, false_and, and_false, reduceCtorEq, q_n0, q_n1, q_em, q_em2, q_b0, q_b1, Classical.not_not, nI_add, pk_mul, nI_clamp, q_vp, nI_eq, nI_leI, nI_ltI, q_sub, show ¬ np K ≤ p by omega, on_n, on_s, e1, bhi, pif_T, Nat.add_zero]
      | some j =>
        have hj : j < np K := hb j rfl
        have g1 := fun F d => m214 d h F hK (show j < 12 by omega) (show 0 < 2 by omega)
        by_cases e2 : K (220 + 2 * p) < K (220 + 2 * j)
        · simp (disch := omega) only [e216, r216_0, r216_1, r216_2, r216_3, r216_7, r216_8, r216_11, r216_14, r216_15, r216_17, r216_18, r216_21, r216_23, r216_24, r216_27, r216_29, r216_30, r216_33, r216_36, r216_38, r216_39, r216_42, r216_45, r216_46, r216_47, r216_50, r216_51, r216_54, r216_56, r216_57, r216_58, r216_59, r216_62, r216_65, r216_68, r216_70, r216_71, r216_72, r216_73, r216_76, r216_79, r216_81, r216_82, r216_85, r216_88, r216_89, m213 _ h _ hK w, g0, g1, kdC, kdM, rpC, rpM, q_rs, q_rn, Option.toList_some, Option.toList_none, List.cons_append, List.nil_append, true_and, and_true, eq_self, ↓reduceIte, not_true_eq_false, not_false_eq_true, Nat.reduceEqDiff, Nat.reduceLeDiff, Nat.reduceLT, Nat.reduceAdd, Nat.reduceMul, Nat.reduceSub, false_or, or_false, true_or, or_true, false_and, and_false, reduceCtorEq, q_n0, q_n1, q_em, q_em2, q_b0, q_b1, Classical.not_not, nI_add, pk_mul, nI_clamp, q_vp, nI_eq, nI_leI, nI_ltI, q_sub, show ¬ np K ≤ p by omega, on_n, on_s, q_nm, e1, e2, bhi, pif_T, Int32.not_le.mpr e2, Option.getD_some, Nat.add_zero]
        · have e3 : ¬ (x ≤ K (220 + 2 * p) ∧ (some j = none ∨ K (220 + 2 * p) < K (220 + 2 * ((some j).getD 0)))) := by
            rintro ⟨_, z | z⟩
            · cases z
            · exact e2 z
          rw [show bhi K x p (some j) = some j from pif_f e3]
          simp (disch := omega) only [e216, r216_0, r216_1, r216_2, r216_3, r216_7, r216_8, r216_11, r216_14, r216_15, r216_17, r216_18, r216_21, r216_23, r216_24, r216_27, r216_29, r216_30, r216_33, r216_36, r216_38, r216_39, r216_42, r216_45, r216_46, r216_47, r216_50, r216_51, r216_54, r216_56, r216_57, r216_58, r216_59, r216_62, r216_65, r216_68, r216_70, r216_71, r216_72, r216_73, r216_76, r216_79, r216_81, r216_82, r216_85, r216_88, r216_89, m213 _ h _ hK w, g0, g1, kdC, kdM, rpC, rpM, q_rs, q_rn, Option.toList_some, Option.toList_none, List.cons_append, List.nil_append, true_and, and_true, eq_self, ↓reduceIte, not_true_eq_false, not_false_eq_true, Nat.reduceEqDiff, Nat.reduceLeDiff, Nat.reduceLT, Nat.reduceAdd, Nat.reduceMul, Nat.reduceSub, false_or, or_false, true_or, or_true, false_and, and_false, reduceCtorEq, q_n0, q_n1, q_em, q_em2, q_b0, q_b1, Classical.not_not, nI_add, pk_mul, nI_clamp, q_vp, nI_eq, nI_leI, nI_ltI, q_sub, show ¬ np K ≤ p by omega, on_n, on_s, q_nm, e1, Int32.not_lt.mp e2, Nat.add_zero]
    · have e3 : ¬ (x ≤ K (220 + 2 * p) ∧ (b = none ∨ K (220 + 2 * p) < K (220 + 2 * (b.getD 0)))) := fun z => e1 z.1
      rw [show bhi K x p b = b from pif_f e3]
      simp (disch := omega) only [e216, r216_0, r216_1, r216_2, r216_3, r216_7, r216_8, r216_11, r216_14, r216_15, r216_17, r216_18, r216_21, r216_23, r216_24, r216_27, r216_29, r216_30, r216_33, r216_36, r216_38, r216_39, r216_42, r216_45, r216_46, r216_47, r216_50, r216_51, r216_54, r216_56, r216_57, r216_58, r216_59, r216_62, r216_65, r216_68, r216_70, r216_71, r216_72, r216_73, r216_76, r216_79, r216_81, r216_82, r216_85, r216_88, r216_89, m213 _ h _ hK w, g0, kdC, kdM, rpC, rpM, q_rs, q_rn, Option.toList_some, Option.toList_none, List.cons_append, List.nil_append, true_and, and_true, eq_self, ↓reduceIte, not_true_eq_false, not_false_eq_true, Nat.reduceEqDiff, Nat.reduceLeDiff, Nat.reduceLT, Nat.reduceAdd, Nat.reduceMul, Nat.reduceSub, false_or, or_false, true_or, or_true, false_and, and_false, reduceCtorEq, q_n0, q_n1, q_em, q_em2, q_b0, q_b1, Classical.not_not, nI_add, pk_mul, nI_clamp, q_vp, nI_eq, nI_leI, nI_ltI, q_sub, show ¬ np K ≤ p by omega, e1, Nat.add_zero]
theorem m216_0 (hK : gI h 103 = K) (w : WF K) (x : Int32) : cwp true (d + 1) 216 [.ref 101, .int x, .int (nI 0)] h F = F (some (.int (on (lop K x)))) h := by
  simp only [e216, r216_0, r216_1, r216_2, r216_3, r216_7, r216_8, r216_11, r216_14, r216_15, r216_17, r216_18, r216_21, r216_23, r216_24, r216_27, r216_29, r216_30, r216_33, r216_36, r216_38, r216_39, r216_42, r216_45, r216_46, r216_47, r216_50, r216_51, r216_54, r216_56, r216_57, r216_58, r216_59, r216_62, r216_65, r216_68, r216_70, r216_71, r216_72, r216_73, r216_76, r216_79, r216_81, r216_82, r216_85, r216_88, r216_89, kdC, kdM, rpC, rpM, q_rs, q_rn, Option.toList_some, Option.toList_none, List.cons_append, List.nil_append, true_and, and_true, eq_self, ↓reduceIte, not_true_eq_false, not_false_eq_true, Nat.reduceEqDiff, Nat.reduceLeDiff, Nat.reduceLT, Nat.reduceAdd, Nat.reduceMul, Nat.reduceSub, false_or, or_false, true_or, or_true, false_and, and_false, reduceCtorEq, q_n0, q_n1, q_em, q_em2, q_b0, q_b1, Classical.not_not]
  exact ml216_0 d h F hK w x (np K) 0 none _ (by omega) (fun j ej => by cases ej)
theorem m216_1 (hK : gI h 103 = K) (w : WF K) (x : Int32) : cwp true (d + 1) 216 [.ref 101, .int x, .int (nI 1)] h F = F (some (.int (on (hip K x)))) h := by
  simp only [e216, r216_0, r216_1, r216_2, r216_3, r216_7, r216_8, r216_11, r216_14, r216_15, r216_17, r216_18, r216_21, r216_23, r216_24, r216_27, r216_29, r216_30, r216_33, r216_36, r216_38, r216_39, r216_42, r216_45, r216_46, r216_47, r216_50, r216_51, r216_54, r216_56, r216_57, r216_58, r216_59, r216_62, r216_65, r216_68, r216_70, r216_71, r216_72, r216_73, r216_76, r216_79, r216_81, r216_82, r216_85, r216_88, r216_89, kdC, kdM, rpC, rpM, q_rs, q_rn, Option.toList_some, Option.toList_none, List.cons_append, List.nil_append, true_and, and_true, eq_self, ↓reduceIte, not_true_eq_false, not_false_eq_true, Nat.reduceEqDiff, Nat.reduceLeDiff, Nat.reduceLT, Nat.reduceAdd, Nat.reduceMul, Nat.reduceSub, false_or, or_false, true_or, or_true, false_and, and_false, reduceCtorEq, q_n0, q_n1, q_em, q_em2, q_b0, q_b1, Classical.not_not]
  exact ml216_1 d h F hK w x (np K) 0 none _ (by omega) (fun j ej => by cases ej)
noncomputable def tno (K : Nat → Int32) (x : Int32) (j : Nat) : Int32 := match lop K x, hip K x with
  | some l, some u => if j = 0 then mnI (K (220 + 2 * l + 1)) (K (220 + 2 * u + 1)) else mxI (K (220 + 2 * l + 1)) (K (220 + 2 * u + 1))
  | _, _ => -1
theorem m217 (hK : gI h 103 = K) (w : WF K) (x : Int32) {j : Nat} (hj : j = 0 ∨ j = 1) : cwp true (d + 2) 217 [.ref 101, .int x, .int (nI j)] h F = F (some (.int (tno K x j))) h := by
  have h1 := w.hnp
  have hl := lop_in (K := K) x
  have hu := hip_in (K := K) x
  unfold tno
  cases el : lop K x with
  | none => simp (disch := omega) only [e217, r217_0, r217_1, r217_2, r217_3, r217_6, r217_7, r217_8, r217_9, r217_10, r217_13, r217_15, r217_16, r217_17, r217_20, r217_22, r217_23, r217_26, r217_27, r217_28, r217_29, r217_30, r217_31, r217_34, r217_36, r217_37, r217_39, r217_40, r217_43, r217_45, r217_46, r217_49, r217_51, r217_53, r217_56, r217_58, r217_61, r217_63, r217_66, r217_68, r217_70, r217_73, r217_75, r217_78, r217_80, m216_0 _ h _ hK w, m216_1 _ h _ hK w, el, on_n, on_s, kdC, kdM, rpC, rpM, q_rs, q_rn, Option.toList_some, Option.toList_none, List.cons_append, List.nil_append, true_and, and_true, eq_self, ↓reduceIte, not_true_eq_false, not_false_eq_true, Nat.reduceEqDiff, Nat.reduceLeDiff, Nat.reduceLT, Nat.reduceAdd, Nat.reduceMul, Nat.reduceSub, false_or, or_false, true_or, or_true, false_and, and_false, reduceCtorEq, q_n0, q_n1, q_em, q_em2, q_b0, q_b1, Classical.not_not]
  | some l =>
    rw [el] at hl
    have hl' := hl l rfl
    cases eu : hip K x with
    | none => simp (disch := omega) only [e217, r217_0, r217_1, r217_2, r217_3, r217_6, r217_7, r217_8, r217_9, r217_10, r217_13, r217_15, r217_16, r217_17, r217_20, r217_22, r217_23, r217_26, r217_27, r217_28, r217_29, r217_30, r217_31, r217_34, r217_36, r217_37, r217_39, r217_40, r217_43, r217_45, r217_46, r217_49, r217_51, r217_53, r217_56, r217_58, r217_61, r217_63, r217_66, r217_68, r217_70, r217_73, r217_75, r217_78, r217_80, m216_0 _ h _ hK w, m216_1 _ h _ hK w, el, eu, on_n, on_s, kdC, kdM, rpC, rpM, q_rs, q_rn, Option.toList_some, Option.toList_none, List.cons_append, List.nil_append, true_and, and_true, eq_self, ↓reduceIte, not_true_eq_false, not_false_eq_true, Nat.reduceEqDiff, Nat.reduceLeDiff, Nat.reduceLT, Nat.reduceAdd, Nat.reduceMul, Nat.reduceSub, false_or, or_false, true_or, or_true, false_and, and_false, reduceCtorEq, q_n0, q_n1, q_em, q_em2, q_b0, q_b1, Classical.not_not, q_nm]
    | some u =>
      rw [eu] at hu
      have hu' := hu u rfl
      have g1 := fun F d => m214 d h F hK (show l < 12 by omega) (show 1 < 2 by omega)
      have g2 := fun F d => m214 d h F hK (show u < 12 by omega) (show 1 < 2 by omega)
      rcases hj with rfl | rfl
      · simp (disch := omega) only [e217, r217_0, r217_1, r217_2, r217_3, r217_6, r217_7, r217_8, r217_9, r217_10, r217_13, r217_15, r217_16, r217_17, r217_20, r217_22, r217_23, r217_26, r217_27, r217_28, r217_29, r217_30, r217_31, r217_34, r217_36, r217_37, r217_39, r217_40, r217_43, r217_45, r217_46, r217_49, r217_51, r217_53, r217_56, r217_58, r217_61, r217_63, r217_66, r217_68, r217_70, r217_73, r217_75, r217_78, r217_80, m216_0 _ h _ hK w, m216_1 _ h _ hK w, g1, g2, el, eu, on_n, on_s, kdC, kdM, rpC, rpM, q_rs, q_rn, Option.toList_some, Option.toList_none, List.cons_append, List.nil_append, true_and, and_true, eq_self, ↓reduceIte, not_true_eq_false, not_false_eq_true, Nat.reduceEqDiff, Nat.reduceLeDiff, Nat.reduceLT, Nat.reduceAdd, Nat.reduceMul, Nat.reduceSub, false_or, or_false, true_or, or_true, false_and, and_false, reduceCtorEq, q_n0, q_n1, q_em, q_em2, q_b0, q_b1, Classical.not_not, nI_add, pk_mul, nI_clamp, q_vp, nI_eq, nI_leI, nI_ltI, q_sub, q_nm, q_ifF]
        congr 3
        apply Int32.toInt_inj.mp
        simp only [mnI, Int32.lt_iff_toInt_lt, Int32.le_iff_toInt_le, apply_ite Int32.toInt]
        repeat' split
        all_goals omega
      · simp (disch := omega) only [e217, r217_0, r217_1, r217_2, r217_3, r217_6, r217_7, r217_8, r217_9, r217_10, r217_13, r217_15, r217_16, r217_17, r217_20, r217_22, r217_23, r217_26, r217_27, r217_28, r217_29, r217_30, r217_31, r217_34, r217_36, r217_37, r217_39, r217_40, r217_43, r217_45, r217_46, r217_49, r217_51, r217_53, r217_56, r217_58, r217_61, r217_63, r217_66, r217_68, r217_70, r217_73, r217_75, r217_78, r217_80, m216_0 _ h _ hK w, m216_1 _ h _ hK w, g1, g2, el, eu, on_n, on_s, kdC, kdM, rpC, rpM, q_rs, q_rn, Option.toList_some, Option.toList_none, List.cons_append, List.nil_append, true_and, and_true, eq_self, ↓reduceIte, not_true_eq_false, not_false_eq_true, Nat.reduceEqDiff, Nat.reduceLeDiff, Nat.reduceLT, Nat.reduceAdd, Nat.reduceMul, Nat.reduceSub, false_or, or_false, true_or, or_true, false_and, and_false, reduceCtorEq, q_n0, q_n1, q_em, q_em2, q_b0, q_b1, Classical.not_not, nI_add, pk_mul, nI_clamp, q_vp, nI_eq, nI_leI, nI_ltI, q_sub, q_nm, q_ifF]
        congr 3
        apply Int32.toInt_inj.mp
        simp only [mxI, Int32.lt_iff_toInt_lt, Int32.le_iff_toInt_le, apply_ite Int32.toInt]
        repeat' split
        all_goals omega
/-- beyond all points -/
theorem hip_no (w : WF K) {x : Int32} (hx : ¬ x ≤ nI 120) : hip K x = none := by
  unfold hip
  apply q_inv (J := fun _ b => b = none)
  · intro p b hp hb
    subst hb
    have h1 := (w.2.2.2.1 p hp).1
    unfold bhi
    rw [pif_f]
    rintro ⟨z, _⟩
    rw [Int32.le_iff_toInt_le, show (nI 120).toInt = 120 by decide] at hx
    rw [Int32.le_iff_toInt_le] at z
    unfold rg at h1
    omega
  · rfl
theorem lop_no (w : WF K) {x : Int32} (hx : ¬ -40 ≤ x) : lop K x = none := by
  unfold lop
  apply q_inv (J := fun _ b => b = none)
  · intro p b hp hb
    subst hb
    have h1 := (w.2.2.2.1 p hp).1
    unfold blo
    rw [pif_f]
    rintro ⟨z, _⟩
    rw [Int32.le_iff_toInt_le, show ((-40 : Int32)).toInt = -40 by decide] at hx
    rw [Int32.le_iff_toInt_le] at z
    unfold rg at h1
    omega
  · rfl
end PO
section PP
variable {n : Nat} {h : Hp}
theorem bsh_fr (h : Hp) (x y : Int32) : Fr h (bsh h x y) := ((Fr.refl h).sI _ rfl).sI _ rfl
theorem bsh_K (h : Hp) (x y : Int32) : gI (bsh h x y) 103 = gI h 103 := (bsh_fr h x y).K
theorem p_tenths (z : Inv n h) (a b : Int32) : PRI n h 102 218 [.int a, .int b] := by
  intro d
  have w := z.1.1
  have q := z.1.2.1
  by_cases hB : b = nI 0 ∨ b = nI 1
  · have hB2 : nI 0 ≤ b ∧ b ≤ nI 1 := by rw [q_flag]; exact hB
    obtain ⟨j, hj, rfl⟩ := q_ix2 (by omega) hB2.1 hB2.2
    have hj2 : j = 0 ∨ j = 1 := by omega
    have hc := fun (F : Po) (d : Nat) => cc8 d h F w q a
    have ht : ∀ h', tno (gI h' 103) a j = tno (gI h' 103) a j := fun _ => rfl
    by_cases hA : -40 ≤ a ∧ a ≤ nI 120
    · cases el : lop (gI h 103) a with
      | none =>
        have e3 : tno (gI h 103) a j = -1 := by unfold tno; rw [el]
        rw [el] at hc
        refine ⟨-1, h, h, fun F => ?_, fun F => ?_, Inv_fr (Fr.refl h) z⟩
        · simp (disch := omega) only [e102, r102_0, r102_1, r102_4, r102_7, r102_8, r102_11, r102_14, r102_15, r102_18, r102_21, r102_22, r102_23, r102_24, r102_27, r102_28, r102_31, r102_34, r102_37, r102_40, r102_41, r102_44, r102_47, r102_50, c126, hc, hB, kdC, kdM, rpC, rpM, q_rs, q_rn, Option.toList_some, Option.toList_none, List.cons_append, List.nil_append, true_and, and_true, eq_self, ↓reduceIte, not_true_eq_false, not_false_eq_true, Nat.reduceEqDiff, Nat.reduceLeDiff, Nat.reduceLT, Nat.reduceAdd, Nat.reduceMul, Nat.reduceSub, false_or, or_false, true_or, or_true, false_and, and_false, reduceCtorEq, q_n0, q_n1, q_em, q_em2, q_b0, q_b1, Classical.not_not]
        · simp (disch := omega) only [e218, r218_0, r218_1, r218_4, r218_7, r218_8, r218_9, r218_10, r218_13, r218_16, r218_17, r218_18, r218_19, r218_22, r218_25, r218_26, c151, c143, m217 _ h _ rfl w a hj2, e3, hA, hB2, kdC, kdM, rpC, rpM, q_rs, q_rn, Option.toList_some, Option.toList_none, List.cons_append, List.nil_append, true_and, and_true, eq_self, ↓reduceIte, not_true_eq_false, not_false_eq_true, Nat.reduceEqDiff, Nat.reduceLeDiff, Nat.reduceLT, Nat.reduceAdd, Nat.reduceMul, Nat.reduceSub, false_or, or_false, true_or, or_true, false_and, and_false, reduceCtorEq, q_n0, q_n1, q_em, q_em2, q_b0, q_b1, Classical.not_not]
      | some l =>
        cases eu : hip (gI h 103) a with
        | none =>
          have e3 : tno (gI h 103) a j = -1 := by unfold tno; rw [el, eu]
          rw [el, eu] at hc
          refine ⟨-1, h, h, fun F => ?_, fun F => ?_, Inv_fr (Fr.refl h) z⟩
          · simp (disch := omega) only [e102, r102_0, r102_1, r102_4, r102_7, r102_8, r102_11, r102_14, r102_15, r102_18, r102_21, r102_22, r102_23, r102_24, r102_27, r102_28, r102_31, r102_34, r102_37, r102_40, r102_41, r102_44, r102_47, r102_50, c126, hc, hB, kdC, kdM, rpC, rpM, q_rs, q_rn, Option.toList_some, Option.toList_none, List.cons_append, List.nil_append, true_and, and_true, eq_self, ↓reduceIte, not_true_eq_false, not_false_eq_true, Nat.reduceEqDiff, Nat.reduceLeDiff, Nat.reduceLT, Nat.reduceAdd, Nat.reduceMul, Nat.reduceSub, false_or, or_false, true_or, or_true, false_and, and_false, reduceCtorEq, q_n0, q_n1, q_em, q_em2, q_b0, q_b1, Classical.not_not]
          · simp (disch := omega) only [e218, r218_0, r218_1, r218_4, r218_7, r218_8, r218_9, r218_10, r218_13, r218_16, r218_17, r218_18, r218_19, r218_22, r218_25, r218_26, c151, c143, m217 _ h _ rfl w a hj2, e3, hA, hB2, kdC, kdM, rpC, rpM, q_rs, q_rn, Option.toList_some, Option.toList_none, List.cons_append, List.nil_append, true_and, and_true, eq_self, ↓reduceIte, not_true_eq_false, not_false_eq_true, Nat.reduceEqDiff, Nat.reduceLeDiff, Nat.reduceLT, Nat.reduceAdd, Nat.reduceMul, Nat.reduceSub, false_or, or_false, true_or, or_true, false_and, and_false, reduceCtorEq, q_n0, q_n1, q_em, q_em2, q_b0, q_b1, Classical.not_not]
        | some u =>
          have e3 : tno (gI h 103) a j = if j = 0 then mnI (gI h 103 (220 + 2 * l + 1)) (gI h 103 (220 + 2 * u + 1)) else mxI (gI h 103 (220 + 2 * l + 1)) (gI h 103 (220 + 2 * u + 1)) := by unfold tno; rw [el, eu]
          rw [el, eu] at hc
          have hK := bsh_K h (gI h 103 (220 + 2 * l + 1)) (gI h 103 (220 + 2 * u + 1))
          refine ⟨tno (gI h 103) a j, bsh h (gI h 103 (220 + 2 * l + 1)) (gI h 103 (220 + 2 * u + 1)), bsh h (gI h 103 (220 + 2 * l + 1)) (gI h 103 (220 + 2 * u + 1)), fun F => ?_, fun F => ?_, Inv_fr (bsh_fr _ _ _) z⟩
          · rw [e3]
            have b3 : gI (bsh h (gI h 103 (220 + 2 * l + 1)) (gI h 103 (220 + 2 * u + 1))) 8 3 = mnI (gI h 103 (220 + 2 * l + 1)) (gI h 103 (220 + 2 * u + 1)) := by unfold bsh; rw [q_gm (by omega), q_gs]
            have b4 : gI (bsh h (gI h 103 (220 + 2 * l + 1)) (gI h 103 (220 + 2 * u + 1))) 8 4 = mxI (gI h 103 (220 + 2 * l + 1)) (gI h 103 (220 + 2 * u + 1)) := by unfold bsh; rw [q_gs]
            rcases hj2 with rfl | rfl <;>
            simp (disch := omega) only [e102, r102_0, r102_1, r102_4, r102_7, r102_8, r102_11, r102_14, r102_15, r102_18, r102_21, r102_22, r102_23, r102_24, r102_27, r102_28, r102_31, r102_34, r102_37, r102_40, r102_41, r102_44, r102_47, r102_50, c126, hc, hB, kdC, kdM, rpC, rpM, q_rs, q_rn, Option.toList_some, Option.toList_none, List.cons_append, List.nil_append, true_and, and_true, eq_self, ↓reduceIte, not_true_eq_false, not_false_eq_true, Nat.reduceEqDiff, Nat.reduceLeDiff, Nat.reduceLT, Nat.reduceAdd, Nat.reduceMul, Nat.reduceSub, false_or, or_false, true_or, or_true, false_and, and_false, reduceCtorEq, q_n0, q_n1, q_em, q_em2, q_b0, q_b1, Classical.not_not, nI_add, pk_mul, nI_clamp, q_vp, nI_eq, nI_leI, nI_ltI, q_sub, b3, b4]
          · simp (disch := omega) only [e218, r218_0, r218_1, r218_4, r218_7, r218_8, r218_9, r218_10, r218_13, r218_16, r218_17, r218_18, r218_19, r218_22, r218_25, r218_26, c151, c143, m217 _ _ _ hK w a hj2, hA, hB2, kdC, kdM, rpC, rpM, q_rs, q_rn, Option.toList_some, Option.toList_none, List.cons_append, List.nil_append, true_and, and_true, eq_self, ↓reduceIte, not_true_eq_false, not_false_eq_true, Nat.reduceEqDiff, Nat.reduceLeDiff, Nat.reduceLT, Nat.reduceAdd, Nat.reduceMul, Nat.reduceSub, false_or, or_false, true_or, or_true, false_and, and_false, reduceCtorEq, q_n0, q_n1, q_em, q_em2, q_b0, q_b1, Classical.not_not]
    · have hno : lop (gI h 103) a = none ∨ hip (gI h 103) a = none := by
        by_cases h1 : -40 ≤ a
        · exact Or.inr (hip_no w (fun h2 => hA ⟨h1, h2⟩))
        · exact Or.inl (lop_no w h1)
      refine ⟨-1, h, h, fun F => ?_, fun F => ?_, Inv_fr (Fr.refl h) z⟩
      · rcases hno with e | e
        · rw [e] at hc
          simp (disch := omega) only [e102, r102_0, r102_1, r102_4, r102_7, r102_8, r102_11, r102_14, r102_15, r102_18, r102_21, r102_22, r102_23, r102_24, r102_27, r102_28, r102_31, r102_34, r102_37, r102_40, r102_41, r102_44, r102_47, r102_50, c126, hc, hB, kdC, kdM, rpC, rpM, q_rs, q_rn, Option.toList_some, Option.toList_none, List.cons_append, List.nil_append, true_and, and_true, eq_self, ↓reduceIte, not_true_eq_false, not_false_eq_true, Nat.reduceEqDiff, Nat.reduceLeDiff, Nat.reduceLT, Nat.reduceAdd, Nat.reduceMul, Nat.reduceSub, false_or, or_false, true_or, or_true, false_and, and_false, reduceCtorEq, q_n0, q_n1, q_em, q_em2, q_b0, q_b1, Classical.not_not]
        · have hc' : ∀ (F : Po) (d : Nat), cwp true d 8 [.ref 8, .int a] h F = F (some (.int (nI 0))) h := by
            intro F d
            rw [hc, e]
            cases lop (gI h 103) a <;> rfl
          simp (disch := omega) only [e102, r102_0, r102_1, r102_4, r102_7, r102_8, r102_11, r102_14, r102_15, r102_18, r102_21, r102_22, r102_23, r102_24, r102_27, r102_28, r102_31, r102_34, r102_37, r102_40, r102_41, r102_44, r102_47, r102_50, c126, hc', hB, kdC, kdM, rpC, rpM, q_rs, q_rn, Option.toList_some, Option.toList_none, List.cons_append, List.nil_append, true_and, and_true, eq_self, ↓reduceIte, not_true_eq_false, not_false_eq_true, Nat.reduceEqDiff, Nat.reduceLeDiff, Nat.reduceLT, Nat.reduceAdd, Nat.reduceMul, Nat.reduceSub, false_or, or_false, true_or, or_true, false_and, and_false, reduceCtorEq, q_n0, q_n1, q_em, q_em2, q_b0, q_b1, Classical.not_not]
      · simp (disch := omega) only [e218, r218_0, r218_1, r218_4, r218_7, r218_8, r218_9, r218_10, r218_13, r218_16, r218_17, r218_18, r218_19, r218_22, r218_25, r218_26, c151, hA, kdC, kdM, rpC, rpM, q_rs, q_rn, Option.toList_some, Option.toList_none, List.cons_append, List.nil_append, true_and, and_true, eq_self, ↓reduceIte, not_true_eq_false, not_false_eq_true, Nat.reduceEqDiff, Nat.reduceLeDiff, Nat.reduceLT, Nat.reduceAdd, Nat.reduceMul, Nat.reduceSub, false_or, or_false, true_or, or_true, false_and, and_false, reduceCtorEq, q_n0, q_n1, q_em, q_em2, q_b0, q_b1, Classical.not_not]
  · refine ⟨-1, h, h, fun F => ?_, fun F => ?_, Inv_fr (Fr.refl h) z⟩
    · simp (disch := omega) only [e102, r102_0, r102_1, r102_4, r102_7, r102_8, r102_11, r102_14, r102_15, r102_18, r102_21, r102_22, r102_23, r102_24, r102_27, r102_28, r102_31, r102_34, r102_37, r102_40, r102_41, r102_44, r102_47, r102_50, c126, hB, kdC, kdM, rpC, rpM, q_rs, q_rn, Option.toList_some, Option.toList_none, List.cons_append, List.nil_append, true_and, and_true, eq_self, ↓reduceIte, not_true_eq_false, not_false_eq_true, Nat.reduceEqDiff, Nat.reduceLeDiff, Nat.reduceLT, Nat.reduceAdd, Nat.reduceMul, Nat.reduceSub, false_or, or_false, true_or, or_true, false_and, and_false, reduceCtorEq, q_n0, q_n1, q_em, q_em2, q_b0, q_b1, Classical.not_not]
    · have hB2 : ¬ (nI 0 ≤ b ∧ b ≤ nI 1) := by rw [q_flag]; exact hB
      by_cases hA : -40 ≤ a ∧ a ≤ nI 120
      · simp (disch := omega) only [e218, r218_0, r218_1, r218_4, r218_7, r218_8, r218_9, r218_10, r218_13, r218_16, r218_17, r218_18, r218_19, r218_22, r218_25, r218_26, c151, c143, hA, hB2, kdC, kdM, rpC, rpM, q_rs, q_rn, Option.toList_some, Option.toList_none, List.cons_append, List.nil_append, true_and, and_true, eq_self, ↓reduceIte, not_true_eq_false, not_false_eq_true, Nat.reduceEqDiff, Nat.reduceLeDiff, Nat.reduceLT, Nat.reduceAdd, Nat.reduceMul, Nat.reduceSub, false_or, or_false, true_or, or_true, false_and, and_false, reduceCtorEq, q_n0, q_n1, q_em, q_em2, q_b0, q_b1, Classical.not_not]
      · simp (disch := omega) only [e218, r218_0, r218_1, r218_4, r218_7, r218_8, r218_9, r218_10, r218_13, r218_16, r218_17, r218_18, r218_19, r218_22, r218_25, r218_26, c151, c143, hA, hB2, kdC, kdM, rpC, rpM, q_rs, q_rn, Option.toList_some, Option.toList_none, List.cons_append, List.nil_append, true_and, and_true, eq_self, ↓reduceIte, not_true_eq_false, not_false_eq_true, Nat.reduceEqDiff, Nat.reduceLeDiff, Nat.reduceLT, Nat.reduceAdd, Nat.reduceMul, Nat.reduceSub, false_or, or_false, true_or, or_true, false_and, and_false, reduceCtorEq, q_n0, q_n1, q_em, q_em2, q_b0, q_b1, Classical.not_not]
theorem p_late (z : Inv n h) (a : Int32) : PRI n h 103 219 [.int a] := by
  intro d
  have w := z.1.1
  have q := z.1.2.1
  have hn := w.hnp
  by_cases hA : -40 ≤ a ∧ a ≤ nI 120
  · have hc := fun (F : Po) (d : Nat) => cc8 d h F w q a
    have hm := fun (h : Hp) (hK : gI h 103 = gI h 103) => hK
    cases el : lop (gI h 103) a with
    | none =>
      have e3 : ∀ j, tno (gI h 103) a j = -1 := fun j => by unfold tno; rw [el]
      rw [el] at hc
      refine ⟨nI 3, h, h, fun F => ?_, fun F => ?_, Inv_fr (Fr.refl h) z⟩
      · simp (disch := omega) only [e103, r103_0, r103_1, r103_4, r103_7, r103_8, r103_9, r103_10, r103_13, r103_16, r103_17, r103_20, r103_23, r103_24, r103_25, r103_26, r103_29, r103_32, r103_35, r103_36, r103_39, r103_42, r103_43, r103_44, r103_47, r103_48, r103_49, r103_50, r103_53, r103_56, r103_59, r103_60, r103_63, r103_66, r103_67, r103_68, r103_71, r103_72, r103_75, r103_76, c129, hc, hA, kdC, kdM, rpC, rpM, q_rs, q_rn, Option.toList_some, Option.toList_none, List.cons_append, List.nil_append, true_and, and_true, eq_self, ↓reduceIte, not_true_eq_false, not_false_eq_true, Nat.reduceEqDiff, Nat.reduceLeDiff, Nat.reduceLT, Nat.reduceAdd, Nat.reduceMul, Nat.reduceSub, false_or, or_false, true_or, or_true, false_and, and_false, reduceCtorEq, q_n0, q_n1, q_em, q_em2, q_b0, q_b1, Classical.not_not]
      · simp (disch := omega) only [e219, r219_0, r219_1, r219_4, r219_7, r219_8, r219_9, r219_10, r219_11, r219_12, r219_15, r219_16, r219_19, r219_20, r219_21, r219_22, r219_23, r219_24, r219_27, r219_28, r219_29, r219_32, r219_35, r219_36, r219_39, r219_40, r219_41, r219_42, r219_45, r219_46, r219_47, r219_50, r219_53, r219_54, r219_57, r219_58, c151, m217 _ h _ rfl w a (Or.inl rfl), e3, hA, kdC, kdM, rpC, rpM, q_rs, q_rn, Option.toList_some, Option.toList_none, List.cons_append, List.nil_append, true_and, and_true, eq_self, ↓reduceIte, not_true_eq_false, not_false_eq_true, Nat.reduceEqDiff, Nat.reduceLeDiff, Nat.reduceLT, Nat.reduceAdd, Nat.reduceMul, Nat.reduceSub, false_or, or_false, true_or, or_true, false_and, and_false, reduceCtorEq, q_n0, q_n1, q_em, q_em2, q_b0, q_b1, Classical.not_not]
    | some l =>
      cases eu : hip (gI h 103) a with
      | none =>
        have e3 : ∀ j, tno (gI h 103) a j = -1 := fun j => by unfold tno; rw [el, eu]
        rw [el, eu] at hc
        refine ⟨nI 3, h, h, fun F => ?_, fun F => ?_, Inv_fr (Fr.refl h) z⟩
        · simp (disch := omega) only [e103, r103_0, r103_1, r103_4, r103_7, r103_8, r103_9, r103_10, r103_13, r103_16, r103_17, r103_20, r103_23, r103_24, r103_25, r103_26, r103_29, r103_32, r103_35, r103_36, r103_39, r103_42, r103_43, r103_44, r103_47, r103_48, r103_49, r103_50, r103_53, r103_56, r103_59, r103_60, r103_63, r103_66, r103_67, r103_68, r103_71, r103_72, r103_75, r103_76, c129, hc, hA, kdC, kdM, rpC, rpM, q_rs, q_rn, Option.toList_some, Option.toList_none, List.cons_append, List.nil_append, true_and, and_true, eq_self, ↓reduceIte, not_true_eq_false, not_false_eq_true, Nat.reduceEqDiff, Nat.reduceLeDiff, Nat.reduceLT, Nat.reduceAdd, Nat.reduceMul, Nat.reduceSub, false_or, or_false, true_or, or_true, false_and, and_false, reduceCtorEq, q_n0, q_n1, q_em, q_em2, q_b0, q_b1, Classical.not_not]
        · simp (disch := omega) only [e219, r219_0, r219_1, r219_4, r219_7, r219_8, r219_9, r219_10, r219_11, r219_12, r219_15, r219_16, r219_19, r219_20, r219_21, r219_22, r219_23, r219_24, r219_27, r219_28, r219_29, r219_32, r219_35, r219_36, r219_39, r219_40, r219_41, r219_42, r219_45, r219_46, r219_47, r219_50, r219_53, r219_54, r219_57, r219_58, c151, m217 _ h _ rfl w a (Or.inl rfl), e3, hA, kdC, kdM, rpC, rpM, q_rs, q_rn, Option.toList_some, Option.toList_none, List.cons_append, List.nil_append, true_and, and_true, eq_self, ↓reduceIte, not_true_eq_false, not_false_eq_true, Nat.reduceEqDiff, Nat.reduceLeDiff, Nat.reduceLT, Nat.reduceAdd, Nat.reduceMul, Nat.reduceSub, false_or, or_false, true_or, or_true, false_and, and_false, reduceCtorEq, q_n0, q_n1, q_em, q_em2, q_b0, q_b1, Classical.not_not]
      | some u =>
        have hl' := lop_in (K := gI h 103) a l el
        have hu' := hip_in (K := gI h 103) a u eu
        have hrl := (w.2.2.2.1 l hl').2
        have hru := (w.2.2.2.1 u hu').2
        have e0 : tno (gI h 103) a 0 = mnI (gI h 103 (220 + 2 * l + 1)) (gI h 103 (220 + 2 * u + 1)) := by unfold tno; rw [el, eu]; rfl
        have e1 : tno (gI h 103) a 1 = mxI (gI h 103 (220 + 2 * l + 1)) (gI h 103 (220 + 2 * u + 1)) := by unfold tno; rw [el, eu]; rfl
        rw [el, eu] at hc
        replace hc : ∀ (F : Po) (d : Nat), cwp true d 8 [.ref 8, .int a] h F = F (some (.int (nI 1))) (bsh h (gI h 103 (220 + 2 * l + 1)) (gI h 103 (220 + 2 * u + 1))) := hc
        generalize hx : gI h 103 (220 + 2 * l + 1) = x at *
        generalize hy : gI h 103 (220 + 2 * u + 1) = y at *
        have hK := bsh_K h x y
        have b3 : gI (bsh h x y) 8 3 = mnI x y := by unfold bsh; rw [q_gm (by omega), q_gs]
        have b4 : gI (bsh h x y) 8 4 = mxI x y := by unfold bsh; rw [q_gs]
        have b5 : gI (bsh h x y) 24 0 = gI h 103 216 := by unfold bsh; rw [q_gn (by omega), q_gn (by omega), q.t (by omega)]
        have hne : ¬ mnI x y = -1 := by
          unfold rg at hrl hru
          unfold mnI
          rw [← Int32.toInt_inj, q_m1, apply_ite Int32.toInt]
          split <;> omega
        refine ⟨if mxI x y ≤ gI h 103 216 then nI 0 else if mnI x y ≤ gI h 103 216 then nI 1 else nI 2, bsh h x y, bsh h x y, fun F => ?_, fun F => ?_, Inv_fr (bsh_fr _ _ _) z⟩
        · by_cases c1 : mxI x y ≤ gI h 103 216 <;> by_cases c2 : mnI x y ≤ gI h 103 216 <;>
          simp (disch := omega) only [e103, r103_0, r103_1, r103_4, r103_7, r103_8, r103_9, r103_10, r103_13, r103_16, r103_17, r103_20, r103_23, r103_24, r103_25, r103_26, r103_29, r103_32, r103_35, r103_36, r103_39, r103_42, r103_43, r103_44, r103_47, r103_48, r103_49, r103_50, r103_53, r103_56, r103_59, r103_60, r103_63, r103_66, r103_67, r103_68, r103_71, r103_72, r103_75, r103_76, c129, hc, hA, kdC, kdM, rpC, rpM, q_rs, q_rn, Option.toList_some, Option.toList_none, List.cons_append, List.nil_append, true_and, and_true, eq_self, ↓reduceIte, not_true_eq_false, not_false_eq_true, Nat.reduceEqDiff, Nat.reduceLeDiff, Nat.reduceLT, Nat.reduceAdd, Nat.reduceMul, Nat.reduceSub, false_or, or_false, true_or, or_true, false_and, and_false, reduceCtorEq, q_n0, q_n1, q_em, q_em2, q_b0, q_b1, Classical.not_not, nI_add, pk_mul, nI_clamp, q_vp, nI_eq, nI_leI, nI_ltI, q_sub, b3, b4, b5, c1, c2, ← Int32.not_le]
        · by_cases c1 : mxI x y ≤ gI h 103 216 <;> by_cases c2 : mnI x y ≤ gI h 103 216 <;>
          simp (disch := omega) only [e219, r219_0, r219_1, r219_4, r219_7, r219_8, r219_9, r219_10, r219_11, r219_12, r219_15, r219_16, r219_19, r219_20, r219_21, r219_22, r219_23, r219_24, r219_27, r219_28, r219_29, r219_32, r219_35, r219_36, r219_39, r219_40, r219_41, r219_42, r219_45, r219_46, r219_47, r219_50, r219_53, r219_54, r219_57, r219_58, c151, m217 _ _ _ hK w a (Or.inl rfl), m217 _ _ _ hK w a (Or.inr rfl), c149 _ _ _ hK (show 0 < 4 by omega), hA, kdC, kdM, rpC, rpM, q_rs, q_rn, Option.toList_some, Option.toList_none, List.cons_append, List.nil_append, true_and, and_true, eq_self, ↓reduceIte, not_true_eq_false, not_false_eq_true, Nat.reduceEqDiff, Nat.reduceLeDiff, Nat.reduceLT, Nat.reduceAdd, Nat.reduceMul, Nat.reduceSub, false_or, or_false, true_or, or_true, false_and, and_false, reduceCtorEq, q_n0, q_n1, q_em, q_em2, q_b0, q_b1, Classical.not_not, nI_add, pk_mul, nI_clamp, q_vp, nI_eq, nI_leI, nI_ltI, q_sub, e0, e1, hne, c1, c2, ← Int32.not_le, Nat.add_zero]
  · refine ⟨-1, h, h, fun F => ?_, fun F => ?_, Inv_fr (Fr.refl h) z⟩
    · simp (disch := omega) only [e103, r103_0, r103_1, r103_4, r103_7, r103_8, r103_9, r103_10, r103_13, r103_16, r103_17, r103_20, r103_23, r103_24, r103_25, r103_26, r103_29, r103_32, r103_35, r103_36, r103_39, r103_42, r103_43, r103_44, r103_47, r103_48, r103_49, r103_50, r103_53, r103_56, r103_59, r103_60, r103_63, r103_66, r103_67, r103_68, r103_71, r103_72, r103_75, r103_76, c129, hA, kdC, kdM, rpC, rpM, q_rs, q_rn, Option.toList_some, Option.toList_none, List.cons_append, List.nil_append, true_and, and_true, eq_self, ↓reduceIte, not_true_eq_false, not_false_eq_true, Nat.reduceEqDiff, Nat.reduceLeDiff, Nat.reduceLT, Nat.reduceAdd, Nat.reduceMul, Nat.reduceSub, false_or, or_false, true_or, or_true, false_and, and_false, reduceCtorEq, q_n0, q_n1, q_em, q_em2, q_b0, q_b1, Classical.not_not]
    · simp (disch := omega) only [e219, r219_0, r219_1, r219_4, r219_7, r219_8, r219_9, r219_10, r219_11, r219_12, r219_15, r219_16, r219_19, r219_20, r219_21, r219_22, r219_23, r219_24, r219_27, r219_28, r219_29, r219_32, r219_35, r219_36, r219_39, r219_40, r219_41, r219_42, r219_45, r219_46, r219_47, r219_50, r219_53, r219_54, r219_57, r219_58, c151, hA, kdC, kdM, rpC, rpM, q_rs, q_rn, Option.toList_some, Option.toList_none, List.cons_append, List.nil_append, true_and, and_true, eq_self, ↓reduceIte, not_true_eq_false, not_false_eq_true, Nat.reduceEqDiff, Nat.reduceLeDiff, Nat.reduceLT, Nat.reduceAdd, Nat.reduceMul, Nat.reduceSub, false_or, or_false, true_or, or_true, false_and, and_false, reduceCtorEq, q_n0, q_n1, q_em, q_em2, q_b0, q_b1, Classical.not_not]
/-- a point more, or another -/
theorem point_S {K K' : Nat → Int32} {h' : Hp} (z : STS h 0 K) (x : Mu h h') {p N : Nat} (hp : p < 12) (hp2 : p ≤ np K) (hN : N = if p = np K then np K + 1 else np K) {v y : Int32} (hv : rg v (-40) 120) (hy : rg y 0 600) (g8 : gI h' 8 2 = nI N) (g9 : gI h' 9 = upd (gI h 9) p v) (g10 : gI h' 10 = upd (gI h 10) p y) (hg : ∀ c, 2 ≤ c → c ≤ 25 → c ≠ 8 → c ≠ 9 → c ≠ 10 → gI h' c = gI h c) (hq : gP h' = gP h)
    (hk : ∀ i, i ≠ 377 → i ≠ 220 + 2 * p → i ≠ 220 + 2 * p + 1 → K' i = K i) (k1 : K' 377 = nI N) (k2 : K' (220 + 2 * p) = v) (k3 : K' (220 + 2 * p + 1) = y) : STS h' 0 K' := by
  have w := z.1
  have h1 := w.hnp
  obtain ⟨pf, pc, pp, pt, ps, px⟩ := STS_iff.mp z
  refine STS_iff.mpr ⟨PF_cg (fun c i h1 h2 => by rw [hg c (by omega) (by omega) (by omega) (by omega) (by omega)]) (fun i h1 => hk i (by omega) (by omega) (by omega)) pf, PC_cg (fun i => by rw [hg 24 (by omega) (by omega) (by omega) (by omega) (by omega)]) (fun i h1 h2 => hk i (by omega) (by omega) (by omega)) pc, ?_, PT_cg (by rw [hg 11 (by omega) (by omega) (by omega) (by omega) (by omega)]) (fun c i h1 h2 => by rw [hg c (by omega) (by omega) (by omega) (by omega) (by omega)]) (fun i h1 => hk i (by omega) (by omega) (by omega)) pt, PS_cg (by rw [hg 11 (by omega) (by omega) (by omega) (by omega) (by omega)]) (fun c i h1 h2 => by rw [hg c (by omega) (by omega) (by omega) (by omega) (by omega)]) (fun i h1 => hk i (by omega) (by omega) (by omega)) (by unfold nt; rw [hk 378 (by omega) (by omega) (by omega)]; exact Nat.le_refl _) ps, PX_cg (by rw [hg 2 (by omega) (by omega) (by omega) (by omega) (by omega)]) (fun t => by rw [hq]) (fun a T => tAt_mu x) (fun i h1 => hk i (by omega) (by omega) (by omega)) px⟩
  obtain ⟨⟨a1, b1⟩, d1, e1, e2⟩ := pp
  have hN2 : N ≤ 12 := by
    rw [hN]
    split <;> omega
  have hnn : np K' = N := by unfold np; rw [k1, nI_clamp (by omega)]
  refine ⟨⟨?_, ?_⟩, by rw [g8, k1], ?_, ?_⟩
  · rw [k1]
    unfold rg
    rw [nI_toInt (by omega)]
    omega
  · intro i hi
    rw [hnn] at hi
    by_cases e : i = p
    · subst e
      rw [k2, k3]
      exact ⟨hv, hy⟩
    · have hi2 : i < np K := by
        rw [hN] at hi
        split at hi <;> omega
      rw [hk _ (by omega) (by omega) (by omega), hk (220 + 2 * i + 1) (by omega) (by omega) (by omega)]
      exact b1 i hi2
  · intro i hi
    rw [g9]
    unfold upd
    by_cases e : i = p
    · subst e
      rw [if_pos rfl, k2]
    · rw [if_neg e, hk _ (by omega) (by omega) (by omega)]
      exact e1 i hi
  · intro i hi
    rw [g10]
    unfold upd
    by_cases e : i = p
    · subst e
      rw [if_pos rfl, show 221 + 2 * i = 220 + 2 * i + 1 by omega, k3]
    · rw [if_neg e, hk _ (by omega) (by omega) (by omega)]
      exact e2 i hi
theorem ml215 (d : Nat) (h : Hp) (F : Po) {K : Nat → Int32} (hK : gI h 103 = K) (w : WF K) (x y : Int32) : ∀ k p, p + k = np K → wp true (d + 1) 215 26 [.ref 101, .int x, .int y, .int (nI p)] [] h F = wp true (d + 1) 215 50 [.ref 101, .int x, .int y, .int (nI (q_fd (fun p => K (220 + 2 * p) = x) k p))] [] h F
  | 0, p, e => by
    have h1 := w.hnp
    rw [r215_26]
    simp (disch := omega) only [r215_27, r215_28, r215_31, m213 _ h _ hK w, kdC, kdM, rpC, rpM, q_rs, q_rn, Option.toList_some, Option.toList_none, List.cons_append, List.nil_append, true_and, and_true, eq_self, ↓reduceIte, not_true_eq_false, not_false_eq_true, Nat.reduceEqDiff, Nat.reduceLeDiff, Nat.reduceLT, Nat.reduceAdd, Nat.reduceMul, Nat.reduceSub, false_or, or_false, true_or, or_true, false_and, and_false, reduceCtorEq, q_n0, q_n1, q_em, q_em2, q_b0, q_b1, Classical.not_not, nI_add, pk_mul, nI_clamp, q_vp, nI_eq, nI_leI, nI_ltI, q_sub, show p = np K from e, Nat.le_refl, q_fd]
  | k + 1, p, e => by
    have h1 := w.hnp
    have g0 := fun F d => m214 d h F hK (show p < 12 by omega) (show 0 < 2 by omega)
    rw [r215_26]
    unfold q_fd
    by_cases e1 : K (220 + 2 * p) = x
    · simp (disch := omega) only [r215_27, r215_28, r215_31, r215_34, r215_35, r215_36, r215_37, r215_40, r215_41, r215_44, r215_47, m213 _ h _ hK w, g0, kdC, kdM, rpC, rpM, q_rs, q_rn, Option.toList_some, Option.toList_none, List.cons_append, List.nil_append, true_and, and_true, eq_self, ↓reduceIte, not_true_eq_false, not_false_eq_true, Nat.reduceEqDiff, Nat.reduceLeDiff, Nat.reduceLT, Nat.reduceAdd, Nat.reduceMul, Nat.reduceSub, false_or, or_false, true_or, or_true, false_and, and_false, reduceCtorEq, q_n0, q_n1, q_em, q_em2, q_b0, q_b1, Classical.not_not, nI_add, pk_mul, nI_clamp, q_vp, nI_eq, nI_leI, nI_ltI, q_sub, show ¬ np K ≤ p by omega, e1, pif_T, Nat.add_zero]
    · rw [pif_f e1]
      simp (disch := omega) only [r215_27, r215_28, r215_31, r215_34, r215_35, r215_36, r215_37, r215_40, r215_41, r215_44, r215_47, m213 _ h _ hK w, g0, kdC, kdM, rpC, rpM, q_rs, q_rn, Option.toList_some, Option.toList_none, List.cons_append, List.nil_append, true_and, and_true, eq_self, ↓reduceIte, not_true_eq_false, not_false_eq_true, Nat.reduceEqDiff, Nat.reduceLeDiff, Nat.reduceLT, Nat.reduceAdd, Nat.reduceMul, Nat.reduceSub, false_or, or_false, true_or, or_true, false_and, and_false, reduceCtorEq, q_n0, q_n1, q_em, q_em2, q_b0, q_b1, Classical.not_not, nI_add, pk_mul, nI_clamp, q_vp, nI_eq, nI_leI, nI_ltI, q_sub, show ¬ np K ≤ p by omega, e1, Nat.add_zero]
      exact ml215 d h F hK w x y k (p + 1) (by omega)
theorem p_point (z : Inv n h) (a b : Int32) : PRI n h 101 215 [.int a, .int b] := by
  intro d
  have w := z.1.1
  have q := z.1.2.1
  have hn := w.hnp
  have hr5 := q_rfK (h := h) (-5) 3
  by_cases hA : -40 ≤ a ∧ a ≤ nI 120
  · by_cases hB : nI 0 ≤ b ∧ b ≤ nI 600
    · have hc := fun (F : Po) (d : Nat) => cc7 d h F w q a b
      have hpl := pnt_le (gI h 103) a
      by_cases h12 : pnt (gI h 103) a = 12
      · have hm := fun (F : Po) (d : Nat) => ml215 d _ F hr5 w a b (np (gI h 103)) 0 (by omega)
        rw [show q_fd (fun p => gI h 103 (220 + 2 * p) = a) (np (gI h 103)) 0 = 12 from h12] at hm
        refine ⟨-5, rfc h (-5) 3, rfm (rfc h (-5) 3) (-5) 5, fun F => ?_, fun F => ?_, Inv_rf z (by omega)⟩
        · simp (disch := omega) only [e101, r101_0, r101_1, r101_4, r101_7, r101_8, r101_9, r101_12, r101_15, r101_18, r101_19, r101_20, r101_23, r101_24, r101_25, r101_28, r101_31, r101_32, r101_33, r101_36, r101_39, r101_40, r101_42, r101_45, r101_46, r101_47, r101_48, r101_51, r101_54, r101_57, r101_60, c129, c125, c133_5, hc, h12, hA, hB, kdC, kdM, rpC, rpM, q_rs, q_rn, Option.toList_some, Option.toList_none, List.cons_append, List.nil_append, true_and, and_true, eq_self, ↓reduceIte, not_true_eq_false, not_false_eq_true, Nat.reduceEqDiff, Nat.reduceLeDiff, Nat.reduceLT, Nat.reduceAdd, Nat.reduceMul, Nat.reduceSub, false_or, or_false, true_or, or_true, false_and, and_false, reduceCtorEq, q_n0, q_n1, q_em, q_em2, q_b0, q_b1, Classical.not_not, nI_add, pk_mul, nI_clamp, q_vp, nI_eq, nI_leI, nI_ltI, q_sub]
        · simp (disch := omega) only [e215, r215_0, r215_1, r215_4, r215_7, r215_8, r215_9, r215_12, r215_15, r215_18, r215_19, r215_20, r215_23, r215_24, r215_25, r215_27, r215_28, r215_31, r215_34, r215_35, r215_36, r215_37, r215_40, r215_41, r215_44, r215_47, r215_50, r215_51, r215_53, r215_56, r215_57, r215_59, r215_62, r215_63, r215_64, r215_67, r215_70, r215_71, r215_72, r215_73, r215_74, r215_75, r215_76, r215_77, r215_80, r215_83, r215_84, r215_85, r215_86, r215_87, r215_88, r215_89, r215_90, r215_91, r215_92, r215_93, r215_96, r215_99, r215_100, r215_103, r215_106, r215_107, r215_108, r215_109, r215_110, r215_111, r215_112, r215_113, r215_116, r215_119, c151, c143, hm, m144_5, hA, hB, kdC, kdM, rpC, rpM, q_rs, q_rn, Option.toList_some, Option.toList_none, List.cons_append, List.nil_append, true_and, and_true, eq_self, ↓reduceIte, not_true_eq_false, not_false_eq_true, Nat.reduceEqDiff, Nat.reduceLeDiff, Nat.reduceLT, Nat.reduceAdd, Nat.reduceMul, Nat.reduceSub, false_or, or_false, true_or, or_true, false_and, and_false, reduceCtorEq, q_n0, q_n1, q_em, q_em2, q_b0, q_b1, Classical.not_not, nI_add, pk_mul, nI_clamp, q_vp, nI_eq, nI_leI, nI_ltI, q_sub]
      · have hp : pnt (gI h 103) a < 12 := by omega
        have hK : gI (grt (puh h (np (gI h 103)) (pnt (gI h 103) a) a b)) 103 = gI h 103 := by
          rw [grt_K]
          unfold puh
          rw [q_gn (by omega), q_gn (by omega), q_gn (by omega)]
        have hm := fun (F : Po) (d : Nat) => ml215 d _ F hK w a b (np (gI h 103)) 0 (by omega)
        have hpp : q_fd (fun p => gI h 103 (220 + 2 * p) = a) (np (gI h 103)) 0 = pnt (gI h 103) a := rfl
        rw [hpp] at hm
        generalize pnt (gI h 103) a = p at *
        have g82 : gI (puh h (np (gI h 103)) p a b) 8 2 = nI (if p = np (gI h 103) then np (gI h 103) + 1 else np (gI h 103)) := by unfold puh; rw [q_gs]
        by_cases e : p = np (gI h 103)
        · rw [if_pos e] at g82
          have hK2 : gI (sI (sI (sI (grt (puh h (np (gI h 103)) p a b)) 103 (220 + 2 * p) a) 103 (220 + 2 * p + 1) b) 103 377 (nI (np (gI h 103) + 1))) 103 377 = nI (np (gI h 103) + 1) := q_gs _ _ _ _
          have hS : STS (sI (sI (sI (puh h (np (gI h 103)) p a b) 103 (220 + 2 * p) a) 103 (220 + 2 * p + 1) b) 103 377 (nI (np (gI h 103) + 1))) 0 (gI (sI (sI (sI (puh h (np (gI h 103)) p a b) 103 (220 + 2 * p) a) 103 (220 + 2 * p + 1) b) 103 377 (nI (np (gI h 103) + 1))) 103) := by
            refine point_S (p := p) z.1 ?_ hp hpl rfl (rg_of hA (by decide) (by decide)) (rg_of hB (by decide) (by decide)) ?_ ?_ ?_ ?_ ?_ ?_ ?_ ?_ ?_
            · unfold puh
              iterate 6 refine FrS.sI ?_ _ rfl
              exact FrS.refl h
            · rw [q_gn (by omega), q_gn (by omega), q_gn (by omega), g82, if_pos e]
            · unfold puh; rw [q_gn (by omega), q_gn (by omega), q_gn (by omega), q_gn (by omega), q_gn (by omega), q_gsu]
            · unfold puh; rw [q_gn (by omega), q_gn (by omega), q_gn (by omega), q_gn (by omega), q_gsu, q_gn (by omega)]
            · intro c h1 h2 h3 h4 h5
              unfold puh; rw [q_gn (by omega), q_gn (by omega), q_gn (by omega), q_gn h3, q_gn h5, q_gn h4]
            · unfold puh; simp only [q_gPI]
            · intro i h1 h2 h3
              unfold puh; rw [q_gm h1, q_gm h3, q_gm h2, q_gn (by omega), q_gn (by omega), q_gn (by omega)]
            · rw [q_gs, if_pos e]
            · rw [q_gm (by omega), q_gm (by omega), q_gs]
            · rw [q_gm (by omega), q_gs]
          have w2 := hS.1
          refine ⟨nI (np (gI h 103) + 1), grt (puh h (np (gI h 103)) p a b), sI (sI (sI (sI (grt (puh h (np (gI h 103)) p a b)) 103 (220 + 2 * p) a) 103 (220 + 2 * p + 1) b) 103 377 (nI (np (gI h 103) + 1))) 101 0 (nI 0), fun F => ?_, fun F => ?_, ?_⟩
          · simp (disch := omega) only [e101, r101_0, r101_1, r101_4, r101_7, r101_8, r101_9, r101_12, r101_15, r101_18, r101_19, r101_20, r101_23, r101_24, r101_25, r101_28, r101_31, r101_32, r101_33, r101_36, r101_39, r101_40, r101_42, r101_45, r101_46, r101_47, r101_48, r101_51, r101_54, r101_57, r101_60, c129, c125, c135, hc, h12, hA, hB, kdC, kdM, rpC, rpM, q_rs, q_rn, Option.toList_some, Option.toList_none, List.cons_append, List.nil_append, true_and, and_true, eq_self, ↓reduceIte, not_true_eq_false, not_false_eq_true, Nat.reduceEqDiff, Nat.reduceLeDiff, Nat.reduceLT, Nat.reduceAdd, Nat.reduceMul, Nat.reduceSub, false_or, or_false, true_or, or_true, false_and, and_false, reduceCtorEq, q_n0, q_n1, q_em, q_em2, q_b0, q_b1, Classical.not_not, nI_add, pk_mul, nI_clamp, q_vp, nI_eq, nI_leI, nI_ltI, q_sub, g82]
          · have h377 : gI (grt (puh h (np (gI h 103)) p a b)) 103 377 = nI (np (gI h 103)) := by rw [hK]; exact hn.1
            simp (disch := omega) only [e215, r215_0, r215_1, r215_4, r215_7, r215_8, r215_9, r215_12, r215_15, r215_18, r215_19, r215_20, r215_23, r215_24, r215_25, r215_27, r215_28, r215_31, r215_34, r215_35, r215_36, r215_37, r215_40, r215_41, r215_44, r215_47, r215_50, r215_51, r215_53, r215_56, r215_57, r215_59, r215_62, r215_63, r215_64, r215_67, r215_70, r215_71, r215_72, r215_73, r215_74, r215_75, r215_76, r215_77, r215_80, r215_83, r215_84, r215_85, r215_86, r215_87, r215_88, r215_89, r215_90, r215_91, r215_92, r215_93, r215_96, r215_99, r215_100, r215_103, r215_106, r215_107, r215_108, r215_109, r215_110, r215_111, r215_112, r215_113, r215_116, r215_119, e213, r213_0, r213_1, r213_4, r213_7, r213_8, c151, c143, hm, c145, hA, hB, h12, kdC, kdM, rpC, rpM, q_rs, q_rn, Option.toList_some, Option.toList_none, List.cons_append, List.nil_append, true_and, and_true, eq_self, ↓reduceIte, not_true_eq_false, not_false_eq_true, Nat.reduceEqDiff, Nat.reduceLeDiff, Nat.reduceLT, Nat.reduceAdd, Nat.reduceMul, Nat.reduceSub, false_or, or_false, true_or, or_true, false_and, and_false, reduceCtorEq, q_n0, q_n1, q_em, q_em2, q_b0, q_b1, Classical.not_not, nI_add, pk_mul, nI_clamp, q_vp, nI_eq, nI_leI, nI_ltI, q_sub, q_gs, q_gn, q_gm, q_gIJ, q_gIP, q_gJI, q_gJA, q_gJP, q_gPI, q_gPA, q_gPJ, q_ga, q_gan, q_js, q_jn, q_jm, q_ps, q_pn, q_pm, h377, hK2, eq_true e, show 220 + 2 * p < 8391 by omega, show 220 + 2 * p + 1 < 8391 by omega]
          · rw [q_grc (by omega), q_grc (by omega), q_grc (by omega)]
            refine Inv_gr2 z ?_ hS ?_
            · unfold puh
              iterate 6 refine FrS.sI ?_ _ rfl
              exact FrS.refl h
            · intro c hc
              unfold puh; rw [q_gn (by omega), q_gn (by omega), q_gn (by omega), q_gn (by omega), q_gn (by omega), q_gn (by omega)]
        · rw [if_neg e] at g82
          have hS : STS (sI (sI (puh h (np (gI h 103)) p a b) 103 (220 + 2 * p) a) 103 (220 + 2 * p + 1) b) 0 (gI (sI (sI (puh h (np (gI h 103)) p a b) 103 (220 + 2 * p) a) 103 (220 + 2 * p + 1) b) 103) := by
            refine point_S (p := p) z.1 ?_ hp hpl rfl (rg_of hA (by decide) (by decide)) (rg_of hB (by decide) (by decide)) ?_ ?_ ?_ ?_ ?_ ?_ ?_ ?_ ?_
            · unfold puh
              iterate 5 refine FrS.sI ?_ _ rfl
              exact FrS.refl h
            · rw [q_gn (by omega), q_gn (by omega), g82, if_neg e]
            · unfold puh; rw [q_gn (by omega), q_gn (by omega), q_gn (by omega), q_gn (by omega), q_gsu]
            · unfold puh; rw [q_gn (by omega), q_gn (by omega), q_gn (by omega), q_gsu, q_gn (by omega)]
            · intro c h1 h2 h3 h4 h5
              unfold puh; rw [q_gn (by omega), q_gn (by omega), q_gn h3, q_gn h5, q_gn h4]
            · unfold puh; simp only [q_gPI]
            · intro i h1 h2 h3
              unfold puh; rw [q_gm h3, q_gm h2, q_gn (by omega), q_gn (by omega), q_gn (by omega)]
            · unfold puh; rw [q_gm (by omega), q_gm (by omega), q_gn (by omega), q_gn (by omega), q_gn (by omega), if_neg e]; exact hn.1
            · rw [q_gm (by omega), q_gs]
            · rw [q_gs]
          refine ⟨nI (np (gI h 103)), grt (puh h (np (gI h 103)) p a b), sI (sI (sI (grt (puh h (np (gI h 103)) p a b)) 103 (220 + 2 * p) a) 103 (220 + 2 * p + 1) b) 101 0 (nI 0), fun F => ?_, fun F => ?_, ?_⟩
          · simp (disch := omega) only [e101, r101_0, r101_1, r101_4, r101_7, r101_8, r101_9, r101_12, r101_15, r101_18, r101_19, r101_20, r101_23, r101_24, r101_25, r101_28, r101_31, r101_32, r101_33, r101_36, r101_39, r101_40, r101_42, r101_45, r101_46, r101_47, r101_48, r101_51, r101_54, r101_57, r101_60, c129, c125, c135, hc, h12, hA, hB, kdC, kdM, rpC, rpM, q_rs, q_rn, Option.toList_some, Option.toList_none, List.cons_append, List.nil_append, true_and, and_true, eq_self, ↓reduceIte, not_true_eq_false, not_false_eq_true, Nat.reduceEqDiff, Nat.reduceLeDiff, Nat.reduceLT, Nat.reduceAdd, Nat.reduceMul, Nat.reduceSub, false_or, or_false, true_or, or_true, false_and, and_false, reduceCtorEq, q_n0, q_n1, q_em, q_em2, q_b0, q_b1, Classical.not_not, nI_add, pk_mul, nI_clamp, q_vp, nI_eq, nI_leI, nI_ltI, q_sub, g82]
          · have h377 : gI (grt (puh h (np (gI h 103)) p a b)) 103 377 = nI (np (gI h 103)) := by rw [hK]; exact hn.1
            simp (disch := omega) only [e215, r215_0, r215_1, r215_4, r215_7, r215_8, r215_9, r215_12, r215_15, r215_18, r215_19, r215_20, r215_23, r215_24, r215_25, r215_27, r215_28, r215_31, r215_34, r215_35, r215_36, r215_37, r215_40, r215_41, r215_44, r215_47, r215_50, r215_51, r215_53, r215_56, r215_57, r215_59, r215_62, r215_63, r215_64, r215_67, r215_70, r215_71, r215_72, r215_73, r215_74, r215_75, r215_76, r215_77, r215_80, r215_83, r215_84, r215_85, r215_86, r215_87, r215_88, r215_89, r215_90, r215_91, r215_92, r215_93, r215_96, r215_99, r215_100, r215_103, r215_106, r215_107, r215_108, r215_109, r215_110, r215_111, r215_112, r215_113, r215_116, r215_119, e213, r213_0, r213_1, r213_4, r213_7, r213_8, c151, c143, hm, c145, hA, hB, h12, kdC, kdM, rpC, rpM, q_rs, q_rn, Option.toList_some, Option.toList_none, List.cons_append, List.nil_append, true_and, and_true, eq_self, ↓reduceIte, not_true_eq_false, not_false_eq_true, Nat.reduceEqDiff, Nat.reduceLeDiff, Nat.reduceLT, Nat.reduceAdd, Nat.reduceMul, Nat.reduceSub, false_or, or_false, true_or, or_true, false_and, and_false, reduceCtorEq, q_n0, q_n1, q_em, q_em2, q_b0, q_b1, Classical.not_not, nI_add, pk_mul, nI_clamp, q_vp, nI_eq, nI_leI, nI_ltI, q_sub, q_gs, q_gn, q_gm, q_gIJ, q_gIP, q_gJI, q_gJA, q_gJP, q_gPI, q_gPA, q_gPJ, q_ga, q_gan, q_js, q_jn, q_jm, q_ps, q_pn, q_pm, h377, e, show 220 + 2 * p < 8391 by omega, show 220 + 2 * p + 1 < 8391 by omega]
          · rw [q_grc (by omega), q_grc (by omega)]
            refine Inv_gr2 z ?_ hS ?_
            · unfold puh
              iterate 5 refine FrS.sI ?_ _ rfl
              exact FrS.refl h
            · intro c hc
              unfold puh; rw [q_gn (by omega), q_gn (by omega), q_gn (by omega), q_gn (by omega), q_gn (by omega)]
    · refine ⟨-1, rfc h (-1) 0, rfm (rfc h (-1) 0) (-1) 1, fun F => ?_, fun F => ?_, Inv_rf z (by omega)⟩
      · simp (disch := omega) only [e101, r101_0, r101_1, r101_4, r101_7, r101_8, r101_9, r101_12, r101_15, r101_18, r101_19, r101_20, r101_23, r101_24, r101_25, r101_28, r101_31, r101_32, r101_33, r101_36, r101_39, r101_40, r101_42, r101_45, r101_46, r101_47, r101_48, r101_51, r101_54, r101_57, r101_60, c129, c125, c133_1, hA, hB, kdC, kdM, rpC, rpM, q_rs, q_rn, Option.toList_some, Option.toList_none, List.cons_append, List.nil_append, true_and, and_true, eq_self, ↓reduceIte, not_true_eq_false, not_false_eq_true, Nat.reduceEqDiff, Nat.reduceLeDiff, Nat.reduceLT, Nat.reduceAdd, Nat.reduceMul, Nat.reduceSub, false_or, or_false, true_or, or_true, false_and, and_false, reduceCtorEq, q_n0, q_n1, q_em, q_em2, q_b0, q_b1, Classical.not_not, nI_add, pk_mul, nI_clamp, q_vp, nI_eq, nI_leI, nI_ltI, q_sub]
      · simp (disch := omega) only [e215, r215_0, r215_1, r215_4, r215_7, r215_8, r215_9, r215_12, r215_15, r215_18, r215_19, r215_20, r215_23, r215_24, r215_25, r215_27, r215_28, r215_31, r215_34, r215_35, r215_36, r215_37, r215_40, r215_41, r215_44, r215_47, r215_50, r215_51, r215_53, r215_56, r215_57, r215_59, r215_62, r215_63, r215_64, r215_67, r215_70, r215_71, r215_72, r215_73, r215_74, r215_75, r215_76, r215_77, r215_80, r215_83, r215_84, r215_85, r215_86, r215_87, r215_88, r215_89, r215_90, r215_91, r215_92, r215_93, r215_96, r215_99, r215_100, r215_103, r215_106, r215_107, r215_108, r215_109, r215_110, r215_111, r215_112, r215_113, r215_116, r215_119, c151, c143, m144_1, hA, hB, kdC, kdM, rpC, rpM, q_rs, q_rn, Option.toList_some, Option.toList_none, List.cons_append, List.nil_append, true_and, and_true, eq_self, ↓reduceIte, not_true_eq_false, not_false_eq_true, Nat.reduceEqDiff, Nat.reduceLeDiff, Nat.reduceLT, Nat.reduceAdd, Nat.reduceMul, Nat.reduceSub, false_or, or_false, true_or, or_true, false_and, and_false, reduceCtorEq, q_n0, q_n1, q_em, q_em2, q_b0, q_b1, Classical.not_not, nI_add, pk_mul, nI_clamp, q_vp, nI_eq, nI_leI, nI_ltI, q_sub]
  · refine ⟨-1, rfc h (-1) 0, rfm (rfc h (-1) 0) (-1) 1, fun F => ?_, fun F => ?_, Inv_rf z (by omega)⟩
    · simp (disch := omega) only [e101, r101_0, r101_1, r101_4, r101_7, r101_8, r101_9, r101_12, r101_15, r101_18, r101_19, r101_20, r101_23, r101_24, r101_25, r101_28, r101_31, r101_32, r101_33, r101_36, r101_39, r101_40, r101_42, r101_45, r101_46, r101_47, r101_48, r101_51, r101_54, r101_57, r101_60, c129, c133_1, hA, kdC, kdM, rpC, rpM, q_rs, q_rn, Option.toList_some, Option.toList_none, List.cons_append, List.nil_append, true_and, and_true, eq_self, ↓reduceIte, not_true_eq_false, not_false_eq_true, Nat.reduceEqDiff, Nat.reduceLeDiff, Nat.reduceLT, Nat.reduceAdd, Nat.reduceMul, Nat.reduceSub, false_or, or_false, true_or, or_true, false_and, and_false, reduceCtorEq, q_n0, q_n1, q_em, q_em2, q_b0, q_b1, Classical.not_not, nI_add, pk_mul, nI_clamp, q_vp, nI_eq, nI_leI, nI_ltI, q_sub]
    · simp (disch := omega) only [e215, r215_0, r215_1, r215_4, r215_7, r215_8, r215_9, r215_12, r215_15, r215_18, r215_19, r215_20, r215_23, r215_24, r215_25, r215_27, r215_28, r215_31, r215_34, r215_35, r215_36, r215_37, r215_40, r215_41, r215_44, r215_47, r215_50, r215_51, r215_53, r215_56, r215_57, r215_59, r215_62, r215_63, r215_64, r215_67, r215_70, r215_71, r215_72, r215_73, r215_74, r215_75, r215_76, r215_77, r215_80, r215_83, r215_84, r215_85, r215_86, r215_87, r215_88, r215_89, r215_90, r215_91, r215_92, r215_93, r215_96, r215_99, r215_100, r215_103, r215_106, r215_107, r215_108, r215_109, r215_110, r215_111, r215_112, r215_113, r215_116, r215_119, c151, m144_1, hA, kdC, kdM, rpC, rpM, q_rs, q_rn, Option.toList_some, Option.toList_none, List.cons_append, List.nil_append, true_and, and_true, eq_self, ↓reduceIte, not_true_eq_false, not_false_eq_true, Nat.reduceEqDiff, Nat.reduceLeDiff, Nat.reduceLT, Nat.reduceAdd, Nat.reduceMul, Nat.reduceSub, false_or, or_false, true_or, or_true, false_and, and_false, reduceCtorEq, q_n0, q_n1, q_em, q_em2, q_b0, q_b1, Classical.not_not, nI_add, pk_mul, nI_clamp, q_vp, nI_eq, nI_leI, nI_ltI, q_sub]
end PP
