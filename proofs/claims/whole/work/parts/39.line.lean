/-! line, slip, beyond, held -/
section LN
variable (d : Nat) (h : Hp) (F : Po) {K : Nat → Int32}
theorem lin_s (K : Nat → Int32) (f : Nat) : lin K (f + 1) = if lin K f < wst K f then wst K f else lin K f := by
  unfold lin
  rw [q_lpR, Nat.zero_add]
theorem lstep1 (w : WF K) {f : Nat} (hf : f < nf K) {x : Int32} (hx : rg x 0 9) (e : x < wst K f) : ¬ wst K f = -1 ∧ ¬ mws K f ≤ x ∧ mws K f = wst K f := by
  rw [mws_eq w hf]
  unfold rg at hx
  simp only [Int32.lt_iff_toInt_lt, Int32.le_iff_toInt_le, ← Int32.toInt_inj, apply_ite Int32.toInt, q_z0, q_m1] at *
  repeat' split
  all_goals omega
theorem lstep2 (w : WF K) {f : Nat} (hf : f < nf K) {x : Int32} (hx : rg x 0 9) (e : ¬ x < wst K f) : mws K f ≤ x := by
  rw [mws_eq w hf]
  unfold rg at hx
  simp only [Int32.lt_iff_toInt_lt, Int32.le_iff_toInt_le, apply_ite Int32.toInt, q_z0] at *
  repeat' split
  all_goals omega
theorem lst_rg (w : WF K) {f : Nat} (hf : f < nf K) {x : Int32} (hx : rg x 0 9) : rg (if x < wst K f then wst K f else x) 0 9 := by
  have h1 := wst_rg w hf
  by_cases e : x < wst K f
  · rw [if_pos e]
    unfold rg at *
    rw [Int32.lt_iff_toInt_lt] at e
    omega
  · rw [if_neg e]; exact hx
theorem lin_rg (w : WF K) {n : Nat} (hn : n ≤ nf K) : rg (lin K n) 0 9 := by
  unfold lin
  apply q_inv (J := fun _ x => rg x 0 9)
  · intro f x hf hx
    exact lst_rg w (by omega) hx
  · exact ⟨by decide, by decide⟩
theorem ml223 (hK : gI h 103 = K) (w : WF K) {g : Nat} (hg : g < nf K) : ∀ k f x, f + k = g + 1 → rg x 0 9 → wp true (d + 3) 223 4 [.ref 101, .int (nI g), .int x, .int (nI f)] [] h F = F (some (.int (q_lp (fun f x => if x < wst K f then wst K f else x) k f x))) h
  | 0, f, x, e, hx => by
    have h1 := w.hnf
    rw [r223_4]
    simp (disch := omega) only [e223, r223_0, r223_1, r223_2, r223_3, r223_5, r223_6, r223_9, r223_10, r223_11, r223_14, r223_17, r223_18, r223_19, r223_22, r223_23, r223_26, r223_27, r223_28, r223_31, r223_32, r223_35, r223_38, r223_39, kdC, kdM, rpC, rpM, q_rs, q_rn, Option.toList_some, Option.toList_none, List.cons_append, List.nil_append, true_and, and_true, eq_self, ↓reduceIte, not_true_eq_false, not_false_eq_true, Nat.reduceEqDiff, Nat.reduceLeDiff, Nat.reduceLT, Nat.reduceAdd, Nat.reduceMul, Nat.reduceSub, false_or, or_false, true_or, or_true, false_and, and_false, reduceCtorEq, q_n0, q_n1, q_em, q_em2, q_b0, q_b1, Classical.not_not, nI_add, pk_mul, nI_clamp, q_vp, nI_eq, nI_leI, nI_ltI, q_sub, show f = g + 1 from e, show g < g + 1 by omega]
    rfl
  | k + 1, f, x, e, hx => by
    have h1 := w.hnf
    have hf : f < nf K := by omega
    refine Eq.trans ?_ (ml223 hK w hg k (f + 1) (if x < wst K f then wst K f else x) (by omega) (lst_rg w hf hx))
    rw [r223_4]
    by_cases e1 : x < wst K f
    · have e2 := lstep1 w hf hx e1
      simp (disch := omega) only [e223, r223_0, r223_1, r223_2, r223_3, r223_5, r223_6, r223_9, r223_10, r223_11, r223_14, r223_17, r223_18, r223_19, r223_22, r223_23, r223_26, r223_27, r223_28, r223_31, r223_32, r223_35, r223_38, r223_39, m157 _ h _ hK w hf, m158 _ h _ hK w hf, kdC, kdM, rpC, rpM, q_rs, q_rn, Option.toList_some, Option.toList_none, List.cons_append, List.nil_append, true_and, and_true, eq_self, ↓reduceIte, not_true_eq_false, not_false_eq_true, Nat.reduceEqDiff, Nat.reduceLeDiff, Nat.reduceLT, Nat.reduceAdd, Nat.reduceMul, Nat.reduceSub, false_or, or_false, true_or, or_true, false_and, and_false, reduceCtorEq, q_n0, q_n1, q_em, q_em2, q_b0, q_b1, Classical.not_not, nI_add, pk_mul, nI_clamp, q_vp, nI_eq, nI_leI, nI_ltI, q_sub, show ¬ g < f by omega, e1, e2, Int32.not_le.mpr e1]
    · have e2 := lstep2 w hf hx e1
      by_cases e3 : wst K f = -1
      · simp (disch := omega) only [e223, r223_0, r223_1, r223_2, r223_3, r223_5, r223_6, r223_9, r223_10, r223_11, r223_14, r223_17, r223_18, r223_19, r223_22, r223_23, r223_26, r223_27, r223_28, r223_31, r223_32, r223_35, r223_38, r223_39, m157 _ h _ hK w hf, m158 _ h _ hK w hf, kdC, kdM, rpC, rpM, q_rs, q_rn, Option.toList_some, Option.toList_none, List.cons_append, List.nil_append, true_and, and_true, eq_self, ↓reduceIte, not_true_eq_false, not_false_eq_true, Nat.reduceEqDiff, Nat.reduceLeDiff, Nat.reduceLT, Nat.reduceAdd, Nat.reduceMul, Nat.reduceSub, false_or, or_false, true_or, or_true, false_and, and_false, reduceCtorEq, q_n0, q_n1, q_em, q_em2, q_b0, q_b1, Classical.not_not, nI_add, pk_mul, nI_clamp, q_vp, nI_eq, nI_leI, nI_ltI, q_sub, show ¬ g < f by omega, e1, e2, e3]
        rw [e3] at e1
        simp only [e1, ↓reduceIte]
      · simp (disch := omega) only [e223, r223_0, r223_1, r223_2, r223_3, r223_5, r223_6, r223_9, r223_10, r223_11, r223_14, r223_17, r223_18, r223_19, r223_22, r223_23, r223_26, r223_27, r223_28, r223_31, r223_32, r223_35, r223_38, r223_39, m157 _ h _ hK w hf, m158 _ h _ hK w hf, kdC, kdM, rpC, rpM, q_rs, q_rn, Option.toList_some, Option.toList_none, List.cons_append, List.nil_append, true_and, and_true, eq_self, ↓reduceIte, not_true_eq_false, not_false_eq_true, Nat.reduceEqDiff, Nat.reduceLeDiff, Nat.reduceLT, Nat.reduceAdd, Nat.reduceMul, Nat.reduceSub, false_or, or_false, true_or, or_true, false_and, and_false, reduceCtorEq, q_n0, q_n1, q_em, q_em2, q_b0, q_b1, Classical.not_not, nI_add, pk_mul, nI_clamp, q_vp, nI_eq, nI_leI, nI_ltI, q_sub, show ¬ g < f by omega, e1, e2, e3]
theorem m223 (hK : gI h 103 = K) (w : WF K) {g : Nat} (hg : g < nf K) : cwp true (d + 3) 223 [.ref 101, .int (nI g)] h F = F (some (.int (lin K (g + 1)))) h := by
  simp only [e223, r223_0, r223_1, r223_2, r223_3, r223_5, r223_6, r223_9, r223_10, r223_11, r223_14, r223_17, r223_18, r223_19, r223_22, r223_23, r223_26, r223_27, r223_28, r223_31, r223_32, r223_35, r223_38, r223_39, kdC, kdM, rpC, rpM, q_rs, q_rn, Option.toList_some, Option.toList_none, List.cons_append, List.nil_append, true_and, and_true, eq_self, ↓reduceIte, not_true_eq_false, not_false_eq_true, Nat.reduceEqDiff, Nat.reduceLeDiff, Nat.reduceLT, Nat.reduceAdd, Nat.reduceMul, Nat.reduceSub, false_or, or_false, true_or, or_true, false_and, and_false, reduceCtorEq, q_n0, q_n1, q_em, q_em2, q_b0, q_b1, Classical.not_not]
  exact ml223 d h F hK w hg _ 0 _ (by omega) ⟨by decide, by decide⟩
theorem m223p (hK : gI h 103 = K) (w : WF K) {f : Nat} (hf : f ≤ nf K) : cwp true (d + 3) 223 [.ref 101, .int (nI f - nI 1)] h F = F (some (.int (lin K f))) h := by
  cases f with
  | zero =>
    rw [show nI 0 - nI 1 = -1 by decide]
    simp only [e223, r223_0, r223_1, r223_2, r223_3, r223_5, r223_6, r223_9, r223_10, r223_11, r223_14, r223_17, r223_18, r223_19, r223_22, r223_23, r223_26, r223_27, r223_28, r223_31, r223_32, r223_35, r223_38, r223_39, r223_4, kdC, kdM, rpC, rpM, q_rs, q_rn, Option.toList_some, Option.toList_none, List.cons_append, List.nil_append, true_and, and_true, eq_self, ↓reduceIte, not_true_eq_false, not_false_eq_true, Nat.reduceEqDiff, Nat.reduceLeDiff, Nat.reduceLT, Nat.reduceAdd, Nat.reduceMul, Nat.reduceSub, false_or, or_false, true_or, or_true, false_and, and_false, reduceCtorEq, q_n0, q_n1, q_em, q_em2, q_b0, q_b1, Classical.not_not, show (-1 : Int32) < nI 0 by decide]
    rfl
  | succ f =>
    rw [q_sub (by omega), Nat.add_sub_cancel]
    exact m223 d h F hK w (by omega)
/-- the i-th slip from a flight on, s having been -/
noncomputable def slp (K : Nat → Int32) (i : Int32) : Nat → Nat → Nat → Int32
  | 0, _, s => if i = -1 then nI s else -1
  | k + 1, f, s => if lin K f < wst K f then (if nI s = i then nI f else slp K i k (f + 1) (s + 1)) else slp K i k (f + 1) s
theorem cl107 (w : WF K) (q : RS h 0 K) (i : Int32) : ∀ k f s (v : Value), f + k = nf K → wp true (d + 1) 107 7 [.ref 1, .int i, .int (nI s), .int (lin K f), .int (nI f), v] [] h F = F (some (.int (slp K i k f s))) h
  | 0, f, s, v, e => by
    have h1 := w.hnf
    rw [r107_7]
    simp (disch := omega) only [e107, r107_0, r107_1, r107_2, r107_3, r107_4, r107_5, r107_9, r107_10, r107_13, r107_16, r107_19, r107_22, r107_23, r107_26, r107_29, r107_31, r107_34, r107_36, r107_38, r107_39, r107_42, r107_43, r107_44, r107_47, r107_49, r107_50, r107_52, r107_53, r107_56, r107_59, r107_62, r107_63, r107_64, r107_67, r107_68, r107_71, r107_72, kdC, kdM, rpC, rpM, q_rs, q_rn, Option.toList_some, Option.toList_none, List.cons_append, List.nil_append, true_and, and_true, eq_self, ↓reduceIte, not_true_eq_false, not_false_eq_true, Nat.reduceEqDiff, Nat.reduceLeDiff, Nat.reduceLT, Nat.reduceAdd, Nat.reduceMul, Nat.reduceSub, false_or, or_false, true_or, or_true, false_and, and_false, reduceCtorEq, q_n0, q_n1, q_em, q_em2, q_b0, q_b1, Classical.not_not, nI_add, pk_mul, nI_clamp, q_vp, nI_eq, nI_leI, nI_ltI, q_sub, q.hnf, h1, show f = nf K from e, Nat.le_refl, slp]
    by_cases e2 : i = -1
    · simp only [e2, kdC, kdM, rpC, rpM, q_rs, q_rn, Option.toList_some, Option.toList_none, List.cons_append, List.nil_append, true_and, and_true, eq_self, ↓reduceIte, not_true_eq_false, not_false_eq_true, Nat.reduceEqDiff, Nat.reduceLeDiff, Nat.reduceLT, Nat.reduceAdd, Nat.reduceMul, Nat.reduceSub, false_or, or_false, true_or, or_true, false_and, and_false, reduceCtorEq, q_n0, q_n1, q_em, q_em2, q_b0, q_b1, Classical.not_not]
    · simp only [e2, kdC, kdM, rpC, rpM, q_rs, q_rn, Option.toList_some, Option.toList_none, List.cons_append, List.nil_append, true_and, and_true, eq_self, ↓reduceIte, not_true_eq_false, not_false_eq_true, Nat.reduceEqDiff, Nat.reduceLeDiff, Nat.reduceLT, Nat.reduceAdd, Nat.reduceMul, Nat.reduceSub, false_or, or_false, true_or, or_true, false_and, and_false, reduceCtorEq, q_n0, q_n1, q_em, q_em2, q_b0, q_b1, Classical.not_not]
  | k + 1, f, s, v, e => by
    have h1 := w.hnf
    have hf : f < nf K := by omega
    rw [r107_7]
    by_cases e1 : lin K f < wst K f
    · by_cases e2 : nI s = i
      · simp (disch := omega) only [e107, r107_0, r107_1, r107_2, r107_3, r107_4, r107_5, r107_9, r107_10, r107_13, r107_16, r107_19, r107_22, r107_23, r107_26, r107_29, r107_31, r107_34, r107_36, r107_38, r107_39, r107_42, r107_43, r107_44, r107_47, r107_49, r107_50, r107_52, r107_53, r107_56, r107_59, r107_62, r107_63, r107_64, r107_67, r107_68, r107_71, r107_72, cc13 _ h _ w q hf, kdC, kdM, rpC, rpM, q_rs, q_rn, Option.toList_some, Option.toList_none, List.cons_append, List.nil_append, true_and, and_true, eq_self, ↓reduceIte, not_true_eq_false, not_false_eq_true, Nat.reduceEqDiff, Nat.reduceLeDiff, Nat.reduceLT, Nat.reduceAdd, Nat.reduceMul, Nat.reduceSub, false_or, or_false, true_or, or_true, false_and, and_false, reduceCtorEq, q_n0, q_n1, q_em, q_em2, q_b0, q_b1, Classical.not_not, nI_add, pk_mul, nI_clamp, q_vp, nI_eq, nI_leI, nI_ltI, q_sub, q.hnf, h1, show ¬ nf K ≤ f by omega, Int32.not_le.mpr e1, e1, e2, slp]
      · have ih := cl107 w q i k (f + 1) (s + 1) (.int (wst K f)) (by omega)
        rw [lin_s, if_pos e1] at ih
        simp (disch := omega) only [e107, r107_0, r107_1, r107_2, r107_3, r107_4, r107_5, r107_9, r107_10, r107_13, r107_16, r107_19, r107_22, r107_23, r107_26, r107_29, r107_31, r107_34, r107_36, r107_38, r107_39, r107_42, r107_43, r107_44, r107_47, r107_49, r107_50, r107_52, r107_53, r107_56, r107_59, r107_62, r107_63, r107_64, r107_67, r107_68, r107_71, r107_72, cc13 _ h _ w q hf, kdC, kdM, rpC, rpM, q_rs, q_rn, Option.toList_some, Option.toList_none, List.cons_append, List.nil_append, true_and, and_true, eq_self, ↓reduceIte, not_true_eq_false, not_false_eq_true, Nat.reduceEqDiff, Nat.reduceLeDiff, Nat.reduceLT, Nat.reduceAdd, Nat.reduceMul, Nat.reduceSub, false_or, or_false, true_or, or_true, false_and, and_false, reduceCtorEq, q_n0, q_n1, q_em, q_em2, q_b0, q_b1, Classical.not_not, nI_add, pk_mul, nI_clamp, q_vp, nI_eq, nI_leI, nI_ltI, q_sub, q.hnf, h1, show ¬ nf K ≤ f by omega, Int32.not_le.mpr e1, e1, e2, slp]
        exact ih
    · have ih := cl107 w q i k (f + 1) s (.int (wst K f)) (by omega)
      rw [lin_s, if_neg e1] at ih
      simp (disch := omega) only [e107, r107_0, r107_1, r107_2, r107_3, r107_4, r107_5, r107_9, r107_10, r107_13, r107_16, r107_19, r107_22, r107_23, r107_26, r107_29, r107_31, r107_34, r107_36, r107_38, r107_39, r107_42, r107_43, r107_44, r107_47, r107_49, r107_50, r107_52, r107_53, r107_56, r107_59, r107_62, r107_63, r107_64, r107_67, r107_68, r107_71, r107_72, cc13 _ h _ w q hf, kdC, kdM, rpC, rpM, q_rs, q_rn, Option.toList_some, Option.toList_none, List.cons_append, List.nil_append, true_and, and_true, eq_self, ↓reduceIte, not_true_eq_false, not_false_eq_true, Nat.reduceEqDiff, Nat.reduceLeDiff, Nat.reduceLT, Nat.reduceAdd, Nat.reduceMul, Nat.reduceSub, false_or, or_false, true_or, or_true, false_and, and_false, reduceCtorEq, q_n0, q_n1, q_em, q_em2, q_b0, q_b1, Classical.not_not, nI_add, pk_mul, nI_clamp, q_vp, nI_eq, nI_leI, nI_ltI, q_sub, q.hnf, h1, show ¬ nf K ≤ f by omega, Int32.not_lt.mp e1, e1, slp]
      exact ih
theorem ml225 (hK : gI h 103 = K) (w : WF K) (i : Int32) : ∀ k f s, f + k = nf K → wp true (d + 4) 225 11 [.ref 101, .int i, .int (nI s), .int (nI f)] [] h F = F (some (.int (slp K i k f s))) h
  | 0, f, s, e => by
    have h1 := w.hnf
    rw [r225_11]
    simp (disch := omega) only [e225, r225_0, r225_1, r225_2, r225_5, r225_6, r225_7, r225_8, r225_9, r225_10, r225_12, r225_13, r225_16, r225_19, r225_20, r225_21, r225_24, r225_25, r225_26, r225_27, r225_28, r225_31, r225_34, r225_37, r225_38, r225_39, r225_42, r225_43, r225_44, r225_47, r225_50, r225_53, r225_54, r225_55, r225_58, r225_59, r225_62, r225_63, c153 _ h _ hK w, kdC, kdM, rpC, rpM, q_rs, q_rn, Option.toList_some, Option.toList_none, List.cons_append, List.nil_append, true_and, and_true, eq_self, ↓reduceIte, not_true_eq_false, not_false_eq_true, Nat.reduceEqDiff, Nat.reduceLeDiff, Nat.reduceLT, Nat.reduceAdd, Nat.reduceMul, Nat.reduceSub, false_or, or_false, true_or, or_true, false_and, and_false, reduceCtorEq, q_n0, q_n1, q_em, q_em2, q_b0, q_b1, Classical.not_not, nI_add, pk_mul, nI_clamp, q_vp, nI_eq, nI_leI, nI_ltI, q_sub, show f = nf K from e, Nat.le_refl, slp]
    by_cases e2 : i = -1
    · simp only [e2, kdC, kdM, rpC, rpM, q_rs, q_rn, Option.toList_some, Option.toList_none, List.cons_append, List.nil_append, true_and, and_true, eq_self, ↓reduceIte, not_true_eq_false, not_false_eq_true, Nat.reduceEqDiff, Nat.reduceLeDiff, Nat.reduceLT, Nat.reduceAdd, Nat.reduceMul, Nat.reduceSub, false_or, or_false, true_or, or_true, false_and, and_false, reduceCtorEq, q_n0, q_n1, q_em, q_em2, q_b0, q_b1, Classical.not_not]
    · simp only [e2, kdC, kdM, rpC, rpM, q_rs, q_rn, Option.toList_some, Option.toList_none, List.cons_append, List.nil_append, true_and, and_true, eq_self, ↓reduceIte, not_true_eq_false, not_false_eq_true, Nat.reduceEqDiff, Nat.reduceLeDiff, Nat.reduceLT, Nat.reduceAdd, Nat.reduceMul, Nat.reduceSub, false_or, or_false, true_or, or_true, false_and, and_false, reduceCtorEq, q_n0, q_n1, q_em, q_em2, q_b0, q_b1, Classical.not_not]
  | k + 1, f, s, e => by
    have h1 := w.hnf
    have hf : f < nf K := by omega
    have hm := fun F d => m223p d h F hK w (show f ≤ nf K by omega)
    rw [r225_11]
    by_cases e1 : lin K f < wst K f
    · have e3 : lin K f < lin K (f + 1) := by rw [lin_s, if_pos e1]; exact e1
      by_cases e2 : nI s = i
      · simp (disch := omega) only [e225, r225_0, r225_1, r225_2, r225_5, r225_6, r225_7, r225_8, r225_9, r225_10, r225_12, r225_13, r225_16, r225_19, r225_20, r225_21, r225_24, r225_25, r225_26, r225_27, r225_28, r225_31, r225_34, r225_37, r225_38, r225_39, r225_42, r225_43, r225_44, r225_47, r225_50, r225_53, r225_54, r225_55, r225_58, r225_59, r225_62, r225_63, c153 _ h _ hK w, m223 _ h _ hK w hf, hm, kdC, kdM, rpC, rpM, q_rs, q_rn, Option.toList_some, Option.toList_none, List.cons_append, List.nil_append, true_and, and_true, eq_self, ↓reduceIte, not_true_eq_false, not_false_eq_true, Nat.reduceEqDiff, Nat.reduceLeDiff, Nat.reduceLT, Nat.reduceAdd, Nat.reduceMul, Nat.reduceSub, false_or, or_false, true_or, or_true, false_and, and_false, reduceCtorEq, q_n0, q_n1, q_em, q_em2, q_b0, q_b1, Classical.not_not, nI_add, pk_mul, nI_clamp, q_vp, nI_eq, nI_leI, nI_ltI, q_sub, show ¬ nf K ≤ f by omega, e3, e1, e2, slp]
      · simp (disch := omega) only [e225, r225_0, r225_1, r225_2, r225_5, r225_6, r225_7, r225_8, r225_9, r225_10, r225_12, r225_13, r225_16, r225_19, r225_20, r225_21, r225_24, r225_25, r225_26, r225_27, r225_28, r225_31, r225_34, r225_37, r225_38, r225_39, r225_42, r225_43, r225_44, r225_47, r225_50, r225_53, r225_54, r225_55, r225_58, r225_59, r225_62, r225_63, c153 _ h _ hK w, m223 _ h _ hK w hf, hm, kdC, kdM, rpC, rpM, q_rs, q_rn, Option.toList_some, Option.toList_none, List.cons_append, List.nil_append, true_and, and_true, eq_self, ↓reduceIte, not_true_eq_false, not_false_eq_true, Nat.reduceEqDiff, Nat.reduceLeDiff, Nat.reduceLT, Nat.reduceAdd, Nat.reduceMul, Nat.reduceSub, false_or, or_false, true_or, or_true, false_and, and_false, reduceCtorEq, q_n0, q_n1, q_em, q_em2, q_b0, q_b1, Classical.not_not, nI_add, pk_mul, nI_clamp, q_vp, nI_eq, nI_leI, nI_ltI, q_sub, show ¬ nf K ≤ f by omega, e3, e1, e2, slp]
        exact ml225 hK w i k (f + 1) (s + 1) (by omega)
    · have e3 : ¬ lin K f < lin K (f + 1) := by
        rw [lin_s, if_neg e1]
        exact Int32.lt_irrefl
      simp (disch := omega) only [e225, r225_0, r225_1, r225_2, r225_5, r225_6, r225_7, r225_8, r225_9, r225_10, r225_12, r225_13, r225_16, r225_19, r225_20, r225_21, r225_24, r225_25, r225_26, r225_27, r225_28, r225_31, r225_34, r225_37, r225_38, r225_39, r225_42, r225_43, r225_44, r225_47, r225_50, r225_53, r225_54, r225_55, r225_58, r225_59, r225_62, r225_63, c153 _ h _ hK w, m223 _ h _ hK w hf, hm, kdC, kdM, rpC, rpM, q_rs, q_rn, Option.toList_some, Option.toList_none, List.cons_append, List.nil_append, true_and, and_true, eq_self, ↓reduceIte, not_true_eq_false, not_false_eq_true, Nat.reduceEqDiff, Nat.reduceLeDiff, Nat.reduceLT, Nat.reduceAdd, Nat.reduceMul, Nat.reduceSub, false_or, or_false, true_or, or_true, false_and, and_false, reduceCtorEq, q_n0, q_n1, q_em, q_em2, q_b0, q_b1, Classical.not_not, nI_add, pk_mul, nI_clamp, q_vp, nI_eq, nI_leI, nI_ltI, q_sub, show ¬ nf K ≤ f by omega, e3, e1, slp]
      exact ml225 hK w i k (f + 1) s (by omega)
theorem slp_m (K : Nat → Int32) {i : Int32} (hi : i < -1) : ∀ k f s, s + k < 1000 → slp K i k f s = -1
  | 0, f, s, hs => by
    unfold slp
    rw [if_neg (fun e => by rw [e] at hi; exact Int32.lt_irrefl hi)]
  | k + 1, f, s, hs => by
    unfold slp
    have hn : ¬ nI s = i := by
      rintro rfl
      rw [Int32.lt_iff_toInt_lt, nI_toInt (by omega), q_m1] at hi
      omega
    rw [if_neg hn]
    split
    · exact slp_m K hi k (f + 1) (s + 1) (by omega)
    · exact slp_m K hi k (f + 1) s (by omega)
end LN
section LP
variable {n : Nat} {h : Hp}
theorem p_line (z : Inv n h) (a : Int32) : PRI n h 106 224 [.int a] := by
  intro d
  have w := z.1.1
  have q := z.1.2.1
  have hn := w.hnf
  by_cases hA : nI 0 ≤ a ∧ a < nI (nf (gI h 103))
  · obtain ⟨f, hf, rfl⟩ := q_ix (by omega) hA.1 hA.2
    refine ⟨lin (gI h 103) (f + 1), h, h, fun F => ?_, fun F => ?_, Inv_fr (Fr.refl h) z⟩
    · simp (disch := omega) only [e106, r106_0, r106_1, r106_4, r106_7, r106_8, r106_11, r106_14, r106_15, r106_18, r106_21, r106_22, r106_25, r106_28, r106_29, cc11 _ h _ w q, cc19 _ h _ w q hf, hA, kdC, kdM, rpC, rpM, q_rs, q_rn, Option.toList_some, Option.toList_none, List.cons_append, List.nil_append, true_and, and_true, eq_self, ↓reduceIte, not_true_eq_false, not_false_eq_true, Nat.reduceEqDiff, Nat.reduceLeDiff, Nat.reduceLT, Nat.reduceAdd, Nat.reduceMul, Nat.reduceSub, false_or, or_false, true_or, or_true, false_and, and_false, reduceCtorEq, q_n0, q_n1, q_em, q_em2, q_b0, q_b1, Classical.not_not]
    · simp (disch := omega) only [e224, r224_0, r224_1, r224_2, r224_5, r224_8, r224_9, r224_10, r224_13, r224_16, r224_17, c154 _ _ _ rfl w, m223 _ _ _ rfl w hf, hA, kdC, kdM, rpC, rpM, q_rs, q_rn, Option.toList_some, Option.toList_none, List.cons_append, List.nil_append, true_and, and_true, eq_self, ↓reduceIte, not_true_eq_false, not_false_eq_true, Nat.reduceEqDiff, Nat.reduceLeDiff, Nat.reduceLT, Nat.reduceAdd, Nat.reduceMul, Nat.reduceSub, false_or, or_false, true_or, or_true, false_and, and_false, reduceCtorEq, q_n0, q_n1, q_em, q_em2, q_b0, q_b1, Classical.not_not]
  · refine ⟨-1, h, h, fun F => ?_, fun F => ?_, Inv_fr (Fr.refl h) z⟩
    · simp (disch := omega) only [e106, r106_0, r106_1, r106_4, r106_7, r106_8, r106_11, r106_14, r106_15, r106_18, r106_21, r106_22, r106_25, r106_28, r106_29, cc11 _ h _ w q, hA, kdC, kdM, rpC, rpM, q_rs, q_rn, Option.toList_some, Option.toList_none, List.cons_append, List.nil_append, true_and, and_true, eq_self, ↓reduceIte, not_true_eq_false, not_false_eq_true, Nat.reduceEqDiff, Nat.reduceLeDiff, Nat.reduceLT, Nat.reduceAdd, Nat.reduceMul, Nat.reduceSub, false_or, or_false, true_or, or_true, false_and, and_false, reduceCtorEq, q_n0, q_n1, q_em, q_em2, q_b0, q_b1, Classical.not_not]
    · simp (disch := omega) only [e224, r224_0, r224_1, r224_2, r224_5, r224_8, r224_9, r224_10, r224_13, r224_16, r224_17, c154 _ _ _ rfl w, hA, kdC, kdM, rpC, rpM, q_rs, q_rn, Option.toList_some, Option.toList_none, List.cons_append, List.nil_append, true_and, and_true, eq_self, ↓reduceIte, not_true_eq_false, not_false_eq_true, Nat.reduceEqDiff, Nat.reduceLeDiff, Nat.reduceLT, Nat.reduceAdd, Nat.reduceMul, Nat.reduceSub, false_or, or_false, true_or, or_true, false_and, and_false, reduceCtorEq, q_n0, q_n1, q_em, q_em2, q_b0, q_b1, Classical.not_not]
theorem p_slip (z : Inv n h) (a : Int32) : PRI n h 107 225 [.int a] := by
  intro d
  have w := z.1.1
  have q := z.1.2.1
  have hn := w.hnf
  refine ⟨slp (gI h 103) a (nf (gI h 103)) 0 0, h, h, fun F => ?_, fun F => ?_, Inv_fr (Fr.refl h) z⟩
  · simp only [e107, r107_0, r107_1, r107_2, r107_3, r107_4, r107_5, r107_9, r107_10, r107_13, r107_16, r107_19, r107_22, r107_23, r107_26, r107_29, r107_31, r107_34, r107_36, r107_38, r107_39, r107_42, r107_43, r107_44, r107_47, r107_49, r107_50, r107_52, r107_53, r107_56, r107_59, r107_62, r107_63, r107_64, r107_67, r107_68, r107_71, r107_72, kdC, kdM, rpC, rpM, q_rs, q_rn, Option.toList_some, Option.toList_none, List.cons_append, List.nil_append, true_and, and_true, eq_self, ↓reduceIte, not_true_eq_false, not_false_eq_true, Nat.reduceEqDiff, Nat.reduceLeDiff, Nat.reduceLT, Nat.reduceAdd, Nat.reduceMul, Nat.reduceSub, false_or, or_false, true_or, or_true, false_and, and_false, reduceCtorEq, q_n0, q_n1, q_em, q_em2, q_b0, q_b1, Classical.not_not]
    exact cl107 _ h F w q a _ 0 0 _ (by omega)
  · by_cases hA : -1 ≤ a
    · simp only [e225, r225_0, r225_1, r225_2, r225_5, r225_6, r225_7, r225_8, r225_9, r225_10, r225_12, r225_13, r225_16, r225_19, r225_20, r225_21, r225_24, r225_25, r225_26, r225_27, r225_28, r225_31, r225_34, r225_37, r225_38, r225_39, r225_42, r225_43, r225_44, r225_47, r225_50, r225_53, r225_54, r225_55, r225_58, r225_59, r225_62, r225_63, kdC, kdM, rpC, rpM, q_rs, q_rn, Option.toList_some, Option.toList_none, List.cons_append, List.nil_append, true_and, and_true, eq_self, ↓reduceIte, not_true_eq_false, not_false_eq_true, Nat.reduceEqDiff, Nat.reduceLeDiff, Nat.reduceLT, Nat.reduceAdd, Nat.reduceMul, Nat.reduceSub, false_or, or_false, true_or, or_true, false_and, and_false, reduceCtorEq, q_n0, q_n1, q_em, q_em2, q_b0, q_b1, Classical.not_not, hA]
      exact ml225 _ h F rfl w a _ 0 0 (by omega)
    · simp only [e225, r225_0, r225_1, r225_2, r225_5, r225_6, r225_7, r225_8, r225_9, r225_10, r225_12, r225_13, r225_16, r225_19, r225_20, r225_21, r225_24, r225_25, r225_26, r225_27, r225_28, r225_31, r225_34, r225_37, r225_38, r225_39, r225_42, r225_43, r225_44, r225_47, r225_50, r225_53, r225_54, r225_55, r225_58, r225_59, r225_62, r225_63, kdC, kdM, rpC, rpM, q_rs, q_rn, Option.toList_some, Option.toList_none, List.cons_append, List.nil_append, true_and, and_true, eq_self, ↓reduceIte, not_true_eq_false, not_false_eq_true, Nat.reduceEqDiff, Nat.reduceLeDiff, Nat.reduceLT, Nat.reduceAdd, Nat.reduceMul, Nat.reduceSub, false_or, or_false, true_or, or_true, false_and, and_false, reduceCtorEq, q_n0, q_n1, q_em, q_em2, q_b0, q_b1, Classical.not_not, hA]
      rw [slp_m _ (Int32.not_le.mp hA) _ _ _ (by omega)]
end LP
