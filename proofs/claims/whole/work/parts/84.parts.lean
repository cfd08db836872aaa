/-! who does otherwise by one sheet more -/
section VT
variable {h : Hp} {K : Nat → Int32} {T : Tk} {t' a m : Nat} {wf σ : Nat → Nat}
theorem cl72 (z : STS h 0 K) (hP : gP h 88 4 = some a) (te : tEq K t' T) (ta : tAt h a T) (hW : WH h m wf K) : ∀ k i h0, i + k = m → FrS tdS h h0 → gI h0 90 = gI h 90 → gI h0 91 = gI h 91 → (∀ i, i < 4 → gI h0 81 i = nI 0) → (∀ j, j < i → gI h0 92 (wf j) = bz (isStp K T (wf j) (DP h 0 (wf j)))) → ∃ h', FrS tdS h h' ∧ (∀ i, i < 4 → gI h' 81 i = nI 0) ∧ (∀ j, j < m → gI h' 92 (wf j) = bz (isStp K T (wf j) (DP h 0 (wf j)))) ∧ ∀ d F, wp true (d + 4) 72 7 [.ref 88, .int (nI i)] [] h0 F = F none h'
  | 0, i, h0, e, x, n1, n2, hw, i1 => by
    obtain rfl : i = m := e
    obtain ⟨w1, w2, w3, w4⟩ := WH_td x hW
    refine ⟨h0, x, hw, i1, fun d F => ?_⟩
    rw [r72_7]
    simp (disch := omega) only [e72, r72_0, r72_1, r72_2, r72_5, r72_6, r72_8, r72_9, r72_12, r72_15, r72_16, r72_19, r72_20, r72_23, r72_24, r72_25, r72_26, r72_27, r72_30, r72_31, r72_32, r72_33, r72_36, r72_37, r72_40, r72_43, w1, kdC, kdM, rpC, rpM, q_rs, q_rn, Option.toList_some, Option.toList_none, List.cons_append, List.nil_append, true_and, and_true, eq_self, ↓reduceIte, not_true_eq_false, not_false_eq_true, Nat.reduceEqDiff, Nat.reduceLeDiff, Nat.reduceLT, Nat.reduceAdd, Nat.reduceMul, Nat.reduceSub, false_or, or_false, true_or, or_true, false_and, and_false, reduceCtorEq, q_n0, q_n1, q_em, q_em2, q_b0, q_b1, Classical.not_not, nI_add, pk_mul, nI_clamp, q_vp, nI_eq, nI_leI, nI_ltI, q_sub, Nat.le_refl]
  | k + 1, i, h0, e, x, n1, n2, hw, i1 => by
    have w := z.1
    have h2 := w.hnt
    obtain ⟨w1, w2, w3, w4⟩ := WH_td x hW
    have hi : i < m := by omega
    obtain ⟨e1, e2⟩ := w3 i hi
    obtain ⟨h1, b1, b2, b3, b4, b5, b6⟩ := c70 (T := T) (t := wf i) (r := 0) (STS_fr (Td_fr x) (Or.inl rfl) z) (by rw [x.p (a := 88) (i := 4) rfl]; exact hP) te (tAt_fr (Td_fr x) ta) e2 (by omega) hw
    have hdp : DP h0 0 (wf i) = DP h 0 (wf i) := by unfold DP; rw [n1, n2]
    rw [hdp] at b6
    obtain ⟨h', a1, a2, a3, a4⟩ := cl72 z hP te ta hW k (i + 1) (sI h1 92 (wf i) (bz (isStp K T (wf i) (DP h 0 (wf i))))) (by omega) ((x.trans (Tk_td b1)).sI _ rfl) (by rw [q_gn (by omega)]; exact b2.trans n1) (by rw [q_gn (by omega)]; exact b3.trans n2) (by intro j hj; rw [q_gn (by omega)]; exact b5 j hj) (by
      intro j hj
      by_cases ej : j = i
      · subst ej; rw [q_gs]
      · have hlt := w4 j i (by omega) hi
        rw [q_gm (by omega), b1.g (a := 92) (i := wf j) rfl]
        exact i1 j (by omega))
    refine ⟨h', a1, a2, a3, fun d F => ?_⟩
    have b6' := fun F => b6 d F
    refine Eq.trans ?_ (a4 d F)
    rw [r72_7]
    simp (disch := omega) only [e72, r72_0, r72_1, r72_2, r72_5, r72_6, r72_8, r72_9, r72_12, r72_15, r72_16, r72_19, r72_20, r72_23, r72_24, r72_25, r72_26, r72_27, r72_30, r72_31, r72_32, r72_33, r72_36, r72_37, r72_40, r72_43, w1, e1, b6', vp_z, kdC, kdM, rpC, rpM, q_rs, q_rn, Option.toList_some, Option.toList_none, List.cons_append, List.nil_append, true_and, and_true, eq_self, ↓reduceIte, not_true_eq_false, not_false_eq_true, Nat.reduceEqDiff, Nat.reduceLeDiff, Nat.reduceLT, Nat.reduceAdd, Nat.reduceMul, Nat.reduceSub, false_or, or_false, true_or, or_true, false_and, and_false, reduceCtorEq, q_n0, q_n1, q_em, q_em2, q_b0, q_b1, Classical.not_not, nI_add, pk_mul, nI_clamp, q_vp, nI_eq, nI_leI, nI_ltI, q_sub, show ¬ m ≤ i by omega, show i < 12 by omega, show wf i < 12 by omega]
theorem cl73 (z : STS h 0 K) (hP : gP h 88 4 = some a) (te : tEq K t' T) (ta : tAt h a T) (hW : WH h m wf K) (A : Nat → Prop) (hA : ∀ j, j < m → gI h 92 (wf j) = bz (A (wf j))) (x1 : Value) : ∀ k i h0, i + k = m → FrS tkS h h0 → gI h0 90 = gI h 90 → gI h0 91 = gI h 91 → (∀ i, i < 4 → gI h0 81 i = nI 0) → ∃ h', FrS tkS h h' ∧ (∀ i, i < 4 → gI h' 81 i = nI 0) ∧ ∀ d F, wp true (d + 4) 73 9 [.ref 88, x1, .int (nI (cntT (fun i => ¬ (isStp K T (wf i) (DP h 0 (wf i)) ↔ A (wf i))) i)), .int (nI i)] [] h0 F = F (some (.int (nI (cntT (fun i => ¬ (isStp K T (wf i) (DP h 0 (wf i)) ↔ A (wf i))) m)))) h'
  | 0, i, h0, e, x, n1, n2, hw => by
    obtain rfl : i = m := e
    obtain ⟨w1, w2, w3, w4⟩ := WH_tk x hW
    refine ⟨h0, x, hw, fun d F => ?_⟩
    rw [r73_9]
    simp (disch := omega) only [e73, r73_0, r73_1, r73_2, r73_5, r73_6, r73_7, r73_8, r73_10, r73_11, r73_14, r73_17, r73_18, r73_19, r73_20, r73_23, r73_24, r73_25, r73_26, r73_29, r73_30, r73_33, r73_34, r73_37, r73_38, r73_39, r73_40, r73_43, r73_44, r73_47, r73_48, r73_51, r73_52, r73_53, r73_56, r73_59, r73_60, w1, kdC, kdM, rpC, rpM, q_rs, q_rn, Option.toList_some, Option.toList_none, List.cons_append, List.nil_append, true_and, and_true, eq_self, ↓reduceIte, not_true_eq_false, not_false_eq_true, Nat.reduceEqDiff, Nat.reduceLeDiff, Nat.reduceLT, Nat.reduceAdd, Nat.reduceMul, Nat.reduceSub, false_or, or_false, true_or, or_true, false_and, and_false, reduceCtorEq, q_n0, q_n1, q_em, q_em2, q_b0, q_b1, Classical.not_not, nI_add, pk_mul, nI_clamp, q_vp, nI_eq, nI_leI, nI_ltI, q_sub, Nat.le_refl]
  | k + 1, i, h0, e, x, n1, n2, hw => by
    have w := z.1
    have h2 := w.hnt
    obtain ⟨w1, w2, w3, w4⟩ := WH_tk x hW
    have hi : i < m := by omega
    obtain ⟨e1, e2⟩ := w3 i hi
    obtain ⟨h1, b1, b2, b3, b4, b5, b6⟩ := c70 (T := T) (t := wf i) (r := 0) (STS_fr (Tk_fr x) (Or.inl rfl) z) (by rw [x.p (a := 88) (i := 4) rfl]; exact hP) te (tAt_fr (Tk_fr x) ta) e2 (by omega) hw
    have hdp : DP h0 0 (wf i) = DP h 0 (wf i) := by unfold DP; rw [n1, n2]
    rw [hdp] at b6
    have x2 := x.trans b1
    have e92 : gI h1 92 (wf i) = bz (A (wf i)) := by rw [x2.g (a := 92) (i := wf i) rfl]; exact hA i hi
    have e89 : gI h1 89 i = nI (wf i) := by rw [b1.g (a := 89) (i := i) rfl]; exact e1
    obtain ⟨h', a1, a2, a3⟩ := cl73 z hP te ta hW A hA x1 k (i + 1) h1 (by omega) x2 (b2.trans n1) (b3.trans n2) b5
    refine ⟨h', a1, a2, fun d F => ?_⟩
    have b6' := fun F => b6 d F
    refine Eq.trans ?_ (a3 d F)
    rw [cnt_s, r73_9]
    by_cases c : isStp K T (wf i) (DP h 0 (wf i)) <;> by_cases c2 : A (wf i)
    · rw [pif_f (by simp only [c, c2]; decide)]
      simp (disch := omega) only [e73, r73_0, r73_1, r73_2, r73_5, r73_6, r73_7, r73_8, r73_10, r73_11, r73_14, r73_17, r73_18, r73_19, r73_20, r73_23, r73_24, r73_25, r73_26, r73_29, r73_30, r73_33, r73_34, r73_37, r73_38, r73_39, r73_40, r73_43, r73_44, r73_47, r73_48, r73_51, r73_52, r73_53, r73_56, r73_59, r73_60, w1, e1, e89, e92, b6', c127_0, c127_1, q_bt c, q_bt c2, kdC, kdM, rpC, rpM, q_rs, q_rn, Option.toList_some, Option.toList_none, List.cons_append, List.nil_append, true_and, and_true, eq_self, ↓reduceIte, not_true_eq_false, not_false_eq_true, Nat.reduceEqDiff, Nat.reduceLeDiff, Nat.reduceLT, Nat.reduceAdd, Nat.reduceMul, Nat.reduceSub, false_or, or_false, true_or, or_true, false_and, and_false, reduceCtorEq, q_n0, q_n1, q_em, q_em2, q_b0, q_b1, Classical.not_not, nI_add, pk_mul, nI_clamp, q_vp, nI_eq, nI_leI, nI_ltI, q_sub, show ¬ m ≤ i by omega, show i < 12 by omega, show wf i < 12 by omega, Nat.add_zero]
    · rw [pif_t (by simp only [c, c2]; decide)]
      simp (disch := omega) only [e73, r73_0, r73_1, r73_2, r73_5, r73_6, r73_7, r73_8, r73_10, r73_11, r73_14, r73_17, r73_18, r73_19, r73_20, r73_23, r73_24, r73_25, r73_26, r73_29, r73_30, r73_33, r73_34, r73_37, r73_38, r73_39, r73_40, r73_43, r73_44, r73_47, r73_48, r73_51, r73_52, r73_53, r73_56, r73_59, r73_60, w1, e1, e89, e92, b6', c127_0, c127_1, q_bt c, q_bf c2, kdC, kdM, rpC, rpM, q_rs, q_rn, Option.toList_some, Option.toList_none, List.cons_append, List.nil_append, true_and, and_true, eq_self, ↓reduceIte, not_true_eq_false, not_false_eq_true, Nat.reduceEqDiff, Nat.reduceLeDiff, Nat.reduceLT, Nat.reduceAdd, Nat.reduceMul, Nat.reduceSub, false_or, or_false, true_or, or_true, false_and, and_false, reduceCtorEq, q_n0, q_n1, q_em, q_em2, q_b0, q_b1, Classical.not_not, nI_add, pk_mul, nI_clamp, q_vp, nI_eq, nI_leI, nI_ltI, q_sub, show ¬ m ≤ i by omega, show i < 12 by omega, show wf i < 12 by omega]
    · rw [pif_t (by simp only [c, c2]; decide)]
      simp (disch := omega) only [e73, r73_0, r73_1, r73_2, r73_5, r73_6, r73_7, r73_8, r73_10, r73_11, r73_14, r73_17, r73_18, r73_19, r73_20, r73_23, r73_24, r73_25, r73_26, r73_29, r73_30, r73_33, r73_34, r73_37, r73_38, r73_39, r73_40, r73_43, r73_44, r73_47, r73_48, r73_51, r73_52, r73_53, r73_56, r73_59, r73_60, w1, e1, e89, e92, b6', c127_0, c127_1, q_bf c, q_bt c2, kdC, kdM, rpC, rpM, q_rs, q_rn, Option.toList_some, Option.toList_none, List.cons_append, List.nil_append, true_and, and_true, eq_self, ↓reduceIte, not_true_eq_false, not_false_eq_true, Nat.reduceEqDiff, Nat.reduceLeDiff, Nat.reduceLT, Nat.reduceAdd, Nat.reduceMul, Nat.reduceSub, false_or, or_false, true_or, or_true, false_and, and_false, reduceCtorEq, q_n0, q_n1, q_em, q_em2, q_b0, q_b1, Classical.not_not, nI_add, pk_mul, nI_clamp, q_vp, nI_eq, nI_leI, nI_ltI, q_sub, show ¬ m ≤ i by omega, show i < 12 by omega, show wf i < 12 by omega]
    · rw [pif_f (by simp only [c, c2]; decide)]
      simp (disch := omega) only [e73, r73_0, r73_1, r73_2, r73_5, r73_6, r73_7, r73_8, r73_10, r73_11, r73_14, r73_17, r73_18, r73_19, r73_20, r73_23, r73_24, r73_25, r73_26, r73_29, r73_30, r73_33, r73_34, r73_37, r73_38, r73_39, r73_40, r73_43, r73_44, r73_47, r73_48, r73_51, r73_52, r73_53, r73_56, r73_59, r73_60, w1, e1, e89, e92, b6', c127_0, c127_1, q_bf c, q_bf c2, kdC, kdM, rpC, rpM, q_rs, q_rn, Option.toList_some, Option.toList_none, List.cons_append, List.nil_append, true_and, and_true, eq_self, ↓reduceIte, not_true_eq_false, not_false_eq_true, Nat.reduceEqDiff, Nat.reduceLeDiff, Nat.reduceLT, Nat.reduceAdd, Nat.reduceMul, Nat.reduceSub, false_or, or_false, true_or, or_true, false_and, and_false, reduceCtorEq, q_n0, q_n1, q_em, q_em2, q_b0, q_b1, Classical.not_not, nI_add, pk_mul, nI_clamp, q_vp, nI_eq, nI_leI, nI_ltI, q_sub, show ¬ m ≤ i by omega, show i < 12 by omega, show wf i < 12 by omega, Nat.add_zero]
end VT
section VU
variable {h : Hp} {K : Nat → Int32} {Tm Ts : Tk} {tm ts a b m : Nat} {wf σ : Nat → Nat}
theorem c72 (z : STS h 0 K) (hP : gP h 88 3 = some a) (te : tEq K tm Tm) (ta : tAt h a Tm) (hQ : gP h 88 4 = some b) (te2 : tEq K ts Ts) (ta2 : tAt h b Ts) (hW : WH h m wf K) (hσ : isTurn K σ) (h23 : ∀ i, i < ns K → gI h 23 i = nI (σ i)) (hw0 : ∀ i, i < 4 → gI h 81 i = nI 0) : ∃ h', FrS tdS h h' ∧ (∀ i, i < 4 → gI h' 81 i = nI 0) ∧ (∀ j, j < m → gI h' 92 (wf j) = bz (isStp K Ts (wf j) (hdD K Tm σ (-1) (wf j) (ns K)))) ∧ ∀ d F, cwp true (d + 6) 72 [.ref 88] h F = F none h' := by
  obtain ⟨h1, y1, y2, y3, y4, y5⟩ := c65 (T := Tm) z hP te ta hW hσ h23 hw0 (-1)
  obtain ⟨h', a1, a2, a3, a4⟩ := cl72 (T := Ts) (STS_fr (Tk_fr y1) (Or.inl rfl) z) (by rw [y1.p (a := 88) (i := 4) rfl]; exact hQ) te2 (tAt_fr (Tk_fr y1) ta2) (WH_tk y1 hW) m 0 h1 (by omega) (FrS.refl h1) rfl rfl y4 (fun j hj => by omega)
  refine ⟨h', (Tk_td y1).trans a1, a2, fun j hj => by rw [a3 j hj, y2 j hj], fun d F => ?_⟩
  refine Eq.trans ?_ (a4 (d + 2) F)
  simp (disch := omega) only [r72_0, r72_1, r72_2, r72_5, r72_6, e72, y5, kdC, kdM, rpC, rpM, q_rs, q_rn, Option.toList_some, Option.toList_none, List.cons_append, List.nil_append, true_and, and_true, eq_self, ↓reduceIte, not_true_eq_false, not_false_eq_true, Nat.reduceEqDiff, Nat.reduceLeDiff, Nat.reduceLT, Nat.reduceAdd, Nat.reduceMul, Nat.reduceSub, false_or, or_false, true_or, or_true, false_and, and_false, reduceCtorEq, q_n0, q_n1, q_em, q_em2, q_b0, q_b1, Classical.not_not]
theorem c73 (z : STS h 0 K) (hP : gP h 88 3 = some a) (te : tEq K tm Tm) (ta : tAt h a Tm) (hQ : gP h 88 4 = some b) (te2 : tEq K ts Ts) (ta2 : tAt h b Ts) (hW : WH h m wf K) (hσ : isTurn K σ) (h23 : ∀ i, i < ns K → gI h 23 i = nI (σ i)) (hw0 : ∀ i, i < 4 → gI h 81 i = nI 0) (A : Nat → Prop) (hA : ∀ j, j < m → gI h 92 (wf j) = bz (A (wf j))) (x : Int32) : ∃ h', FrS tkS h h' ∧ (∀ i, i < 4 → gI h' 81 i = nI 0) ∧ ∀ d F, cwp true (d + 6) 73 [.ref 88, .int x] h F = F (some (.int (nI (cntT (fun i => ¬ (isStp K Ts (wf i) (hdD K Tm σ x (wf i) (ns K)) ↔ A (wf i))) m)))) h' := by
  obtain ⟨h1, y1, y2, y3, y4, y5⟩ := c65 (T := Tm) z hP te ta hW hσ h23 hw0 x
  obtain ⟨h', a1, a2, a3⟩ := cl73 (T := Ts) (STS_fr (Tk_fr y1) (Or.inl rfl) z) (by rw [y1.p (a := 88) (i := 4) rfl]; exact hQ) te2 (tAt_fr (Tk_fr y1) ta2) (WH_tk y1 hW) A (fun j hj => by rw [y1.g (a := 92) (i := wf j) rfl]; exact hA j hj) (.int x) m 0 h1 (by omega) (FrS.refl h1) rfl rfl y4
  have hcnt : cntT (fun i => ¬ (isStp K Ts (wf i) (DP h1 0 (wf i)) ↔ A (wf i))) m = cntT (fun i => ¬ (isStp K Ts (wf i) (hdD K Tm σ x (wf i) (ns K)) ↔ A (wf i))) m := cnt_cg m (fun i hi => by
    show (¬ (isStp K Ts (wf i) (DP h1 0 (wf i)) ↔ A (wf i))) ↔ _
    rw [y2 i hi])
  rw [hcnt] at a3
  refine ⟨h', y1.trans a1, a2, fun d F => ?_⟩
  refine Eq.trans ?_ (a3 (d + 2) F)
  simp (disch := omega) only [r73_0, r73_1, r73_2, r73_5, r73_6, r73_7, r73_8, e73, y5, kdC, kdM, rpC, rpM, q_rs, q_rn, Option.toList_some, Option.toList_none, List.cons_append, List.nil_append, true_and, and_true, eq_self, ↓reduceIte, not_true_eq_false, not_false_eq_true, Nat.reduceEqDiff, Nat.reduceLeDiff, Nat.reduceLT, Nat.reduceAdd, Nat.reduceMul, Nat.reduceSub, false_or, or_false, true_or, or_true, false_and, and_false, reduceCtorEq, q_n0, q_n1, q_em, q_em2, q_b0, q_b1, Classical.not_not]
  rfl
/-- class and model, with one sheet more -/
theorem ex_one {x s : Nat} (hs : s < ns K) (hx : x < ns K) (h12 : ns K ≤ 12) : exP K (nI x) s ↔ (sbt K (ns K) ||| 2 ^ x).testBit s = true := by
  rw [Nat.testBit_or, Bool.or_eq_true, sbt_bit, Nat.testBit_two_pow, decide_eq_true_iff]
  unfold exP
  rw [nI_eq (by omega) (by omega)]
  constructor
  · rintro (q | q)
    · exact Or.inl ⟨hs, q⟩
    · exact Or.inr q.symm
  · rintro (q | q)
    · exact Or.inl q.2
    · exact Or.inr q.symm
theorem hd_one (hσ : isTurn K σ) {x : Nat} (hx : x < ns K) (h12 : ns K ≤ 12) (t : Nat) : ∀ i, i ≤ ns K → hdD K Tm σ (nI x) t i = mdD K Tm σ (sbt K (ns K) ||| 2 ^ x) t i
  | 0, _ => rfl
  | i + 1, hi => by
    unfold hdD mdD
    rw [hd_one hσ hx h12 t i (by omega), propext (ex_one (hσ.1 i (by omega)) hx h12)]
theorem stp_vote (w : WF K) {t : Nat} {dp : Int32 × Int32} (ht : t < nt K) (hs : isStp K Ts t dp) : K (244 + 5 * t + 4) = nI 1 := by
  have h1 := (w.2.2.2.2.1 t ht).2.2.2.2
  have h2 := rg_n h1 (by omega)
  have h3 := rg_nI h1 (by omega)
  rcases (show (K (244 + 5 * t + 4)).toNatClampNeg = 0 ∨ (K (244 + 5 * t + 4)).toNatClampNeg = 1 by omega) with e | e <;> rw [e] at h3
  · exact absurd h3 hs.1
  · exact h3
/-- those who do otherwise, counted among voters or by bits -/
theorem oth_cnt (w : WF K) (fo : foI K (nI 1) (nt K) m wf) (A B : Nat → Int32 × Int32) : cntT (fun i => ¬ (isStp K Ts (wf i) (B (wf i)) ↔ isStp K Ts (wf i) (A (wf i)))) m = onesN 12 (stB (fun t => isStp K Ts t (A t)) (nt K) ^^^ stB (fun t => isStp K Ts t (B t)) (nt K)) := by
  have hnt := w.hnt
  rw [fo.2.2.2.2 (fun t => ¬ (isStp K Ts t (B t) ↔ isStp K Ts t (A t))), ones_cnt]
  have h1 : cntT (fun t => foP K (nI 1) t ∧ ¬ (isStp K Ts t (B t) ↔ isStp K Ts t (A t))) (nt K) = cntT (fun t => ¬ (isStp K Ts t (B t) ↔ isStp K Ts t (A t))) (nt K) := cnt_cg (nt K) (fun t ht => by
    refine ⟨fun q => q.2, fun q => ⟨?_, q⟩⟩
    by_cases c : isStp K Ts t (B t)
    · exact Or.inr (stp_vote w ht c)
    · by_cases c2 : isStp K Ts t (A t)
      · exact Or.inr (stp_vote w ht c2)
      · exact absurd (show (isStp K Ts t (B t) ↔ isStp K Ts t (A t)) from ⟨fun u => absurd u c, fun u => absurd u c2⟩) q)
  rw [h1, ← cnt_cut _ (nt K) (12 - nt K), show nt K + (12 - nt K) = 12 by omega]
  refine cnt_cg 12 (fun i hi => ?_)
  rw [Nat.testBit_xor]
  have e1 := stB_bit (fun t => isStp K Ts t (A t)) (nt K) i
  have e2 := stB_bit (fun t => isStp K Ts t (B t)) (nt K) i
  cases q1 : (stB (fun t => isStp K Ts t (A t)) (nt K)).testBit i with
  | true =>
    obtain ⟨u1, u2⟩ := e1.mp q1
    cases q2 : (stB (fun t => isStp K Ts t (B t)) (nt K)).testBit i with
    | true =>
      obtain ⟨u3, u4⟩ := e2.mp q2
      exact ⟨fun z => absurd ⟨fun _ => u2, fun _ => u4⟩ z.2, fun z => (by cases z)⟩
    | false =>
      have u4 : ¬ isStp K Ts i (B i) := fun u => by rw [e2.mpr ⟨u1, u⟩] at q2; cases q2
      exact ⟨fun _ => rfl, fun _ => ⟨u1, fun z => u4 (z.mpr u2)⟩⟩
  | false =>
    cases q2 : (stB (fun t => isStp K Ts t (B t)) (nt K)).testBit i with
    | true =>
      obtain ⟨u3, u4⟩ := e2.mp q2
      have u2 : ¬ isStp K Ts i (A i) := fun u => by rw [e1.mpr ⟨u3, u⟩] at q1; cases q1
      exact ⟨fun _ => rfl, fun _ => ⟨u3, fun z => u2 (z.mp u4)⟩⟩
    | false =>
      refine ⟨fun z => ?_, fun z => (by cases z)⟩
      exfalso
      have u2 : ¬ isStp K Ts i (A i) := fun u => by rw [e1.mpr ⟨z.1, u⟩] at q1; cases q1
      have u4 : ¬ isStp K Ts i (B i) := fun u => by rw [e2.mpr ⟨z.1, u⟩] at q2; cases q2
      exact z.2 ⟨fun u => absurd u u4, fun u => absurd u u2⟩
theorem m255 (hK : gI h 103 = K) (w : WF K) (x : Int32) (d : Nat) (F : Po) : (¬ (nI 0 ≤ x ∧ x < nI (ns K)) → cwp true (d + 2) 255 [.ref 101, .int x] h F = F (some (.int (nI 0))) h) ∧ ∀ s, x = nI s → s < ns K → cwp true (d + 2) 255 [.ref 101, .int x] h F = F (some (.int (bz (K (304 + 6 * s + 5) = nI 0)))) h := by
  have h1 := w.hns
  refine ⟨fun c => ?_, fun s e hs => ?_⟩
  · simp (disch := omega) only [e255, r255_0, r255_1, r255_2, r255_5, r255_8, r255_9, r255_10, r255_11, r255_14, r255_17, r255_18, r255_21, r255_22, m237 _ h _ hK w, c, kdC, kdM, rpC, rpM, q_rs, q_rn, Option.toList_some, Option.toList_none, List.cons_append, List.nil_append, true_and, and_true, eq_self, ↓reduceIte, not_true_eq_false, not_false_eq_true, Nat.reduceEqDiff, Nat.reduceLeDiff, Nat.reduceLT, Nat.reduceAdd, Nat.reduceMul, Nat.reduceSub, false_or, or_false, true_or, or_true, false_and, and_false, reduceCtorEq, q_n0, q_n1, q_em, q_em2, q_b0, q_b1, Classical.not_not]
  · subst e
    have c : nI 0 ≤ nI s ∧ nI s < nI (ns K) := by
      simp (disch := omega) only [nI_leI, nI_ltI]
      omega
    have t5 := fun F d => m235 d h F hK (show s < 12 by omega) (show 5 < 6 by omega)
    by_cases c5 : K (304 + 6 * s + 5) = nI 0
    · rw [q_bt c5]
      simp (disch := omega) only [e255, r255_0, r255_1, r255_2, r255_5, r255_8, r255_9, r255_10, r255_11, r255_14, r255_17, r255_18, r255_21, r255_22, m237 _ h _ hK w, t5, c, c5, kdC, kdM, rpC, rpM, q_rs, q_rn, Option.toList_some, Option.toList_none, List.cons_append, List.nil_append, true_and, and_true, eq_self, ↓reduceIte, not_true_eq_false, not_false_eq_true, Nat.reduceEqDiff, Nat.reduceLeDiff, Nat.reduceLT, Nat.reduceAdd, Nat.reduceMul, Nat.reduceSub, false_or, or_false, true_or, or_true, false_and, and_false, reduceCtorEq, q_n0, q_n1, q_em, q_em2, q_b0, q_b1, Classical.not_not]
    · rw [q_bf c5]
      simp (disch := omega) only [e255, r255_0, r255_1, r255_2, r255_5, r255_8, r255_9, r255_10, r255_11, r255_14, r255_17, r255_18, r255_21, r255_22, m237 _ h _ hK w, t5, c, c5, kdC, kdM, rpC, rpM, q_rs, q_rn, Option.toList_some, Option.toList_none, List.cons_append, List.nil_append, true_and, and_true, eq_self, ↓reduceIte, not_true_eq_false, not_false_eq_true, Nat.reduceEqDiff, Nat.reduceLeDiff, Nat.reduceLT, Nat.reduceAdd, Nat.reduceMul, Nat.reduceSub, false_or, or_false, true_or, or_true, false_and, and_false, reduceCtorEq, q_n0, q_n1, q_em, q_em2, q_b0, q_b1, Classical.not_not]
/-- partsOf -/
theorem m254 (hK : gI h 103 = K) (w : WF K) (htm : tm < 10) (te : tEq K tm Tm) (hts : ts < 10) (te2 : tEq K ts Ts) (hσ : isTurn K σ) {s : Nat} (hs : s < ns K) : ∃ h', FrS mwS h h' ∧ ∀ d F, cwp true (d + 70) 254 [.ref 101, .int (nI tm), .int (nI ts), .int (nI s)] h F = F (some (.int (nI (onesN 12 (stB (fun t => isStp K Ts t (mdD K Tm σ (sbt K (ns K)) t (ns K))) (nt K) ^^^ stB (fun t => isStp K Ts t (mdD K Tm σ (sbt K (ns K) ||| 2 ^ s) t (ns K))) (nt K)))))) h' := by
  have hns := w.hns
  have hnt := w.hnt
  have hP : 2 ^ ns K ≤ 2 ^ 12 := Nat.pow_le_pow_right (by omega) hns.2
  have hQ : 2 ^ nt K ≤ 2 ^ 12 := Nat.pow_le_pow_right (by omega) hnt.2
  have hsb := sbt_lt K (ns K)
  have hs2 : 2 ^ s < 2 ^ ns K := Nat.pow_lt_pow_right (by omega) hs
  have hor : sbt K (ns K) ||| 2 ^ s < 2 ^ ns K := Nat.or_lt_two_pow hsb hs2
  obtain ⟨g1, a1, a2, a3, a4, a5⟩ := m246 (Tm := Tm) (Ts := Ts) (tm := tm) (ts := ts) (M := sbt K (ns K)) hK w htm te hts te2 hσ (by omega)
  have hK1 : gI g1 103 = K := (Mw_fr a1).K.trans hK
  obtain ⟨g2, b1, b2, b3, b4, b5⟩ := m246 (Tm := Tm) (Ts := Ts) (tm := tm) (ts := ts) (M := sbt K (ns K) ||| 2 ^ s) hK1 w htm te hts te2 hσ (by omega)
  refine ⟨g2, a1.trans b1, fun d F => ?_⟩
  have l1 := stB_lt (fun t => isStp K Ts t (mdD K Tm σ (sbt K (ns K)) t (ns K))) (nt K)
  have l2 := stB_lt (fun t => isStp K Ts t (mdD K Tm σ (sbt K (ns K) ||| 2 ^ s) t (ns K))) (nt K)
  have l3 := Nat.xor_lt_two_pow l1 l2
  have a5' := fun F => a5 d F
  have b5' := fun F => b5 d F
  have sh : nI 1 <<< (nI s &&& 31) = nI (2 ^ s) := by rw [n_shl (by omega) (by omega), Nat.one_mul]
  simp (disch := omega) only [e254, r254_0, r254_1, r254_2, r254_3, r254_4, r254_7, r254_8, r254_11, r254_12, r254_13, r254_16, r254_18, r254_19, r254_20, r254_21, r254_22, r254_25, r254_26, r254_27, r254_28, r254_29, r254_30, r254_33, r254_34, r254_36, r254_37, r254_40, r254_41, r254_44, m241 _ h _ hK w, m241 _ g1 _ hK1 w, a5', a4, sh, n_or, b5', b4, n_xor, m250, kdC, kdM, rpC, rpM, q_rs, q_rn, Option.toList_some, Option.toList_none, List.cons_append, List.nil_append, true_and, and_true, eq_self, ↓reduceIte, not_true_eq_false, not_false_eq_true, Nat.reduceEqDiff, Nat.reduceLeDiff, Nat.reduceLT, Nat.reduceAdd, Nat.reduceMul, Nat.reduceSub, false_or, or_false, true_or, or_true, false_and, and_false, reduceCtorEq, q_n0, q_n1, q_em, q_em2, q_b0, q_b1, Classical.not_not]
end VU
