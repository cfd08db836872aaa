/-! least, more -/
def bitI (x : Int32) : Int32 :=
  let y := x - ((x.toUInt32 >>> ((nI 1).toUInt32 &&& Int32.toUInt32 31)).toInt32 &&& nI 1431655765)
  let y := (y &&& nI 858993459) + ((y.toUInt32 >>> ((nI 2).toUInt32 &&& Int32.toUInt32 31)).toInt32 &&& nI 858993459)
  let y := (y + (y.toUInt32 >>> ((nI 4).toUInt32 &&& Int32.toUInt32 31)).toInt32) &&& nI 252645135
  let y := y + (y.toUInt32 >>> ((nI 8).toUInt32 &&& Int32.toUInt32 31)).toInt32
  let y := y + (y.toUInt32 >>> ((nI 16).toUInt32 &&& Int32.toUInt32 31)).toInt32
  y &&& nI 63
theorem bitA : allN (fun M => decide (bitI (nI M) = nI (onesN 12 M))) 4096 = true := by decide +kernel
theorem c261 {M : Nat} (hM : M < 4096) (h : Hp) (d : Nat) (F : Po) : cwp true d 261 [.int (nI M)] h F = F (some (.int (nI (onesN 12 M)))) h := by
  have h1 := of_decide_eq_true (allN_x 4096 bitA M hM)
  rw [← h1]
  simp only [e261, r261_0, r261_1, r261_2, r261_3, r261_4, r261_7, r261_8, r261_9, r261_10, r261_11, r261_14, r261_15, r261_16, r261_17, r261_18, r261_21, r261_22, r261_23, r261_24, r261_25, r261_26, r261_27, r261_28, r261_29, r261_32, r261_33, r261_34, r261_35, r261_36, r261_38, r261_39, r261_40, r261_41, r261_42, r261_43, r261_45, r261_46, r261_47, r261_48, r261_49, r261_51, r261_52, kdC, kdM, rpC, rpM, q_rs, q_rn, Option.toList_some, Option.toList_none, List.cons_append, List.nil_append, true_and, and_true, eq_self, ↓reduceIte, not_true_eq_false, not_false_eq_true, Nat.reduceEqDiff, Nat.reduceLeDiff, Nat.reduceLT, Nat.reduceAdd, Nat.reduceMul, Nat.reduceSub, false_or, or_false, true_or, or_true, false_and, and_false, reduceCtorEq, q_n0, q_n1, q_em, q_em2, q_b0, q_b1, Classical.not_not]
  rfl
/-- the i-th of a set -/
def mrV (M : Nat) (i : Int32) : Nat → Nat → Nat → Int32
  | 0, _, _ => -1
  | k + 1, s, p => if M.testBit s = true then (if nI p = i then nI s else mrV M i k (s + 1) (p + 1)) else mrV M i k (s + 1) p
theorem cl117 {h : Hp} {K : Nat → Int32} (w : WF K) (q : RS h 0 K) {M : Nat} (hM : M < 4096) (i : Int32) (v1 v2 : Value) (d : Nat) (F : Po) : ∀ k s p, s + k = ns K → p ≤ s → wp true d 117 39 [.ref 1, v1, v2, .int i, .int (nI M), .int (nI p), .int (nI s)] [] h F = F (some (.int (mrV M i k s p))) h
  | 0, s, p, e, hp => by
    obtain rfl : s = ns K := e
    have hns := w.hns
    rw [r117_39]
    simp (disch := omega) only [e117, r117_0, r117_1, r117_4, r117_5, r117_6, r117_7, r117_8, r117_11, r117_14, r117_15, r117_16, r117_17, r117_20, r117_23, r117_25, r117_27, r117_28, r117_31, r117_32, r117_33, r117_34, r117_36, r117_37, r117_41, r117_42, r117_45, r117_48, r117_51, r117_54, r117_56, r117_58, r117_59, r117_60, r117_61, r117_62, r117_65, r117_67, r117_68, r117_71, r117_73, r117_74, r117_77, r117_80, r117_83, r117_84, q.hns, hns, kdC, kdM, rpC, rpM, q_rs, q_rn, Option.toList_some, Option.toList_none, List.cons_append, List.nil_append, true_and, and_true, eq_self, ↓reduceIte, not_true_eq_false, not_false_eq_true, Nat.reduceEqDiff, Nat.reduceLeDiff, Nat.reduceLT, Nat.reduceAdd, Nat.reduceMul, Nat.reduceSub, false_or, or_false, true_or, or_true, false_and, and_false, reduceCtorEq, q_n0, q_n1, q_em, q_em2, q_b0, q_b1, Classical.not_not, nI_add, pk_mul, nI_clamp, q_vp, nI_eq, nI_leI, nI_ltI, q_sub, Nat.le_refl]
    rfl
  | k + 1, s, p, e, hp => by
    have hns := w.hns
    have hb := n_bit (M := M) (s := s) (by omega) (by omega)
    rw [show mrV M i (k + 1) s p = if M.testBit s = true then (if nI p = i then nI s else mrV M i k (s + 1) (p + 1)) else mrV M i k (s + 1) p from rfl, r117_39]
    cases c : M.testBit s with
    | false =>
      rw [c] at hb
      have hb' : nI M >>> (nI s &&& 31) &&& nI 1 = nI 0 := hb
      refine Eq.trans ?_ (cl117 w q hM i v1 v2 d F k (s + 1) p (by omega) (by omega))
      simp (disch := omega) only [e117, r117_0, r117_1, r117_4, r117_5, r117_6, r117_7, r117_8, r117_11, r117_14, r117_15, r117_16, r117_17, r117_20, r117_23, r117_25, r117_27, r117_28, r117_31, r117_32, r117_33, r117_34, r117_36, r117_37, r117_41, r117_42, r117_45, r117_48, r117_51, r117_54, r117_56, r117_58, r117_59, r117_60, r117_61, r117_62, r117_65, r117_67, r117_68, r117_71, r117_73, r117_74, r117_77, r117_80, r117_83, r117_84, q.hns, hns, hb', kdC, kdM, rpC, rpM, q_rs, q_rn, Option.toList_some, Option.toList_none, List.cons_append, List.nil_append, true_and, and_true, eq_self, ↓reduceIte, not_true_eq_false, not_false_eq_true, Nat.reduceEqDiff, Nat.reduceLeDiff, Nat.reduceLT, Nat.reduceAdd, Nat.reduceMul, Nat.reduceSub, false_or, or_false, true_or, or_true, false_and, and_false, reduceCtorEq, q_n0, q_n1, q_em, q_em2, q_b0, q_b1, Classical.not_not, nI_add, pk_mul, nI_clamp, q_vp, nI_eq, nI_leI, nI_ltI, q_sub, show ¬ ns K ≤ s by omega]
    | true =>
      rw [c] at hb
      have hb' : nI M >>> (nI s &&& 31) &&& nI 1 = nI 1 := hb
      by_cases c2 : nI p = i
      · rw [if_pos rfl, if_pos c2]
        simp (disch := omega) only [e117, r117_0, r117_1, r117_4, r117_5, r117_6, r117_7, r117_8, r117_11, r117_14, r117_15, r117_16, r117_17, r117_20, r117_23, r117_25, r117_27, r117_28, r117_31, r117_32, r117_33, r117_34, r117_36, r117_37, r117_41, r117_42, r117_45, r117_48, r117_51, r117_54, r117_56, r117_58, r117_59, r117_60, r117_61, r117_62, r117_65, r117_67, r117_68, r117_71, r117_73, r117_74, r117_77, r117_80, r117_83, r117_84, q.hns, hns, hb', c2, kdC, kdM, rpC, rpM, q_rs, q_rn, Option.toList_some, Option.toList_none, List.cons_append, List.nil_append, true_and, and_true, eq_self, ↓reduceIte, not_true_eq_false, not_false_eq_true, Nat.reduceEqDiff, Nat.reduceLeDiff, Nat.reduceLT, Nat.reduceAdd, Nat.reduceMul, Nat.reduceSub, false_or, or_false, true_or, or_true, false_and, and_false, reduceCtorEq, q_n0, q_n1, q_em, q_em2, q_b0, q_b1, Classical.not_not, nI_add, pk_mul, nI_clamp, q_vp, nI_eq, nI_leI, nI_ltI, q_sub, show ¬ ns K ≤ s by omega]
      · rw [if_pos rfl, if_neg c2]
        refine Eq.trans ?_ (cl117 w q hM i v1 v2 d F k (s + 1) (p + 1) (by omega) (by omega))
        simp (disch := omega) only [e117, r117_0, r117_1, r117_4, r117_5, r117_6, r117_7, r117_8, r117_11, r117_14, r117_15, r117_16, r117_17, r117_20, r117_23, r117_25, r117_27, r117_28, r117_31, r117_32, r117_33, r117_34, r117_36, r117_37, r117_41, r117_42, r117_45, r117_48, r117_51, r117_54, r117_56, r117_58, r117_59, r117_60, r117_61, r117_62, r117_65, r117_67, r117_68, r117_71, r117_73, r117_74, r117_77, r117_80, r117_83, r117_84, q.hns, hns, hb', c2, kdC, kdM, rpC, rpM, q_rs, q_rn, Option.toList_some, Option.toList_none, List.cons_append, List.nil_append, true_and, and_true, eq_self, ↓reduceIte, not_true_eq_false, not_false_eq_true, Nat.reduceEqDiff, Nat.reduceLeDiff, Nat.reduceLT, Nat.reduceAdd, Nat.reduceMul, Nat.reduceSub, false_or, or_false, true_or, or_true, false_and, and_false, reduceCtorEq, q_n0, q_n1, q_em, q_em2, q_b0, q_b1, Classical.not_not, nI_add, pk_mul, nI_clamp, q_vp, nI_eq, nI_leI, nI_ltI, q_sub, show ¬ ns K ≤ s by omega]
theorem ml253 {h : Hp} {K : Nat → Int32} (hK : gI h 103 = K) (w : WF K) {M : Nat} (hM : M < 4096) (i : Int32) (v1 v2 : Value) (d : Nat) (F : Po) : ∀ k s p, s + k = ns K → p ≤ s → wp true (d + 1) 253 36 [.ref 101, v1, v2, .int i, .int (nI M), .int (nI p), .int (nI s)] [] h F = F (some (.int (mrV M i k s p))) h
  | 0, s, p, e, hp => by
    obtain rfl : s = ns K := e
    have hns := w.hns
    rw [r253_36]
    simp (disch := omega) only [e253, r253_0, r253_1, r253_2, r253_5, r253_8, r253_9, r253_10, r253_13, r253_16, r253_17, r253_20, r253_21, r253_22, r253_23, r253_24, r253_25, r253_28, r253_30, r253_31, r253_33, r253_34, r253_38, r253_39, r253_42, r253_45, r253_47, r253_48, r253_51, r253_53, r253_55, r253_56, r253_57, r253_58, r253_61, r253_64, r253_66, r253_67, r253_70, r253_72, r253_73, r253_76, r253_79, r253_82, r253_83, m233 _ h _ hK w, kdC, kdM, rpC, rpM, q_rs, q_rn, Option.toList_some, Option.toList_none, List.cons_append, List.nil_append, true_and, and_true, eq_self, ↓reduceIte, not_true_eq_false, not_false_eq_true, Nat.reduceEqDiff, Nat.reduceLeDiff, Nat.reduceLT, Nat.reduceAdd, Nat.reduceMul, Nat.reduceSub, false_or, or_false, true_or, or_true, false_and, and_false, reduceCtorEq, q_n0, q_n1, q_em, q_em2, q_b0, q_b1, Classical.not_not, nI_add, pk_mul, nI_clamp, q_vp, nI_eq, nI_leI, nI_ltI, q_sub, Nat.le_refl]
    rfl
  | k + 1, s, p, e, hp => by
    have hns := w.hns
    have hb := n_bit (M := M) (s := s) (by omega) (by omega)
    rw [show mrV M i (k + 1) s p = if M.testBit s = true then (if nI p = i then nI s else mrV M i k (s + 1) (p + 1)) else mrV M i k (s + 1) p from rfl, r253_36]
    cases c : M.testBit s with
    | false =>
      rw [c] at hb
      have hb' : nI M >>> (nI s &&& 31) &&& nI 1 = nI 0 := hb
      refine Eq.trans ?_ (ml253 hK w hM i v1 v2 d F k (s + 1) p (by omega) (by omega))
      simp (disch := omega) only [e253, r253_0, r253_1, r253_2, r253_5, r253_8, r253_9, r253_10, r253_13, r253_16, r253_17, r253_20, r253_21, r253_22, r253_23, r253_24, r253_25, r253_28, r253_30, r253_31, r253_33, r253_34, r253_38, r253_39, r253_42, r253_45, r253_47, r253_48, r253_51, r253_53, r253_55, r253_56, r253_57, r253_58, r253_61, r253_64, r253_66, r253_67, r253_70, r253_72, r253_73, r253_76, r253_79, r253_82, r253_83, m233 _ h _ hK w, hb', q_nm, kdC, kdM, rpC, rpM, q_rs, q_rn, Option.toList_some, Option.toList_none, List.cons_append, List.nil_append, true_and, and_true, eq_self, ↓reduceIte, not_true_eq_false, not_false_eq_true, Nat.reduceEqDiff, Nat.reduceLeDiff, Nat.reduceLT, Nat.reduceAdd, Nat.reduceMul, Nat.reduceSub, false_or, or_false, true_or, or_true, false_and, and_false, reduceCtorEq, q_n0, q_n1, q_em, q_em2, q_b0, q_b1, Classical.not_not, nI_add, pk_mul, nI_clamp, q_vp, nI_eq, nI_leI, nI_ltI, q_sub, show ¬ ns K ≤ s by omega]
    | true =>
      rw [c] at hb
      have hb' : nI M >>> (nI s &&& 31) &&& nI 1 = nI 1 := hb
      by_cases c2 : nI p = i
      · rw [if_pos rfl, if_pos c2]
        simp (disch := omega) only [e253, r253_0, r253_1, r253_2, r253_5, r253_8, r253_9, r253_10, r253_13, r253_16, r253_17, r253_20, r253_21, r253_22, r253_23, r253_24, r253_25, r253_28, r253_30, r253_31, r253_33, r253_34, r253_38, r253_39, r253_42, r253_45, r253_47, r253_48, r253_51, r253_53, r253_55, r253_56, r253_57, r253_58, r253_61, r253_64, r253_66, r253_67, r253_70, r253_72, r253_73, r253_76, r253_79, r253_82, r253_83, m233 _ h _ hK w, hb', q_nm, c2, kdC, kdM, rpC, rpM, q_rs, q_rn, Option.toList_some, Option.toList_none, List.cons_append, List.nil_append, true_and, and_true, eq_self, ↓reduceIte, not_true_eq_false, not_false_eq_true, Nat.reduceEqDiff, Nat.reduceLeDiff, Nat.reduceLT, Nat.reduceAdd, Nat.reduceMul, Nat.reduceSub, false_or, or_false, true_or, or_true, false_and, and_false, reduceCtorEq, q_n0, q_n1, q_em, q_em2, q_b0, q_b1, Classical.not_not, nI_add, pk_mul, nI_clamp, q_vp, nI_eq, nI_leI, nI_ltI, q_sub, show ¬ ns K ≤ s by omega]
      · rw [if_pos rfl, if_neg c2]
        refine Eq.trans ?_ (ml253 hK w hM i v1 v2 d F k (s + 1) (p + 1) (by omega) (by omega))
        simp (disch := omega) only [e253, r253_0, r253_1, r253_2, r253_5, r253_8, r253_9, r253_10, r253_13, r253_16, r253_17, r253_20, r253_21, r253_22, r253_23, r253_24, r253_25, r253_28, r253_30, r253_31, r253_33, r253_34, r253_38, r253_39, r253_42, r253_45, r253_47, r253_48, r253_51, r253_53, r253_55, r253_56, r253_57, r253_58, r253_61, r253_64, r253_66, r253_67, r253_70, r253_72, r253_73, r253_76, r253_79, r253_82, r253_83, m233 _ h _ hK w, hb', q_nm, c2, kdC, kdM, rpC, rpM, q_rs, q_rn, Option.toList_some, Option.toList_none, List.cons_append, List.nil_append, true_and, and_true, eq_self, ↓reduceIte, not_true_eq_false, not_false_eq_true, Nat.reduceEqDiff, Nat.reduceLeDiff, Nat.reduceLT, Nat.reduceAdd, Nat.reduceMul, Nat.reduceSub, false_or, or_false, true_or, or_true, false_and, and_false, reduceCtorEq, q_n0, q_n1, q_em, q_em2, q_b0, q_b1, Classical.not_not, nI_add, pk_mul, nI_clamp, q_vp, nI_eq, nI_leI, nI_ltI, q_sub, show ¬ ns K ≤ s by omega]
/-- both find the same -/
theorem lst_both {n : Nat} {h : Hp} (z : Inv n h) {t1 t2 : Nat} (ht1 : t1 < nx (gI h 103)) (ht2 : t2 < nx (gI h 103)) : ∃ (x : Option Nat) (h1 h2 : Hp), (∀ B, x = some B → B < 4096) ∧ FrS kpS h h2 ∧ CAS h2 ∧ (∀ d F, cwp true (d + 3) 136 [.ref 1, .int (nI t1), .int (nI t2), .int (nI 1)] h F = F (some (.int (nI 1))) h1) ∧ (∀ d F, cwp true (d + 20) 74 [.ref 88] h1 F = F (some (.int (lsI x))) h2) ∧ ∃ h3, FrS mwS h2 h3 ∧ ∀ d F, cwp true (d + 71) 251 [.ref 101, .int (nI t1), .int (nI t2)] h2 F = F (some (.int (lsI x))) h3 := by
  have w := z.1.1
  have hn := w.hnx
  have hns := w.hns
  have hP : 2 ^ ns (gI h 103) ≤ 2 ^ 12 := Nat.pow_le_pow_right (by omega) hns.2
  obtain ⟨s1, T1, p1, p2, p3⟩ := z.1.2.2.1 t1 ht1
  obtain ⟨s2, T2, r1, r2, r3⟩ := z.1.2.2.1 t2 ht2
  obtain ⟨σ, hσ, hu⟩ := z.1.2.2.2
  obtain ⟨h1, m, wf, x1, x2, x3, x4, x5, x6, x7⟩ := c136 z (v := nI 1) (Or.inr rfl) ht1 ht2 p1 r1
  obtain ⟨h2, x, y1, y2, y3, y4⟩ := c74 (Tm := T1) (Ts := T2) z x1 rfl x2 p3 (tAt_fr x1 p2) x3 r3 (tAt_fr x1 r2) x4 x5 hσ (fun i hi => by rw [x1.g (a := 23) (i := i) rfl]; exact hu i hi) (fun i hi => x6 i (by omega))
  obtain ⟨h3, x', v1, v2, v3⟩ := m251 (tm := t1) (ts := t2) (h := h2) (ca_K y1) w (by omega) p3 (by omega) r3 hσ
  obtain rfl := isLst_u y3 v2
  refine ⟨x, h1, h2, fun B e => ?_, y1, y2, x7, y4, h3, v1, v3⟩
  subst e
  have := y3.1.1
  omega
theorem CAS_mw {h h' : Hp} (x : FrS mwS h h') (z : CAS h) : CAS h' := by
  have f := Mw_fr x
  exact CAS_mu0 (ca_mu (Fr_ca f)) f.K (f.g (a := 88) (i := 11) rfl) (f.p (a := 88) (i := 12) rfl) (f.p (a := 88) (i := 13) rfl) z
theorem p_least {n : Nat} {h : Hp} (z : Inv n h) (a b : Int32) : PRI n h 116 252 [.int a, .int b] := by
  intro d
  have w := z.1.1
  have hn := w.hnx
  by_cases hAB : (nI 0 ≤ a ∧ a < nI (nx (gI h 103))) ∧ (nI 0 ≤ b ∧ b < nI (nx (gI h 103)))
  · obtain ⟨hA, hB⟩ := hAB
    obtain ⟨t1, ht1, rfl⟩ := q_ix (by omega) hA.1 hA.2
    obtain ⟨t2, ht2, rfl⟩ := q_ix (by omega) hB.1 hB.2
    obtain ⟨x, h1, h2, k1, k2, k3, k4, k5, h3, k6, k7⟩ := lst_both z ht1 ht2
    have k4' := fun F => k4 (d + 896) F
    have k5' := fun F => k5 (d + 879) F
    have k7' := fun F => k7 (d + 828) F
    have hI := Inv_ca (k2.trans (Fr_ca (Mw_fr k6))) z (CAS_mw k6 k3)
    cases x with
    | none =>
      rw [lsI_n] at k5' k7'
      refine ⟨-1, h2, h3, fun F => ?_, fun F => ?_, hI⟩
      · simp (disch := omega) only [e116, r116_0, r116_1, r116_2, r116_3, r116_4, r116_7, r116_10, r116_11, r116_12, r116_13, r116_16, r116_19, r116_20, r116_21, r116_22, r116_25, r116_26, r116_29, r116_30, r116_33, k4', k5', kdC, kdM, rpC, rpM, q_rs, q_rn, Option.toList_some, Option.toList_none, List.cons_append, List.nil_append, true_and, and_true, eq_self, ↓reduceIte, not_true_eq_false, not_false_eq_true, Nat.reduceEqDiff, Nat.reduceLeDiff, Nat.reduceLT, Nat.reduceAdd, Nat.reduceMul, Nat.reduceSub, false_or, or_false, true_or, or_true, false_and, and_false, reduceCtorEq, q_n0, q_n1, q_em, q_em2, q_b0, q_b1, Classical.not_not]
      · simp (disch := omega) only [e252, r252_0, r252_1, r252_2, r252_5, r252_8, r252_9, r252_10, r252_13, r252_16, r252_17, r252_18, r252_19, r252_20, r252_21, r252_24, r252_25, r252_26, r252_27, r252_30, r252_31, r252_34, r252_35, r252_38, c150 _ _ _ (ca_K k2) w, hA, hB, k7', kdC, kdM, rpC, rpM, q_rs, q_rn, Option.toList_some, Option.toList_none, List.cons_append, List.nil_append, true_and, and_true, eq_self, ↓reduceIte, not_true_eq_false, not_false_eq_true, Nat.reduceEqDiff, Nat.reduceLeDiff, Nat.reduceLT, Nat.reduceAdd, Nat.reduceMul, Nat.reduceSub, false_or, or_false, true_or, or_true, false_and, and_false, reduceCtorEq, q_n0, q_n1, q_em, q_em2, q_b0, q_b1, Classical.not_not]
    | some B =>
      have hB' := k1 B rfl
      rw [lsI_s] at k5' k7'
      refine ⟨nI (onesN 12 B), h2, h3, fun F => ?_, fun F => ?_, hI⟩
      · simp (disch := omega) only [e116, r116_0, r116_1, r116_2, r116_3, r116_4, r116_7, r116_10, r116_11, r116_12, r116_13, r116_16, r116_19, r116_20, r116_21, r116_22, r116_25, r116_26, r116_29, r116_30, r116_33, k4', k5', q_nm, c261, kdC, kdM, rpC, rpM, q_rs, q_rn, Option.toList_some, Option.toList_none, List.cons_append, List.nil_append, true_and, and_true, eq_self, ↓reduceIte, not_true_eq_false, not_false_eq_true, Nat.reduceEqDiff, Nat.reduceLeDiff, Nat.reduceLT, Nat.reduceAdd, Nat.reduceMul, Nat.reduceSub, false_or, or_false, true_or, or_true, false_and, and_false, reduceCtorEq, q_n0, q_n1, q_em, q_em2, q_b0, q_b1, Classical.not_not]
      · simp (disch := omega) only [e252, r252_0, r252_1, r252_2, r252_5, r252_8, r252_9, r252_10, r252_13, r252_16, r252_17, r252_18, r252_19, r252_20, r252_21, r252_24, r252_25, r252_26, r252_27, r252_30, r252_31, r252_34, r252_35, r252_38, c150 _ _ _ (ca_K k2) w, hA, hB, k7', q_nm, m250, kdC, kdM, rpC, rpM, q_rs, q_rn, Option.toList_some, Option.toList_none, List.cons_append, List.nil_append, true_and, and_true, eq_self, ↓reduceIte, not_true_eq_false, not_false_eq_true, Nat.reduceEqDiff, Nat.reduceLeDiff, Nat.reduceLT, Nat.reduceAdd, Nat.reduceMul, Nat.reduceSub, false_or, or_false, true_or, or_true, false_and, and_false, reduceCtorEq, q_n0, q_n1, q_em, q_em2, q_b0, q_b1, Classical.not_not]
  · have hno := fun F => c136n z (v := nI 1) hAB (d + 896) F
    refine ⟨-1, h, h, fun F => ?_, fun F => ?_, Inv_fr (Fr.refl h) z⟩
    · simp (disch := omega) only [e116, r116_0, r116_1, r116_2, r116_3, r116_4, r116_7, r116_10, r116_11, r116_12, r116_13, r116_16, r116_19, r116_20, r116_21, r116_22, r116_25, r116_26, r116_29, r116_30, r116_33, hno, kdC, kdM, rpC, rpM, q_rs, q_rn, Option.toList_some, Option.toList_none, List.cons_append, List.nil_append, true_and, and_true, eq_self, ↓reduceIte, not_true_eq_false, not_false_eq_true, Nat.reduceEqDiff, Nat.reduceLeDiff, Nat.reduceLT, Nat.reduceAdd, Nat.reduceMul, Nat.reduceSub, false_or, or_false, true_or, or_true, false_and, and_false, reduceCtorEq, q_n0, q_n1, q_em, q_em2, q_b0, q_b1, Classical.not_not]
    · by_cases hA : nI 0 ≤ a ∧ a < nI (nx (gI h 103))
      · have hB : ¬ (nI 0 ≤ b ∧ b < nI (nx (gI h 103))) := fun u => hAB ⟨hA, u⟩
        simp (disch := omega) only [e252, r252_0, r252_1, r252_2, r252_5, r252_8, r252_9, r252_10, r252_13, r252_16, r252_17, r252_18, r252_19, r252_20, r252_21, r252_24, r252_25, r252_26, r252_27, r252_30, r252_31, r252_34, r252_35, r252_38, c150 _ _ _ rfl w, hA, hB, kdC, kdM, rpC, rpM, q_rs, q_rn, Option.toList_some, Option.toList_none, List.cons_append, List.nil_append, true_and, and_true, eq_self, ↓reduceIte, not_true_eq_false, not_false_eq_true, Nat.reduceEqDiff, Nat.reduceLeDiff, Nat.reduceLT, Nat.reduceAdd, Nat.reduceMul, Nat.reduceSub, false_or, or_false, true_or, or_true, false_and, and_false, reduceCtorEq, q_n0, q_n1, q_em, q_em2, q_b0, q_b1, Classical.not_not]
      · simp (disch := omega) only [e252, r252_0, r252_1, r252_2, r252_5, r252_8, r252_9, r252_10, r252_13, r252_16, r252_17, r252_18, r252_19, r252_20, r252_21, r252_24, r252_25, r252_26, r252_27, r252_30, r252_31, r252_34, r252_35, r252_38, c150 _ _ _ rfl w, hA, kdC, kdM, rpC, rpM, q_rs, q_rn, Option.toList_some, Option.toList_none, List.cons_append, List.nil_append, true_and, and_true, eq_self, ↓reduceIte, not_true_eq_false, not_false_eq_true, Nat.reduceEqDiff, Nat.reduceLeDiff, Nat.reduceLT, Nat.reduceAdd, Nat.reduceMul, Nat.reduceSub, false_or, or_false, true_or, or_true, false_and, and_false, reduceCtorEq, q_n0, q_n1, q_em, q_em2, q_b0, q_b1, Classical.not_not]
theorem p_more {n : Nat} {h : Hp} (z : Inv n h) (a b c : Int32) : PRI n h 117 253 [.int a, .int b, .int c] := by
  intro d
  have w := z.1.1
  have hn := w.hnx
  by_cases hC : c < nI 0
  · have hC' : ¬ nI 0 ≤ c := Int32.not_le.mpr hC
    refine ⟨-1, h, h, fun F => ?_, fun F => ?_, Inv_fr (Fr.refl h) z⟩
    · simp (disch := omega) only [e117, r117_0, r117_1, r117_4, r117_5, r117_6, r117_7, r117_8, r117_11, r117_14, r117_15, r117_16, r117_17, r117_20, r117_23, r117_25, r117_27, r117_28, r117_31, r117_32, r117_33, r117_34, r117_36, r117_37, r117_41, r117_42, r117_45, r117_48, r117_51, r117_54, r117_56, r117_58, r117_59, r117_60, r117_61, r117_62, r117_65, r117_67, r117_68, r117_71, r117_73, r117_74, r117_77, r117_80, r117_83, r117_84, hC, kdC, kdM, rpC, rpM, q_rs, q_rn, Option.toList_some, Option.toList_none, List.cons_append, List.nil_append, true_and, and_true, eq_self, ↓reduceIte, not_true_eq_false, not_false_eq_true, Nat.reduceEqDiff, Nat.reduceLeDiff, Nat.reduceLT, Nat.reduceAdd, Nat.reduceMul, Nat.reduceSub, false_or, or_false, true_or, or_true, false_and, and_false, reduceCtorEq, q_n0, q_n1, q_em, q_em2, q_b0, q_b1, Classical.not_not]
    · by_cases hA : nI 0 ≤ a ∧ a < nI (nx (gI h 103)) <;> by_cases hB : nI 0 ≤ b ∧ b < nI (nx (gI h 103)) <;>
      simp (disch := omega) only [e253, r253_0, r253_1, r253_2, r253_5, r253_8, r253_9, r253_10, r253_13, r253_16, r253_17, r253_20, r253_21, r253_22, r253_23, r253_24, r253_25, r253_28, r253_30, r253_31, r253_33, r253_34, r253_38, r253_39, r253_42, r253_45, r253_47, r253_48, r253_51, r253_53, r253_55, r253_56, r253_57, r253_58, r253_61, r253_64, r253_66, r253_67, r253_70, r253_72, r253_73, r253_76, r253_79, r253_82, r253_83, c150 _ _ _ rfl w, hA, hB, hC', kdC, kdM, rpC, rpM, q_rs, q_rn, Option.toList_some, Option.toList_none, List.cons_append, List.nil_append, true_and, and_true, eq_self, ↓reduceIte, not_true_eq_false, not_false_eq_true, Nat.reduceEqDiff, Nat.reduceLeDiff, Nat.reduceLT, Nat.reduceAdd, Nat.reduceMul, Nat.reduceSub, false_or, or_false, true_or, or_true, false_and, and_false, reduceCtorEq, q_n0, q_n1, q_em, q_em2, q_b0, q_b1, Classical.not_not]
  · have hC' : nI 0 ≤ c := Int32.not_lt.mp hC
    by_cases hAB : (nI 0 ≤ a ∧ a < nI (nx (gI h 103))) ∧ (nI 0 ≤ b ∧ b < nI (nx (gI h 103)))
    · obtain ⟨hA, hB⟩ := hAB
      obtain ⟨t1, ht1, rfl⟩ := q_ix (by omega) hA.1 hA.2
      obtain ⟨t2, ht2, rfl⟩ := q_ix (by omega) hB.1 hB.2
      obtain ⟨x, h1, h2, k1, k2, k3, k4, k5, h3, k6, k7⟩ := lst_both z ht1 ht2
      have k4' := fun F => k4 (d + 896) F
      have k5' := fun F => k5 (d + 879) F
      have k7' := fun F => k7 (d + 828) F
      have hI := Inv_ca (k2.trans (Fr_ca (Mw_fr k6))) z (CAS_mw k6 k3)
      have hK3 : gI h3 103 = gI h 103 := (Mw_fr k6).K.trans (ca_K k2)
      cases x with
      | none =>
        rw [lsI_n] at k5' k7'
        refine ⟨-1, h2, h3, fun F => ?_, fun F => ?_, hI⟩
        · simp (disch := omega) only [e117, r117_0, r117_1, r117_4, r117_5, r117_6, r117_7, r117_8, r117_11, r117_14, r117_15, r117_16, r117_17, r117_20, r117_23, r117_25, r117_27, r117_28, r117_31, r117_32, r117_33, r117_34, r117_36, r117_37, r117_41, r117_42, r117_45, r117_48, r117_51, r117_54, r117_56, r117_58, r117_59, r117_60, r117_61, r117_62, r117_65, r117_67, r117_68, r117_71, r117_73, r117_74, r117_77, r117_80, r117_83, r117_84, hC, k4', k5', kdC, kdM, rpC, rpM, q_rs, q_rn, Option.toList_some, Option.toList_none, List.cons_append, List.nil_append, true_and, and_true, eq_self, ↓reduceIte, not_true_eq_false, not_false_eq_true, Nat.reduceEqDiff, Nat.reduceLeDiff, Nat.reduceLT, Nat.reduceAdd, Nat.reduceMul, Nat.reduceSub, false_or, or_false, true_or, or_true, false_and, and_false, reduceCtorEq, q_n0, q_n1, q_em, q_em2, q_b0, q_b1, Classical.not_not]
        · have hns := w.hns
          simp (disch := omega) only [r253_0, r253_1, r253_2, r253_5, r253_8, r253_9, r253_10, r253_13, r253_16, r253_17, r253_20, r253_21, r253_22, r253_23, r253_24, r253_25, r253_28, r253_30, r253_31, r253_33, r253_34, e253, c150 _ _ _ (ca_K k2) w, hA, hB, hC', k7', kdC, kdM, rpC, rpM, q_rs, q_rn, Option.toList_some, Option.toList_none, List.cons_append, List.nil_append, true_and, and_true, eq_self, ↓reduceIte, not_true_eq_false, not_false_eq_true, Nat.reduceEqDiff, Nat.reduceLeDiff, Nat.reduceLT, Nat.reduceAdd, Nat.reduceMul, Nat.reduceSub, false_or, or_false, true_or, or_true, false_and, and_false, reduceCtorEq, q_n0, q_n1, q_em, q_em2, q_b0, q_b1, Classical.not_not]
          rw [r253_36]
          by_cases c0 : ns (gI h 103) ≤ 0
          · simp (disch := omega) only [e253, r253_0, r253_1, r253_2, r253_5, r253_8, r253_9, r253_10, r253_13, r253_16, r253_17, r253_20, r253_21, r253_22, r253_23, r253_24, r253_25, r253_28, r253_30, r253_31, r253_33, r253_34, r253_38, r253_39, r253_42, r253_45, r253_47, r253_48, r253_51, r253_53, r253_55, r253_56, r253_57, r253_58, r253_61, r253_64, r253_66, r253_67, r253_70, r253_72, r253_73, r253_76, r253_79, r253_82, r253_83, m233 _ h3 _ hK3 w, c0, kdC, kdM, rpC, rpM, q_rs, q_rn, Option.toList_some, Option.toList_none, List.cons_append, List.nil_append, true_and, and_true, eq_self, ↓reduceIte, not_true_eq_false, not_false_eq_true, Nat.reduceEqDiff, Nat.reduceLeDiff, Nat.reduceLT, Nat.reduceAdd, Nat.reduceMul, Nat.reduceSub, false_or, or_false, true_or, or_true, false_and, and_false, reduceCtorEq, q_n0, q_n1, q_em, q_em2, q_b0, q_b1, Classical.not_not, nI_add, pk_mul, nI_clamp, q_vp, nI_eq, nI_leI, nI_ltI, q_sub]
          · simp (disch := omega) only [e253, r253_0, r253_1, r253_2, r253_5, r253_8, r253_9, r253_10, r253_13, r253_16, r253_17, r253_20, r253_21, r253_22, r253_23, r253_24, r253_25, r253_28, r253_30, r253_31, r253_33, r253_34, r253_38, r253_39, r253_42, r253_45, r253_47, r253_48, r253_51, r253_53, r253_55, r253_56, r253_57, r253_58, r253_61, r253_64, r253_66, r253_67, r253_70, r253_72, r253_73, r253_76, r253_79, r253_82, r253_83, m233 _ h3 _ hK3 w, c0, kdC, kdM, rpC, rpM, q_rs, q_rn, Option.toList_some, Option.toList_none, List.cons_append, List.nil_append, true_and, and_true, eq_self, ↓reduceIte, not_true_eq_false, not_false_eq_true, Nat.reduceEqDiff, Nat.reduceLeDiff, Nat.reduceLT, Nat.reduceAdd, Nat.reduceMul, Nat.reduceSub, false_or, or_false, true_or, or_true, false_and, and_false, reduceCtorEq, q_n0, q_n1, q_em, q_em2, q_b0, q_b1, Classical.not_not, nI_add, pk_mul, nI_clamp, q_vp, nI_eq, nI_leI, nI_ltI, q_sub]
      | some B =>
        have hB' := k1 B rfl
        rw [lsI_s] at k5' k7'
        have q2 := (STS_ca k2 z.1).2.1
        refine ⟨mrV B c (ns (gI h 103)) 0 0, h2, h3, fun F => ?_, fun F => ?_, hI⟩
        · refine Eq.trans ?_ (cl117 w q2 hB' c (.int (nI t1)) (.int (nI t2)) (d + 900) F (ns (gI h 103)) 0 0 (by omega) (by omega))
          simp (disch := omega) only [r117_0, r117_1, r117_4, r117_5, r117_6, r117_7, r117_8, r117_11, r117_14, r117_15, r117_16, r117_17, r117_20, r117_23, r117_25, r117_27, r117_28, r117_31, r117_32, r117_33, r117_34, r117_36, r117_37, e117, hC, k4', k5', q_nm, kdC, kdM, rpC, rpM, q_rs, q_rn, Option.toList_some, Option.toList_none, List.cons_append, List.nil_append, true_and, and_true, eq_self, ↓reduceIte, not_true_eq_false, not_false_eq_true, Nat.reduceEqDiff, Nat.reduceLeDiff, Nat.reduceLT, Nat.reduceAdd, Nat.reduceMul, Nat.reduceSub, false_or, or_false, true_or, or_true, false_and, and_false, reduceCtorEq, q_n0, q_n1, q_em, q_em2, q_b0, q_b1, Classical.not_not]
        · refine Eq.trans ?_ (ml253 hK3 w hB' c (.int (nI t1)) (.int (nI t2)) (d + 899) F (ns (gI h 103)) 0 0 (by omega) (by omega))
          simp (disch := omega) only [r253_0, r253_1, r253_2, r253_5, r253_8, r253_9, r253_10, r253_13, r253_16, r253_17, r253_20, r253_21, r253_22, r253_23, r253_24, r253_25, r253_28, r253_30, r253_31, r253_33, r253_34, e253, c150 _ _ _ (ca_K k2) w, hA, hB, hC', k7', kdC, kdM, rpC, rpM, q_rs, q_rn, Option.toList_some, Option.toList_none, List.cons_append, List.nil_append, true_and, and_true, eq_self, ↓reduceIte, not_true_eq_false, not_false_eq_true, Nat.reduceEqDiff, Nat.reduceLeDiff, Nat.reduceLT, Nat.reduceAdd, Nat.reduceMul, Nat.reduceSub, false_or, or_false, true_or, or_true, false_and, and_false, reduceCtorEq, q_n0, q_n1, q_em, q_em2, q_b0, q_b1, Classical.not_not]
    · have hno := fun F => c136n z (v := nI 1) hAB (d + 896) F
      refine ⟨-1, h, h, fun F => ?_, fun F => ?_, Inv_fr (Fr.refl h) z⟩
      · simp (disch := omega) only [e117, r117_0, r117_1, r117_4, r117_5, r117_6, r117_7, r117_8, r117_11, r117_14, r117_15, r117_16, r117_17, r117_20, r117_23, r117_25, r117_27, r117_28, r117_31, r117_32, r117_33, r117_34, r117_36, r117_37, r117_41, r117_42, r117_45, r117_48, r117_51, r117_54, r117_56, r117_58, r117_59, r117_60, r117_61, r117_62, r117_65, r117_67, r117_68, r117_71, r117_73, r117_74, r117_77, r117_80, r117_83, r117_84, hC, hno, kdC, kdM, rpC, rpM, q_rs, q_rn, Option.toList_some, Option.toList_none, List.cons_append, List.nil_append, true_and, and_true, eq_self, ↓reduceIte, not_true_eq_false, not_false_eq_true, Nat.reduceEqDiff, Nat.reduceLeDiff, Nat.reduceLT, Nat.reduceAdd, Nat.reduceMul, Nat.reduceSub, false_or, or_false, true_or, or_true, false_and, and_false, reduceCtorEq, q_n0, q_n1, q_em, q_em2, q_b0, q_b1, Classical.not_not]
      · by_cases hA : nI 0 ≤ a ∧ a < nI (nx (gI h 103))
        · have hB : ¬ (nI 0 ≤ b ∧ b < nI (nx (gI h 103))) := fun u => hAB ⟨hA, u⟩
          simp (disch := omega) only [e253, r253_0, r253_1, r253_2, r253_5, r253_8, r253_9, r253_10, r253_13, r253_16, r253_17, r253_20, r253_21, r253_22, r253_23, r253_24, r253_25, r253_28, r253_30, r253_31, r253_33, r253_34, r253_38, r253_39, r253_42, r253_45, r253_47, r253_48, r253_51, r253_53, r253_55, r253_56, r253_57, r253_58, r253_61, r253_64, r253_66, r253_67, r253_70, r253_72, r253_73, r253_76, r253_79, r253_82, r253_83, c150 _ _ _ rfl w, hA, hB, kdC, kdM, rpC, rpM, q_rs, q_rn, Option.toList_some, Option.toList_none, List.cons_append, List.nil_append, true_and, and_true, eq_self, ↓reduceIte, not_true_eq_false, not_false_eq_true, Nat.reduceEqDiff, Nat.reduceLeDiff, Nat.reduceLT, Nat.reduceAdd, Nat.reduceMul, Nat.reduceSub, false_or, or_false, true_or, or_true, false_and, and_false, reduceCtorEq, q_n0, q_n1, q_em, q_em2, q_b0, q_b1, Classical.not_not]
        · simp (disch := omega) only [e253, r253_0, r253_1, r253_2, r253_5, r253_8, r253_9, r253_10, r253_13, r253_16, r253_17, r253_20, r253_21, r253_22, r253_23, r253_24, r253_25, r253_28, r253_30, r253_31, r253_33, r253_34, r253_38, r253_39, r253_42, r253_45, r253_47, r253_48, r253_51, r253_53, r253_55, r253_56, r253_57, r253_58, r253_61, r253_64, r253_66, r253_67, r253_70, r253_72, r253_73, r253_76, r253_79, r253_82, r253_83, c150 _ _ _ rfl w, hA, kdC, kdM, rpC, rpM, q_rs, q_rn, Option.toList_some, Option.toList_none, List.cons_append, List.nil_append, true_and, and_true, eq_self, ↓reduceIte, not_true_eq_false, not_false_eq_true, Nat.reduceEqDiff, Nat.reduceLeDiff, Nat.reduceLT, Nat.reduceAdd, Nat.reduceMul, Nat.reduceSub, false_or, or_false, true_or, or_true, false_and, and_false, reduceCtorEq, q_n0, q_n1, q_em, q_em2, q_b0, q_b1, Classical.not_not]
