/-! times -/
def bsr (u v : Nat) : Nat → Nat → Nat → Nat
  | 0, lo, _ => lo
  | k + 1, lo, hi => if lo < hi then (if (lo + hi + 1) / 2 * v ≤ u then bsr u v k ((lo + hi + 1) / 2) hi else bsr u v k lo ((lo + hi + 1) / 2 - 1)) else lo
theorem cmp_gt (a b : Nat) : (nI 0 < cmpV a b) = (b < a) := by
  apply propext
  unfold cmpV
  by_cases c1 : a < b
  · rw [if_pos c1]
    exact ⟨fun q => absurd q (by decide), fun q => by omega⟩
  · rw [if_neg c1]
    by_cases c2 : a = b
    · rw [if_pos c2]
      exact ⟨fun q => absurd q (by decide), fun q => by omega⟩
    · rw [if_neg c2]
      exact ⟨fun _ => by omega, fun _ => by decide⟩
theorem cmp_le (a b : Nat) : (cmpV a b ≤ nI 0) = (a ≤ b) := by
  rw [← Int32.not_lt, cmp_gt]
  apply propext
  omega
theorem mid_bd {v lo hi : Nat} (hv : v ≤ 100 ^ 144) (h1 : lo < hi) (h2 : hi ≤ 1000000) : (lo + hi + 1) / 2 * v < 10 ^ 310 := by
  have h3 : (lo + hi + 1) / 2 ≤ 1000000 := by omega
  have h4 := Nat.mul_le_mul h3 hv
  have h5 : (1000000 : Nat) * 100 ^ 144 < 10 ^ 310 := by decide
  omega
theorem nS_n {D E u : Nat} {h h' : Hp} (y : okN D) (w : okN E) (hne : E ≠ D) (x : FrS (nS D) h h') (z : NR h E u) : NR h' E u := NR_fr y w hne (pS_n x) z
theorem cl139 {u v : Nat} (hv : v ≤ 100 ^ 144) : ∀ k s lo hi h0 (w6 : Value), s + k = 32 → hi ≤ 1000000 → lo ≤ 1000000 → NR h0 94 u → NR h0 96 v → ∃ h', FrS (nS 98) h0 h' ∧ ∀ d F, wp true (d + 1) 139 10 [.ref 94, .ref 96, .ref 98, .int (nI lo), .int (nI hi), .int (nI s), w6] [] h0 F = F (some (.int (nI (bsr u v k lo hi)))) h'
  | 0, s, lo, hi, h0, w6, e, b1, b2, z1, z2 => by
    obtain rfl : s = 32 := e
    refine ⟨h0, FrS.refl h0, fun d F => ?_⟩
    rw [r139_10]
    simp (disch := omega) only [e139, r139_0, r139_1, r139_2, r139_5, r139_7, r139_8, r139_12, r139_14, r139_17, r139_18, r139_20, r139_23, r139_24, r139_26, r139_27, r139_28, r139_29, r139_30, r139_31, r139_33, r139_33n, r139_34, r139_34n, r139_35, r139_37, r139_40, r139_40n, r139_41, r139_42, r139_45, r139_48, r139_50, r139_51, r139_54, r139_56, r139_57, r139_58, r139_60, r139_63, r139_66, r139_67, kdC, kdM, rpC, rpM, q_rs, q_rn, Option.toList_some, Option.toList_none, List.cons_append, List.nil_append, true_and, and_true, eq_self, ↓reduceIte, not_true_eq_false, not_false_eq_true, Nat.reduceEqDiff, Nat.reduceLeDiff, Nat.reduceLT, Nat.reduceAdd, Nat.reduceMul, Nat.reduceSub, false_or, or_false, true_or, or_true, false_and, and_false, reduceCtorEq, q_n0, q_n1, q_em, q_em2, q_b0, q_b1, Classical.not_not, nI_add, pk_mul, nI_clamp, q_vp, nI_eq, nI_leI, nI_ltI, q_sub, Nat.le_refl, bsr]
  | k + 1, s, lo, hi, h0, w6, e, b1, b2, z1, z2 => by
    unfold bsr
    by_cases c : lo < hi
    · rw [if_pos c]
      obtain ⟨h1, x1, x2, x3⟩ := c30 h0 (D := 98) (S := 96) (m := (lo + hi + 1) / 2) (Or.inr (Or.inr rfl)) (Or.inr (Or.inl rfl)) ⟨by omega, by omega⟩ z2 (mid_bd hv c b1)
      have y1 : NR h1 94 u := nS_n (Or.inr (Or.inr rfl)) (Or.inl rfl) (by omega) x2 z1
      have y2 : NR h1 96 v := nS_n (Or.inr (Or.inr rfl)) (Or.inr (Or.inl rfl)) (by omega) x2 z2
      have hc := c31 h1 (D := 98) (S := 94) (Or.inr (Or.inr rfl)) (Or.inl rfl) x1 y1
      by_cases c2 : (lo + hi + 1) / 2 * v ≤ u
      · rw [if_pos c2]
        obtain ⟨h', a1, a2⟩ := cl139 hv k (s + 1) ((lo + hi + 1) / 2) hi h1 (.int (nI ((lo + hi + 1) / 2))) (by omega) b1 (by omega) y1 y2
        refine ⟨h', x2.trans a1, fun d F => ?_⟩
        refine Eq.trans ?_ (a2 d F)
        rw [r139_10]
        simp (disch := omega) only [r139_12, r139_14, r139_17, r139_18, r139_20, r139_23, r139_24, r139_26, r139_27, r139_28, r139_29, r139_30, r139_31, r139_33, r139_33n, r139_34, r139_34n, r139_35, r139_37, r139_40, r139_40n, r139_41, r139_42, r139_45, r139_48, r139_50, r139_51, r139_54, r139_56, r139_57, r139_58, r139_60, r139_63, x3, hc, cmp_gt, pk_div, kdC, kdM, rpC, rpM, q_rs, q_rn, Option.toList_some, Option.toList_none, List.cons_append, List.nil_append, true_and, and_true, eq_self, ↓reduceIte, not_true_eq_false, not_false_eq_true, Nat.reduceEqDiff, Nat.reduceLeDiff, Nat.reduceLT, Nat.reduceAdd, Nat.reduceMul, Nat.reduceSub, false_or, or_false, true_or, or_true, false_and, and_false, reduceCtorEq, q_n0, q_n1, q_em, q_em2, q_b0, q_b1, Classical.not_not, nI_add, pk_mul, nI_clamp, q_vp, nI_eq, nI_leI, nI_ltI, q_sub, show ¬ 32 ≤ s by omega, show ¬ hi ≤ lo by omega, Nat.not_lt.mpr c2]
      · rw [if_neg c2]
        obtain ⟨h', a1, a2⟩ := cl139 hv k (s + 1) lo ((lo + hi + 1) / 2 - 1) h1 (.int (nI ((lo + hi + 1) / 2))) (by omega) (by omega) b2 y1 y2
        refine ⟨h', x2.trans a1, fun d F => ?_⟩
        refine Eq.trans ?_ (a2 d F)
        rw [r139_10]
        simp (disch := omega) only [r139_12, r139_14, r139_17, r139_18, r139_20, r139_23, r139_24, r139_26, r139_27, r139_28, r139_29, r139_30, r139_31, r139_33, r139_33n, r139_34, r139_34n, r139_35, r139_37, r139_40, r139_40n, r139_41, r139_42, r139_45, r139_48, r139_50, r139_51, r139_54, r139_56, r139_57, r139_58, r139_60, r139_63, x3, hc, cmp_gt, pk_div, kdC, kdM, rpC, rpM, q_rs, q_rn, Option.toList_some, Option.toList_none, List.cons_append, List.nil_append, true_and, and_true, eq_self, ↓reduceIte, not_true_eq_false, not_false_eq_true, Nat.reduceEqDiff, Nat.reduceLeDiff, Nat.reduceLT, Nat.reduceAdd, Nat.reduceMul, Nat.reduceSub, false_or, or_false, true_or, or_true, false_and, and_false, reduceCtorEq, q_n0, q_n1, q_em, q_em2, q_b0, q_b1, Classical.not_not, nI_add, pk_mul, nI_clamp, q_vp, nI_eq, nI_leI, nI_ltI, q_sub, show ¬ 32 ≤ s by omega, show ¬ hi ≤ lo by omega, Nat.not_le.mp c2]
    · rw [if_neg c]
      refine ⟨h0, FrS.refl h0, fun d F => ?_⟩
      rw [r139_10]
      simp (disch := omega) only [e139, r139_0, r139_1, r139_2, r139_5, r139_7, r139_8, r139_12, r139_14, r139_17, r139_18, r139_20, r139_23, r139_24, r139_26, r139_27, r139_28, r139_29, r139_30, r139_31, r139_33, r139_33n, r139_34, r139_34n, r139_35, r139_37, r139_40, r139_40n, r139_41, r139_42, r139_45, r139_48, r139_50, r139_51, r139_54, r139_56, r139_57, r139_58, r139_60, r139_63, r139_66, r139_67, kdC, kdM, rpC, rpM, q_rs, q_rn, Option.toList_some, Option.toList_none, List.cons_append, List.nil_append, true_and, and_true, eq_self, ↓reduceIte, not_true_eq_false, not_false_eq_true, Nat.reduceEqDiff, Nat.reduceLeDiff, Nat.reduceLT, Nat.reduceAdd, Nat.reduceMul, Nat.reduceSub, false_or, or_false, true_or, or_true, false_and, and_false, reduceCtorEq, q_n0, q_n1, q_em, q_em2, q_b0, q_b1, Classical.not_not, nI_add, pk_mul, nI_clamp, q_vp, nI_eq, nI_leI, nI_ltI, q_sub, show ¬ 32 ≤ s by omega, show hi ≤ lo by omega]
theorem c139 {u v : Nat} {h : Hp} (hv : v ≤ 100 ^ 144) (z1 : NR h 94 u) (z2 : NR h 96 v) : ∃ h', FrS (nS 98) h h' ∧ ∀ d F, cwp true (d + 1) 139 [.ref 94, .ref 96, .ref 98] h F = F (some (.int (nI (bsr u v 32 0 1000000)))) h' := by
  obtain ⟨h', a1, a2⟩ := cl139 hv 32 0 0 1000000 h jn (by omega) (by omega) (by omega) z1 z2
  refine ⟨h', a1, fun d F => ?_⟩
  refine Eq.trans ?_ (a2 d F)
  simp (disch := omega) only [r139_0, r139_1, r139_2, r139_5, r139_7, r139_8, e139]
/-- the spare row takes what the second has -/
theorem ml209c {h : Hp} {v : Nat} (z : NM h 114 v) (v1 v2 v3 v4 v5 v6 : Value) : ∀ k i h0, i + k = 40 → Jm 115 h h0 → (∀ j, j < i → gJ h0 115 j = gJ h 114 j) → ∃ h', Jm 115 h h' ∧ NM h' 115 v ∧ ∀ d F, wp true d 209 48 [.ref 101, v1, v2, v3, v4, v5, v6, .int (nI i)] [] h0 F = wp true d 209 75 [.ref 101, v1, v2, v3, v4, v5, v6, .int (nI 40)] [] h' F
  | 0, i, h0, e, x, x1 => by
    obtain rfl : i = 40 := e
    obtain ⟨f, f1, f2⟩ := z
    refine ⟨h0, x, ⟨f, fun i hi => ⟨(f1 i hi).1, by rw [x1 i hi]; exact (f1 i hi).2⟩, f2⟩, fun d F => ?_⟩
    rw [r209_48]
    simp (disch := omega) only [r209_50, r209_52, kdC, kdM, rpC, rpM, q_rs, q_rn, Option.toList_some, Option.toList_none, List.cons_append, List.nil_append, true_and, and_true, eq_self, ↓reduceIte, not_true_eq_false, not_false_eq_true, Nat.reduceEqDiff, Nat.reduceLeDiff, Nat.reduceLT, Nat.reduceAdd, Nat.reduceMul, Nat.reduceSub, false_or, or_false, true_or, or_true, false_and, and_false, reduceCtorEq, q_n0, q_n1, q_em, q_em2, q_b0, q_b1, Classical.not_not, nI_add, pk_mul, nI_clamp, q_vp, nI_eq, nI_leI, nI_ltI, q_sub, Nat.le_refl]
  | k + 1, i, h0, e, x, x1 => by
    obtain ⟨h', w1, w2, w3⟩ := ml209c z v1 v2 v3 v4 v5 v6 k (i + 1) (sJ h0 115 i (gJ h 114 i)) (by omega) (x.sJ _ _) (by
      intro j hj
      by_cases e1 : j = i
      · subst e1; rw [q_js]
      · rw [q_jm e1]; exact x1 j (by omega))
    refine ⟨h', w1, w2, fun d F => ?_⟩
    have hg : gJ h0 114 i = gJ h 114 i := by rw [x.2 114 (by omega)]
    refine Eq.trans ?_ (w3 d F)
    rw [r209_48]
    simp (disch := omega) only [r209_50, r209_52, r209_55, r209_56, r209_59, r209_61, r209_62, r209_65, r209_67, r209_68, r209_69, r209_72, hg, kdC, kdM, rpC, rpM, q_rs, q_rn, Option.toList_some, Option.toList_none, List.cons_append, List.nil_append, true_and, and_true, eq_self, ↓reduceIte, not_true_eq_false, not_false_eq_true, Nat.reduceEqDiff, Nat.reduceLeDiff, Nat.reduceLT, Nat.reduceAdd, Nat.reduceMul, Nat.reduceSub, false_or, or_false, true_or, or_true, false_and, and_false, reduceCtorEq, q_n0, q_n1, q_em, q_em2, q_b0, q_b1, Classical.not_not, nI_add, pk_mul, nI_clamp, q_vp, nI_eq, nI_leI, nI_ltI, q_sub, show ¬ 40 ≤ i by omega, show i < 40 by omega]
theorem ml209 {u v : Nat} (hv : v ≤ 100 ^ 144) (v1 v2 v3 : Value) : ∀ k lo hi h0 (v6 v7 : Value), hi - lo < 2 ^ k → hi ≤ 1000000 → lo ≤ 1000000 → NM h0 113 u → NM h0 114 v → ∃ h', Jm 115 h0 h' ∧ ∀ d F, wp true (d + 1) 209 27 [.ref 101, v1, v2, v3, .int (nI lo), .int (nI hi), v6, v7] [] h0 F = F (some (.int (nI (bsr u v k lo hi)))) h'
  | 0, lo, hi, h0, v6, v7, hb, b1, b2, z1, z2 => by
    have hle : hi ≤ lo := by rw [Nat.pow_zero] at hb; omega
    refine ⟨h0, Jm.refl h0, fun d F => ?_⟩
    rw [r209_27]
    simp (disch := omega) only [e209, r209_0, r209_1, r209_2, r209_5, r209_6, r209_7, r209_10, r209_11, r209_12, r209_15, r209_16, r209_17, r209_20, r209_21, r209_23, r209_25, r209_29, r209_31, r209_34, r209_36, r209_38, r209_39, r209_40, r209_41, r209_42, r209_43, r209_45, r209_46, r209_50, r209_52, r209_55, r209_56, r209_59, r209_61, r209_62, r209_65, r209_67, r209_68, r209_69, r209_72, r209_75, r209_76, r209_77, r209_80, r209_82, r209_85, r209_86, r209_89, r209_90, r209_93, r209_96, r209_99, r209_101, r209_103, r209_106, r209_108, r209_109, r209_110, r209_112, r209_115, r209_117, kdC, kdM, rpC, rpM, q_rs, q_rn, Option.toList_some, Option.toList_none, List.cons_append, List.nil_append, true_and, and_true, eq_self, ↓reduceIte, not_true_eq_false, not_false_eq_true, Nat.reduceEqDiff, Nat.reduceLeDiff, Nat.reduceLT, Nat.reduceAdd, Nat.reduceMul, Nat.reduceSub, false_or, or_false, true_or, or_true, false_and, and_false, reduceCtorEq, q_n0, q_n1, q_em, q_em2, q_b0, q_b1, Classical.not_not, nI_add, pk_mul, nI_clamp, q_vp, nI_eq, nI_leI, nI_ltI, q_sub, hle, bsr]
  | k + 1, lo, hi, h0, v6, v7, hb, b1, b2, z1, z2 => by
    unfold bsr
    rw [Nat.pow_succ] at hb
    by_cases c : lo < hi
    · rw [if_pos c]
      obtain ⟨h1, x1, x2, x3⟩ := ml209c z2 v1 v2 v3 (.int (nI lo)) (.int (nI hi)) (.int (nI ((lo + hi + 1) / 2))) 40 0 h0 (by omega) (Jm.refl h0) (fun j hj => by omega)
      obtain ⟨h2, y1, y2, y3⟩ := m205 (A := 115) (m := (lo + hi + 1) / 2) (Or.inr (Or.inr rfl)) ⟨by omega, by omega⟩ x2 (mid_bd hv c b1)
      have hJ : Jm 115 h0 h2 := ⟨⟨y2.1.1.trans x1.1.1, y2.1.2.1.trans x1.1.2.1, y2.1.2.2.1.trans x1.1.2.2.1, y2.1.2.2.2.1.trans x1.1.2.2.2.1, y2.1.2.2.2.2.trans x1.1.2.2.2.2⟩, fun a ha => (y2.2 a ha).trans (x1.2 a ha)⟩
      have n1 : NM h2 113 u := NM_pm (by omega) (by omega) hJ.pm z1
      have n2 : NM h2 114 v := NM_pm (by omega) (by omega) hJ.pm z2
      have hc := m206 (A := 115) (C := 113) (Or.inr (Or.inr rfl)) (Or.inl rfl) y1 n1
      have tr : ∀ h', Jm 115 h2 h' → Jm 115 h0 h' := fun h' q => ⟨⟨q.1.1.trans hJ.1.1, q.1.2.1.trans hJ.1.2.1, q.1.2.2.1.trans hJ.1.2.2.1, q.1.2.2.2.1.trans hJ.1.2.2.2.1, q.1.2.2.2.2.trans hJ.1.2.2.2.2⟩, fun a ha => (q.2 a ha).trans (hJ.2 a ha)⟩
      by_cases c2 : (lo + hi + 1) / 2 * v ≤ u
      · rw [if_pos c2]
        obtain ⟨h', a1, a2⟩ := ml209 hv v1 v2 v3 k ((lo + hi + 1) / 2) hi h2 (.int (nI ((lo + hi + 1) / 2))) (.int (nI 40)) (by omega) b1 (by omega) n1 n2
        refine ⟨h', tr h' a1, fun d F => ?_⟩
        refine Eq.trans ?_ (a2 d F)
        rw [r209_27]
        simp (disch := omega) only [r209_29, r209_31, r209_34, r209_36, r209_38, r209_39, r209_40, r209_41, r209_42, r209_43, r209_45, r209_46, pk_div, kdC, kdM, rpC, rpM, q_rs, q_rn, Option.toList_some, Option.toList_none, List.cons_append, List.nil_append, true_and, and_true, eq_self, ↓reduceIte, not_true_eq_false, not_false_eq_true, Nat.reduceEqDiff, Nat.reduceLeDiff, Nat.reduceLT, Nat.reduceAdd, Nat.reduceMul, Nat.reduceSub, false_or, or_false, true_or, or_true, false_and, and_false, reduceCtorEq, q_n0, q_n1, q_em, q_em2, q_b0, q_b1, Classical.not_not, nI_add, pk_mul, nI_clamp, q_vp, nI_eq, nI_leI, nI_ltI, q_sub, show ¬ hi ≤ lo by omega]
        refine Eq.trans (x3 _ F) ?_
        simp (disch := omega) only [r209_75, r209_76, r209_77, r209_80, r209_82, r209_85, r209_86, r209_89, r209_90, r209_93, r209_96, r209_99, r209_101, r209_103, r209_106, r209_108, r209_109, r209_110, r209_112, y3, hc, cmp_gt, kdC, kdM, rpC, rpM, q_rs, q_rn, Option.toList_some, Option.toList_none, List.cons_append, List.nil_append, true_and, and_true, eq_self, ↓reduceIte, not_true_eq_false, not_false_eq_true, Nat.reduceEqDiff, Nat.reduceLeDiff, Nat.reduceLT, Nat.reduceAdd, Nat.reduceMul, Nat.reduceSub, false_or, or_false, true_or, or_true, false_and, and_false, reduceCtorEq, q_n0, q_n1, q_em, q_em2, q_b0, q_b1, Classical.not_not, nI_add, pk_mul, nI_clamp, q_vp, nI_eq, nI_leI, nI_ltI, q_sub, Nat.not_lt.mpr c2]
      · rw [if_neg c2]
        obtain ⟨h', a1, a2⟩ := ml209 hv v1 v2 v3 k lo ((lo + hi + 1) / 2 - 1) h2 (.int (nI ((lo + hi + 1) / 2))) (.int (nI 40)) (by omega) (by omega) b2 n1 n2
        refine ⟨h', tr h' a1, fun d F => ?_⟩
        refine Eq.trans ?_ (a2 d F)
        rw [r209_27]
        simp (disch := omega) only [r209_29, r209_31, r209_34, r209_36, r209_38, r209_39, r209_40, r209_41, r209_42, r209_43, r209_45, r209_46, pk_div, kdC, kdM, rpC, rpM, q_rs, q_rn, Option.toList_some, Option.toList_none, List.cons_append, List.nil_append, true_and, and_true, eq_self, ↓reduceIte, not_true_eq_false, not_false_eq_true, Nat.reduceEqDiff, Nat.reduceLeDiff, Nat.reduceLT, Nat.reduceAdd, Nat.reduceMul, Nat.reduceSub, false_or, or_false, true_or, or_true, false_and, and_false, reduceCtorEq, q_n0, q_n1, q_em, q_em2, q_b0, q_b1, Classical.not_not, nI_add, pk_mul, nI_clamp, q_vp, nI_eq, nI_leI, nI_ltI, q_sub, show ¬ hi ≤ lo by omega]
        refine Eq.trans (x3 _ F) ?_
        simp (disch := omega) only [r209_75, r209_76, r209_77, r209_80, r209_82, r209_85, r209_86, r209_89, r209_90, r209_93, r209_96, r209_99, r209_101, r209_103, r209_106, r209_108, r209_109, r209_110, r209_112, y3, hc, cmp_gt, kdC, kdM, rpC, rpM, q_rs, q_rn, Option.toList_some, Option.toList_none, List.cons_append, List.nil_append, true_and, and_true, eq_self, ↓reduceIte, not_true_eq_false, not_false_eq_true, Nat.reduceEqDiff, Nat.reduceLeDiff, Nat.reduceLT, Nat.reduceAdd, Nat.reduceMul, Nat.reduceSub, false_or, or_false, true_or, or_true, false_and, and_false, reduceCtorEq, q_n0, q_n1, q_em, q_em2, q_b0, q_b1, Classical.not_not, nI_add, pk_mul, nI_clamp, q_vp, nI_eq, nI_leI, nI_ltI, q_sub, Nat.not_le.mp c2]
    · rw [if_neg c]
      refine ⟨h0, Jm.refl h0, fun d F => ?_⟩
      rw [r209_27]
      simp (disch := omega) only [e209, r209_0, r209_1, r209_2, r209_5, r209_6, r209_7, r209_10, r209_11, r209_12, r209_15, r209_16, r209_17, r209_20, r209_21, r209_23, r209_25, r209_29, r209_31, r209_34, r209_36, r209_38, r209_39, r209_40, r209_41, r209_42, r209_43, r209_45, r209_46, r209_50, r209_52, r209_55, r209_56, r209_59, r209_61, r209_62, r209_65, r209_67, r209_68, r209_69, r209_72, r209_75, r209_76, r209_77, r209_80, r209_82, r209_85, r209_86, r209_89, r209_90, r209_93, r209_96, r209_99, r209_101, r209_103, r209_106, r209_108, r209_109, r209_110, r209_112, r209_115, r209_117, kdC, kdM, rpC, rpM, q_rs, q_rn, Option.toList_some, Option.toList_none, List.cons_append, List.nil_append, true_and, and_true, eq_self, ↓reduceIte, not_true_eq_false, not_false_eq_true, Nat.reduceEqDiff, Nat.reduceLeDiff, Nat.reduceLT, Nat.reduceAdd, Nat.reduceMul, Nat.reduceSub, false_or, or_false, true_or, or_true, false_and, and_false, reduceCtorEq, q_n0, q_n1, q_em, q_em2, q_b0, q_b1, Classical.not_not, nI_add, pk_mul, nI_clamp, q_vp, nI_eq, nI_leI, nI_ltI, q_sub, show hi ≤ lo by omega]
section TP
variable {n : Nat} {h : Hp}
theorem nS_fr {D : Nat} {h h' : Hp} (y : okN D) (x : FrS (nS D) h h') : Fr h h' := pS_fr y (pS_n x)
theorem p_times (z : Inv n h) (a b c : Int32) : PRI n h 97 208 [.int a, .int b, .int c] := by
  intro d
  have w := z.1.1
  have q := z.1.2.1
  have hn := w.hnx
  by_cases hA : nI 0 ≤ a ∧ a < nI (nx (gI h 103))
  · obtain ⟨t, ht, rfl⟩ := q_ix (by omega) hA.1 hA.2
    obtain ⟨s, T, y1, y2, y3⟩ := z.1.2.2.1 t ht
    have h60 := fun F d => c60 h w q ht y1 d F
    by_cases hB : nI 0 ≤ b ∧ b < nI (nx (gI h 103))
    · obtain ⟨t', ht', rfl⟩ := q_ix (by omega) hB.1 hB.2
      obtain ⟨s', T', y1', y2', y3'⟩ := z.1.2.2.1 t' ht'
      have h60' := fun F d => c60 h w q ht' y1' d F
      by_cases hC : c = nI 0 ∨ c = nI 1
      · obtain ⟨h1, x1, x2, x3, x4⟩ := c138 (D := 94) (Or.inl rfl) z.1 y3 y2 c
        have f1 := pS_fr (Or.inl rfl) x1
        obtain ⟨h2, u1, u2, u3, u4⟩ := c138 (D := 96) (Or.inr (Or.inl rfl)) (STS_fr f1 (Or.inl rfl) z.1) y3' (tAt_fr f1 y2') c
        have f2 := pS_fr (Or.inr (Or.inl rfl)) u1
        obtain ⟨h3, v1, v2⟩ := c139 u3 (NR_fr (Or.inr (Or.inl rfl)) (Or.inl rfl) (by omega) u1 x2) u2
        have f3 := nS_fr (Or.inr (Or.inr rfl)) v1
        have fc : Fr h h3 := (f1.trans f2).trans f3
        have hK := fc.K
        obtain ⟨g1, a1, a2, a3⟩ := m207 (A := 113) (Or.inl rfl) hK w (show t < 10 by omega) y3 hC
        have hK1 : gI g1 103 = gI h 103 := a1.K.trans hK
        obtain ⟨g2, b1, b2, b3⟩ := m207 (A := 114) (Or.inr (Or.inl rfl)) hK1 w (show t' < 10 by omega) y3' hC
        obtain ⟨g3, e1, e2⟩ := ml209 u3 (.int (nI t)) (.int (nI t')) (.int c) 32 0 1000000 g2 jn jn (by decide) (by omega) (by omega) (NM_pm (by omega) (by omega) b1 a2) b2
        refine ⟨nI (bsr (prd (gI h 103) T c) (prd (gI h 103) T' c) 32 0 1000000), h3, g3, fun F => ?_, fun F => ?_, Inv_fr (((fc.trans a1.fr).trans b1.fr).trans e1.pm.fr) z⟩
        · have x4' := fun F => x4 (d + 895) F
          have u4' := fun F => u4 (d + 895) F
          have v2' := fun F => v2 (d + 898) F
          simp (disch := omega) only [e97, r97_0, r97_1, r97_4, r97_5, r97_8, r97_8n, r97_10, r97_11, r97_14, r97_15, r97_18, r97_18n, r97_20, r97_20n, r97_22, r97_22n, r97_25, r97_25n, r97_27, r97_27n, r97_30, r97_31, r97_34, r97_37, r97_38, r97_39, r97_40, r97_40n, r97_42, r97_43, r97_44, r97_47, r97_48, r97_49, r97_52, r97_53, r97_53n, r97_55, r97_56, r97_57, r97_60, r97_61, r97_62, r97_65, r97_66, r97_69, r97_70, r97_71, r97_72, r97_75, r97_76, r97_77, r97_78, r97_81, r97_82, r97_83, r97_86, h60, h60', c126, hC, x4', u4', v2', kdC, kdM, rpC, rpM, q_rs, q_rn, Option.toList_some, Option.toList_none, List.cons_append, List.nil_append, true_and, and_true, eq_self, ↓reduceIte, not_true_eq_false, not_false_eq_true, Nat.reduceEqDiff, Nat.reduceLeDiff, Nat.reduceLT, Nat.reduceAdd, Nat.reduceMul, Nat.reduceSub, false_or, or_false, true_or, or_true, false_and, and_false, reduceCtorEq, q_n0, q_n1, q_em, q_em2, q_b0, q_b1, Classical.not_not, nI_add, pk_mul, nI_clamp, q_vp, nI_eq, nI_leI, nI_ltI, q_sub]
        · have a3' := fun F => a3 (d + 829) F
          have b3' := fun F => b3 (d + 829) F
          have e2' := fun F => e2 (d + 898) F
          simp (disch := omega) only [e208, r208_0, r208_1, r208_2, r208_5, r208_8, r208_9, r208_10, r208_13, r208_16, r208_17, r208_20, r208_23, r208_24, r208_25, r208_26, r208_27, r208_30, r208_33, r208_34, e209, r209_0, r209_1, r209_2, r209_5, r209_6, r209_7, r209_10, r209_11, r209_12, r209_15, r209_16, r209_17, r209_20, r209_21, r209_23, r209_25, r209_29, r209_31, r209_34, r209_36, r209_38, r209_39, r209_40, r209_41, r209_42, r209_43, r209_45, r209_46, r209_50, r209_52, r209_55, r209_56, r209_59, r209_61, r209_62, r209_65, r209_67, r209_68, r209_69, r209_72, r209_75, r209_76, r209_77, r209_80, r209_82, r209_85, r209_86, r209_89, r209_90, r209_93, r209_96, r209_99, r209_101, r209_103, r209_106, r209_108, r209_109, r209_110, r209_112, r209_115, r209_117, c150 _ _ _ hK w, c152, hA, hB, hC, a3', b3', e2', kdC, kdM, rpC, rpM, q_rs, q_rn, Option.toList_some, Option.toList_none, List.cons_append, List.nil_append, true_and, and_true, eq_self, ↓reduceIte, not_true_eq_false, not_false_eq_true, Nat.reduceEqDiff, Nat.reduceLeDiff, Nat.reduceLT, Nat.reduceAdd, Nat.reduceMul, Nat.reduceSub, false_or, or_false, true_or, or_true, false_and, and_false, reduceCtorEq, q_n0, q_n1, q_em, q_em2, q_b0, q_b1, Classical.not_not]
      · refine ⟨-1, h, h, fun F => ?_, fun F => ?_, Inv_fr (Fr.refl h) z⟩
        · simp (disch := omega) only [e97, r97_0, r97_1, r97_4, r97_5, r97_8, r97_8n, r97_10, r97_11, r97_14, r97_15, r97_18, r97_18n, r97_20, r97_20n, r97_22, r97_22n, r97_25, r97_25n, r97_27, r97_27n, r97_30, r97_31, r97_34, r97_37, r97_38, r97_39, r97_40, r97_40n, r97_42, r97_43, r97_44, r97_47, r97_48, r97_49, r97_52, r97_53, r97_53n, r97_55, r97_56, r97_57, r97_60, r97_61, r97_62, r97_65, r97_66, r97_69, r97_70, r97_71, r97_72, r97_75, r97_76, r97_77, r97_78, r97_81, r97_82, r97_83, r97_86, h60, h60', c126, hC, kdC, kdM, rpC, rpM, q_rs, q_rn, Option.toList_some, Option.toList_none, List.cons_append, List.nil_append, true_and, and_true, eq_self, ↓reduceIte, not_true_eq_false, not_false_eq_true, Nat.reduceEqDiff, Nat.reduceLeDiff, Nat.reduceLT, Nat.reduceAdd, Nat.reduceMul, Nat.reduceSub, false_or, or_false, true_or, or_true, false_and, and_false, reduceCtorEq, q_n0, q_n1, q_em, q_em2, q_b0, q_b1, Classical.not_not]
        · simp (disch := omega) only [e208, r208_0, r208_1, r208_2, r208_5, r208_8, r208_9, r208_10, r208_13, r208_16, r208_17, r208_20, r208_23, r208_24, r208_25, r208_26, r208_27, r208_30, r208_33, r208_34, c150 _ _ _ rfl w, c152, hA, hB, hC, kdC, kdM, rpC, rpM, q_rs, q_rn, Option.toList_some, Option.toList_none, List.cons_append, List.nil_append, true_and, and_true, eq_self, ↓reduceIte, not_true_eq_false, not_false_eq_true, Nat.reduceEqDiff, Nat.reduceLeDiff, Nat.reduceLT, Nat.reduceAdd, Nat.reduceMul, Nat.reduceSub, false_or, or_false, true_or, or_true, false_and, and_false, reduceCtorEq, q_n0, q_n1, q_em, q_em2, q_b0, q_b1, Classical.not_not]
    · have h60' := fun F d => c60n h w q hB d F
      refine ⟨-1, h, h, fun F => ?_, fun F => ?_, Inv_fr (Fr.refl h) z⟩
      · simp (disch := omega) only [e97, r97_0, r97_1, r97_4, r97_5, r97_8, r97_8n, r97_10, r97_11, r97_14, r97_15, r97_18, r97_18n, r97_20, r97_20n, r97_22, r97_22n, r97_25, r97_25n, r97_27, r97_27n, r97_30, r97_31, r97_34, r97_37, r97_38, r97_39, r97_40, r97_40n, r97_42, r97_43, r97_44, r97_47, r97_48, r97_49, r97_52, r97_53, r97_53n, r97_55, r97_56, r97_57, r97_60, r97_61, r97_62, r97_65, r97_66, r97_69, r97_70, r97_71, r97_72, r97_75, r97_76, r97_77, r97_78, r97_81, r97_82, r97_83, r97_86, h60, h60', kdC, kdM, rpC, rpM, q_rs, q_rn, Option.toList_some, Option.toList_none, List.cons_append, List.nil_append, true_and, and_true, eq_self, ↓reduceIte, not_true_eq_false, not_false_eq_true, Nat.reduceEqDiff, Nat.reduceLeDiff, Nat.reduceLT, Nat.reduceAdd, Nat.reduceMul, Nat.reduceSub, false_or, or_false, true_or, or_true, false_and, and_false, reduceCtorEq, q_n0, q_n1, q_em, q_em2, q_b0, q_b1, Classical.not_not]
      · simp (disch := omega) only [e208, r208_0, r208_1, r208_2, r208_5, r208_8, r208_9, r208_10, r208_13, r208_16, r208_17, r208_20, r208_23, r208_24, r208_25, r208_26, r208_27, r208_30, r208_33, r208_34, c150 _ _ _ rfl w, hA, hB, kdC, kdM, rpC, rpM, q_rs, q_rn, Option.toList_some, Option.toList_none, List.cons_append, List.nil_append, true_and, and_true, eq_self, ↓reduceIte, not_true_eq_false, not_false_eq_true, Nat.reduceEqDiff, Nat.reduceLeDiff, Nat.reduceLT, Nat.reduceAdd, Nat.reduceMul, Nat.reduceSub, false_or, or_false, true_or, or_true, false_and, and_false, reduceCtorEq, q_n0, q_n1, q_em, q_em2, q_b0, q_b1, Classical.not_not]
  · have h60 := fun F d => c60n h w q hA d F
    by_cases hB : nI 0 ≤ b ∧ b < nI (nx (gI h 103))
    · obtain ⟨t', ht', rfl⟩ := q_ix (by omega) hB.1 hB.2
      obtain ⟨s', T', y1', y2', y3'⟩ := z.1.2.2.1 t' ht'
      have h60' := fun F d => c60 h w q ht' y1' d F
      refine ⟨-1, h, h, fun F => ?_, fun F => ?_, Inv_fr (Fr.refl h) z⟩
      · simp (disch := omega) only [e97, r97_0, r97_1, r97_4, r97_5, r97_8, r97_8n, r97_10, r97_11, r97_14, r97_15, r97_18, r97_18n, r97_20, r97_20n, r97_22, r97_22n, r97_25, r97_25n, r97_27, r97_27n, r97_30, r97_31, r97_34, r97_37, r97_38, r97_39, r97_40, r97_40n, r97_42, r97_43, r97_44, r97_47, r97_48, r97_49, r97_52, r97_53, r97_53n, r97_55, r97_56, r97_57, r97_60, r97_61, r97_62, r97_65, r97_66, r97_69, r97_70, r97_71, r97_72, r97_75, r97_76, r97_77, r97_78, r97_81, r97_82, r97_83, r97_86, h60, h60', kdC, kdM, rpC, rpM, q_rs, q_rn, Option.toList_some, Option.toList_none, List.cons_append, List.nil_append, true_and, and_true, eq_self, ↓reduceIte, not_true_eq_false, not_false_eq_true, Nat.reduceEqDiff, Nat.reduceLeDiff, Nat.reduceLT, Nat.reduceAdd, Nat.reduceMul, Nat.reduceSub, false_or, or_false, true_or, or_true, false_and, and_false, reduceCtorEq, q_n0, q_n1, q_em, q_em2, q_b0, q_b1, Classical.not_not]
      · simp (disch := omega) only [e208, r208_0, r208_1, r208_2, r208_5, r208_8, r208_9, r208_10, r208_13, r208_16, r208_17, r208_20, r208_23, r208_24, r208_25, r208_26, r208_27, r208_30, r208_33, r208_34, c150 _ _ _ rfl w, hA, kdC, kdM, rpC, rpM, q_rs, q_rn, Option.toList_some, Option.toList_none, List.cons_append, List.nil_append, true_and, and_true, eq_self, ↓reduceIte, not_true_eq_false, not_false_eq_true, Nat.reduceEqDiff, Nat.reduceLeDiff, Nat.reduceLT, Nat.reduceAdd, Nat.reduceMul, Nat.reduceSub, false_or, or_false, true_or, or_true, false_and, and_false, reduceCtorEq, q_n0, q_n1, q_em, q_em2, q_b0, q_b1, Classical.not_not]
    · have h60' := fun F d => c60n h w q hB d F
      refine ⟨-1, h, h, fun F => ?_, fun F => ?_, Inv_fr (Fr.refl h) z⟩
      · simp (disch := omega) only [e97, r97_0, r97_1, r97_4, r97_5, r97_8, r97_8n, r97_10, r97_11, r97_14, r97_15, r97_18, r97_18n, r97_20, r97_20n, r97_22, r97_22n, r97_25, r97_25n, r97_27, r97_27n, r97_30, r97_31, r97_34, r97_37, r97_38, r97_39, r97_40, r97_40n, r97_42, r97_43, r97_44, r97_47, r97_48, r97_49, r97_52, r97_53, r97_53n, r97_55, r97_56, r97_57, r97_60, r97_61, r97_62, r97_65, r97_66, r97_69, r97_70, r97_71, r97_72, r97_75, r97_76, r97_77, r97_78, r97_81, r97_82, r97_83, r97_86, h60, h60', kdC, kdM, rpC, rpM, q_rs, q_rn, Option.toList_some, Option.toList_none, List.cons_append, List.nil_append, true_and, and_true, eq_self, ↓reduceIte, not_true_eq_false, not_false_eq_true, Nat.reduceEqDiff, Nat.reduceLeDiff, Nat.reduceLT, Nat.reduceAdd, Nat.reduceMul, Nat.reduceSub, false_or, or_false, true_or, or_true, false_and, and_false, reduceCtorEq, q_n0, q_n1, q_em, q_em2, q_b0, q_b1, Classical.not_not]
      · simp (disch := omega) only [e208, r208_0, r208_1, r208_2, r208_5, r208_8, r208_9, r208_10, r208_13, r208_16, r208_17, r208_20, r208_23, r208_24, r208_25, r208_26, r208_27, r208_30, r208_33, r208_34, c150 _ _ _ rfl w, hA, kdC, kdM, rpC, rpM, q_rs, q_rn, Option.toList_some, Option.toList_none, List.cons_append, List.nil_append, true_and, and_true, eq_self, ↓reduceIte, not_true_eq_false, not_false_eq_true, Nat.reduceEqDiff, Nat.reduceLeDiff, Nat.reduceLT, Nat.reduceAdd, Nat.reduceMul, Nat.reduceSub, false_or, or_false, true_or, or_true, false_and, and_false, reduceCtorEq, q_n0, q_n1, q_em, q_em2, q_b0, q_b1, Classical.not_not]
end TP
