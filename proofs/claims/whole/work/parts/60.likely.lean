/-! likely -/
theorem TXS_ch {h : Hp} {K : Nat → Int32} (z : TXS h 0 K) : ∃ (af : Nat → Nat) (Tf : Nat → Tk), ∀ t, t < nx K → gP h 25 t = some (af t) ∧ tAt h (af t) (Tf t) ∧ tEq K t (Tf t) := by
  refine ⟨fun t => if ht : t < nx K then Classical.choose (z t ht) else 0, fun t => if ht : t < nx K then Classical.choose (Classical.choose_spec (z t ht)) else (fun _ => 0, 0, fun _ => 0, 0), fun t ht => ?_⟩
  simp only [dif_pos ht]
  exact Classical.choose_spec (Classical.choose_spec (z t ht))
def lkB (P : Nat → Nat) (i : Nat) (b : Option Nat) : Option Nat := match b with
  | none => some i
  | some j => if P j < P i then some i else some j
section LK
variable {h : Hp} {K : Nat → Int32} {wh : Int32} {af : Nat → Nat} {Tf : Nat → Tk}
theorem okg {g : Nat} (hg : g < 2) : okN (94 + 2 * g) := by unfold okN; omega
theorem cl98 (z : STS h 0 K) (hT : ∀ t, t < nx K → gP h 25 t = some (af t) ∧ tAt h (af t) (Tf t) ∧ tEq K t (Tf t)) : ∀ k i b g h0 (v5 v6 : Value), i + k = nx K → g < 2 → Fr h h0 → (∀ j, b = some j → j < i ∧ NR h0 (94 + 2 * g) (prd K (Tf j) wh)) → ∃ h', Fr h h' ∧ ∀ d F, wp true (d + 5) 98 16 [.ref 1, .int wh, .int (on b), .int (nI g), .int (nI i), v5, v6] [] h0 F = F (some (.int (on (q_lp (lkB (fun t => prd K (Tf t) wh)) k i b)))) h'
  | 0, i, b, g, h0, v5, v6, e, hg, x, hb => by
    obtain rfl : i = nx K := e
    have w := z.1
    have h1 := w.hnx
    have q := (STS_fr x (Or.inl rfl) z).2.1
    refine ⟨h0, x, fun d F => ?_⟩
    rw [r98_16]
    simp (disch := omega) only [e98, r98_0, r98_1, r98_4, r98_7, r98_8, r98_9, r98_10, r98_11, r98_12, r98_13, r98_14, r98_18, r98_19, r98_22, r98_25, r98_28, r98_29, r98_30, r98_31, r98_33, r98_34, r98_37, r98_39, r98_42, r98_42n, r98_44, r98_44n, r98_46, r98_46n, r98_49, r98_50, r98_51, r98_52, r98_52n, r98_54, r98_55, r98_56, r98_59, r98_61, r98_62, r98_65, r98_66, r98_67, r98_70, r98_71, r98_74, r98_76, r98_77, r98_78, r98_81, r98_82, r98_83, r98_86, r98_89, r98_91, r98_92, r98_94, r98_95, r98_98, r98_101, r98_102, kdC, kdM, rpC, rpM, q_rs, q_rn, Option.toList_some, Option.toList_none, List.cons_append, List.nil_append, true_and, and_true, eq_self, ↓reduceIte, not_true_eq_false, not_false_eq_true, Nat.reduceEqDiff, Nat.reduceLeDiff, Nat.reduceLT, Nat.reduceAdd, Nat.reduceMul, Nat.reduceSub, false_or, or_false, true_or, or_true, false_and, and_false, reduceCtorEq, q_n0, q_n1, q_em, q_em2, q_b0, q_b1, Classical.not_not, nI_add, pk_mul, nI_clamp, q_vp, nI_eq, nI_leI, nI_ltI, q_sub, q.hnx, h1, Nat.le_refl]
    rfl
  | k + 1, i, b, g, h0, v5, v6, e, hg, x, hb => by
    have w := z.1
    have h1 := w.hnx
    have hi : i < nx K := by omega
    have z0 := STS_fr x (Or.inl rfl) z
    have q := z0.2.1
    obtain ⟨p1, p2, p3⟩ := hT i hi
    have hp1 : gP h0 25 i = some (af i) := by rw [x.p (a := 25) rfl]; exact p1
    have h60 := fun F d => c60 h0 w q hi hp1 d F
    obtain ⟨h1', x1, x2, x3, x4⟩ := c138 (D := 94 + 2 * (1 - g)) (okg (by omega)) z0 p3 (tAt_fr x p2) wh
    have f1 := pS_fr (okg (show 1 - g < 2 by omega)) x1
    have x4' := fun d F => x4 d F
    rw [show q_lp (lkB (fun t => prd K (Tf t) wh)) (k + 1) i b = q_lp (lkB (fun t => prd K (Tf t) wh)) k (i + 1) (lkB (fun t => prd K (Tf t) wh) i b) from rfl]
    cases b with
    | none =>
      obtain ⟨h', a1, a2⟩ := cl98 z hT k (i + 1) (some i) (1 - g) h1' (.int (nI (1 - g))) (.ref (af i)) (by omega) (by omega) (x.trans f1) (fun j ej => by cases ej; exact ⟨by omega, x2⟩)
      refine ⟨h', a1, fun d F => ?_⟩
      refine Eq.trans ?_ (a2 d F)
      rw [r98_16]
      rcases (show g = 0 ∨ g = 1 by omega) with rfl | rfl
      · simp (disch := omega) only [r98_18, r98_19, r98_22, r98_25, r98_28, r98_29, r98_30, r98_31, r98_33, r98_34, r98_37, r98_39, r98_42, r98_42n, r98_44, r98_44n, r98_46, r98_46n, r98_49, r98_50, r98_51, r98_52, r98_52n, r98_54, r98_55, r98_56, r98_59, r98_61, r98_62, r98_65, r98_66, r98_67, r98_70, r98_71, r98_74, r98_76, r98_77, r98_78, r98_81, r98_82, r98_83, r98_86, r98_89, r98_91, r98_92, r98_94, r98_95, r98_98, h60, x4', kdC, kdM, rpC, rpM, q_rs, q_rn, Option.toList_some, Option.toList_none, List.cons_append, List.nil_append, true_and, and_true, eq_self, ↓reduceIte, not_true_eq_false, not_false_eq_true, Nat.reduceEqDiff, Nat.reduceLeDiff, Nat.reduceLT, Nat.reduceAdd, Nat.reduceMul, Nat.reduceSub, false_or, or_false, true_or, or_true, false_and, and_false, reduceCtorEq, q_n0, q_n1, q_em, q_em2, q_b0, q_b1, Classical.not_not, nI_add, pk_mul, nI_clamp, q_vp, nI_eq, nI_leI, nI_ltI, q_sub, on_n, on_s, q.hnx, h1, show ¬ nx K ≤ i by omega]
      · simp (disch := omega) only [r98_18, r98_19, r98_22, r98_25, r98_28, r98_29, r98_30, r98_31, r98_33, r98_34, r98_37, r98_39, r98_42, r98_42n, r98_44, r98_44n, r98_46, r98_46n, r98_49, r98_50, r98_51, r98_52, r98_52n, r98_54, r98_55, r98_56, r98_59, r98_61, r98_62, r98_65, r98_66, r98_67, r98_70, r98_71, r98_74, r98_76, r98_77, r98_78, r98_81, r98_82, r98_83, r98_86, r98_89, r98_91, r98_92, r98_94, r98_95, r98_98, h60, x4', kdC, kdM, rpC, rpM, q_rs, q_rn, Option.toList_some, Option.toList_none, List.cons_append, List.nil_append, true_and, and_true, eq_self, ↓reduceIte, not_true_eq_false, not_false_eq_true, Nat.reduceEqDiff, Nat.reduceLeDiff, Nat.reduceLT, Nat.reduceAdd, Nat.reduceMul, Nat.reduceSub, false_or, or_false, true_or, or_true, false_and, and_false, reduceCtorEq, q_n0, q_n1, q_em, q_em2, q_b0, q_b1, Classical.not_not, nI_add, pk_mul, nI_clamp, q_vp, nI_eq, nI_leI, nI_ltI, q_sub, on_n, on_s, q.hnx, h1, show ¬ nx K ≤ i by omega]
    | some j =>
      obtain ⟨b1, b2⟩ := hb j rfl
      have b3 : NR h1' (94 + 2 * g) (prd K (Tf j) wh) := NR_fr (okg (show 1 - g < 2 by omega)) (okg hg) (by omega) x1 b2
      have hc := c31 h1' (D := 94 + 2 * (1 - g)) (S := 94 + 2 * g) (okg (by omega)) (okg hg) x2 b3
      by_cases c : prd K (Tf j) wh < prd K (Tf i) wh
      · have hl : lkB (fun t => prd K (Tf t) wh) i (some j) = some i := if_pos c
        rw [hl]
        obtain ⟨h', a1, a2⟩ := cl98 z hT k (i + 1) (some i) (1 - g) h1' (.int (nI (1 - g))) (.ref (af i)) (by omega) (by omega) (x.trans f1) (fun j ej => by cases ej; exact ⟨by omega, x2⟩)
        refine ⟨h', a1, fun d F => ?_⟩
        refine Eq.trans ?_ (a2 d F)
        rw [r98_16]
        rcases (show g = 0 ∨ g = 1 by omega) with rfl | rfl
        · simp (disch := omega) only [r98_18, r98_19, r98_22, r98_25, r98_28, r98_29, r98_30, r98_31, r98_33, r98_34, r98_37, r98_39, r98_42, r98_42n, r98_44, r98_44n, r98_46, r98_46n, r98_49, r98_50, r98_51, r98_52, r98_52n, r98_54, r98_55, r98_56, r98_59, r98_61, r98_62, r98_65, r98_66, r98_67, r98_70, r98_71, r98_74, r98_76, r98_77, r98_78, r98_81, r98_82, r98_83, r98_86, r98_89, r98_91, r98_92, r98_94, r98_95, r98_98, h60, x4', hc, cmp_le, kdC, kdM, rpC, rpM, q_rs, q_rn, Option.toList_some, Option.toList_none, List.cons_append, List.nil_append, true_and, and_true, eq_self, ↓reduceIte, not_true_eq_false, not_false_eq_true, Nat.reduceEqDiff, Nat.reduceLeDiff, Nat.reduceLT, Nat.reduceAdd, Nat.reduceMul, Nat.reduceSub, false_or, or_false, true_or, or_true, false_and, and_false, reduceCtorEq, q_n0, q_n1, q_em, q_em2, q_b0, q_b1, Classical.not_not, nI_add, pk_mul, nI_clamp, q_vp, nI_eq, nI_leI, nI_ltI, q_sub, on_n, on_s, q_nm, q.hnx, h1, Nat.not_le.mpr c, show ¬ nx K ≤ i by omega]
        · simp (disch := omega) only [r98_18, r98_19, r98_22, r98_25, r98_28, r98_29, r98_30, r98_31, r98_33, r98_34, r98_37, r98_39, r98_42, r98_42n, r98_44, r98_44n, r98_46, r98_46n, r98_49, r98_50, r98_51, r98_52, r98_52n, r98_54, r98_55, r98_56, r98_59, r98_61, r98_62, r98_65, r98_66, r98_67, r98_70, r98_71, r98_74, r98_76, r98_77, r98_78, r98_81, r98_82, r98_83, r98_86, r98_89, r98_91, r98_92, r98_94, r98_95, r98_98, h60, x4', hc, cmp_le, kdC, kdM, rpC, rpM, q_rs, q_rn, Option.toList_some, Option.toList_none, List.cons_append, List.nil_append, true_and, and_true, eq_self, ↓reduceIte, not_true_eq_false, not_false_eq_true, Nat.reduceEqDiff, Nat.reduceLeDiff, Nat.reduceLT, Nat.reduceAdd, Nat.reduceMul, Nat.reduceSub, false_or, or_false, true_or, or_true, false_and, and_false, reduceCtorEq, q_n0, q_n1, q_em, q_em2, q_b0, q_b1, Classical.not_not, nI_add, pk_mul, nI_clamp, q_vp, nI_eq, nI_leI, nI_ltI, q_sub, on_n, on_s, q_nm, q.hnx, h1, Nat.not_le.mpr c, show ¬ nx K ≤ i by omega]
      · have hl : lkB (fun t => prd K (Tf t) wh) i (some j) = some j := if_neg c
        rw [hl]
        obtain ⟨h', a1, a2⟩ := cl98 z hT k (i + 1) (some j) g h1' (.int (nI (1 - g))) (.ref (af i)) (by omega) hg (x.trans f1) (fun j' ej => by cases ej; exact ⟨by omega, b3⟩)
        refine ⟨h', a1, fun d F => ?_⟩
        refine Eq.trans ?_ (a2 d F)
        rw [r98_16]
        rcases (show g = 0 ∨ g = 1 by omega) with rfl | rfl
        · simp (disch := omega) only [r98_18, r98_19, r98_22, r98_25, r98_28, r98_29, r98_30, r98_31, r98_33, r98_34, r98_37, r98_39, r98_42, r98_42n, r98_44, r98_44n, r98_46, r98_46n, r98_49, r98_50, r98_51, r98_52, r98_52n, r98_54, r98_55, r98_56, r98_59, r98_61, r98_62, r98_65, r98_66, r98_67, r98_70, r98_71, r98_74, r98_76, r98_77, r98_78, r98_81, r98_82, r98_83, r98_86, r98_89, r98_91, r98_92, r98_94, r98_95, r98_98, h60, x4', hc, cmp_le, kdC, kdM, rpC, rpM, q_rs, q_rn, Option.toList_some, Option.toList_none, List.cons_append, List.nil_append, true_and, and_true, eq_self, ↓reduceIte, not_true_eq_false, not_false_eq_true, Nat.reduceEqDiff, Nat.reduceLeDiff, Nat.reduceLT, Nat.reduceAdd, Nat.reduceMul, Nat.reduceSub, false_or, or_false, true_or, or_true, false_and, and_false, reduceCtorEq, q_n0, q_n1, q_em, q_em2, q_b0, q_b1, Classical.not_not, nI_add, pk_mul, nI_clamp, q_vp, nI_eq, nI_leI, nI_ltI, q_sub, on_n, on_s, q_nm, q.hnx, h1, Nat.not_lt.mp c, show ¬ nx K ≤ i by omega]
        · simp (disch := omega) only [r98_18, r98_19, r98_22, r98_25, r98_28, r98_29, r98_30, r98_31, r98_33, r98_34, r98_37, r98_39, r98_42, r98_42n, r98_44, r98_44n, r98_46, r98_46n, r98_49, r98_50, r98_51, r98_52, r98_52n, r98_54, r98_55, r98_56, r98_59, r98_61, r98_62, r98_65, r98_66, r98_67, r98_70, r98_71, r98_74, r98_76, r98_77, r98_78, r98_81, r98_82, r98_83, r98_86, r98_89, r98_91, r98_92, r98_94, r98_95, r98_98, h60, x4', hc, cmp_le, kdC, kdM, rpC, rpM, q_rs, q_rn, Option.toList_some, Option.toList_none, List.cons_append, List.nil_append, true_and, and_true, eq_self, ↓reduceIte, not_true_eq_false, not_false_eq_true, Nat.reduceEqDiff, Nat.reduceLeDiff, Nat.reduceLT, Nat.reduceAdd, Nat.reduceMul, Nat.reduceSub, false_or, or_false, true_or, or_true, false_and, and_false, reduceCtorEq, q_n0, q_n1, q_em, q_em2, q_b0, q_b1, Classical.not_not, nI_add, pk_mul, nI_clamp, q_vp, nI_eq, nI_leI, nI_ltI, q_sub, on_n, on_s, q_nm, q.hnx, h1, Nat.not_lt.mp c, show ¬ nx K ≤ i by omega]
theorem ml210c {h : Hp} {v : Nat} (z : NM h 114 v) (v1 v2 v3 : Value) : ∀ k i h0, i + k = 40 → Jm 113 h h0 → (∀ j, j < i → gJ h0 113 j = gJ h 114 j) → ∃ h', Jm 113 h h' ∧ NM h' 113 v ∧ ∀ d F, wp true d 210 78 [.ref 101, v1, v2, v3, .int (nI i)] [] h0 F = wp true d 210 105 [.ref 101, v1, v2, v3, .int (nI 40)] [] h' F
  | 0, i, h0, e, x, x1 => by
    obtain rfl : i = 40 := e
    obtain ⟨f, f1, f2⟩ := z
    refine ⟨h0, x, ⟨f, fun i hi => ⟨(f1 i hi).1, by rw [x1 i hi]; exact (f1 i hi).2⟩, f2⟩, fun d F => ?_⟩
    rw [r210_78]
    simp (disch := omega) only [r210_80, r210_82, kdC, kdM, rpC, rpM, q_rs, q_rn, Option.toList_some, Option.toList_none, List.cons_append, List.nil_append, true_and, and_true, eq_self, ↓reduceIte, not_true_eq_false, not_false_eq_true, Nat.reduceEqDiff, Nat.reduceLeDiff, Nat.reduceLT, Nat.reduceAdd, Nat.reduceMul, Nat.reduceSub, false_or, or_false, true_or, or_true, false_and, and_false, reduceCtorEq, q_n0, q_n1, q_em, q_em2, q_b0, q_b1, Classical.not_not, nI_add, pk_mul, nI_clamp, q_vp, nI_eq, nI_leI, nI_ltI, q_sub, Nat.le_refl]
  | k + 1, i, h0, e, x, x1 => by
    obtain ⟨h', w1, w2, w3⟩ := ml210c z v1 v2 v3 k (i + 1) (sJ h0 113 i (gJ h 114 i)) (by omega) (x.sJ _ _) (by
      intro j hj
      by_cases e1 : j = i
      · subst e1; rw [q_js]
      · rw [q_jm e1]; exact x1 j (by omega))
    refine ⟨h', w1, w2, fun d F => ?_⟩
    have hg : gJ h0 114 i = gJ h 114 i := by rw [x.2 114 (by omega)]
    refine Eq.trans ?_ (w3 d F)
    rw [r210_78]
    simp (disch := omega) only [r210_80, r210_82, r210_85, r210_86, r210_89, r210_91, r210_92, r210_95, r210_97, r210_98, r210_99, r210_102, hg, kdC, kdM, rpC, rpM, q_rs, q_rn, Option.toList_some, Option.toList_none, List.cons_append, List.nil_append, true_and, and_true, eq_self, ↓reduceIte, not_true_eq_false, not_false_eq_true, Nat.reduceEqDiff, Nat.reduceLeDiff, Nat.reduceLT, Nat.reduceAdd, Nat.reduceMul, Nat.reduceSub, false_or, or_false, true_or, or_true, false_and, and_false, reduceCtorEq, q_n0, q_n1, q_em, q_em2, q_b0, q_b1, Classical.not_not, nI_add, pk_mul, nI_clamp, q_vp, nI_eq, nI_leI, nI_ltI, q_sub, show ¬ 40 ≤ i by omega, show i < 40 by omega]
theorem ml210 (w : WF K) (hK : gI h 103 = K) (hw : wh = nI 0 ∨ wh = nI 1) (hT : ∀ t, t < nx K → tEq K t (Tf t)) : ∀ k i j h0 (v4 : Value), i + k = nx K → Fr h h0 → NM h0 113 (prd K (Tf j) wh) → ∃ h', Fr h h' ∧ ∀ d F, wp true (d + 70) 210 34 [.ref 101, .int wh, .int (nI j), .int (nI i), v4] [] h0 F = F (some (.int (on (q_lp (lkB (fun t => prd K (Tf t) wh)) k i (some j))))) h'
  | 0, i, j, h0, v4, e, x, hv => by
    obtain rfl : i = nx K := e
    have h1 := w.hnx
    have hK0 : gI h0 103 = K := x.K.trans hK
    refine ⟨h0, x, fun d F => ?_⟩
    rw [r210_34]
    simp (disch := omega) only [e210, r210_0, r210_1, r210_4, r210_7, r210_8, r210_11, r210_14, r210_15, r210_18, r210_19, r210_20, r210_21, r210_22, r210_23, r210_24, r210_27, r210_28, r210_29, r210_32, r210_33, r210_35, r210_36, r210_39, r210_42, r210_43, r210_46, r210_47, r210_48, r210_51, r210_52, r210_53, r210_56, r210_57, r210_60, r210_61, r210_64, r210_67, r210_70, r210_73, r210_74, r210_75, r210_76, r210_80, r210_82, r210_85, r210_86, r210_89, r210_91, r210_92, r210_95, r210_97, r210_98, r210_99, r210_102, r210_105, r210_108, r210_111, r210_112, kdC, kdM, rpC, rpM, q_rs, q_rn, Option.toList_some, Option.toList_none, List.cons_append, List.nil_append, true_and, and_true, eq_self, ↓reduceIte, not_true_eq_false, not_false_eq_true, Nat.reduceEqDiff, Nat.reduceLeDiff, Nat.reduceLT, Nat.reduceAdd, Nat.reduceMul, Nat.reduceSub, false_or, or_false, true_or, or_true, false_and, and_false, reduceCtorEq, q_n0, q_n1, q_em, q_em2, q_b0, q_b1, Classical.not_not, nI_add, pk_mul, nI_clamp, q_vp, nI_eq, nI_leI, nI_ltI, q_sub, hK0, h1, Nat.le_refl]
    rfl
  | k + 1, i, j, h0, v4, e, x, hv => by
    have h1 := w.hnx
    have hi : i < nx K := by omega
    have hK0 : gI h0 103 = K := x.K.trans hK
    obtain ⟨h1', a1, a2, a3⟩ := m207 (A := 114) (Or.inr (Or.inl rfl)) hK0 w (show i < 10 by omega) (hT i hi) hw
    have n1 : NM h1' 113 (prd K (Tf j) wh) := NM_pm (by omega) (by omega) a1 hv
    have hc := m206 (A := 114) (C := 113) (Or.inr (Or.inl rfl)) (Or.inl rfl) a2 n1
    have f1 : Fr h h1' := x.trans a1.fr
    rw [show q_lp (lkB (fun t => prd K (Tf t) wh)) (k + 1) i (some j) = q_lp (lkB (fun t => prd K (Tf t) wh)) k (i + 1) (lkB (fun t => prd K (Tf t) wh) i (some j)) from rfl]
    by_cases c : prd K (Tf j) wh < prd K (Tf i) wh
    · have hl : lkB (fun t => prd K (Tf t) wh) i (some j) = some i := if_pos c
      rw [hl]
      obtain ⟨h2, b1, b2, b3⟩ := ml210c a2 (.int wh) (.int (nI i)) (.int (nI i)) 40 0 h1' (by omega) (Jm.refl h1') (fun j hj => by omega)
      obtain ⟨h', d1, d2⟩ := ml210 w hK hw hT k (i + 1) i h2 (.int (nI 40)) (by omega) (f1.trans b1.pm.fr) b2
      refine ⟨h', d1, fun d F => ?_⟩
      have a3' := fun F => a3 d F
      refine Eq.trans ?_ (d2 d F)
      rw [r210_34]
      simp (disch := omega) only [r210_35, r210_36, r210_39, r210_42, r210_43, r210_46, r210_47, r210_48, r210_51, r210_52, r210_53, r210_56, r210_57, r210_60, r210_61, r210_64, r210_67, r210_70, r210_73, r210_74, r210_75, r210_76, a3', hc, cmp_gt, kdC, kdM, rpC, rpM, q_rs, q_rn, Option.toList_some, Option.toList_none, List.cons_append, List.nil_append, true_and, and_true, eq_self, ↓reduceIte, not_true_eq_false, not_false_eq_true, Nat.reduceEqDiff, Nat.reduceLeDiff, Nat.reduceLT, Nat.reduceAdd, Nat.reduceMul, Nat.reduceSub, false_or, or_false, true_or, or_true, false_and, and_false, reduceCtorEq, q_n0, q_n1, q_em, q_em2, q_b0, q_b1, Classical.not_not, nI_add, pk_mul, nI_clamp, q_vp, nI_eq, nI_leI, nI_ltI, q_sub, hK0, h1, c, show ¬ nx K ≤ i by omega]
      refine Eq.trans (b3 _ F) ?_
      simp (disch := omega) only [r210_105, r210_108, nI_add, pk_mul, nI_clamp, q_vp, nI_eq, nI_leI, nI_ltI, q_sub]
    · have hl : lkB (fun t => prd K (Tf t) wh) i (some j) = some j := if_neg c
      rw [hl]
      obtain ⟨h', d1, d2⟩ := ml210 w hK hw hT k (i + 1) j h1' v4 (by omega) f1 n1
      refine ⟨h', d1, fun d F => ?_⟩
      have a3' := fun F => a3 d F
      refine Eq.trans ?_ (d2 d F)
      rw [r210_34]
      simp (disch := omega) only [r210_35, r210_36, r210_39, r210_42, r210_43, r210_46, r210_47, r210_48, r210_51, r210_52, r210_53, r210_56, r210_57, r210_60, r210_61, r210_64, r210_67, r210_70, r210_105, r210_108, a3', hc, cmp_gt, kdC, kdM, rpC, rpM, q_rs, q_rn, Option.toList_some, Option.toList_none, List.cons_append, List.nil_append, true_and, and_true, eq_self, ↓reduceIte, not_true_eq_false, not_false_eq_true, Nat.reduceEqDiff, Nat.reduceLeDiff, Nat.reduceLT, Nat.reduceAdd, Nat.reduceMul, Nat.reduceSub, false_or, or_false, true_or, or_true, false_and, and_false, reduceCtorEq, q_n0, q_n1, q_em, q_em2, q_b0, q_b1, Classical.not_not, nI_add, pk_mul, nI_clamp, q_vp, nI_eq, nI_leI, nI_ltI, q_sub, hK0, h1, c, show ¬ nx K ≤ i by omega]
end LK
theorem p_likely {n : Nat} {h : Hp} (z : Inv n h) (a : Int32) : PRI n h 98 210 [.int a] := by
  intro d
  have w := z.1.1
  have q := z.1.2.1
  have hn := w.hnx
  by_cases hA : a = nI 0 ∨ a = nI 1
  · obtain ⟨af, Tf, hT⟩ := TXS_ch z.1.2.2.1
    obtain ⟨h1, x1, x2⟩ := cl98 (wh := a) z.1 hT (nx (gI h 103)) 0 none 0 h jn jn (by omega) (by omega) (Fr.refl h) (fun j ej => by cases ej)
    have hK := x1.K
    have x2' := x2 (d + 895)
    by_cases h0 : nx (gI h 103) = 0
    · refine ⟨-1, h1, h1, fun F => ?_, fun F => ?_, Inv_fr x1 z⟩
      · rw [h0] at x2'
        have := x2' F
        simp only [q_lp, on_n] at this
        simp (disch := omega) only [e98, r98_0, r98_1, r98_4, r98_7, r98_8, r98_9, r98_10, r98_11, r98_12, r98_13, r98_14, r98_18, r98_19, r98_22, r98_25, r98_28, r98_29, r98_30, r98_31, r98_33, r98_34, r98_37, r98_39, r98_42, r98_42n, r98_44, r98_44n, r98_46, r98_46n, r98_49, r98_50, r98_51, r98_52, r98_52n, r98_54, r98_55, r98_56, r98_59, r98_61, r98_62, r98_65, r98_66, r98_67, r98_70, r98_71, r98_74, r98_76, r98_77, r98_78, r98_81, r98_82, r98_83, r98_86, r98_89, r98_91, r98_92, r98_94, r98_95, r98_98, r98_101, r98_102, c126, hA, kdC, kdM, rpC, rpM, q_rs, q_rn, Option.toList_some, Option.toList_none, List.cons_append, List.nil_append, true_and, and_true, eq_self, ↓reduceIte, not_true_eq_false, not_false_eq_true, Nat.reduceEqDiff, Nat.reduceLeDiff, Nat.reduceLT, Nat.reduceAdd, Nat.reduceMul, Nat.reduceSub, false_or, or_false, true_or, or_true, false_and, and_false, reduceCtorEq, q_n0, q_n1, q_em, q_em2, q_b0, q_b1, Classical.not_not]
        exact this
      · simp (disch := omega) only [e210, r210_0, r210_1, r210_4, r210_7, r210_8, r210_11, r210_14, r210_15, r210_18, r210_19, r210_20, r210_21, r210_22, r210_23, r210_24, r210_27, r210_28, r210_29, r210_32, r210_33, r210_35, r210_36, r210_39, r210_42, r210_43, r210_46, r210_47, r210_48, r210_51, r210_52, r210_53, r210_56, r210_57, r210_60, r210_61, r210_64, r210_67, r210_70, r210_73, r210_74, r210_75, r210_76, r210_80, r210_82, r210_85, r210_86, r210_89, r210_91, r210_92, r210_95, r210_97, r210_98, r210_99, r210_102, r210_105, r210_108, r210_111, r210_112, c152, hA, kdC, kdM, rpC, rpM, q_rs, q_rn, Option.toList_some, Option.toList_none, List.cons_append, List.nil_append, true_and, and_true, eq_self, ↓reduceIte, not_true_eq_false, not_false_eq_true, Nat.reduceEqDiff, Nat.reduceLeDiff, Nat.reduceLT, Nat.reduceAdd, Nat.reduceMul, Nat.reduceSub, false_or, or_false, true_or, or_true, false_and, and_false, reduceCtorEq, q_n0, q_n1, q_em, q_em2, q_b0, q_b1, Classical.not_not, nI_add, pk_mul, nI_clamp, q_vp, nI_eq, nI_leI, nI_ltI, q_sub, hK, hn, h0]
    · obtain ⟨g1, a1, a2, a3⟩ := m207 (A := 113) (Or.inl rfl) hK w (show 0 < 10 by omega) (hT 0 (by omega)).2.2 hA
      obtain ⟨g2, b1, b2⟩ := ml210 (wh := a) w hK hA (fun t ht => (hT t ht).2.2) (nx (gI h 103) - 1) 1 0 g1 jn (by omega) a1.fr a2
      have he : q_lp (lkB (fun t => prd (gI h 103) (Tf t) a)) (nx (gI h 103)) 0 none = q_lp (lkB (fun t => prd (gI h 103) (Tf t) a)) (nx (gI h 103) - 1) 1 (some 0) := by
        obtain ⟨m, hm⟩ : ∃ m, nx (gI h 103) = m + 1 := ⟨nx (gI h 103) - 1, by omega⟩
        rw [hm]
        rfl
      rw [he] at x2'
      refine ⟨on (q_lp (lkB (fun t => prd (gI h 103) (Tf t) a)) (nx (gI h 103) - 1) 1 (some 0)), h1, g2, fun F => ?_, fun F => ?_, Inv_fr (x1.trans b1) z⟩
      · simp (disch := omega) only [e98, r98_0, r98_1, r98_4, r98_7, r98_8, r98_9, r98_10, r98_11, r98_12, r98_13, r98_14, r98_18, r98_19, r98_22, r98_25, r98_28, r98_29, r98_30, r98_31, r98_33, r98_34, r98_37, r98_39, r98_42, r98_42n, r98_44, r98_44n, r98_46, r98_46n, r98_49, r98_50, r98_51, r98_52, r98_52n, r98_54, r98_55, r98_56, r98_59, r98_61, r98_62, r98_65, r98_66, r98_67, r98_70, r98_71, r98_74, r98_76, r98_77, r98_78, r98_81, r98_82, r98_83, r98_86, r98_89, r98_91, r98_92, r98_94, r98_95, r98_98, r98_101, r98_102, c126, hA, kdC, kdM, rpC, rpM, q_rs, q_rn, Option.toList_some, Option.toList_none, List.cons_append, List.nil_append, true_and, and_true, eq_self, ↓reduceIte, not_true_eq_false, not_false_eq_true, Nat.reduceEqDiff, Nat.reduceLeDiff, Nat.reduceLT, Nat.reduceAdd, Nat.reduceMul, Nat.reduceSub, false_or, or_false, true_or, or_true, false_and, and_false, reduceCtorEq, q_n0, q_n1, q_em, q_em2, q_b0, q_b1, Classical.not_not]
        exact x2' F
      · have a3' := fun F => a3 (d + 830) F
        have b2' := fun F => b2 (d + 830) F
        simp (disch := omega) only [e210, r210_0, r210_1, r210_4, r210_7, r210_8, r210_11, r210_14, r210_15, r210_18, r210_19, r210_20, r210_21, r210_22, r210_23, r210_24, r210_27, r210_28, r210_29, r210_32, r210_33, r210_35, r210_36, r210_39, r210_42, r210_43, r210_46, r210_47, r210_48, r210_51, r210_52, r210_53, r210_56, r210_57, r210_60, r210_61, r210_64, r210_67, r210_70, r210_73, r210_74, r210_75, r210_76, r210_80, r210_82, r210_85, r210_86, r210_89, r210_91, r210_92, r210_95, r210_97, r210_98, r210_99, r210_102, r210_105, r210_108, r210_111, r210_112, c152, hA, a3', b2', kdC, kdM, rpC, rpM, q_rs, q_rn, Option.toList_some, Option.toList_none, List.cons_append, List.nil_append, true_and, and_true, eq_self, ↓reduceIte, not_true_eq_false, not_false_eq_true, Nat.reduceEqDiff, Nat.reduceLeDiff, Nat.reduceLT, Nat.reduceAdd, Nat.reduceMul, Nat.reduceSub, false_or, or_false, true_or, or_true, false_and, and_false, reduceCtorEq, q_n0, q_n1, q_em, q_em2, q_b0, q_b1, Classical.not_not, nI_add, pk_mul, nI_clamp, q_vp, nI_eq, nI_leI, nI_ltI, q_sub, hK, hn, h0]
  · refine ⟨-1, h, h, fun F => ?_, fun F => ?_, Inv_fr (Fr.refl h) z⟩
    · simp (disch := omega) only [e98, r98_0, r98_1, r98_4, r98_7, r98_8, r98_9, r98_10, r98_11, r98_12, r98_13, r98_14, r98_18, r98_19, r98_22, r98_25, r98_28, r98_29, r98_30, r98_31, r98_33, r98_34, r98_37, r98_39, r98_42, r98_42n, r98_44, r98_44n, r98_46, r98_46n, r98_49, r98_50, r98_51, r98_52, r98_52n, r98_54, r98_55, r98_56, r98_59, r98_61, r98_62, r98_65, r98_66, r98_67, r98_70, r98_71, r98_74, r98_76, r98_77, r98_78, r98_81, r98_82, r98_83, r98_86, r98_89, r98_91, r98_92, r98_94, r98_95, r98_98, r98_101, r98_102, c126, hA, kdC, kdM, rpC, rpM, q_rs, q_rn, Option.toList_some, Option.toList_none, List.cons_append, List.nil_append, true_and, and_true, eq_self, ↓reduceIte, not_true_eq_false, not_false_eq_true, Nat.reduceEqDiff, Nat.reduceLeDiff, Nat.reduceLT, Nat.reduceAdd, Nat.reduceMul, Nat.reduceSub, false_or, or_false, true_or, or_true, false_and, and_false, reduceCtorEq, q_n0, q_n1, q_em, q_em2, q_b0, q_b1, Classical.not_not]
    · simp (disch := omega) only [e210, r210_0, r210_1, r210_4, r210_7, r210_8, r210_11, r210_14, r210_15, r210_18, r210_19, r210_20, r210_21, r210_22, r210_23, r210_24, r210_27, r210_28, r210_29, r210_32, r210_33, r210_35, r210_36, r210_39, r210_42, r210_43, r210_46, r210_47, r210_48, r210_51, r210_52, r210_53, r210_56, r210_57, r210_60, r210_61, r210_64, r210_67, r210_70, r210_73, r210_74, r210_75, r210_76, r210_80, r210_82, r210_85, r210_86, r210_89, r210_91, r210_92, r210_95, r210_97, r210_98, r210_99, r210_102, r210_105, r210_108, r210_111, r210_112, c152, hA, kdC, kdM, rpC, rpM, q_rs, q_rn, Option.toList_some, Option.toList_none, List.cons_append, List.nil_append, true_and, and_true, eq_self, ↓reduceIte, not_true_eq_false, not_false_eq_true, Nat.reduceEqDiff, Nat.reduceLeDiff, Nat.reduceLT, Nat.reduceAdd, Nat.reduceMul, Nat.reduceSub, false_or, or_false, true_or, or_true, false_and, and_false, reduceCtorEq, q_n0, q_n1, q_em, q_em2, q_b0, q_b1, Classical.not_not]
