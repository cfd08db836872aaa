/-! best -/
def bB (g : Nat → Nat) (i : Nat) (b : Option Nat) : Option Nat := match b with
  | none => some i
  | some j => if g i < g j then some i else some j
noncomputable def chT (K : Nat → Int32) (wh : Int32) (T : Tk) : Nat := cntT (cgP (bdP K wh (pic K T wh))) (pic K T wh).2
noncomputable def ouT (K : Nat → Int32) (wh : Int32) (T : Tk) : Nat := tkN (bdP K wh (pic K T wh)) (pic K T wh).2 (pic K T wh).2
theorem ch_le {K : Nat → Int32} (w : WF K) (wh : Int32) (T : Tk) : chT K wh T ≤ 24 ∧ ouT K wh T ≤ 24 := by
  have h1 := (pic_ok K T wh).1
  have h2 := w.hnf
  have h3 := cnt_le (cgP (bdP K wh (pic K T wh))) (pic K T wh).2
  have h4 := tk_le (bdP K wh (pic K T wh)) (pic K T wh).2 (pic K T wh).2
  unfold chT ouT
  omega
section BS
variable {h : Hp} {K : Nat → Int32} {wh : Int32} {af : Nat → Nat} {Tf : Nat → Tk}
theorem cl110 (z : STS h 0 K) (hT : ∀ t, t < nx K → gP h 25 t = some (af t) ∧ tAt h (af t) (Tf t) ∧ tEq K t (Tf t)) : ∀ k i b h0 (c1 c2 : Int32) (v6 v7 v8 : Value), i + k = nx K → Fr h h0 → (∀ j, b = some j → j < i ∧ c1 = nI (chT K wh (Tf j)) ∧ c2 = nI (ouT K wh (Tf j))) → ∃ h', Fr h h' ∧ ∀ d F, wp true (d + 5) 110 19 [.ref 1, .int wh, .int (on b), .int c1, .int c2, .int (nI i), v6, v7, v8] [] h0 F = F (some (.int (on (q_lp (bB (fun t => 100 * chT K wh (Tf t) + ouT K wh (Tf t))) k i b)))) h'
  | 0, i, b, h0, c1, c2, v6, v7, v8, e, x, hb => by
    obtain rfl : i = nx K := e
    have w := z.1
    have h1 := w.hnx
    have q := (STS_fr x (Or.inl rfl) z).2.1
    refine ⟨h0, x, fun d F => ?_⟩
    rw [r110_19]
    simp (disch := omega) only [e110, r110_0, r110_1, r110_4, r110_7, r110_8, r110_9, r110_10, r110_11, r110_12, r110_13, r110_14, r110_16, r110_17, r110_21, r110_22, r110_25, r110_28, r110_31, r110_32, r110_35, r110_37, r110_40, r110_40n, r110_42, r110_42n, r110_44, r110_44n, r110_47, r110_48, r110_49, r110_50, r110_53, r110_53n, r110_55, r110_56, r110_59, r110_60, r110_63, r110_66, r110_68, r110_69, r110_72, r110_75, r110_77, r110_78, r110_79, r110_82, r110_84, r110_85, r110_88, r110_90, r110_91, r110_94, r110_96, r110_98, r110_101, r110_103, r110_104, r110_106, r110_107, r110_109, r110_111, r110_114, r110_117, r110_118, kdC, kdM, rpC, rpM, q_rs, q_rn, Option.toList_some, Option.toList_none, List.cons_append, List.nil_append, true_and, and_true, eq_self, ↓reduceIte, not_true_eq_false, not_false_eq_true, Nat.reduceEqDiff, Nat.reduceLeDiff, Nat.reduceLT, Nat.reduceAdd, Nat.reduceMul, Nat.reduceSub, false_or, or_false, true_or, or_true, false_and, and_false, reduceCtorEq, q_n0, q_n1, q_em, q_em2, q_b0, q_b1, Classical.not_not, nI_add, pk_mul, nI_clamp, q_vp, nI_eq, nI_leI, nI_ltI, q_sub, q.hnx, h1, Nat.le_refl]
    rfl
  | k + 1, i, b, h0, c1, c2, v6, v7, v8, e, x, hb => by
    have w := z.1
    have h1 := w.hnx
    have hi : i < nx K := by omega
    have z0 := STS_fr x (Or.inl rfl) z
    have q := z0.2.1
    obtain ⟨p1, p2, p3⟩ := hT i hi
    have hp1 : gP h0 25 i = some (af i) := by rw [x.p (a := 25) rfl]; exact p1
    have h60 := fun F d => c60 h0 w q hi hp1 d F
    obtain ⟨h1', x1, x2, x3, x4⟩ := c33 z0 p3 (tAt_fr x p2) wh
    have q1 := (STS_fr (x.trans x1) (Or.inl rfl) z).2.1
    have ok := pic_ok K (Tf i) wh
    have k1 := c35 w q1 x2 ok x3
    have k2 := c36 w q1 x2 ok x3
    have bi := ch_le w wh (Tf i)
    rw [show cntT (cgP (bdP K wh (pic K (Tf i) wh))) (pic K (Tf i) wh).2 = chT K wh (Tf i) from rfl] at k1
    rw [show tkN (bdP K wh (pic K (Tf i) wh)) (pic K (Tf i) wh).2 (pic K (Tf i) wh).2 = ouT K wh (Tf i) from rfl] at k2
    rw [show q_lp (bB (fun t => 100 * chT K wh (Tf t) + ouT K wh (Tf t))) (k + 1) i b = q_lp (bB (fun t => 100 * chT K wh (Tf t) + ouT K wh (Tf t))) k (i + 1) (bB (fun t => 100 * chT K wh (Tf t) + ouT K wh (Tf t)) i b) from rfl]
    cases b with
    | none =>
      obtain ⟨h', a1, a2⟩ := cl110 z hT k (i + 1) (some i) h1' (nI (chT K wh (Tf i))) (nI (ouT K wh (Tf i))) (.ref (af i)) (.int (nI (chT K wh (Tf i)))) (.int (nI (ouT K wh (Tf i)))) (by omega) (x.trans x1) (fun j ej => by cases ej; exact ⟨by omega, rfl, rfl⟩)
      refine ⟨h', a1, fun d F => ?_⟩
      refine Eq.trans ?_ (a2 d F)
      rw [r110_19]
      simp (disch := omega) only [r110_21, r110_22, r110_25, r110_28, r110_31, r110_32, r110_35, r110_37, r110_40, r110_40n, r110_42, r110_42n, r110_44, r110_44n, r110_47, r110_48, r110_49, r110_50, r110_53, r110_53n, r110_55, r110_56, r110_59, r110_60, r110_63, r110_66, r110_68, r110_69, r110_72, r110_75, r110_77, r110_78, r110_79, r110_82, r110_84, r110_85, r110_88, r110_90, r110_91, r110_94, r110_96, r110_98, r110_101, r110_103, r110_104, r110_106, r110_107, r110_109, r110_111, r110_114, h60, x4, k1, k2, kdC, kdM, rpC, rpM, q_rs, q_rn, Option.toList_some, Option.toList_none, List.cons_append, List.nil_append, true_and, and_true, eq_self, ↓reduceIte, not_true_eq_false, not_false_eq_true, Nat.reduceEqDiff, Nat.reduceLeDiff, Nat.reduceLT, Nat.reduceAdd, Nat.reduceMul, Nat.reduceSub, false_or, or_false, true_or, or_true, false_and, and_false, reduceCtorEq, q_n0, q_n1, q_em, q_em2, q_b0, q_b1, Classical.not_not, nI_add, pk_mul, nI_clamp, q_vp, nI_eq, nI_leI, nI_ltI, q_sub, on_n, on_s, q.hnx, h1, show ¬ nx K ≤ i by omega]
    | some j =>
      obtain ⟨b1, rfl, rfl⟩ := hb j rfl
      have bj := ch_le w wh (Tf j)
      by_cases c : 100 * chT K wh (Tf i) + ouT K wh (Tf i) < 100 * chT K wh (Tf j) + ouT K wh (Tf j)
      · have hl : bB (fun t => 100 * chT K wh (Tf t) + ouT K wh (Tf t)) i (some j) = some i := if_pos c
        rw [hl]
        obtain ⟨h', a1, a2⟩ := cl110 z hT k (i + 1) (some i) h1' (nI (chT K wh (Tf i))) (nI (ouT K wh (Tf i))) (.ref (af i)) (.int (nI (chT K wh (Tf i)))) (.int (nI (ouT K wh (Tf i)))) (by omega) (x.trans x1) (fun j ej => by cases ej; exact ⟨by omega, rfl, rfl⟩)
        refine ⟨h', a1, fun d F => ?_⟩
        refine Eq.trans ?_ (a2 d F)
        rw [r110_19]
        by_cases d1 : chT K wh (Tf i) < chT K wh (Tf j)
        · simp (disch := omega) only [r110_21, r110_22, r110_25, r110_28, r110_31, r110_32, r110_35, r110_37, r110_40, r110_40n, r110_42, r110_42n, r110_44, r110_44n, r110_47, r110_48, r110_49, r110_50, r110_53, r110_53n, r110_55, r110_56, r110_59, r110_60, r110_63, r110_66, r110_68, r110_69, r110_72, r110_75, r110_77, r110_78, r110_79, r110_82, r110_84, r110_85, r110_88, r110_90, r110_91, r110_94, r110_96, r110_98, r110_101, r110_103, r110_104, r110_106, r110_107, r110_109, r110_111, r110_114, h60, x4, k1, k2, kdC, kdM, rpC, rpM, q_rs, q_rn, Option.toList_some, Option.toList_none, List.cons_append, List.nil_append, true_and, and_true, eq_self, ↓reduceIte, not_true_eq_false, not_false_eq_true, Nat.reduceEqDiff, Nat.reduceLeDiff, Nat.reduceLT, Nat.reduceAdd, Nat.reduceMul, Nat.reduceSub, false_or, or_false, true_or, or_true, false_and, and_false, reduceCtorEq, q_n0, q_n1, q_em, q_em2, q_b0, q_b1, Classical.not_not, nI_add, pk_mul, nI_clamp, q_vp, nI_eq, nI_leI, nI_ltI, q_sub, on_n, on_s, q_nm, q.hnx, h1, d1, show ¬ nx K ≤ i by omega]
        · simp (disch := omega) only [r110_21, r110_22, r110_25, r110_28, r110_31, r110_32, r110_35, r110_37, r110_40, r110_40n, r110_42, r110_42n, r110_44, r110_44n, r110_47, r110_48, r110_49, r110_50, r110_53, r110_53n, r110_55, r110_56, r110_59, r110_60, r110_63, r110_66, r110_68, r110_69, r110_72, r110_75, r110_77, r110_78, r110_79, r110_82, r110_84, r110_85, r110_88, r110_90, r110_91, r110_94, r110_96, r110_98, r110_101, r110_103, r110_104, r110_106, r110_107, r110_109, r110_111, r110_114, h60, x4, k1, k2, kdC, kdM, rpC, rpM, q_rs, q_rn, Option.toList_some, Option.toList_none, List.cons_append, List.nil_append, true_and, and_true, eq_self, ↓reduceIte, not_true_eq_false, not_false_eq_true, Nat.reduceEqDiff, Nat.reduceLeDiff, Nat.reduceLT, Nat.reduceAdd, Nat.reduceMul, Nat.reduceSub, false_or, or_false, true_or, or_true, false_and, and_false, reduceCtorEq, q_n0, q_n1, q_em, q_em2, q_b0, q_b1, Classical.not_not, nI_add, pk_mul, nI_clamp, q_vp, nI_eq, nI_leI, nI_ltI, q_sub, on_n, on_s, q_nm, q.hnx, h1, d1, show chT K wh (Tf i) = chT K wh (Tf j) by omega, show ¬ ouT K wh (Tf j) ≤ ouT K wh (Tf i) by omega, Nat.lt_irrefl, show ¬ nx K ≤ i by omega]
      · have hl : bB (fun t => 100 * chT K wh (Tf t) + ouT K wh (Tf t)) i (some j) = some j := if_neg c
        rw [hl]
        obtain ⟨h', a1, a2⟩ := cl110 z hT k (i + 1) (some j) h1' (nI (chT K wh (Tf j))) (nI (ouT K wh (Tf j))) (.ref (af i)) (.int (nI (chT K wh (Tf i)))) (.int (nI (ouT K wh (Tf i)))) (by omega) (x.trans x1) (fun j' ej => by cases ej; exact ⟨by omega, rfl, rfl⟩)
        refine ⟨h', a1, fun d F => ?_⟩
        refine Eq.trans ?_ (a2 d F)
        rw [r110_19]
        by_cases d1 : chT K wh (Tf i) = chT K wh (Tf j)
        · simp (disch := omega) only [r110_21, r110_22, r110_25, r110_28, r110_31, r110_32, r110_35, r110_37, r110_40, r110_40n, r110_42, r110_42n, r110_44, r110_44n, r110_47, r110_48, r110_49, r110_50, r110_53, r110_53n, r110_55, r110_56, r110_59, r110_60, r110_63, r110_66, r110_68, r110_69, r110_72, r110_75, r110_77, r110_78, r110_79, r110_82, r110_84, r110_85, r110_88, r110_90, r110_91, r110_94, r110_96, r110_98, r110_101, r110_103, r110_104, r110_106, r110_107, r110_109, r110_111, r110_114, h60, x4, k1, k2, kdC, kdM, rpC, rpM, q_rs, q_rn, Option.toList_some, Option.toList_none, List.cons_append, List.nil_append, true_and, and_true, eq_self, ↓reduceIte, not_true_eq_false, not_false_eq_true, Nat.reduceEqDiff, Nat.reduceLeDiff, Nat.reduceLT, Nat.reduceAdd, Nat.reduceMul, Nat.reduceSub, false_or, or_false, true_or, or_true, false_and, and_false, reduceCtorEq, q_n0, q_n1, q_em, q_em2, q_b0, q_b1, Classical.not_not, nI_add, pk_mul, nI_clamp, q_vp, nI_eq, nI_leI, nI_ltI, q_sub, on_n, on_s, q_nm, q.hnx, h1, d1, show ouT K wh (Tf j) ≤ ouT K wh (Tf i) by omega, Nat.lt_irrefl, show ¬ nx K ≤ i by omega]
        · simp (disch := omega) only [r110_21, r110_22, r110_25, r110_28, r110_31, r110_32, r110_35, r110_37, r110_40, r110_40n, r110_42, r110_42n, r110_44, r110_44n, r110_47, r110_48, r110_49, r110_50, r110_53, r110_53n, r110_55, r110_56, r110_59, r110_60, r110_63, r110_66, r110_68, r110_69, r110_72, r110_75, r110_77, r110_78, r110_79, r110_82, r110_84, r110_85, r110_88, r110_90, r110_91, r110_94, r110_96, r110_98, r110_101, r110_103, r110_104, r110_106, r110_107, r110_109, r110_111, r110_114, h60, x4, k1, k2, kdC, kdM, rpC, rpM, q_rs, q_rn, Option.toList_some, Option.toList_none, List.cons_append, List.nil_append, true_and, and_true, eq_self, ↓reduceIte, not_true_eq_false, not_false_eq_true, Nat.reduceEqDiff, Nat.reduceLeDiff, Nat.reduceLT, Nat.reduceAdd, Nat.reduceMul, Nat.reduceSub, false_or, or_false, true_or, or_true, false_and, and_false, reduceCtorEq, q_n0, q_n1, q_em, q_em2, q_b0, q_b1, Classical.not_not, nI_add, pk_mul, nI_clamp, q_vp, nI_eq, nI_leI, nI_ltI, q_sub, on_n, on_s, q_nm, q.hnx, h1, d1, show ¬ chT K wh (Tf i) < chT K wh (Tf j) by omega, show ¬ nx K ≤ i by omega]
theorem ml231 (w : WF K) (hK : gI h 103 = K) (hw : wh = nI 0 ∨ wh = nI 1) (hT : ∀ t, t < nx K → tEq K t (Tf t)) : ∀ k i b h0 (c1 : Int32) (v5 : Value), i + k = nx K → Fr h h0 → (∀ j, b = some j → j < i ∧ c1 = nI (100 * chT K wh (Tf j) + ouT K wh (Tf j))) → ∃ h', Fr h h' ∧ ∀ d F, wp true (d + 70) 231 16 [.ref 101, .int wh, .int (on b), .int c1, .int (nI i), v5] [] h0 F = F (some (.int (on (q_lp (bB (fun t => 100 * chT K wh (Tf t) + ouT K wh (Tf t))) k i b)))) h'
  | 0, i, b, h0, c1, v5, e, x, hb => by
    obtain rfl : i = nx K := e
    have h1 := w.hnx
    have hK0 : gI h0 103 = K := x.K.trans hK
    refine ⟨h0, x, fun d F => ?_⟩
    rw [r231_16]
    simp (disch := omega) only [e231, r231_0, r231_1, r231_4, r231_7, r231_8, r231_9, r231_10, r231_11, r231_12, r231_13, r231_14, r231_18, r231_19, r231_22, r231_25, r231_26, r231_29, r231_30, r231_32, r231_33, r231_36, r231_38, r231_39, r231_40, r231_43, r231_44, r231_45, r231_46, r231_49, r231_50, r231_52, r231_53, r231_54, r231_57, r231_59, r231_60, r231_63, r231_66, r231_68, r231_69, r231_71, r231_72, r231_75, r231_78, r231_79, kdC, kdM, rpC, rpM, q_rs, q_rn, Option.toList_some, Option.toList_none, List.cons_append, List.nil_append, true_and, and_true, eq_self, ↓reduceIte, not_true_eq_false, not_false_eq_true, Nat.reduceEqDiff, Nat.reduceLeDiff, Nat.reduceLT, Nat.reduceAdd, Nat.reduceMul, Nat.reduceSub, false_or, or_false, true_or, or_true, false_and, and_false, reduceCtorEq, q_n0, q_n1, q_em, q_em2, q_b0, q_b1, Classical.not_not, nI_add, pk_mul, nI_clamp, q_vp, nI_eq, nI_leI, nI_ltI, q_sub, hK0, h1, Nat.le_refl]
    rfl
  | k + 1, i, b, h0, c1, v5, e, x, hb => by
    have h1 := w.hnx
    have hi : i < nx K := by omega
    have hK0 : gI h0 103 = K := x.K.trans hK
    obtain ⟨h1', x1, x2, x4⟩ := m226 (T := Tf i) hK0 w (show i < 10 by omega) (hT i hi) hw
    have hK1 : gI h1' 103 = K := x1.K.trans hK0
    have ok := pic_ok K (Tf i) wh
    have k1 := m228 hK1 w hw x2 ok
    have k2 := m229 hK1 w hw x2 ok
    have bi := ch_le w wh (Tf i)
    rw [show cntT (cgP (bdP K wh (pic K (Tf i) wh))) (pic K (Tf i) wh).2 = chT K wh (Tf i) from rfl] at k1
    rw [show tkN (bdP K wh (pic K (Tf i) wh)) (pic K (Tf i) wh).2 (pic K (Tf i) wh).2 = ouT K wh (Tf i) from rfl] at k2
    rw [show q_lp (bB (fun t => 100 * chT K wh (Tf t) + ouT K wh (Tf t))) (k + 1) i b = q_lp (bB (fun t => 100 * chT K wh (Tf t) + ouT K wh (Tf t))) k (i + 1) (bB (fun t => 100 * chT K wh (Tf t) + ouT K wh (Tf t)) i b) from rfl]
    cases b with
    | none =>
      obtain ⟨h', a1, a2⟩ := ml231 w hK hw hT k (i + 1) (some i) h1' (nI (100 * chT K wh (Tf i) + ouT K wh (Tf i))) (.int (nI (100 * chT K wh (Tf i) + ouT K wh (Tf i)))) (by omega) (x.trans x1) (fun j ej => by cases ej; exact ⟨by omega, rfl⟩)
      refine ⟨h', a1, fun d F => ?_⟩
      have x4' := fun F => x4 d F
      refine Eq.trans ?_ (a2 d F)
      rw [r231_16]
      simp (disch := omega) only [r231_18, r231_19, r231_22, r231_25, r231_26, r231_29, r231_30, r231_32, r231_33, r231_36, r231_38, r231_39, r231_40, r231_43, r231_44, r231_45, r231_46, r231_49, r231_50, r231_52, r231_53, r231_54, r231_57, r231_59, r231_60, r231_63, r231_66, r231_68, r231_69, r231_71, r231_72, r231_75, x4', k1, k2, kdC, kdM, rpC, rpM, q_rs, q_rn, Option.toList_some, Option.toList_none, List.cons_append, List.nil_append, true_and, and_true, eq_self, ↓reduceIte, not_true_eq_false, not_false_eq_true, Nat.reduceEqDiff, Nat.reduceLeDiff, Nat.reduceLT, Nat.reduceAdd, Nat.reduceMul, Nat.reduceSub, false_or, or_false, true_or, or_true, false_and, and_false, reduceCtorEq, q_n0, q_n1, q_em, q_em2, q_b0, q_b1, Classical.not_not, nI_add, pk_mul, nI_clamp, q_vp, nI_eq, nI_leI, nI_ltI, q_sub, on_n, on_s, hK0, h1, show ¬ nx K ≤ i by omega]
    | some j =>
      obtain ⟨b1, rfl⟩ := hb j rfl
      have bj := ch_le w wh (Tf j)
      by_cases c : 100 * chT K wh (Tf i) + ouT K wh (Tf i) < 100 * chT K wh (Tf j) + ouT K wh (Tf j)
      · have hl : bB (fun t => 100 * chT K wh (Tf t) + ouT K wh (Tf t)) i (some j) = some i := if_pos c
        rw [hl]
        obtain ⟨h', a1, a2⟩ := ml231 w hK hw hT k (i + 1) (some i) h1' (nI (100 * chT K wh (Tf i) + ouT K wh (Tf i))) (.int (nI (100 * chT K wh (Tf i) + ouT K wh (Tf i)))) (by omega) (x.trans x1) (fun j ej => by cases ej; exact ⟨by omega, rfl⟩)
        refine ⟨h', a1, fun d F => ?_⟩
        have x4' := fun F => x4 d F
        refine Eq.trans ?_ (a2 d F)
        rw [r231_16]
        simp (disch := omega) only [r231_18, r231_19, r231_22, r231_25, r231_26, r231_29, r231_30, r231_32, r231_33, r231_36, r231_38, r231_39, r231_40, r231_43, r231_44, r231_45, r231_46, r231_49, r231_50, r231_52, r231_53, r231_54, r231_57, r231_59, r231_60, r231_63, r231_66, r231_68, r231_69, r231_71, r231_72, r231_75, x4', k1, k2, kdC, kdM, rpC, rpM, q_rs, q_rn, Option.toList_some, Option.toList_none, List.cons_append, List.nil_append, true_and, and_true, eq_self, ↓reduceIte, not_true_eq_false, not_false_eq_true, Nat.reduceEqDiff, Nat.reduceLeDiff, Nat.reduceLT, Nat.reduceAdd, Nat.reduceMul, Nat.reduceSub, false_or, or_false, true_or, or_true, false_and, and_false, reduceCtorEq, q_n0, q_n1, q_em, q_em2, q_b0, q_b1, Classical.not_not, nI_add, pk_mul, nI_clamp, q_vp, nI_eq, nI_leI, nI_ltI, q_sub, on_n, on_s, q_nm, hK0, h1, c, show ¬ nx K ≤ i by omega]
      · have hl : bB (fun t => 100 * chT K wh (Tf t) + ouT K wh (Tf t)) i (some j) = some j := if_neg c
        rw [hl]
        obtain ⟨h', a1, a2⟩ := ml231 w hK hw hT k (i + 1) (some j) h1' (nI (100 * chT K wh (Tf j) + ouT K wh (Tf j))) (.int (nI (100 * chT K wh (Tf i) + ouT K wh (Tf i)))) (by omega) (x.trans x1) (fun j' ej => by cases ej; exact ⟨by omega, rfl⟩)
        refine ⟨h', a1, fun d F => ?_⟩
        have x4' := fun F => x4 d F
        refine Eq.trans ?_ (a2 d F)
        rw [r231_16]
        simp (disch := omega) only [r231_18, r231_19, r231_22, r231_25, r231_26, r231_29, r231_30, r231_32, r231_33, r231_36, r231_38, r231_39, r231_40, r231_43, r231_44, r231_45, r231_46, r231_49, r231_50, r231_52, r231_53, r231_54, r231_57, r231_59, r231_60, r231_63, r231_66, r231_68, r231_69, r231_71, r231_72, r231_75, x4', k1, k2, kdC, kdM, rpC, rpM, q_rs, q_rn, Option.toList_some, Option.toList_none, List.cons_append, List.nil_append, true_and, and_true, eq_self, ↓reduceIte, not_true_eq_false, not_false_eq_true, Nat.reduceEqDiff, Nat.reduceLeDiff, Nat.reduceLT, Nat.reduceAdd, Nat.reduceMul, Nat.reduceSub, false_or, or_false, true_or, or_true, false_and, and_false, reduceCtorEq, q_n0, q_n1, q_em, q_em2, q_b0, q_b1, Classical.not_not, nI_add, pk_mul, nI_clamp, q_vp, nI_eq, nI_leI, nI_ltI, q_sub, on_n, on_s, q_nm, hK0, h1, c, show ¬ nx K ≤ i by omega]
end BS
theorem p_best {n : Nat} {h : Hp} (z : Inv n h) (a : Int32) : PRI n h 110 231 [.int a] := by
  intro d
  have w := z.1.1
  by_cases hA : a = nI 0 ∨ a = nI 1
  · obtain ⟨af, Tf, hT⟩ := TXS_ch z.1.2.2.1
    obtain ⟨h1, x1, x2⟩ := cl110 (wh := a) z.1 hT (nx (gI h 103)) 0 none h (nI 0) (nI 0) jn jn jn (by omega) (Fr.refl h) (fun j ej => by cases ej)
    have hK := x1.K
    obtain ⟨h2, y1, y2⟩ := ml231 (wh := a) w hK hA (fun t ht => (hT t ht).2.2) (nx (gI h 103)) 0 none h1 (nI 0) jn (by omega) (Fr.refl h1) (fun j ej => by cases ej)
    refine ⟨on (q_lp (bB (fun t => 100 * chT (gI h 103) a (Tf t) + ouT (gI h 103) a (Tf t))) (nx (gI h 103)) 0 none), h1, h2, fun F => ?_, fun F => ?_, Inv_fr (x1.trans y1) z⟩
    · have x2' := x2 (d + 895) F
      simp (disch := omega) only [e110, r110_0, r110_1, r110_4, r110_7, r110_8, r110_9, r110_10, r110_11, r110_12, r110_13, r110_14, r110_16, r110_17, r110_21, r110_22, r110_25, r110_28, r110_31, r110_32, r110_35, r110_37, r110_40, r110_40n, r110_42, r110_42n, r110_44, r110_44n, r110_47, r110_48, r110_49, r110_50, r110_53, r110_53n, r110_55, r110_56, r110_59, r110_60, r110_63, r110_66, r110_68, r110_69, r110_72, r110_75, r110_77, r110_78, r110_79, r110_82, r110_84, r110_85, r110_88, r110_90, r110_91, r110_94, r110_96, r110_98, r110_101, r110_103, r110_104, r110_106, r110_107, r110_109, r110_111, r110_114, r110_117, r110_118, c126, hA, kdC, kdM, rpC, rpM, q_rs, q_rn, Option.toList_some, Option.toList_none, List.cons_append, List.nil_append, true_and, and_true, eq_self, ↓reduceIte, not_true_eq_false, not_false_eq_true, Nat.reduceEqDiff, Nat.reduceLeDiff, Nat.reduceLT, Nat.reduceAdd, Nat.reduceMul, Nat.reduceSub, false_or, or_false, true_or, or_true, false_and, and_false, reduceCtorEq, q_n0, q_n1, q_em, q_em2, q_b0, q_b1, Classical.not_not]
      exact x2'
    · have y2' := y2 (d + 830) F
      simp (disch := omega) only [e231, r231_0, r231_1, r231_4, r231_7, r231_8, r231_9, r231_10, r231_11, r231_12, r231_13, r231_14, r231_18, r231_19, r231_22, r231_25, r231_26, r231_29, r231_30, r231_32, r231_33, r231_36, r231_38, r231_39, r231_40, r231_43, r231_44, r231_45, r231_46, r231_49, r231_50, r231_52, r231_53, r231_54, r231_57, r231_59, r231_60, r231_63, r231_66, r231_68, r231_69, r231_71, r231_72, r231_75, r231_78, r231_79, c152, hA, kdC, kdM, rpC, rpM, q_rs, q_rn, Option.toList_some, Option.toList_none, List.cons_append, List.nil_append, true_and, and_true, eq_self, ↓reduceIte, not_true_eq_false, not_false_eq_true, Nat.reduceEqDiff, Nat.reduceLeDiff, Nat.reduceLT, Nat.reduceAdd, Nat.reduceMul, Nat.reduceSub, false_or, or_false, true_or, or_true, false_and, and_false, reduceCtorEq, q_n0, q_n1, q_em, q_em2, q_b0, q_b1, Classical.not_not]
      exact y2'
  · refine ⟨-1, h, h, fun F => ?_, fun F => ?_, Inv_fr (Fr.refl h) z⟩
    · simp (disch := omega) only [e110, r110_0, r110_1, r110_4, r110_7, r110_8, r110_9, r110_10, r110_11, r110_12, r110_13, r110_14, r110_16, r110_17, r110_21, r110_22, r110_25, r110_28, r110_31, r110_32, r110_35, r110_37, r110_40, r110_40n, r110_42, r110_42n, r110_44, r110_44n, r110_47, r110_48, r110_49, r110_50, r110_53, r110_53n, r110_55, r110_56, r110_59, r110_60, r110_63, r110_66, r110_68, r110_69, r110_72, r110_75, r110_77, r110_78, r110_79, r110_82, r110_84, r110_85, r110_88, r110_90, r110_91, r110_94, r110_96, r110_98, r110_101, r110_103, r110_104, r110_106, r110_107, r110_109, r110_111, r110_114, r110_117, r110_118, c126, hA, kdC, kdM, rpC, rpM, q_rs, q_rn, Option.toList_some, Option.toList_none, List.cons_append, List.nil_append, true_and, and_true, eq_self, ↓reduceIte, not_true_eq_false, not_false_eq_true, Nat.reduceEqDiff, Nat.reduceLeDiff, Nat.reduceLT, Nat.reduceAdd, Nat.reduceMul, Nat.reduceSub, false_or, or_false, true_or, or_true, false_and, and_false, reduceCtorEq, q_n0, q_n1, q_em, q_em2, q_b0, q_b1, Classical.not_not]
    · simp (disch := omega) only [e231, r231_0, r231_1, r231_4, r231_7, r231_8, r231_9, r231_10, r231_11, r231_12, r231_13, r231_14, r231_18, r231_19, r231_22, r231_25, r231_26, r231_29, r231_30, r231_32, r231_33, r231_36, r231_38, r231_39, r231_40, r231_43, r231_44, r231_45, r231_46, r231_49, r231_50, r231_52, r231_53, r231_54, r231_57, r231_59, r231_60, r231_63, r231_66, r231_68, r231_69, r231_71, r231_72, r231_75, r231_78, r231_79, c152, hA, kdC, kdM, rpC, rpM, q_rs, q_rn, Option.toList_some, Option.toList_none, List.cons_append, List.nil_append, true_and, and_true, eq_self, ↓reduceIte, not_true_eq_false, not_false_eq_true, Nat.reduceEqDiff, Nat.reduceLeDiff, Nat.reduceLT, Nat.reduceAdd, Nat.reduceMul, Nat.reduceSub, false_or, or_false, true_or, or_true, false_and, and_false, reduceCtorEq, q_n0, q_n1, q_em, q_em2, q_b0, q_b1, Classical.not_not]
