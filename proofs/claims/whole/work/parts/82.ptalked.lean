/-! talked -/
theorem stB_bit (P : Nat → Prop) : ∀ n i, (stB P n).testBit i = true ↔ (i < n ∧ P i)
  | 0, i => by
    unfold stB
    rw [Nat.zero_testBit]
    constructor
    · intro q; cases q
    · intro q; omega
  | n + 1, i => by
    unfold stB
    rw [Nat.testBit_or, Bool.or_eq_true, stB_bit P n i]
    by_cases e : P n
    · rw [pif_t e, Nat.testBit_two_pow, decide_eq_true_iff]
      constructor
      · rintro (⟨h1, h2⟩ | rfl)
        · exact ⟨by omega, h2⟩
        · exact ⟨by omega, e⟩
      · rintro ⟨h1, h2⟩
        by_cases e2 : n = i
        · exact Or.inr e2
        · exact Or.inl ⟨by omega, h2⟩
    · rw [pif_f e, Nat.zero_testBit]
      constructor
      · rintro (⟨h1, h2⟩ | q)
        · exact ⟨by omega, h2⟩
        · cases q
      · rintro ⟨h1, h2⟩
        by_cases e2 : i = n
        · subst e2; exact absurd h2 e
        · exact Or.inl ⟨by omega, h2⟩
theorem stB_1 (P : Nat → Prop) {n t : Nat} (hn : n ≤ 12) (ht : t < n) : nI (stB P n) >>> (nI t &&& 31) &&& nI 1 = bz (P t) := by
  have h1 := stB_lt P n
  have h2 : 2 ^ n ≤ 2 ^ 12 := Nat.pow_le_pow_right (by omega) hn
  rw [n_bit (by omega) (by omega)]
  by_cases c : P t
  · rw [q_bt c, (stB_bit P n t).mpr ⟨ht, c⟩]; rfl
  · rw [q_bf c]
    cases q : (stB P n).testBit t with
    | false => rfl
    | true => exact absurd ((stB_bit P n t).mp q).2 c
theorem p_talked {n : Nat} {h : Hp} (z : Inv n h) (a b e c : Int32) : PRI n h 115 249 [.int a, .int b, .int e, .int c] := by
  intro d
  have w := z.1.1
  have q := z.1.2.1
  have hn := w.hnx
  have hns := w.hns
  have hnt := w.hnt
  have hP : 2 ^ ns (gI h 103) ≤ 2 ^ 12 := Nat.pow_le_pow_right (by omega) hns.2
  have hsb := sbt_lt (gI h 103) (ns (gI h 103))
  by_cases hall : (nI 0 ≤ c ∧ c ≤ nI 2) ∧ (nI 0 ≤ e ∧ e < nI (nt (gI h 103))) ∧ ((nI 0 ≤ a ∧ a < nI (nx (gI h 103))) ∧ (nI 0 ≤ b ∧ b < nI (nx (gI h 103))))
  · obtain ⟨hC, hE, hA, hB⟩ := hall
    obtain ⟨t1, ht1, rfl⟩ := q_ix (by omega) hA.1 hA.2
    obtain ⟨t2, ht2, rfl⟩ := q_ix (by omega) hB.1 hB.2
    obtain ⟨t, ht, rfl⟩ := q_ix (by omega) hE.1 hE.2
    obtain ⟨s1, T1, p1, p2, p3⟩ := z.1.2.2.1 t1 ht1
    obtain ⟨s2, T2, r1, r2, r3⟩ := z.1.2.2.1 t2 ht2
    obtain ⟨σ, hσ, hu⟩ := z.1.2.2.2
    obtain ⟨h1, m, wf, x1, x2, x3, x4, x5, x6, x7⟩ := c136 z (v := nI 0) (Or.inl rfl) ht1 ht2 p1 r1
    have z1 := STS_fr x1 (Or.inl rfl) z.1
    obtain ⟨h2, y1, y2, y3, y4, y5⟩ := c65 (T := T1) z1 x2 p3 (tAt_fr x1 p2) x5 hσ (fun i hi => by rw [x1.g (a := 23) (i := i) rfl]; exact hu i hi) (fun i hi => x6 i (by omega)) (-1)
    have f2 := x1.trans (Tk_fr y1)
    have z2 := STS_fr f2 (Or.inl rfl) z.1
    obtain ⟨h3, v1, v2, v3, v4, v5, v6⟩ := c70 (T := T2) (t := t) (r := 0) z2 (by rw [y1.p (a := 88) (i := 4) rfl]; exact x3) r3 (tAt_fr f2 r2) ht (by omega) y4
    have f3 := f2.trans (Tk_fr v1)
    obtain ⟨hm, hw⟩ := foI_id x4
    have hdp : DP h2 0 t = mdD (gI h 103) T1 σ (sbt (gI h 103) (ns (gI h 103))) t (ns (gI h 103)) := by
      have := y2 t (by omega)
      rw [hw t (by omega), hd_md hσ hns.2 t _ (Nat.le_refl _)] at this
      exact this
    rw [hdp] at v6
    have d90 : gI h2 90 t = (mdD (gI h 103) T1 σ (sbt (gI h 103) (ns (gI h 103))) t (ns (gI h 103))).1 := by
      rw [← hdp]; show gI h2 90 t = gI h2 90 (0 * 12 + t); rw [show 0 * 12 + t = t by omega]
    have d91 : gI h2 91 t = (mdD (gI h 103) T1 σ (sbt (gI h 103) (ns (gI h 103))) t (ns (gI h 103))).2 := by
      rw [← hdp]; show gI h2 91 t = gI h2 91 (0 * 12 + t); rw [show 0 * 12 + t = t by omega]
    have x7' := fun F => x7 (d + 896) F
    have y5' := fun F => y5 (d + 894) F
    have v6' := fun F => v6 (d + 896) F
    have q34 : gI h 11 5 = nI (nt (gI h 103)) := by rw [q.hnt]; exact hnt.1
    have mod : ∀ g : Hp, Fr h g → ∃ g', Fr g g' ∧ MD g' t = mdD (gI h 103) T1 σ (sbt (gI h 103) (ns (gI h 103))) t (ns (gI h 103)) ∧ gI g' 101 32 >>> (nI t &&& 31) &&& nI 1 = bz (isStp (gI h 103) T2 t (mdD (gI h 103) T1 σ (sbt (gI h 103) (ns (gI h 103))) t (ns (gI h 103)))) ∧ ∃ r, ∀ F, cwp true (d + 899) 246 [.ref 101, .int (nI t1), .int (nI t2), .int (nI (sbt (gI h 103) (ns (gI h 103)))), .int (nI 0)] g F = F (some (.int r)) g' := by
      intro g fg
      obtain ⟨g', b1, b2, b3, b4, b5⟩ := m246 (tm := t1) (ts := t2) (M := sbt (gI h 103) (ns (gI h 103))) fg.K w (by omega) p3 (by omega) r3 hσ (by omega)
      refine ⟨g', Mw_fr b1, b2 t ht, ?_, _, fun F => b5 (d + 830) F⟩
      rw [b4]
      exact stB_1 _ hnt.2 ht
    generalize hMD : mdD (gI h 103) T1 σ (sbt (gI h 103) (ns (gI h 103))) t (ns (gI h 103)) = mv at *
    obtain ⟨j, hj, rfl⟩ := q_ix2 (by omega) hC.1 hC.2
    rcases (show j = 0 ∨ j = 1 ∨ j = 2 by omega) with rfl | rfl | rfl
    · obtain ⟨g', b1, b2, b3, r, b4⟩ := mod h2 f2
      have m1 : gI g' 119 t = mv.1 := congrArg Prod.fst b2
      refine ⟨mv.1, h2, g', fun F => ?_, fun F => ?_, Inv_fr (f2.trans b1) z⟩
      · simp (disch := omega) only [e115, r115_0, r115_2, r115_3, r115_4, r115_7, r115_10, r115_11, r115_12, r115_13, r115_16, r115_19, r115_22, r115_23, r115_24, r115_27, r115_30, r115_31, r115_32, r115_33, r115_34, r115_37, r115_40, r115_41, r115_42, r115_43, r115_46, r115_47, r115_50, r115_52c0, r115_52c1, r115_52, r115_80, r115_81, r115_84, r115_87, r115_88, r115_89, r115_90, r115_91, r115_94, r115_97, r115_98, r115_99, r115_100, r115_101, r115_104, r115_105, r115_106, r115_109, r115_112, c125, hC, hE, q34, x7', y5', d90, kdC, kdM, rpC, rpM, q_rs, q_rn, Option.toList_some, Option.toList_none, List.cons_append, List.nil_append, true_and, and_true, eq_self, ↓reduceIte, not_true_eq_false, not_false_eq_true, Nat.reduceEqDiff, Nat.reduceLeDiff, Nat.reduceLT, Nat.reduceAdd, Nat.reduceMul, Nat.reduceSub, false_or, or_false, true_or, or_true, false_and, and_false, reduceCtorEq, q_n0, q_n1, q_em, q_em2, q_b0, q_b1, Classical.not_not, nI_add, pk_mul, nI_clamp, q_vp, nI_eq, nI_leI, nI_ltI, q_sub, Nat.zero_le, show t ≤ nt (gI h 103) - 1 by omega, show t < 156 by omega]
      · simp (disch := omega) only [e249, r249_0, r249_1, r249_2, r249_5, r249_8, r249_9, r249_10, r249_13, r249_16, r249_17, r249_18, r249_21, r249_24, r249_26, r249_27, r249_28, r249_31, r249_34, r249_35, r249_36, r249_37, r249_38, r249_39, r249_40, r249_43, r249_44, r249_47, r249_48, r249_50, r249_53, r249_54, r249_57, r249_58, r249_59, r249_62, r249_64, r249_65, r249_68, r249_69, r249_72, r249_73, r249_74, r249_77, r249_78, r249_81, r249_82, r249_83, r249_84, r249_85, c150 _ _ _ f2.K w, m236 _ _ _ f2.K w, m241 _ _ _ f2.K w, c143, hA, hB, hC, hE, b4, m1, kdC, kdM, rpC, rpM, q_rs, q_rn, Option.toList_some, Option.toList_none, List.cons_append, List.nil_append, true_and, and_true, eq_self, ↓reduceIte, not_true_eq_false, not_false_eq_true, Nat.reduceEqDiff, Nat.reduceLeDiff, Nat.reduceLT, Nat.reduceAdd, Nat.reduceMul, Nat.reduceSub, false_or, or_false, true_or, or_true, false_and, and_false, reduceCtorEq, q_n0, q_n1, q_em, q_em2, q_b0, q_b1, Classical.not_not, nI_add, pk_mul, nI_clamp, q_vp, nI_eq, nI_leI, nI_ltI, q_sub, show t < 12 by omega]
    · obtain ⟨g', b1, b2, b3, r, b4⟩ := mod h2 f2
      have m1 : gI g' 120 t = mv.2 := congrArg Prod.snd b2
      refine ⟨mv.2, h2, g', fun F => ?_, fun F => ?_, Inv_fr (f2.trans b1) z⟩
      · simp (disch := omega) only [e115, r115_0, r115_2, r115_3, r115_4, r115_7, r115_10, r115_11, r115_12, r115_13, r115_16, r115_19, r115_22, r115_23, r115_24, r115_27, r115_30, r115_31, r115_32, r115_33, r115_34, r115_37, r115_40, r115_41, r115_42, r115_43, r115_46, r115_47, r115_50, r115_52c0, r115_52c1, r115_52, r115_80, r115_81, r115_84, r115_87, r115_88, r115_89, r115_90, r115_91, r115_94, r115_97, r115_98, r115_99, r115_100, r115_101, r115_104, r115_105, r115_106, r115_109, r115_112, c125, hC, hE, q34, x7', y5', d91, kdC, kdM, rpC, rpM, q_rs, q_rn, Option.toList_some, Option.toList_none, List.cons_append, List.nil_append, true_and, and_true, eq_self, ↓reduceIte, not_true_eq_false, not_false_eq_true, Nat.reduceEqDiff, Nat.reduceLeDiff, Nat.reduceLT, Nat.reduceAdd, Nat.reduceMul, Nat.reduceSub, false_or, or_false, true_or, or_true, false_and, and_false, reduceCtorEq, q_n0, q_n1, q_em, q_em2, q_b0, q_b1, Classical.not_not, nI_add, pk_mul, nI_clamp, q_vp, nI_eq, nI_leI, nI_ltI, q_sub, Nat.zero_le, show t ≤ nt (gI h 103) - 1 by omega, show t < 156 by omega]
      · simp (disch := omega) only [e249, r249_0, r249_1, r249_2, r249_5, r249_8, r249_9, r249_10, r249_13, r249_16, r249_17, r249_18, r249_21, r249_24, r249_26, r249_27, r249_28, r249_31, r249_34, r249_35, r249_36, r249_37, r249_38, r249_39, r249_40, r249_43, r249_44, r249_47, r249_48, r249_50, r249_53, r249_54, r249_57, r249_58, r249_59, r249_62, r249_64, r249_65, r249_68, r249_69, r249_72, r249_73, r249_74, r249_77, r249_78, r249_81, r249_82, r249_83, r249_84, r249_85, c150 _ _ _ f2.K w, m236 _ _ _ f2.K w, m241 _ _ _ f2.K w, c143, hA, hB, hC, hE, b4, m1, kdC, kdM, rpC, rpM, q_rs, q_rn, Option.toList_some, Option.toList_none, List.cons_append, List.nil_append, true_and, and_true, eq_self, ↓reduceIte, not_true_eq_false, not_false_eq_true, Nat.reduceEqDiff, Nat.reduceLeDiff, Nat.reduceLT, Nat.reduceAdd, Nat.reduceMul, Nat.reduceSub, false_or, or_false, true_or, or_true, false_and, and_false, reduceCtorEq, q_n0, q_n1, q_em, q_em2, q_b0, q_b1, Classical.not_not, nI_add, pk_mul, nI_clamp, q_vp, nI_eq, nI_leI, nI_ltI, q_sub, show t < 12 by omega]
    · obtain ⟨g', b1, b2, b3, r, b4⟩ := mod h3 f3
      refine ⟨bz (isStp (gI h 103) T2 t mv), h3, g', fun F => ?_, fun F => ?_, Inv_fr (f3.trans b1) z⟩
      · have k0 : ¬ (nI 2).toInt = 0 := by decide
        have k1 : ¬ (nI 2).toInt = 1 := by decide
        simp (disch := first | omega | assumption) only [e115, r115_0, r115_2, r115_3, r115_4, r115_7, r115_10, r115_11, r115_12, r115_13, r115_16, r115_19, r115_22, r115_23, r115_24, r115_27, r115_30, r115_31, r115_32, r115_33, r115_34, r115_37, r115_40, r115_41, r115_42, r115_43, r115_46, r115_47, r115_50, r115_52c0, r115_52c1, r115_52, r115_80, r115_81, r115_84, r115_87, r115_88, r115_89, r115_90, r115_91, r115_94, r115_97, r115_98, r115_99, r115_100, r115_101, r115_104, r115_105, r115_106, r115_109, r115_112, c125, c127, hC, hE, q34, x7', y5', v6', kdC, kdM, rpC, rpM, q_rs, q_rn, Option.toList_some, Option.toList_none, List.cons_append, List.nil_append, true_and, and_true, eq_self, ↓reduceIte, not_true_eq_false, not_false_eq_true, Nat.reduceEqDiff, Nat.reduceLeDiff, Nat.reduceLT, Nat.reduceAdd, Nat.reduceMul, Nat.reduceSub, false_or, or_false, true_or, or_true, false_and, and_false, reduceCtorEq, q_n0, q_n1, q_em, q_em2, q_b0, q_b1, Classical.not_not, nI_add, pk_mul, nI_clamp, q_vp, nI_eq, nI_leI, nI_ltI, q_sub, Nat.zero_le, show t ≤ nt (gI h 103) - 1 by omega]
      · simp (disch := omega) only [e249, r249_0, r249_1, r249_2, r249_5, r249_8, r249_9, r249_10, r249_13, r249_16, r249_17, r249_18, r249_21, r249_24, r249_26, r249_27, r249_28, r249_31, r249_34, r249_35, r249_36, r249_37, r249_38, r249_39, r249_40, r249_43, r249_44, r249_47, r249_48, r249_50, r249_53, r249_54, r249_57, r249_58, r249_59, r249_62, r249_64, r249_65, r249_68, r249_69, r249_72, r249_73, r249_74, r249_77, r249_78, r249_81, r249_82, r249_83, r249_84, r249_85, c150 _ _ _ f3.K w, m236 _ _ _ f3.K w, m241 _ _ _ f3.K w, c143, hA, hB, hC, hE, b4, b3, kdC, kdM, rpC, rpM, q_rs, q_rn, Option.toList_some, Option.toList_none, List.cons_append, List.nil_append, true_and, and_true, eq_self, ↓reduceIte, not_true_eq_false, not_false_eq_true, Nat.reduceEqDiff, Nat.reduceLeDiff, Nat.reduceLT, Nat.reduceAdd, Nat.reduceMul, Nat.reduceSub, false_or, or_false, true_or, or_true, false_and, and_false, reduceCtorEq, q_n0, q_n1, q_em, q_em2, q_b0, q_b1, Classical.not_not, nI_add, pk_mul, nI_clamp, q_vp, nI_eq, nI_leI, nI_ltI, q_sub]
  · refine ⟨-1, h, h, fun F => ?_, fun F => ?_, Inv_fr (Fr.refl h) z⟩
    · by_cases hC : nI 0 ≤ c ∧ c ≤ nI 2
      · by_cases hE : nI 0 ≤ e ∧ e < nI (nt (gI h 103))
        · have hno := fun F => c136n z (v := nI 0) (x := a) (y := b) (fun u => hall ⟨hC, hE, u⟩) (d + 896) F
          simp (disch := omega) only [e115, r115_0, r115_2, r115_3, r115_4, r115_7, r115_10, r115_11, r115_12, r115_13, r115_16, r115_19, r115_22, r115_23, r115_24, r115_27, r115_30, r115_31, r115_32, r115_33, r115_34, r115_37, r115_40, r115_41, r115_42, r115_43, r115_46, r115_47, r115_50, r115_52c0, r115_52c1, r115_52, r115_80, r115_81, r115_84, r115_87, r115_88, r115_89, r115_90, r115_91, r115_94, r115_97, r115_98, r115_99, r115_100, r115_101, r115_104, r115_105, r115_106, r115_109, r115_112, c125, hC, hE, hno, q.hnt, hnt, q_lep, kdC, kdM, rpC, rpM, q_rs, q_rn, Option.toList_some, Option.toList_none, List.cons_append, List.nil_append, true_and, and_true, eq_self, ↓reduceIte, not_true_eq_false, not_false_eq_true, Nat.reduceEqDiff, Nat.reduceLeDiff, Nat.reduceLT, Nat.reduceAdd, Nat.reduceMul, Nat.reduceSub, false_or, or_false, true_or, or_true, false_and, and_false, reduceCtorEq, q_n0, q_n1, q_em, q_em2, q_b0, q_b1, Classical.not_not]
        · simp (disch := omega) only [e115, r115_0, r115_2, r115_3, r115_4, r115_7, r115_10, r115_11, r115_12, r115_13, r115_16, r115_19, r115_22, r115_23, r115_24, r115_27, r115_30, r115_31, r115_32, r115_33, r115_34, r115_37, r115_40, r115_41, r115_42, r115_43, r115_46, r115_47, r115_50, r115_52c0, r115_52c1, r115_52, r115_80, r115_81, r115_84, r115_87, r115_88, r115_89, r115_90, r115_91, r115_94, r115_97, r115_98, r115_99, r115_100, r115_101, r115_104, r115_105, r115_106, r115_109, r115_112, c125, hC, hE, q.hnt, hnt, q_lep, kdC, kdM, rpC, rpM, q_rs, q_rn, Option.toList_some, Option.toList_none, List.cons_append, List.nil_append, true_and, and_true, eq_self, ↓reduceIte, not_true_eq_false, not_false_eq_true, Nat.reduceEqDiff, Nat.reduceLeDiff, Nat.reduceLT, Nat.reduceAdd, Nat.reduceMul, Nat.reduceSub, false_or, or_false, true_or, or_true, false_and, and_false, reduceCtorEq, q_n0, q_n1, q_em, q_em2, q_b0, q_b1, Classical.not_not]
      · simp (disch := omega) only [e115, r115_0, r115_2, r115_3, r115_4, r115_7, r115_10, r115_11, r115_12, r115_13, r115_16, r115_19, r115_22, r115_23, r115_24, r115_27, r115_30, r115_31, r115_32, r115_33, r115_34, r115_37, r115_40, r115_41, r115_42, r115_43, r115_46, r115_47, r115_50, r115_52c0, r115_52c1, r115_52, r115_80, r115_81, r115_84, r115_87, r115_88, r115_89, r115_90, r115_91, r115_94, r115_97, r115_98, r115_99, r115_100, r115_101, r115_104, r115_105, r115_106, r115_109, r115_112, c125, hC, kdC, kdM, rpC, rpM, q_rs, q_rn, Option.toList_some, Option.toList_none, List.cons_append, List.nil_append, true_and, and_true, eq_self, ↓reduceIte, not_true_eq_false, not_false_eq_true, Nat.reduceEqDiff, Nat.reduceLeDiff, Nat.reduceLT, Nat.reduceAdd, Nat.reduceMul, Nat.reduceSub, false_or, or_false, true_or, or_true, false_and, and_false, reduceCtorEq, q_n0, q_n1, q_em, q_em2, q_b0, q_b1, Classical.not_not]
    · by_cases hA : nI 0 ≤ a ∧ a < nI (nx (gI h 103))
      · by_cases hB : nI 0 ≤ b ∧ b < nI (nx (gI h 103))
        · by_cases hE : nI 0 ≤ e ∧ e < nI (nt (gI h 103))
          · have hC : ¬ (nI 0 ≤ c ∧ c ≤ nI 2) := fun u => hall ⟨u, hE, hA, hB⟩
            simp (disch := omega) only [e249, r249_0, r249_1, r249_2, r249_5, r249_8, r249_9, r249_10, r249_13, r249_16, r249_17, r249_18, r249_21, r249_24, r249_26, r249_27, r249_28, r249_31, r249_34, r249_35, r249_36, r249_37, r249_38, r249_39, r249_40, r249_43, r249_44, r249_47, r249_48, r249_50, r249_53, r249_54, r249_57, r249_58, r249_59, r249_62, r249_64, r249_65, r249_68, r249_69, r249_72, r249_73, r249_74, r249_77, r249_78, r249_81, r249_82, r249_83, r249_84, r249_85, c150 _ _ _ rfl w, m236 _ _ _ rfl w, c143, hA, hB, hC, hE, kdC, kdM, rpC, rpM, q_rs, q_rn, Option.toList_some, Option.toList_none, List.cons_append, List.nil_append, true_and, and_true, eq_self, ↓reduceIte, not_true_eq_false, not_false_eq_true, Nat.reduceEqDiff, Nat.reduceLeDiff, Nat.reduceLT, Nat.reduceAdd, Nat.reduceMul, Nat.reduceSub, false_or, or_false, true_or, or_true, false_and, and_false, reduceCtorEq, q_n0, q_n1, q_em, q_em2, q_b0, q_b1, Classical.not_not]
          · simp (disch := omega) only [e249, r249_0, r249_1, r249_2, r249_5, r249_8, r249_9, r249_10, r249_13, r249_16, r249_17, r249_18, r249_21, r249_24, r249_26, r249_27, r249_28, r249_31, r249_34, r249_35, r249_36, r249_37, r249_38, r249_39, r249_40, r249_43, r249_44, r249_47, r249_48, r249_50, r249_53, r249_54, r249_57, r249_58, r249_59, r249_62, r249_64, r249_65, r249_68, r249_69, r249_72, r249_73, r249_74, r249_77, r249_78, r249_81, r249_82, r249_83, r249_84, r249_85, c150 _ _ _ rfl w, m236 _ _ _ rfl w, hA, hB, hE, kdC, kdM, rpC, rpM, q_rs, q_rn, Option.toList_some, Option.toList_none, List.cons_append, List.nil_append, true_and, and_true, eq_self, ↓reduceIte, not_true_eq_false, not_false_eq_true, Nat.reduceEqDiff, Nat.reduceLeDiff, Nat.reduceLT, Nat.reduceAdd, Nat.reduceMul, Nat.reduceSub, false_or, or_false, true_or, or_true, false_and, and_false, reduceCtorEq, q_n0, q_n1, q_em, q_em2, q_b0, q_b1, Classical.not_not]
        · simp (disch := omega) only [e249, r249_0, r249_1, r249_2, r249_5, r249_8, r249_9, r249_10, r249_13, r249_16, r249_17, r249_18, r249_21, r249_24, r249_26, r249_27, r249_28, r249_31, r249_34, r249_35, r249_36, r249_37, r249_38, r249_39, r249_40, r249_43, r249_44, r249_47, r249_48, r249_50, r249_53, r249_54, r249_57, r249_58, r249_59, r249_62, r249_64, r249_65, r249_68, r249_69, r249_72, r249_73, r249_74, r249_77, r249_78, r249_81, r249_82, r249_83, r249_84, r249_85, c150 _ _ _ rfl w, hA, hB, kdC, kdM, rpC, rpM, q_rs, q_rn, Option.toList_some, Option.toList_none, List.cons_append, List.nil_append, true_and, and_true, eq_self, ↓reduceIte, not_true_eq_false, not_false_eq_true, Nat.reduceEqDiff, Nat.reduceLeDiff, Nat.reduceLT, Nat.reduceAdd, Nat.reduceMul, Nat.reduceSub, false_or, or_false, true_or, or_true, false_and, and_false, reduceCtorEq, q_n0, q_n1, q_em, q_em2, q_b0, q_b1, Classical.not_not]
      · simp (disch := omega) only [e249, r249_0, r249_1, r249_2, r249_5, r249_8, r249_9, r249_10, r249_13, r249_16, r249_17, r249_18, r249_21, r249_24, r249_26, r249_27, r249_28, r249_31, r249_34, r249_35, r249_36, r249_37, r249_38, r249_39, r249_40, r249_43, r249_44, r249_47, r249_48, r249_50, r249_53, r249_54, r249_57, r249_58, r249_59, r249_62, r249_64, r249_65, r249_68, r249_69, r249_72, r249_73, r249_74, r249_77, r249_78, r249_81, r249_82, r249_83, r249_84, r249_85, c150 _ _ _ rfl w, hA, kdC, kdM, rpC, rpM, q_rs, q_rn, Option.toList_some, Option.toList_none, List.cons_append, List.nil_append, true_and, and_true, eq_self, ↓reduceIte, not_true_eq_false, not_false_eq_true, Nat.reduceEqDiff, Nat.reduceLeDiff, Nat.reduceLT, Nat.reduceAdd, Nat.reduceMul, Nat.reduceSub, false_or, or_false, true_or, or_true, false_and, and_false, reduceCtorEq, q_n0, q_n1, q_em, q_em2, q_b0, q_b1, Classical.not_not]
