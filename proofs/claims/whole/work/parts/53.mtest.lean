/-! the model's methods that read tests; asks -/
section MU
variable {h : Hp} {K : Nat → Int32} {e : Nat}
theorem L196 (H : rdH h K e) {n : Nat} (E1 : EvP h K e n 197 4 rZ) {live : Bool} : ∀ k s r, q_wh (ftest (cK K) e (ev (cK K) (vK K) e (gI h 112) n 4) live) k s = some r → r.2.2.1 ≤ 4500 → ∀ d F (v3 : Value), wp true (d + n + 3) 196 6 [.ref 101, .int (sB live), .int (sB s.2.1), v3] [] (mst h s.2.2.1 s.2.2.2) F = F (some (.int (sB r.2.1))) (mst h r.2.2.1 r.2.2.2)
  | 0, s, r, q, hr => by cases q
  | k + 1, s, r, q, hr => by
    have hmo := ftest_m (c := cK K) (v := vK K) (e := e) (env := gI h 112) (n := n) (fun live go br r => ev_mono n 4 live go br r (by omega)) live
    have hm := hmo _ _ _ q
    unfold q_wh at q
    obtain ⟨zz, q1, q2⟩ := obind q
    have h191 := m191 H (g := s.2.2.1) (by omega) (nI 6)
    intro d F v3
    rw [r196_6]
    by_cases cp : cda (cK K) e s.2.2.1 = nI 6
    · rw [ftest, if_pos cp] at q1
      obtain ⟨t, t1, t2⟩ := omap q1
      subst t2
      have hm2 := hmo k _ r q2; replace hm2 : t.2.2.1 ≤ r.2.2.1 := hm2
      have ih := L196 H E1 k _ r q2 hr d F
      have E := fun F => E1 (live && !s.2.1) (s.2.2.1 + 1) s.2.2.2 t t1 (by omega) d F
      cases el : live <;> cases es : s.2.1 <;> cases et : t.2.1 <;> simp only [el, es, et, sB, rZ, Bool.not_true, Bool.not_false, Bool.and_true, Bool.and_false, Bool.or_true, Bool.or_false, Bool.true_and, Bool.false_and, Bool.true_or, Bool.false_or] at E ih <;>
      simp (disch := omega) only [r196_7, r196_9, r196_12, r196_15, r196_16, r196_17, r196_20, r196_21, r196_24, r196_25, r196_28, r196_29, r196_32, r196_33, r196_34, r196_37, r196_38, r196_41, r196_42, r196_45, r196_46, r196_47, h191, E, kdC, kdM, rpC, rpM, q_rs, q_rn, Option.toList_some, Option.toList_none, List.cons_append, List.nil_append, true_and, and_true, eq_self, ↓reduceIte, not_true_eq_false, not_false_eq_true, Nat.reduceEqDiff, Nat.reduceLeDiff, Nat.reduceLT, Nat.reduceAdd, Nat.reduceMul, Nat.reduceSub, false_or, or_false, true_or, or_true, false_and, and_false, reduceCtorEq, q_n0, q_n1, q_em, q_em2, q_b0, q_b1, Classical.not_not, nI_add, pk_mul, nI_clamp, q_vp, nI_eq, nI_leI, nI_ltI, q_sub, cp, sB] <;>
      exact ih _
    · rw [ftest, if_neg cp] at q1
      cases q1
      cases q2
      simp (disch := omega) only [r196_7, r196_9, r196_12, r196_15, r196_16, r196_17, r196_20, r196_21, r196_24, r196_25, r196_28, r196_29, r196_32, r196_33, r196_34, r196_37, r196_38, r196_41, r196_42, r196_45, r196_46, r196_47, r196_50, r196_51, sBok, h191, kdC, kdM, rpC, rpM, q_rs, q_rn, Option.toList_some, Option.toList_none, List.cons_append, List.nil_append, true_and, and_true, eq_self, ↓reduceIte, not_true_eq_false, not_false_eq_true, Nat.reduceEqDiff, Nat.reduceLeDiff, Nat.reduceLT, Nat.reduceAdd, Nat.reduceMul, Nat.reduceSub, false_or, or_false, true_or, or_true, false_and, and_false, reduceCtorEq, q_n0, q_n1, q_em, q_em2, q_b0, q_b1, Classical.not_not, nI_add, pk_mul, nI_clamp, q_vp, nI_eq, nI_leI, nI_ltI, q_sub, cp]
theorem E196 (H : rdH h K e) {n : Nat} (E1 : EvP h K e n 197 4 rZ) : EvP h K e (n + 1) 196 3 rZ := by
  intro live go br r q hr d F
  rw [ev_3] at q
  obtain ⟨t, q1, q2⟩ := obind q
  have hmo := ftest_m (c := cK K) (v := vK K) (e := e) (env := gI h 112) (n := n) (fun live go br r => ev_mono n 4 live go br r (by omega)) live _ _ _ q2
  have hl := L196 H E1 _ _ _ q2 hr d F
  have E := fun F => E1 live go br t q1 (by omega) d F
  show cwp true (d + n + 3) 196 _ _ _ = _
  simp (disch := omega) only [r196_0, r196_1, r196_2, r196_5, e196, E, rZ, kdC, kdM, rpC, rpM, q_rs, q_rn, Option.toList_some, Option.toList_none, List.cons_append, List.nil_append, true_and, and_true, eq_self, ↓reduceIte, not_true_eq_false, not_false_eq_true, Nat.reduceEqDiff, Nat.reduceLeDiff, Nat.reduceLT, Nat.reduceAdd, Nat.reduceMul, Nat.reduceSub, false_or, or_false, true_or, or_true, false_and, and_false, reduceCtorEq, q_n0, q_n1, q_em, q_em2, q_b0, q_b1, Classical.not_not]
  exact hl _
theorem L197 (H : rdH h K e) {n : Nat} (E1 : EvP h K e n 198 5 rZ) {live : Bool} : ∀ k s r, q_wh (fboth (cK K) e (ev (cK K) (vK K) e (gI h 112) n 5) live) k s = some r → r.2.2.1 ≤ 4500 → ∀ d F (v3 : Value), wp true (d + n + 3) 197 6 [.ref 101, .int (sB live), .int (sB s.2.1), v3] [] (mst h s.2.2.1 s.2.2.2) F = F (some (.int (sB r.2.1))) (mst h r.2.2.1 r.2.2.2)
  | 0, s, r, q, hr => by cases q
  | k + 1, s, r, q, hr => by
    have hmo := fboth_m (c := cK K) (v := vK K) (e := e) (env := gI h 112) (n := n) (fun live go br r => ev_mono n 5 live go br r (by omega)) live
    have hm := hmo _ _ _ q
    unfold q_wh at q
    obtain ⟨zz, q1, q2⟩ := obind q
    have h191 := m191 H (g := s.2.2.1) (by omega) (nI 7)
    intro d F v3
    rw [r197_6]
    by_cases cp : cda (cK K) e s.2.2.1 = nI 7
    · rw [fboth, if_pos cp] at q1
      obtain ⟨t, t1, t2⟩ := omap q1
      subst t2
      have hm2 := hmo k _ r q2; replace hm2 : t.2.2.1 ≤ r.2.2.1 := hm2
      have ih := L197 H E1 k _ r q2 hr d F
      have E := fun F => E1 (live && s.2.1) (s.2.2.1 + 1) s.2.2.2 t t1 (by omega) d F
      cases el : live <;> cases es : s.2.1 <;> cases et : t.2.1 <;> simp only [el, es, et, sB, rZ, Bool.not_true, Bool.not_false, Bool.and_true, Bool.and_false, Bool.or_true, Bool.or_false, Bool.true_and, Bool.false_and, Bool.true_or, Bool.false_or] at E ih <;>
      simp (disch := omega) only [r197_7, r197_9, r197_12, r197_15, r197_16, r197_17, r197_20, r197_21, r197_24, r197_25, r197_28, r197_29, r197_32, r197_33, r197_34, r197_37, r197_38, r197_41, r197_42, r197_45, r197_46, r197_47, h191, E, kdC, kdM, rpC, rpM, q_rs, q_rn, Option.toList_some, Option.toList_none, List.cons_append, List.nil_append, true_and, and_true, eq_self, ↓reduceIte, not_true_eq_false, not_false_eq_true, Nat.reduceEqDiff, Nat.reduceLeDiff, Nat.reduceLT, Nat.reduceAdd, Nat.reduceMul, Nat.reduceSub, false_or, or_false, true_or, or_true, false_and, and_false, reduceCtorEq, q_n0, q_n1, q_em, q_em2, q_b0, q_b1, Classical.not_not, nI_add, pk_mul, nI_clamp, q_vp, nI_eq, nI_leI, nI_ltI, q_sub, cp, sB] <;>
      exact ih _
    · rw [fboth, if_neg cp] at q1
      cases q1
      cases q2
      simp (disch := omega) only [r197_7, r197_9, r197_12, r197_15, r197_16, r197_17, r197_20, r197_21, r197_24, r197_25, r197_28, r197_29, r197_32, r197_33, r197_34, r197_37, r197_38, r197_41, r197_42, r197_45, r197_46, r197_47, r197_50, r197_51, sBok, h191, kdC, kdM, rpC, rpM, q_rs, q_rn, Option.toList_some, Option.toList_none, List.cons_append, List.nil_append, true_and, and_true, eq_self, ↓reduceIte, not_true_eq_false, not_false_eq_true, Nat.reduceEqDiff, Nat.reduceLeDiff, Nat.reduceLT, Nat.reduceAdd, Nat.reduceMul, Nat.reduceSub, false_or, or_false, true_or, or_true, false_and, and_false, reduceCtorEq, q_n0, q_n1, q_em, q_em2, q_b0, q_b1, Classical.not_not, nI_add, pk_mul, nI_clamp, q_vp, nI_eq, nI_leI, nI_ltI, q_sub, cp]
theorem E197 (H : rdH h K e) {n : Nat} (E1 : EvP h K e n 198 5 rZ) : EvP h K e (n + 1) 197 4 rZ := by
  intro live go br r q hr d F
  rw [ev_4] at q
  obtain ⟨t, q1, q2⟩ := obind q
  have hmo := fboth_m (c := cK K) (v := vK K) (e := e) (env := gI h 112) (n := n) (fun live go br r => ev_mono n 5 live go br r (by omega)) live _ _ _ q2
  have hl := L197 H E1 _ _ _ q2 hr d F
  have E := fun F => E1 live go br t q1 (by omega) d F
  show cwp true (d + n + 3) 197 _ _ _ = _
  simp (disch := omega) only [r197_0, r197_1, r197_2, r197_5, e197, E, rZ, kdC, kdM, rpC, rpM, q_rs, q_rn, Option.toList_some, Option.toList_none, List.cons_append, List.nil_append, true_and, and_true, eq_self, ↓reduceIte, not_true_eq_false, not_false_eq_true, Nat.reduceEqDiff, Nat.reduceLeDiff, Nat.reduceLT, Nat.reduceAdd, Nat.reduceMul, Nat.reduceSub, false_or, or_false, true_or, or_true, false_and, and_false, reduceCtorEq, q_n0, q_n1, q_em, q_em2, q_b0, q_b1, Classical.not_not]
  exact hl _
theorem L198 (H : rdH h K e) (lv : Value) (br : Bool) : ∀ k s r, q_wh (fnot (cK K) e) k s = some r → r.2 ≤ 4500 → ∀ d F, wp true (d + 2) 198 2 [.ref 101, lv, .int (sB s.1)] [] (mst h s.2 br) F = wp true (d + 2) 198 24 [.ref 101, lv, .int (sB r.1)] [] (mst h r.2 br) F
  | 0, s, r, q, hr => by cases q
  | k + 1, s, r, q, hr => by
    have hm := fnot_m (c := cK K) (e := e) _ _ _ q
    unfold q_wh at q
    obtain ⟨zz, q1, q2⟩ := obind q
    have h191 := m191 H (g := s.2) (by omega) (nI 8)
    intro d F
    rw [r198_2]
    by_cases cp : cda (cK K) e s.2 = nI 8
    · rw [fnot, if_pos cp] at q1
      cases q1
      have ih := L198 H lv br k _ r q2 hr d F
      cases es : s.1 <;> simp only [es, sB, Bool.not_true, Bool.not_false] at ih <;>
      simp (disch := omega) only [r198_3, r198_5, r198_8, r198_11, r198_12, r198_15, r198_16, r198_19, r198_20, r198_21, h191, kdC, kdM, rpC, rpM, q_rs, q_rn, Option.toList_some, Option.toList_none, List.cons_append, List.nil_append, true_and, and_true, eq_self, ↓reduceIte, not_true_eq_false, not_false_eq_true, Nat.reduceEqDiff, Nat.reduceLeDiff, Nat.reduceLT, Nat.reduceAdd, Nat.reduceMul, Nat.reduceSub, false_or, or_false, true_or, or_true, false_and, and_false, reduceCtorEq, q_n0, q_n1, q_em, q_em2, q_b0, q_b1, Classical.not_not, nI_add, pk_mul, nI_clamp, q_vp, nI_eq, nI_leI, nI_ltI, q_sub, cp, sB] <;>
      exact ih
    · rw [fnot, if_neg cp] at q1
      cases q1
      cases q2
      simp (disch := omega) only [r198_3, r198_5, r198_8, h191, kdC, kdM, rpC, rpM, q_rs, q_rn, Option.toList_some, Option.toList_none, List.cons_append, List.nil_append, true_and, and_true, eq_self, ↓reduceIte, not_true_eq_false, not_false_eq_true, Nat.reduceEqDiff, Nat.reduceLeDiff, Nat.reduceLT, Nat.reduceAdd, Nat.reduceMul, Nat.reduceSub, false_or, or_false, true_or, or_true, false_and, and_false, reduceCtorEq, q_n0, q_n1, q_em, q_em2, q_b0, q_b1, Classical.not_not, nI_add, pk_mul, nI_clamp, q_vp, nI_eq, nI_leI, nI_ltI, q_sub, cp]
theorem E198 (H : rdH h K e) {n : Nat} (E1 : EvP h K e n 199 6 rZ) : EvP h K e (n + 1) 198 5 rZ := by
  intro live go br r q hr d F
  rw [ev_5] at q
  obtain ⟨s, q1, q2⟩ := obind q
  obtain ⟨t, q3, q4⟩ := omap q2
  subst q4
  have hmo := ev_mono _ _ _ _ _ _ (by omega) q3
  have hr' : t.2.2.1 ≤ 4500 := hr
  have hl := fun F => L198 H (.int (sB live)) br _ _ _ q1 (by omega) (d + n + 1) F
  have E := fun F => E1 live s.2 br t q3 hr' d F
  show cwp true (d + n + 3) 198 _ _ _ = _
  simp (disch := omega) only [r198_0, r198_1, e198]
  refine Eq.trans (hl F) ?_
  show wp true (d + n + 3) 198 24 _ _ _ _ = _
  cases es : s.1 <;> cases et : t.2.1 <;> simp only [es, et, rZ, sB] at E <;>
  simp (disch := omega) only [r198_24, r198_25, r198_26, r198_29, r198_30, r198_33, r198_34, r198_37, r198_38, E, rZ, kdC, kdM, rpC, rpM, q_rs, q_rn, Option.toList_some, Option.toList_none, List.cons_append, List.nil_append, true_and, and_true, eq_self, ↓reduceIte, not_true_eq_false, not_false_eq_true, Nat.reduceEqDiff, Nat.reduceLeDiff, Nat.reduceLT, Nat.reduceAdd, Nat.reduceMul, Nat.reduceSub, false_or, or_false, true_or, or_true, false_and, and_false, reduceCtorEq, q_n0, q_n1, q_em, q_em2, q_b0, q_b1, Classical.not_not, sB, et, Bool.xor_true, Bool.xor_false, Bool.not_true, Bool.not_false]
theorem E199 (H : rdH h K e) {n : Nat} (E3 : EvP h K e n 196 3 rZ) (E0 : EvP h K e n 193 0 rL) : EvP h K e (n + 1) 199 6 rZ := by
  intro live go br r q hr d F
  have hmo := ev_mono _ _ _ _ _ _ (by omega) q
  rw [ev_6] at q
  unfold fpos at q
  show cwp true (d + n + 3) 199 _ _ _ = _
  have h191 := m191 H (g := go) (by omega) (nI 140)
  by_cases c1 : cda (cK K) e go = nI 140
  · rw [if_pos c1] at q
    obtain ⟨t, t1, t2⟩ := omap q
    subst t2
    have E := fun F => E3 live (go + 1) br t t1 (by show t.2.2.1 ≤ 4500; have : t.2.2.1 + 1 ≤ 4500 := hr; omega) d F
    simp (disch := omega) only [e199, r199_0, r199_1, r199_3, r199_6, r199_9, r199_12, r199_13, r199_14, r199_17, r199_18, r199_19, r199_20, r199_23, r199_24, r199_25, r199_28, r199_29, r199_30, r199_31, r199_32, r199_35, r199_36, r199_37, r199_38, r199_41, r199_44, r199_46, r199_47, r199_48, r199_51, r199_52, r199_53, r199_56, r199_57, r199_58, r199_61, r199_63, r199_64, r199_67, r199_68, r199_71, r199_74, r199_76, r199_78, r199_81, r199_84, r199_85, r199_87, r199_88, r199_91, r199_94, r199_96, r199_98, r199_101, r199_104, r199_105, r199_107, r199_108, r199_111, r199_114, r199_115, r199_117, r199_118, r199_121, r199_122, r199_125, r199_126, sBok, c179, h191, E, rZ, kdC, kdM, rpC, rpM, q_rs, q_rn, Option.toList_some, Option.toList_none, List.cons_append, List.nil_append, true_and, and_true, eq_self, ↓reduceIte, not_true_eq_false, not_false_eq_true, Nat.reduceEqDiff, Nat.reduceLeDiff, Nat.reduceLT, Nat.reduceAdd, Nat.reduceMul, Nat.reduceSub, false_or, or_false, true_or, or_true, false_and, and_false, reduceCtorEq, q_n0, q_n1, q_em, q_em2, q_b0, q_b1, Classical.not_not, nI_add, pk_mul, nI_clamp, q_vp, nI_eq, nI_leI, nI_ltI, q_sub, mst_g17, mst_17, c1]
  · rw [if_neg c1] at q
    obtain ⟨s, q1, q2⟩ := obind q
    obtain ⟨t, q3, q4⟩ := omap q2
    subst q4
    have hr' : t.2.2.1 ≤ 4500 := hr
    have hm1 := ev_mono _ _ _ _ _ _ (by omega) q1
    have hm2 := ev_mono _ _ _ _ _ _ (by omega) q3
    have Ea := fun F => E0 live go br s q1 (by omega) d F
    have Eb := fun F => E0 live (s.2.2.1 + 1) s.2.2.2 t q3 hr' d F
    have h190 := m190 H (k := s.2.2.1) (by omega)
    have hstep : cwp true (d + n + 3) 199 [.ref 101, .int (sB live)] (mst h go br) F = wp true (d + n + 3) 199 63 [.ref 101, .int (sB live), .long s.1, jn, .int (cda (cK K) e s.2.2.1), .long t.1, jn] [] (mst h t.2.2.1 t.2.2.2) F := by
      simp (disch := omega) only [r199_0, r199_1, r199_3, r199_6, r199_9, r199_12, r199_13, r199_14, r199_17, r199_18, r199_19, r199_20, r199_23, r199_24, r199_25, r199_28, r199_29, r199_30, r199_31, r199_32, r199_35, r199_36, r199_37, r199_38, r199_41, r199_44, r199_46, r199_47, r199_48, r199_51, r199_52, r199_53, r199_56, r199_57, r199_58, r199_61, e199, c179, h191, h190, Ea, Eb, rL, kdC, kdM, rpC, rpM, q_rs, q_rn, Option.toList_some, Option.toList_none, List.cons_append, List.nil_append, true_and, and_true, eq_self, ↓reduceIte, not_true_eq_false, not_false_eq_true, Nat.reduceEqDiff, Nat.reduceLeDiff, Nat.reduceLT, Nat.reduceAdd, Nat.reduceMul, Nat.reduceSub, false_or, or_false, true_or, or_true, false_and, and_false, reduceCtorEq, q_n0, q_n1, q_em, q_em2, q_b0, q_b1, Classical.not_not, nI_add, pk_mul, nI_clamp, q_vp, nI_eq, nI_leI, nI_ltI, q_sub, mst_g17, mst_17, c1]
    rw [hstep]
    cases el : live with
    | false => simp (disch := omega) only [r199_63, r199_64, r199_67, r199_68, r199_71, r199_74, r199_76, r199_78, r199_81, r199_84, r199_85, r199_87, r199_88, r199_91, r199_94, r199_96, r199_98, r199_101, r199_104, r199_105, r199_107, r199_108, r199_111, r199_114, r199_115, r199_117, r199_118, r199_121, r199_122, r199_125, r199_126, rZ, kdC, kdM, rpC, rpM, q_rs, q_rn, Option.toList_some, Option.toList_none, List.cons_append, List.nil_append, true_and, and_true, eq_self, ↓reduceIte, not_true_eq_false, not_false_eq_true, Nat.reduceEqDiff, Nat.reduceLeDiff, Nat.reduceLT, Nat.reduceAdd, Nat.reduceMul, Nat.reduceSub, false_or, or_false, true_or, or_true, false_and, and_false, reduceCtorEq, q_n0, q_n1, q_em, q_em2, q_b0, q_b1, Classical.not_not, sB, Bool.false_and]
    | true =>
      cases eb : t.2.2.2 with
      | true => simp (disch := omega) only [r199_63, r199_64, r199_67, r199_68, r199_71, r199_74, r199_76, r199_78, r199_81, r199_84, r199_85, r199_87, r199_88, r199_91, r199_94, r199_96, r199_98, r199_101, r199_104, r199_105, r199_107, r199_108, r199_111, r199_114, r199_115, r199_117, r199_118, r199_121, r199_122, r199_125, r199_126, rZ, kdC, kdM, rpC, rpM, q_rs, q_rn, Option.toList_some, Option.toList_none, List.cons_append, List.nil_append, true_and, and_true, eq_self, ↓reduceIte, not_true_eq_false, not_false_eq_true, Nat.reduceEqDiff, Nat.reduceLeDiff, Nat.reduceLT, Nat.reduceAdd, Nat.reduceMul, Nat.reduceSub, false_or, or_false, true_or, or_true, false_and, and_false, reduceCtorEq, q_n0, q_n1, q_em, q_em2, q_b0, q_b1, Classical.not_not, sB, mst_g19, Bool.not_true, Bool.and_false, Bool.false_and]
      | false =>
        by_cases d1 : cda (cK K) e s.2.2.1 = nI 160
        · by_cases d2 : s.1 < t.1 <;>
          simp (disch := omega) only [r199_63, r199_64, r199_67, r199_68, r199_71, r199_74, r199_76, r199_78, r199_81, r199_84, r199_85, r199_87, r199_88, r199_91, r199_94, r199_96, r199_98, r199_101, r199_104, r199_105, r199_107, r199_108, r199_111, r199_114, r199_115, r199_117, r199_118, r199_121, r199_122, r199_125, r199_126, c179, rZ, kdC, kdM, rpC, rpM, q_rs, q_rn, Option.toList_some, Option.toList_none, List.cons_append, List.nil_append, true_and, and_true, eq_self, ↓reduceIte, not_true_eq_false, not_false_eq_true, Nat.reduceEqDiff, Nat.reduceLeDiff, Nat.reduceLT, Nat.reduceAdd, Nat.reduceMul, Nat.reduceSub, false_or, or_false, true_or, or_true, false_and, and_false, reduceCtorEq, q_n0, q_n1, q_em, q_em2, q_b0, q_b1, Classical.not_not, nI_add, pk_mul, nI_clamp, q_vp, nI_eq, nI_leI, nI_ltI, q_sub, sB, mst_g19, d1, d2, l_ge, i64_le, fcmp, decide_true, decide_false, Bool.not_false, Bool.and_true, Bool.true_and, Bool.and_false]
        · by_cases d3 : cda (cK K) e s.2.2.1 = nI 162
          · by_cases d2 : t.1 < s.1 <;>
            simp (disch := omega) only [r199_63, r199_64, r199_67, r199_68, r199_71, r199_74, r199_76, r199_78, r199_81, r199_84, r199_85, r199_87, r199_88, r199_91, r199_94, r199_96, r199_98, r199_101, r199_104, r199_105, r199_107, r199_108, r199_111, r199_114, r199_115, r199_117, r199_118, r199_121, r199_122, r199_125, r199_126, c179, rZ, kdC, kdM, rpC, rpM, q_rs, q_rn, Option.toList_some, Option.toList_none, List.cons_append, List.nil_append, true_and, and_true, eq_self, ↓reduceIte, not_true_eq_false, not_false_eq_true, Nat.reduceEqDiff, Nat.reduceLeDiff, Nat.reduceLT, Nat.reduceAdd, Nat.reduceMul, Nat.reduceSub, false_or, or_false, true_or, or_true, false_and, and_false, reduceCtorEq, q_n0, q_n1, q_em, q_em2, q_b0, q_b1, Classical.not_not, nI_add, pk_mul, nI_clamp, q_vp, nI_eq, nI_leI, nI_ltI, q_sub, sB, mst_g19, d3, d2, l_le, i64_le, fcmp, decide_true, decide_false, Bool.not_false, Bool.and_true, Bool.true_and, Bool.and_false]
          · by_cases d2 : s.1 = t.1 <;>
            simp (disch := omega) only [r199_63, r199_64, r199_67, r199_68, r199_71, r199_74, r199_76, r199_78, r199_81, r199_84, r199_85, r199_87, r199_88, r199_91, r199_94, r199_96, r199_98, r199_101, r199_104, r199_105, r199_107, r199_108, r199_111, r199_114, r199_115, r199_117, r199_118, r199_121, r199_122, r199_125, r199_126, c179, rZ, kdC, kdM, rpC, rpM, q_rs, q_rn, Option.toList_some, Option.toList_none, List.cons_append, List.nil_append, true_and, and_true, eq_self, ↓reduceIte, not_true_eq_false, not_false_eq_true, Nat.reduceEqDiff, Nat.reduceLeDiff, Nat.reduceLT, Nat.reduceAdd, Nat.reduceMul, Nat.reduceSub, false_or, or_false, true_or, or_true, false_and, and_false, reduceCtorEq, q_n0, q_n1, q_em, q_em2, q_b0, q_b1, Classical.not_not, nI_add, pk_mul, nI_clamp, q_vp, nI_eq, nI_leI, nI_ltI, q_sub, sB, mst_g19, d1, d3, d2, l_eq, fcmp, decide_true, decide_false, Bool.not_false, Bool.and_true, Bool.true_and, Bool.and_false]
theorem E_all (H : rdH h K e) : ∀ n, EvP h K e n 193 0 rL ∧ EvP h K e n 194 1 rL ∧ EvP h K e n 195 2 rL ∧ EvP h K e n 196 3 rZ ∧ EvP h K e n 197 4 rZ ∧ EvP h K e n 198 5 rZ ∧ EvP h K e n 199 6 rZ
  | 0 => ⟨fun _ _ _ _ q => (by cases q), fun _ _ _ _ q => (by cases q), fun _ _ _ _ q => (by cases q), fun _ _ _ _ q => (by cases q), fun _ _ _ _ q => (by cases q), fun _ _ _ _ q => (by cases q), fun _ _ _ _ q => (by cases q)⟩
  | n + 1 => by
    obtain ⟨a0, a1, a2, a3, a4, a5, a6⟩ := E_all H n
    exact ⟨E193 H a1, E194 H a2, E195 H a0, E196 H a4, E197 H a5, E198 H a6, E199 H a3 a0⟩
end MU
