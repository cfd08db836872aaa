/-! reading a CLAUSE, whole, both -/
section CQ
variable {B : Nat → Int32} {n m : Nat}
theorem clause_ex (o : TOK B n m) : ∀ j p z, j ≤ m → p ≤ 50 → z ≤ j → (∃ j' p' hd csS csT, j < j' ∧ j' ≤ m ∧ p' ≤ 50 ∧ hd < 4 ∧ csS.length + csT.length ≤ j' - j ∧ nnL (csS ++ csT) ∧ CLO B n m j p z j' p' hd csS csT ∧ CSEM B n m hd j z csS csT j') ∨ ∃ k, k ≤ m ∧ CLN B n m j p z k := by
  intro j p z hj hp hz
  have hm4 := o.m400
  have hr23 := o.r j
  by_cases c3 : 3 < tg B n j
  · right
    have k3 : nI 3 < kdI (tg B n j) := by rw [kdI_gt hr23 (by omega)]; exact c3
    refine ⟨j, hj, fun h ci hci r => ⟨h, FrS.refl h, r.fc (by omega), fun D F hD => ?_⟩, fun h zm => ⟨sI h 101 16 (nI (tpl B n j)), (FrS.refl h).sI _ rfl, MX_f, fun D F hD => ?_⟩⟩
    · have h4 := r.1.2.1
      simp (disch := omega) only [e49, r49_0, r49_1, r49_4, r49_5, r49_8, r49_9, r49_12, r49_13, r49_14, r49_15, r49_18, r49_19, r49_22, r49_23, r49_24, r49_25, r49_28, r49_29, r49_30, r49_33, r49_34, r49_35, r49_38, r49_39, r49_40, r49_43, r49_44, r49_45, r49_48, r49_51, r49_52, r49_53, r49_54, r49_57, r49_58, r49_59, r49_62, r49_63, r49_66, r49_67, r49_70, r49_71, r49_72, r49_75, r49_78, r49_79, r49_80, r49_81, r49_84, r49_85, r49_88, r49_89, r49_90, r49_91, r49_94, r49_95, r49_98, r49_99, r49_100, r49_101, r49_102, r49_103, r49_106, r49_107, r49_110, r49_111, r49_112, r49_113, r49_114, r49_115, r49_118, r49_119, r49_122, r49_123, r49_124, r49_125, r49_128, r49_129, r49_130, r49_131, r49_134, r49_135, r49_136, r49_139, r49_140, h4, k3, kdC, kdM, rpC, rpM, q_rs, q_rn, Option.toList_some, Option.toList_none, List.cons_append, List.nil_append, true_and, and_true, eq_self, ↓reduceIte, not_true_eq_false, not_false_eq_true, Nat.reduceEqDiff, Nat.reduceLeDiff, Nat.reduceLT, Nat.reduceAdd, Nat.reduceMul, Nat.reduceSub, false_or, or_false, true_or, or_true, false_and, and_false, reduceCtorEq, q_n0, q_n1, q_em, q_em2, q_b0, q_b1, Classical.not_not]
    · obtain ⟨D', rfl⟩ : ∃ d, D = d + 3 := ⟨D - 3, by omega⟩
      have t0 := fun F d => m176n o hj zm (show ¬ mcJ B n j = nI 1 by rw [mc_w o j (w := 0) (by omega)]; omega) d F
      have t1 := fun F d => m176n o hj zm (show ¬ mcJ B n j = nI 2 by rw [mc_w o j (w := 1) (by omega)]; omega) d F
      have t2 := fun F d => m176n o hj zm (show ¬ mcJ B n j = nI 3 by rw [mc_w o j (w := 2) (by omega)]; omega) d F
      have t3 := fun F d => m177n o hj zm (show ¬ mcJ B n j = nI 4 by rw [mc_w o j (w := 3) (by omega)]; omega) d F
      have t4 := fun F d => m176x o (MX_f (h := h) (B := B) (n := n) (j := j)) (nI 5) d F
      simp (disch := omega) only [e180, r180_0, r180_1, r180_2, r180_5, r180_8, r180_9, r180_10, r180_13, r180_16, r180_17, r180_18, r180_21, r180_24, r180_25, r180_26, r180_29, r180_32, r180_33, r180_34, r180_37, r180_38, r180_39, r180_42, r180_45, r180_46, r180_47, r180_50, t0, t1, t2, t3, t4, kdC, kdM, rpC, rpM, q_rs, q_rn, Option.toList_some, Option.toList_none, List.cons_append, List.nil_append, true_and, and_true, eq_self, ↓reduceIte, not_true_eq_false, not_false_eq_true, Nat.reduceEqDiff, Nat.reduceLeDiff, Nat.reduceLT, Nat.reduceAdd, Nat.reduceMul, Nat.reduceSub, false_or, or_false, true_or, or_true, false_and, and_false, reduceCtorEq, q_n0, q_n1, q_em, q_em2, q_b0, q_b1, Classical.not_not]
  · have hjm : j < m := o.l hj (by omega)
    have hk : kdI (tg B n j) = nI (tg B n j) := by unfold kdI; rw [if_pos (by omega)]
    by_cases cs : tg B n j = 3
    · -- stop
      have hst : ∀ (h h1 : Hp) (ci : Nat), ci < 12 → RC h B n j p z (4 * ci) → (∀ d F, cwp true (d + 1) 43 [.ref 76] h F = F none h1) → ∀ D F, cwp true (D + 2) 49 [.ref 76] h F = wp true (D + 2) 49 53 [.ref 76, .int (nI 3), .int (nI z), jn] [] h1 F := by
        intro h h1 ci hci r b4 D F
        have h4 := r.1.2.1
        rw [hk, cs] at h4
        simp (disch := omega) only [r49_0, r49_1, r49_4, r49_5, r49_8, r49_9, r49_12, r49_13, r49_14, r49_15, r49_18, r49_19, r49_22, r49_23, r49_24, r49_25, r49_28, r49_29, r49_30, r49_33, r49_34, r49_35, r49_38, r49_39, r49_40, r49_43, r49_44, r49_45, e49, h4, r.2.2.1, r.2.2.2, b4, kdC, kdM, rpC, rpM, q_rs, q_rn, Option.toList_some, Option.toList_none, List.cons_append, List.nil_append, true_and, and_true, eq_self, ↓reduceIte, not_true_eq_false, not_false_eq_true, Nat.reduceEqDiff, Nat.reduceLeDiff, Nat.reduceLT, Nat.reduceAdd, Nat.reduceMul, Nat.reduceSub, false_or, or_false, true_or, or_true, false_and, and_false, reduceCtorEq, q_n0, q_n1, q_em, q_em2, q_b0, q_b1, Classical.not_not, nI_add, pk_mul, nI_clamp, q_vp, nI_eq, nI_leI, nI_ltI, q_sub, show 4 * ci + 4 ≤ 48 by omega]
      have hmt : ∀ (h : Hp), MS h B n m j p → ∀ D F, cwp true (D + 3) 180 [.ref 101] h F = wp true (D + 3) 180 37 [.ref 101] [] (sI h 101 14 (nI (j + 1))) F := by
        intro h zm D F
        have t0 := fun F d => m176n o hj zm (show ¬ mcJ B n j = nI 1 by rw [mc_w o j (w := 0) (by omega)]; omega) d F
        have t1 := fun F d => m176n o hj zm (show ¬ mcJ B n j = nI 2 by rw [mc_w o j (w := 1) (by omega)]; omega) d F
        have t2 := fun F d => m176n o hj zm (show ¬ mcJ B n j = nI 3 by rw [mc_w o j (w := 2) (by omega)]; omega) d F
        have t3 := fun F d => m177y o hj zm (show mcJ B n j = nI 4 by rw [mc_w o j (w := 3) (by omega)]; exact cs) d F
        simp (disch := omega) only [r180_0, r180_1, r180_2, r180_5, r180_8, r180_9, r180_10, r180_13, r180_16, r180_17, r180_18, r180_21, r180_24, r180_25, r180_26, r180_29, r180_32, r180_33, r180_34, e180, t0, t1, t2, t3, kdC, kdM, rpC, rpM, q_rs, q_rn, Option.toList_some, Option.toList_none, List.cons_append, List.nil_append, true_and, and_true, eq_self, ↓reduceIte, not_true_eq_false, not_false_eq_true, Nat.reduceEqDiff, Nat.reduceLeDiff, Nat.reduceLT, Nat.reduceAdd, Nat.reduceMul, Nat.reduceSub, false_or, or_false, true_or, or_true, false_and, and_false, reduceCtorEq, q_n0, q_n1, q_em, q_em2, q_b0, q_b1, Classical.not_not]
      rcases cl_if o (j1 := j + 1) (p1 := p) (z1 := z) (by omega) hp (by omega) with ⟨j2, p2, cs2, a1, a2, a3, a4, a5, a6, a7, a8⟩ | ⟨k, a1, a2, a3⟩
      · left
        refine ⟨j2, p2, 3, [], cs2, by omega, a2, a3, by omega, by show 0 + cs2.length ≤ _; omega, a5, ⟨fun h ci hci r => ?_, fun h zm => ?_⟩, ?_⟩
        · obtain ⟨h1, b1, b2, b3, b4⟩ := c43r o r
          obtain ⟨h2, e1, e2, e3, e4, e5, e6, e7⟩ := a7 h1 ci 3 z hci b2
          have x79 : ∀ i, gI h1 79 i = gI h 79 i := fun i => b1.g (a := 79) (i := i) rfl
          refine ⟨h2, (rc_cl (av_rc b1)).trans e1, e2, e3, fun i hi => by rw [e4 i hi, b3], fun i hi => by rw [e5 i hi, x79], e6, fun D F hD => ?_⟩
          obtain ⟨D', rfl⟩ : ∃ d, D = d + 2 := ⟨D - 2, by omega⟩
          rw [hst h h1 ci hci r b4 D' F]
          exact e7 (D' + 2) F jn (by omega)
        · obtain ⟨h2, e1, e2, e3⟩ := a8 (sI h 101 14 (nI (j + 1))) (MS_t zm)
          refine ⟨h2, ((FrS.refl h).sI _ rfl).trans e1, e2, fun D F hD => ?_⟩
          obtain ⟨D', rfl⟩ : ∃ d, D = d + 3 := ⟨D - 3, by omega⟩
          rw [hmt h zm D' F]
          exact e3 (D' + 3) F (by omega)
        · rcases a6 with ⟨q1, q2, q3⟩ | ⟨q1, q2⟩
          · subst q2
            subst q3
            exact csem_0 o hj (by omega) (by omega) cs q1 (shd_stop o hj cs)
          · exact csem_1 o hj (by omega) (by omega) cs q1 (shd_stop o hj cs) q2
      · right
        refine ⟨k, a1, fun h ci hci r => ?_, fun h zm => ?_⟩
        · obtain ⟨h1, b1, b2, b3, b4⟩ := c43r o r
          obtain ⟨h2, e1, e2, e7⟩ := a2 h1 ci 3 z hci b2
          refine ⟨h2, (rc_cl (av_rc b1)).trans e1, e2, fun D F hD => ?_⟩
          obtain ⟨D', rfl⟩ : ∃ d, D = d + 2 := ⟨D - 2, by omega⟩
          rw [hst h h1 ci hci r b4 D' F]
          exact e7 (D' + 2) F jn (by omega)
        · obtain ⟨h2, e1, e2, e3⟩ := a3 (sI h 101 14 (nI (j + 1))) (MS_t zm)
          refine ⟨h2, ((FrS.refl h).sI _ rfl).trans e1, e2, fun D F hD => ?_⟩
          obtain ⟨D', rfl⟩ : ∃ d, D = d + 3 := ⟨D - 3, by omega⟩
          rw [hmt h zm D' F]
          exact e3 (D' + 3) F (by omega)
    · -- odds, move, key
      have hh3 : tg B n j < 3 := by omega
      have hst : ∀ (h h1 h2 : Hp) (ci : Nat) (x : Int32), ci < 12 → RC h B n j p z (4 * ci) → (∀ d F, cwp true (d + 1) 43 [.ref 76] h F = F none h1) → (∀ D F, DSm 0 ≤ D → cwp true D 54 [.ref 76, .int (nI 0)] h1 F = F (some (.int x)) h2) → ∀ D F, 59 ≤ D → cwp true (D + 1) 49 [.ref 76] h F = wp true (D + 1) 49 48 [.ref 76, .int (nI (tg B n j)), .int (nI z), jn] [.int x] h2 F := by
        intro h h1 h2 ci x hci r b4 e5 D F hD
        have h4 := r.1.2.1
        rw [hk] at h4
        obtain ⟨D', rfl⟩ : ∃ d, D = d + 1 := ⟨D - 1, by omega⟩
        have e5' := fun F => e5 (D' + 1) F (by unfold DSm; omega)
        simp (disch := omega) only [r49_0, r49_1, r49_4, r49_5, r49_8, r49_9, r49_12, r49_13, r49_14, r49_15, r49_18, r49_19, r49_22, r49_23, r49_24, r49_25, r49_28, r49_29, r49_30, r49_33, r49_34, r49_35, r49_38, r49_39, r49_40, r49_43, r49_44, r49_45, e49, h4, r.2.2.1, r.2.2.2, b4, e5', kdC, kdM, rpC, rpM, q_rs, q_rn, Option.toList_some, Option.toList_none, List.cons_append, List.nil_append, true_and, and_true, eq_self, ↓reduceIte, not_true_eq_false, not_false_eq_true, Nat.reduceEqDiff, Nat.reduceLeDiff, Nat.reduceLT, Nat.reduceAdd, Nat.reduceMul, Nat.reduceSub, false_or, or_false, true_or, or_true, false_and, and_false, reduceCtorEq, q_n0, q_n1, q_em, q_em2, q_b0, q_b1, Classical.not_not, nI_add, pk_mul, nI_clamp, q_vp, nI_eq, nI_leI, nI_ltI, q_sub, show 4 * ci + 4 ≤ 48 by omega, show ¬ 3 < tg B n j by omega, show ¬ tg B n j = 3 by omega]
      have hmt : ∀ (h h2 : Hp), MS h B n m j p → (∀ D F, DSm 0 ≤ D → cwp true D 184 [.ref 101, .int (nI 0)] (sI h 101 14 (nI (j + 1))) F = F none h2) → ∀ D F, 58 ≤ D → cwp true (D + 2) 180 [.ref 101] h F = wp true (D + 2) 180 37 [.ref 101] [] h2 F := by
        intro h h2 zm e3 D F hD
        have e3' := fun F => e3 (D + 1) F (by unfold DSm; omega)
        rcases (show tg B n j = 0 ∨ tg B n j = 1 ∨ tg B n j = 2 by omega) with q | q | q
        · have t0 := fun F d => m176y o hj zm (show mcJ B n j = nI 1 by rw [mc_w o j (w := 0) (by omega)]; exact q) d F
          simp (disch := omega) only [r180_0, r180_1, r180_2, r180_5, r180_8, r180_9, r180_10, r180_13, r180_16, r180_17, r180_18, r180_21, r180_24, r180_25, r180_26, r180_29, r180_32, r180_33, r180_34, e180, t0, e3', kdC, kdM, rpC, rpM, q_rs, q_rn, Option.toList_some, Option.toList_none, List.cons_append, List.nil_append, true_and, and_true, eq_self, ↓reduceIte, not_true_eq_false, not_false_eq_true, Nat.reduceEqDiff, Nat.reduceLeDiff, Nat.reduceLT, Nat.reduceAdd, Nat.reduceMul, Nat.reduceSub, false_or, or_false, true_or, or_true, false_and, and_false, reduceCtorEq, q_n0, q_n1, q_em, q_em2, q_b0, q_b1, Classical.not_not]
        · have t0 := fun F d => m176n o hj zm (show ¬ mcJ B n j = nI 1 by rw [mc_w o j (w := 0) (by omega)]; omega) d F
          have t1 := fun F d => m176y o hj zm (show mcJ B n j = nI 2 by rw [mc_w o j (w := 1) (by omega)]; exact q) d F
          simp (disch := omega) only [r180_0, r180_1, r180_2, r180_5, r180_8, r180_9, r180_10, r180_13, r180_16, r180_17, r180_18, r180_21, r180_24, r180_25, r180_26, r180_29, r180_32, r180_33, r180_34, e180, t0, t1, e3', kdC, kdM, rpC, rpM, q_rs, q_rn, Option.toList_some, Option.toList_none, List.cons_append, List.nil_append, true_and, and_true, eq_self, ↓reduceIte, not_true_eq_false, not_false_eq_true, Nat.reduceEqDiff, Nat.reduceLeDiff, Nat.reduceLT, Nat.reduceAdd, Nat.reduceMul, Nat.reduceSub, false_or, or_false, true_or, or_true, false_and, and_false, reduceCtorEq, q_n0, q_n1, q_em, q_em2, q_b0, q_b1, Classical.not_not]
        · have t0 := fun F d => m176n o hj zm (show ¬ mcJ B n j = nI 1 by rw [mc_w o j (w := 0) (by omega)]; omega) d F
          have t1 := fun F d => m176n o hj zm (show ¬ mcJ B n j = nI 2 by rw [mc_w o j (w := 1) (by omega)]; omega) d F
          have t2 := fun F d => m176y o hj zm (show mcJ B n j = nI 3 by rw [mc_w o j (w := 2) (by omega)]; exact q) d F
          simp (disch := omega) only [r180_0, r180_1, r180_2, r180_5, r180_8, r180_9, r180_10, r180_13, r180_16, r180_17, r180_18, r180_21, r180_24, r180_25, r180_26, r180_29, r180_32, r180_33, r180_34, e180, t0, t1, t2, e3', kdC, kdM, rpC, rpM, q_rs, q_rn, Option.toList_some, Option.toList_none, List.cons_append, List.nil_append, true_and, and_true, eq_self, ↓reduceIte, not_true_eq_false, not_false_eq_true, Nat.reduceEqDiff, Nat.reduceLeDiff, Nat.reduceLT, Nat.reduceAdd, Nat.reduceMul, Nat.reduceSub, false_or, or_false, true_or, or_true, false_and, and_false, reduceCtorEq, q_n0, q_n1, q_em, q_em2, q_b0, q_b1, Classical.not_not]
      rcases (sums_all o 8 0 rfl).2 (j + 1) p z (by omega) hp (by omega) with ⟨j1, p1, cs1, s1, s2, s3, s4, s5, ⟨s6, s7⟩, s8⟩ | ⟨k, s1, s2, s3⟩
      · have shd := shd_sum o hj hh3 rfl s8
        rcases cl_if o (j1 := j1) (p1 := p1) (z1 := z + cs1.length) s2 s3 (by omega) with ⟨j2, p2, cs2, a1, a2, a3, a4, a5, a6, a7, a8⟩ | ⟨k, a1, a2, a3⟩
        · left
          refine ⟨j2, p2, tg B n j, cs1, cs2, by omega, a2, a3, by omega, by omega, nn_app s5 a5, ⟨fun h ci hci r => ?_, fun h zm => ?_⟩, ?_⟩
          · obtain ⟨h1, b1, b2, b3, b4⟩ := c43r o r
            obtain ⟨g1, x1, x2, x3, x4, x5⟩ := s6 h1 (4 * ci) b2
            obtain ⟨h2, e1, e2, e3, e4, e5, e6, e7⟩ := a7 g1 ci (tg B n j) z hci x2
            have x79 : ∀ i, gI g1 79 i = gI h 79 i := fun i => by rw [x1.g (a := 79) (i := i) rfl, b1.g (a := 79) (i := i) rfl]
            refine ⟨h2, (rc_cl ((av_rc b1).trans x1)).trans e1, e2, ?_, fun i hi => by rw [e4 i (by omega), x4 i hi, b3], fun i hi => by rw [e5 i hi, x79], e6, fun D F hD => ?_⟩
            · rw [AT_app]
              exact ⟨AT_cg (fun i _ hi => e4 i hi) x3, e3⟩
            · obtain ⟨D', rfl⟩ : ∃ d, D = d + 1 := ⟨D - 1, by omega⟩
              rw [hst h h1 g1 ci _ hci r b4 x5 D' F (by omega)]
              refine Eq.trans ?_ (e7 (D' + 1) F jn (by omega))
              simp (disch := omega) only [r49_48, r49_51, r49_52, kdC, kdM, rpC, rpM, q_rs, q_rn, Option.toList_some, Option.toList_none, List.cons_append, List.nil_append, true_and, and_true, eq_self, ↓reduceIte, not_true_eq_false, not_false_eq_true, Nat.reduceEqDiff, Nat.reduceLeDiff, Nat.reduceLT, Nat.reduceAdd, Nat.reduceMul, Nat.reduceSub, false_or, or_false, true_or, or_true, false_and, and_false, reduceCtorEq, q_n0, q_n1, q_em, q_em2, q_b0, q_b1, Classical.not_not]
          · obtain ⟨g1, x1, x2, x3⟩ := s7 (sI h 101 14 (nI (j + 1))) (MS_t zm)
            obtain ⟨h2, e1, e2, e3⟩ := a8 g1 x2
            refine ⟨h2, ((FrS.refl h).sI _ rfl).trans (x1.trans e1), e2, fun D F hD => ?_⟩
            obtain ⟨D', rfl⟩ : ∃ d, D = d + 2 := ⟨D - 2, by omega⟩
            rw [hmt h g1 zm x3 D' F (by omega)]
            exact e3 (D' + 2) F (by omega)
          · rcases a6 with ⟨q1, q2, q3⟩ | ⟨q1, q2⟩
            · subst q2
              subst q3
              exact csem_0 o hj s2 (by omega) rfl q1 shd
            · exact csem_1 o hj s2 (by omega) rfl q1 shd q2
        · right
          refine ⟨k, a1, fun h ci hci r => ?_, fun h zm => ?_⟩
          · obtain ⟨h1, b1, b2, b3, b4⟩ := c43r o r
            obtain ⟨g1, x1, x2, x3, x4, x5⟩ := s6 h1 (4 * ci) b2
            obtain ⟨h2, e1, e2, e7⟩ := a2 g1 ci (tg B n j) z hci x2
            refine ⟨h2, (rc_cl ((av_rc b1).trans x1)).trans e1, e2, fun D F hD => ?_⟩
            obtain ⟨D', rfl⟩ : ∃ d, D = d + 1 := ⟨D - 1, by omega⟩
            rw [hst h h1 g1 ci _ hci r b4 x5 D' F (by omega)]
            refine Eq.trans ?_ (e7 (D' + 1) F jn (by omega))
            simp (disch := omega) only [r49_48, r49_51, r49_52, kdC, kdM, rpC, rpM, q_rs, q_rn, Option.toList_some, Option.toList_none, List.cons_append, List.nil_append, true_and, and_true, eq_self, ↓reduceIte, not_true_eq_false, not_false_eq_true, Nat.reduceEqDiff, Nat.reduceLeDiff, Nat.reduceLT, Nat.reduceAdd, Nat.reduceMul, Nat.reduceSub, false_or, or_false, true_or, or_true, false_and, and_false, reduceCtorEq, q_n0, q_n1, q_em, q_em2, q_b0, q_b1, Classical.not_not]
          · obtain ⟨g1, x1, x2, x3⟩ := s7 (sI h 101 14 (nI (j + 1))) (MS_t zm)
            obtain ⟨h2, e1, e2, e3⟩ := a3 g1 x2
            refine ⟨h2, ((FrS.refl h).sI _ rfl).trans (x1.trans e1), e2, fun D F hD => ?_⟩
            obtain ⟨D', rfl⟩ : ∃ d, D = d + 2 := ⟨D - 2, by omega⟩
            rw [hmt h g1 zm x3 D' F (by omega)]
            exact e3 (D' + 2) F (by omega)
      · right
        refine ⟨k, s1, fun h ci hci r => ?_, fun h zm => ?_⟩
        · obtain ⟨h1, b1, b2, b3, b4⟩ := c43r o r
          obtain ⟨g1, x1, x2, x5⟩ := s2 h1 (4 * ci) b2
          refine ⟨g1, rc_cl ((av_rc b1).trans x1), x2, fun D F hD => ?_⟩
          obtain ⟨D', rfl⟩ : ∃ d, D = d + 1 := ⟨D - 1, by omega⟩
          rw [hst h h1 g1 ci _ hci r b4 x5 D' F (by omega)]
          simp (disch := omega) only [r49_48, r49_51, r49_52, kdC, kdM, rpC, rpM, q_rs, q_rn, Option.toList_some, Option.toList_none, List.cons_append, List.nil_append, true_and, and_true, eq_self, ↓reduceIte, not_true_eq_false, not_false_eq_true, Nat.reduceEqDiff, Nat.reduceLeDiff, Nat.reduceLT, Nat.reduceAdd, Nat.reduceMul, Nat.reduceSub, false_or, or_false, true_or, or_true, false_and, and_false, reduceCtorEq, q_n0, q_n1, q_em, q_em2, q_b0, q_b1, Classical.not_not]
        · obtain ⟨g1, x1, x2, x3⟩ := s3 (sI h 101 14 (nI (j + 1))) (MS_t zm)
          have t4 := fun F d => m176x o x2 (nI 5) d F
          refine ⟨g1, ((FrS.refl h).sI _ rfl).trans x1, x2, fun D F hD => ?_⟩
          obtain ⟨D', rfl⟩ : ∃ d, D = d + 2 := ⟨D - 2, by omega⟩
          rw [hmt h g1 zm x3 D' F (by omega)]
          simp (disch := omega) only [r180_37, r180_38, r180_39, r180_42, r180_45, r180_46, r180_47, r180_50, t4, kdC, kdM, rpC, rpM, q_rs, q_rn, Option.toList_some, Option.toList_none, List.cons_append, List.nil_append, true_and, and_true, eq_self, ↓reduceIte, not_true_eq_false, not_false_eq_true, Nat.reduceEqDiff, Nat.reduceLeDiff, Nat.reduceLT, Nat.reduceAdd, Nat.reduceMul, Nat.reduceSub, false_or, or_false, true_or, or_true, false_and, and_false, reduceCtorEq, q_n0, q_n1, q_em, q_em2, q_b0, q_b1, Classical.not_not]
/-! rows of clauses -/
/-- the clauses so far: heads and places; their results for each asking -/
def SEQ (B : Nat → Int32) (n m i j : Nat) (cs : List Int32) (HD P1 P2 P3 : Nat → Nat) : Prop := (∀ k, k < i → HD k < 4 ∧ P1 k ≤ P2 k ∧ P2 k ≤ P3 k ∧ P3 k ≤ cs.length) ∧ ∀ c v e o env, CTX B n m c v e o → o + m ≤ e → ∃ (rs : Nat → Option (List Int32)) (vl : Nat → Int64), (∀ st, AT st 0 cs → ∀ k, k < i → clsR env st (P1 k) (P2 k) (P3 k) = rs k) ∧ (∀ k, k < i → HD k < 3 → ∀ l, rs k = some l → ∃ y : Int32, l = [y] ∧ vl k = y.toInt64) ∧ ∀ (hd : Int32) (K : Nat) (acc : Option Int64), q_wh (fun (s : Nat × Option Int64) => if s.1 < e then (ecl c v e env s.1).map (fun t => .inl (t.2.2.2, if t.2.2.1 ∧ t.1 = hd then some t.2.1 else s.2)) else some (.inr s)) (K + i) (o, acc) = q_wh (fun (s : Nat × Option Int64) => if s.1 < e then (ecl c v e env s.1).map (fun t => .inl (t.2.2.2, if t.2.2.1 ∧ t.1 = hd then some t.2.1 else s.2)) else some (.inr s)) K (o + j, q_lp (fun k a => if (rs k).isSome ∧ nI (HD k + 1) = hd then some (vl k) else a) i 0 acc)
/-- one clause more, from token s0 (the start or behind a sign) -/
theorem seq_s {i s0 j' hd : Nat} {cs csS csT : List Int32} {HD P1 P2 P3 : Nat → Nat} (hs : SEQ B n m i s0 cs HD P1 P2 P3) (hs0 : s0 < m) (hd4 : hd < 4) (cl : CSEM B n m hd s0 cs.length csS csT j') : SEQ B n m (i + 1) (j' + 1) (cs ++ (csS ++ csT)) (fun k => if k = i then hd else HD k) (fun k => if k = i then cs.length else P1 k) (fun k => if k = i then cs.length + csS.length else P2 k) (fun k => if k = i then cs.length + csS.length + csT.length else P3 k) := by
  obtain ⟨b, hs⟩ := hs
  refine ⟨fun k hk => ?_, ?_⟩
  · show (if k = i then hd else HD k) < 4 ∧ (if k = i then cs.length else P1 k) ≤ (if k = i then cs.length + csS.length else P2 k) ∧ (if k = i then cs.length + csS.length else P2 k) ≤ (if k = i then cs.length + csS.length + csT.length else P3 k) ∧ (if k = i then cs.length + csS.length + csT.length else P3 k) ≤ (cs ++ (csS ++ csT)).length
    rw [List.length_append, List.length_append]
    by_cases e : k = i
    · rw [if_pos e, if_pos e, if_pos e, if_pos e]; omega
    · rw [if_neg e, if_neg e, if_neg e, if_neg e]
      have := b k (by omega)
      omega
  · intro c v e o' env cx he
    obtain ⟨rs, vl, a1, a2, a3⟩ := hs c v e o' env cx he
    obtain ⟨r, val, b1, b2, b3⟩ := cl c v e o' env cx
    refine ⟨fun k => if k = i then r else rs k, fun k => if k = i then val else vl k, fun st hat k hk => ?_, fun k hk h3 l hl => ?_, fun hdc K acc => ?_⟩
    · obtain ⟨t1, t2⟩ := AT_app.mp hat
      show clsR env st (if k = i then cs.length else P1 k) (if k = i then cs.length + csS.length else P2 k) (if k = i then cs.length + csS.length + csT.length else P3 k) = if k = i then r else rs k
      by_cases ek : k = i
      · rw [if_pos ek, if_pos ek, if_pos ek, if_pos ek]
        rw [Nat.zero_add] at t2
        exact b1 st t2
      · rw [if_neg ek, if_neg ek, if_neg ek, if_neg ek]
        exact a1 st t1 k (by omega)
    · have h3' : (if k = i then hd else HD k) < 3 := h3
      have hl' : (if k = i then r else rs k) = some l := hl
      show ∃ y : Int32, l = [y] ∧ (if k = i then val else vl k) = y.toInt64
      by_cases ek : k = i
      · rw [if_pos ek] at *
        exact b3 h3' l hl'
      · rw [if_neg ek] at *
        exact a2 k (by omega) h3' l hl'
    · rw [show K + (i + 1) = (K + 1) + i by omega, a3 hdc (K + 1) acc]
      have hlp : q_lp (fun k a => if ((if k = i then r else rs k) : Option (List Int32)).isSome ∧ nI ((if k = i then hd else HD k) + 1) = hdc then some (if k = i then val else vl k) else a) (i + 1) 0 acc = (if r.isSome ∧ nI (hd + 1) = hdc then some val else q_lp (fun k a => if (rs k).isSome ∧ nI (HD k + 1) = hdc then some (vl k) else a) i 0 acc) := by
        rw [q_lpR, Nat.zero_add]
        have hq : q_lp (fun k a => if ((if k = i then r else rs k) : Option (List Int32)).isSome ∧ nI ((if k = i then hd else HD k) + 1) = hdc then some (if k = i then val else vl k) else a) i 0 acc = q_lp (fun k a => if (rs k).isSome ∧ nI (HD k + 1) = hdc then some (vl k) else a) i 0 acc := by
          refine lp_cg i 0 acc (fun t s _ ht => ?_)
          have et : ¬ t = i := by omega
          simp only [if_neg et]
        rw [hq]
        simp only [if_pos trivial]
      rw [hlp]
      refine q_wh2 ?_
      show (if o' + s0 < e then (ecl c v e env (o' + s0)).map _ else _) = _
      rw [if_pos (by omega), b2]
      rfl
theorem seq_0 : SEQ B n m 0 0 [] (fun _ => 0) (fun _ => 0) (fun _ => 0) (fun _ => 0) := ⟨fun k hk => by omega, fun c v e o env _ _ => ⟨fun _ => none, fun _ => lN 0, fun st _ k hk => by omega, fun k hk => by omega, fun hd K acc => rfl⟩⟩
end CQ
