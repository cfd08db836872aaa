/-! reading a plain TEST, both -/
def DPl (dep : Nat) : Nat := 8 + 4 * (8 - dep)
def DTs (dep : Nat) : Nat := 10 + 4 * (8 - dep)
def fuQ (dep : Nat) : Nat := 4 + 4 * (8 - dep)
section PL
variable (B : Nat → Int32) (n m : Nat)
def PlEx (dep : Nat) : Prop := ∀ j p z, j ≤ m → p ≤ 50 → z ≤ j → (∃ j' p' cs, j < j' ∧ j' ≤ m ∧ p' ≤ 50 ∧ cs.length ≤ j' - j ∧ nnL cs ∧ JOK B n m 51 183 (DPl dep) dep j p z j' p' cs ∧ TSEM B n m 5 (fuQ dep + 1) (2 * dep + 1) j z cs j') ∨ ∃ k, k ≤ m ∧ JNO B n m 51 183 (DPl dep) dep j p z k
def TEx (dep : Nat) : Prop := ∀ j p z, j ≤ m → p ≤ 50 → z ≤ j → (∃ j' p' cs, j < j' ∧ j' ≤ m ∧ p' ≤ 50 ∧ cs.length ≤ j' - j ∧ nnL cs ∧ JOK B n m 50 181 (DTs dep) dep j p z j' p' cs ∧ TSEM B n m 3 (fuQ dep + 3) (2 * dep + 1) j z cs j') ∨ ∃ k, k ≤ m ∧ JNO B n m 50 181 (DTs dep) dep j p z k
def QOK (dep j p z j' p' : Nat) (cs : List Int32) : Prop :=
  (∀ h cn, RC h B n j p z cn → ∃ h', FrS rcS h h' ∧ RC h' B n j' p' (z + cs.length) cn ∧ AT (gI h' 78) z cs ∧ (∀ i, i < z → gI h' 78 i = gI h 78 i) ∧ ∀ D F (v2 v3 : Value), DPl dep ≤ D → wp true D 51 40 [.ref 76, .int (nI dep), v2, v3] [] h F = wp true D 51 62 [.ref 76, .int (nI dep), v2, v3] [.int (nI 1)] h' F) ∧
  ∀ h, MS h B n m j p → ∃ h', FrS psS h h' ∧ MS h' B n m j' p' ∧ ∀ D F (v3 : Value), DPl dep ≤ D → wp true D 183 16 [.ref 101, .int (nI dep), .int (nI 0), v3] [] h F = F none h'
def QNO (dep j p z k : Nat) : Prop :=
  (∀ h cn, RC h B n j p z cn → ∃ h', FrS rcS h h' ∧ FC h' B n k ∧ ∀ D F (v2 v3 : Value), DPl dep ≤ D → wp true D 51 40 [.ref 76, .int (nI dep), v2, v3] [] h F = wp true D 51 62 [.ref 76, .int (nI dep), v2, v3] [.int (nI 0)] h' F) ∧
  ∀ h, MS h B n m j p → ∃ h', FrS psS h h' ∧ MX h' B n k ∧ ∀ D F (v3 : Value), DPl dep ≤ D → wp true D 183 16 [.ref 101, .int (nI dep), .int (nI 0), v3] [] h F = F none h'
end PL
section PM
variable {B : Nat → Int32} {n m : Nat}
theorem m184x (o : TOK B n m) {h : Hp} {k : Nat} (z : MX h B n k) (x : Int32) (D : Nat) (F : Po) : cwp true (D + 4) 184 [.ref 101, .int x] h F = F none h := by
  have h1 := fun F d => m186x o z x d F
  refine Eq.trans ?_ (ml_x o z x D F)
  simp (disch := omega) only [r184_0, r184_1, r184_2, e184, r185_0, r185_1, r185_2, e185, h1, kdC, kdM, rpC, rpM, q_rs, q_rn, Option.toList_some, Option.toList_none, List.cons_append, List.nil_append, true_and, and_true, eq_self, ↓reduceIte, not_true_eq_false, not_false_eq_true, Nat.reduceEqDiff, Nat.reduceLeDiff, Nat.reduceLT, Nat.reduceAdd, Nat.reduceMul, Nat.reduceSub, false_or, or_false, true_or, or_true, false_and, and_false, reduceCtorEq, q_n0, q_n1, q_em, q_em2, q_b0, q_b1, Classical.not_not]
theorem pos_ex (o : TOK B n m) {dep : Nat} (hdep : dep ≤ 8) (se : SEx B n m dep) (ih : dep < 8 → TEx B n m (dep + 1)) : ∀ j p z, j ≤ m → p ≤ 50 → z ≤ j → (∃ j' p' cs, j < j' ∧ j' ≤ m ∧ p' ≤ 50 ∧ cs.length ≤ j' - j ∧ nnL cs ∧ QOK B n m dep j p z j' p' cs ∧ TSEM B n m 6 (fuQ dep) (2 * dep + 1) j z cs j') ∨ ∃ k, k ≤ m ∧ QNO B n m dep j p z k := by
  intro j p z hj hp hz
  have hm4 := o.m400
  by_cases cb : tg B n j = 1040
  · have hjm : j < m := o.l hj (by omega)
    have hmc : mcJ B n j = nI 140 := by rw [mc40 o]; exact cb
    by_cases c8 : dep = 8
    · right
      refine ⟨j, hj, fun h cn r => ⟨h, FrS.refl h, r.fc (by omega), fun D F v2 v3 hD => ?_⟩, fun h zm => ⟨sI h 101 16 (nI (tpl B n j)), (FrS.refl h).sI _ rfl, MX_f, fun D F v3 hD => ?_⟩⟩
      · have h42 := fun F d => c42 o r (u := 40) (by omega) d F
        rw [q_bt cb] at h42
        obtain ⟨D', rfl⟩ : ∃ d, D = d + 2 := ⟨D - 2, by unfold DPl at hD; omega⟩
        simp (disch := omega) only [r51_40, r51_41, r51_43, r51_46, r51_49, r51_50, r51_51, r51_54, e52, r52_0, r52_1, r52_3, r52_6, r52_7, r52_8, r52_9, r52_12, r52_13, r52_14, r52_15, r52_16, r52_19, r52_22, r52_23, r52_25, r52_28, r52_31, r52_32, r52_33, r52_34, r52_37, r52_38, h42, c8, kdC, kdM, rpC, rpM, q_rs, q_rn, Option.toList_some, Option.toList_none, List.cons_append, List.nil_append, true_and, and_true, eq_self, ↓reduceIte, not_true_eq_false, not_false_eq_true, Nat.reduceEqDiff, Nat.reduceLeDiff, Nat.reduceLT, Nat.reduceAdd, Nat.reduceMul, Nat.reduceSub, false_or, or_false, true_or, or_true, false_and, and_false, reduceCtorEq, q_n0, q_n1, q_em, q_em2, q_b0, q_b1, Classical.not_not, nI_add, pk_mul, nI_clamp, q_vp, nI_eq, nI_leI, nI_ltI, q_sub, Nat.lt_irrefl]
      · obtain ⟨D', rfl⟩ : ∃ d, D = d + 2 := ⟨D - 2, by unfold DPl at hD; omega⟩
        have h74 := fun F d => m174 zm d F
        have h75 := fun F d => m175 o hj zm d F
        have h74x := fun F d => m174x o (MX_f (h := h) (B := B) (n := n) (j := j)) d F
        have hr := (zm.2.2.2 j (by omega)).1
        rw [hmc] at hr
        simp (disch := omega) only [r183_16, r183_17, r183_20, r183_23, r183_24, r183_25, r183_28, r183_29, r183_32, r183_33, r183_34, r183_35, r183_37, r183_40, r183_43, r183_44, r183_46, r183_49, r183_50, r183_53, r183_54, r183_57, r183_60, r183_61, r183_62, r183_63, r183_66, r183_67, r183_68, r183_71, r183_72, r183_73, r183_74, r183_75, r183_78, r183_79, r183_81, r183_84, r183_87, r183_90, r183_91, r183_92, r183_95, r183_96, r183_98, r183_101, r183_104, r183_107, r183_108, r183_110, r183_113, r183_116, r183_119, r183_120, r183_122, r183_125, r183_128, r183_129, r183_130, r183_133, h74, h75, h74x, m179, zm.1, hr, c8, kdC, kdM, rpC, rpM, q_rs, q_rn, Option.toList_some, Option.toList_none, List.cons_append, List.nil_append, true_and, and_true, eq_self, ↓reduceIte, not_true_eq_false, not_false_eq_true, Nat.reduceEqDiff, Nat.reduceLeDiff, Nat.reduceLT, Nat.reduceAdd, Nat.reduceMul, Nat.reduceSub, false_or, or_false, true_or, or_true, false_and, and_false, reduceCtorEq, q_n0, q_n1, q_em, q_em2, q_b0, q_b1, Classical.not_not, nI_add, pk_mul, nI_clamp, q_vp, nI_eq, nI_leI, nI_ltI, q_sub, show j < 401 by omega]
    · -- a TEST in brackets
      have hfst : ∀ (h h1 : Hp) (cn : Nat) (x : Int32) (h2 : Hp), RC h B n j p z cn → (∀ d F, cwp true (d + 1) 43 [.ref 76] h F = F none h1) → (∀ D F, DTs (dep + 1) ≤ D → cwp true D 50 [.ref 76, .int (nI (dep + 1))] h1 F = F (some (.int x)) h2) → ∀ D F (v2 v3 : Value), DPl dep ≤ D + 2 → wp true (D + 2) 51 40 [.ref 76, .int (nI dep), v2, v3] [] h F = wp true (D + 1) 52 19 [.ref 76, .int (nI dep)] [.int x] h2 (fun r h' => wp true (D + 2) 51 54 [.ref 76, .int (nI dep), v2, v3] (r.toList ++ []) h' F) := by
        intro h h1 cn x h2 r b4 e5 D F v2 v3 hD
        have h42 := fun F d => c42 o r (u := 40) (by omega) d F
        rw [q_bt cb] at h42
        obtain ⟨D', rfl⟩ : ∃ d, D = d + 1 := ⟨D - 1, by unfold DPl at hD; omega⟩
        have e5' := fun F => e5 (D' + 1) F (by unfold DPl at hD; unfold DTs; omega)
        simp (disch := omega) only [r51_40, r51_41, r51_43, r51_46, r51_49, r51_50, r51_51, e52, r52_0, r52_1, r52_3, r52_6, r52_7, r52_8, r52_9, r52_12, r52_13, r52_14, r52_15, r52_16, h42, b4, e5', kdC, kdM, rpC, rpM, q_rs, q_rn, Option.toList_some, Option.toList_none, List.cons_append, List.nil_append, true_and, and_true, eq_self, ↓reduceIte, not_true_eq_false, not_false_eq_true, Nat.reduceEqDiff, Nat.reduceLeDiff, Nat.reduceLT, Nat.reduceAdd, Nat.reduceMul, Nat.reduceSub, false_or, or_false, true_or, or_true, false_and, and_false, reduceCtorEq, q_n0, q_n1, q_em, q_em2, q_b0, q_b1, Classical.not_not, nI_add, pk_mul, nI_clamp, q_vp, nI_eq, nI_leI, nI_ltI, q_sub, show dep < 8 by omega]
      have hms : ∀ (h h2 : Hp), MS h B n m j p → (∀ D F, DTs (dep + 1) ≤ D → cwp true D 181 [.ref 101, .int (nI (dep + 1))] (sI h 101 14 (nI (j + 1))) F = F none h2) → ∀ D F (v3 : Value), DPl dep ≤ D + 3 → wp true (D + 3) 183 16 [.ref 101, .int (nI dep), .int (nI 0), v3] [] h F = wp true (D + 3) 183 78 [.ref 101, .int (nI dep), .int (nI 0), .int (nI 140)] [] h2 F := by
        intro h h2 zm e3 D F v3 hD
        have h74 := fun F d => m174 zm d F
        have hr := (zm.2.2.2 j (by omega)).1
        rw [hmc] at hr
        have e3' := fun F => e3 (D + 2) F (by unfold DPl at hD; unfold DTs; omega)
        simp (disch := omega) only [r183_16, r183_17, r183_20, r183_23, r183_24, r183_25, r183_28, r183_29, r183_32, r183_33, r183_34, r183_35, r183_37, r183_40, r183_43, r183_44, r183_46, r183_49, r183_50, r183_53, r183_54, r183_57, r183_60, r183_61, r183_62, r183_63, r183_66, r183_67, r183_68, r183_71, r183_72, r183_73, r183_74, r183_75, h74, m179, zm.1, hr, e3', kdC, kdM, rpC, rpM, q_rs, q_rn, Option.toList_some, Option.toList_none, List.cons_append, List.nil_append, true_and, and_true, eq_self, ↓reduceIte, not_true_eq_false, not_false_eq_true, Nat.reduceEqDiff, Nat.reduceLeDiff, Nat.reduceLT, Nat.reduceAdd, Nat.reduceMul, Nat.reduceSub, false_or, or_false, true_or, or_true, false_and, and_false, reduceCtorEq, q_n0, q_n1, q_em, q_em2, q_b0, q_b1, Classical.not_not, nI_add, pk_mul, nI_clamp, q_vp, nI_eq, nI_leI, nI_ltI, q_sub, show j < 401 by omega, show ¬ dep = 8 by omega]
      rcases ih (by omega) (j + 1) p z (by omega) hp (by omega) with ⟨j1, p1, cs, a1, a2, a3, a4, a5, ⟨a6, a7⟩, a8⟩ | ⟨k, a1, a2, a3⟩
      · by_cases ce : tg B n j1 = 1041
        · have hj1 : j1 < m := o.l a2 (by omega)
          left
          refine ⟨j1 + 1, p1, cs, by omega, by omega, a3, by omega, a5, ⟨fun h cn r => ?_, fun h zm => ?_⟩, ?_⟩
          · obtain ⟨h1, b1, b2, b3, b4⟩ := c43r o r
            obtain ⟨h2, e1, e2, e3, e4, e5⟩ := a6 h1 cn b2
            obtain ⟨h3, f1, f2, f3, f4⟩ := c43r o e2
            refine ⟨h3, (av_rc b1).trans (e1.trans (av_rc f1)), f2, by rw [f3]; exact e3, fun i hi => by rw [f3, e4 i hi, b3], fun D F v2 v3 hD => ?_⟩
            obtain ⟨D', rfl⟩ : ∃ d, D = d + 1 + 2 := ⟨D - 3, by unfold DPl at hD; omega⟩
            have h42b := fun F d => c42 o e2 (u := 41) (by omega) d F
            rw [q_bt ce] at h42b
            rw [hfst h h1 cn _ h2 r b4 e5 (D' + 1) F v2 v3 hD]
            simp (disch := omega) only [r52_19, r52_22, r52_23, r52_25, r52_28, r52_31, r52_32, r52_33, r52_34, r52_37, r52_38, r51_54, h42b, f4, kdC, kdM, rpC, rpM, q_rs, q_rn, Option.toList_some, Option.toList_none, List.cons_append, List.nil_append, true_and, and_true, eq_self, ↓reduceIte, not_true_eq_false, not_false_eq_true, Nat.reduceEqDiff, Nat.reduceLeDiff, Nat.reduceLT, Nat.reduceAdd, Nat.reduceMul, Nat.reduceSub, false_or, or_false, true_or, or_true, false_and, and_false, reduceCtorEq, q_n0, q_n1, q_em, q_em2, q_b0, q_b1, Classical.not_not]
          · obtain ⟨h2, e1, e2, e3⟩ := a7 (sI h 101 14 (nI (j + 1))) (MS_t zm)
            have hmc2 : mcJ B n j1 = nI 141 := by rw [mc41 o]; exact ce
            have h77 := fun F d => m177y o a2 e2 hmc2 d F
            refine ⟨sI h2 101 14 (nI (j1 + 1)), (((FrS.refl h).sI _ rfl).trans e1).sI _ rfl, MS_t e2, fun D F v3 hD => ?_⟩
            obtain ⟨D', rfl⟩ : ∃ d, D = d + 3 := ⟨D - 3, by unfold DPl at hD; omega⟩
            rw [hms h h2 zm e3 D' F v3 hD]
            simp (disch := omega) only [r183_78, r183_79, r183_81, r183_84, r183_87, r183_90, r183_91, r183_92, r183_95, r183_96, r183_98, r183_101, r183_104, r183_107, r183_108, r183_110, r183_113, r183_116, r183_119, r183_120, r183_122, r183_125, r183_128, r183_129, r183_130, r183_133, m179, h77, kdC, kdM, rpC, rpM, q_rs, q_rn, Option.toList_some, Option.toList_none, List.cons_append, List.nil_append, true_and, and_true, eq_self, ↓reduceIte, not_true_eq_false, not_false_eq_true, Nat.reduceEqDiff, Nat.reduceLeDiff, Nat.reduceLT, Nat.reduceAdd, Nat.reduceMul, Nat.reduceSub, false_or, or_false, true_or, or_true, false_and, and_false, reduceCtorEq, q_n0, q_n1, q_em, q_em2, q_b0, q_b1, Classical.not_not, nI_add, pk_mul, nI_clamp, q_vp, nI_eq, nI_leI, nI_ltI, q_sub, Nat.reduceAdd]
          · have := tsem_b o (lim' := 2 * dep + 1) (by omega) hj cb a8
            unfold fuQ at *
            rw [show 4 + 4 * (8 - dep) = 4 + 4 * (8 - (dep + 1)) + 3 + 1 by omega]
            exact this
        · right
          refine ⟨j1, a2, fun h cn r => ?_, fun h zm => ?_⟩
          · obtain ⟨h1, b1, b2, b3, b4⟩ := c43r o r
            obtain ⟨h2, e1, e2, e3, e4, e5⟩ := a6 h1 cn b2
            refine ⟨h2, (av_rc b1).trans e1, e2.fc (by omega), fun D F v2 v3 hD => ?_⟩
            obtain ⟨D', rfl⟩ : ∃ d, D = d + 2 := ⟨D - 2, by unfold DPl at hD; omega⟩
            have h42b := fun F d => c42 o e2 (u := 41) (by omega) d F
            rw [q_bf ce] at h42b
            rw [hfst h h1 cn _ h2 r b4 e5 D' F v2 v3 hD]
            simp (disch := omega) only [r52_19, r52_22, r52_23, r52_25, r52_28, r52_31, r52_32, r52_33, r52_34, r52_37, r52_38, r51_54, h42b, kdC, kdM, rpC, rpM, q_rs, q_rn, Option.toList_some, Option.toList_none, List.cons_append, List.nil_append, true_and, and_true, eq_self, ↓reduceIte, not_true_eq_false, not_false_eq_true, Nat.reduceEqDiff, Nat.reduceLeDiff, Nat.reduceLT, Nat.reduceAdd, Nat.reduceMul, Nat.reduceSub, false_or, or_false, true_or, or_true, false_and, and_false, reduceCtorEq, q_n0, q_n1, q_em, q_em2, q_b0, q_b1, Classical.not_not]
          · obtain ⟨h2, e1, e2, e3⟩ := a7 (sI h 101 14 (nI (j + 1))) (MS_t zm)
            have hmc2 : ¬ mcJ B n j1 = nI 141 := by rw [mc41 o]; exact ce
            have h77 := fun F d => m177n o a2 e2 hmc2 d F
            refine ⟨sI h2 101 16 (nI (tpl B n j1)), (((FrS.refl h).sI _ rfl).trans e1).sI _ rfl, MX_f, fun D F v3 hD => ?_⟩
            obtain ⟨D', rfl⟩ : ∃ d, D = d + 3 := ⟨D - 3, by unfold DPl at hD; omega⟩
            rw [hms h h2 zm e3 D' F v3 hD]
            simp (disch := omega) only [r183_78, r183_79, r183_81, r183_84, r183_87, r183_90, r183_91, r183_92, r183_95, r183_96, r183_98, r183_101, r183_104, r183_107, r183_108, r183_110, r183_113, r183_116, r183_119, r183_120, r183_122, r183_125, r183_128, r183_129, r183_130, r183_133, m179, h77, kdC, kdM, rpC, rpM, q_rs, q_rn, Option.toList_some, Option.toList_none, List.cons_append, List.nil_append, true_and, and_true, eq_self, ↓reduceIte, not_true_eq_false, not_false_eq_true, Nat.reduceEqDiff, Nat.reduceLeDiff, Nat.reduceLT, Nat.reduceAdd, Nat.reduceMul, Nat.reduceSub, false_or, or_false, true_or, or_true, false_and, and_false, reduceCtorEq, q_n0, q_n1, q_em, q_em2, q_b0, q_b1, Classical.not_not, nI_add, pk_mul, nI_clamp, q_vp, nI_eq, nI_leI, nI_ltI, q_sub, Nat.reduceAdd]
      · right
        refine ⟨k, a1, fun h cn r => ?_, fun h zm => ?_⟩
        · obtain ⟨h1, b1, b2, b3, b4⟩ := c43r o r
          obtain ⟨h2, e1, e2, e5⟩ := a2 h1 cn b2
          refine ⟨h2, (av_rc b1).trans e1, e2, fun D F v2 v3 hD => ?_⟩
          obtain ⟨D', rfl⟩ : ∃ d, D = d + 2 := ⟨D - 2, by unfold DPl at hD; omega⟩
          rw [hfst h h1 cn _ h2 r b4 e5 D' F v2 v3 hD]
          simp (disch := omega) only [r52_19, r52_22, r52_23, r52_25, r52_28, r52_31, r52_32, r52_33, r52_34, r52_37, r52_38, r51_54, kdC, kdM, rpC, rpM, q_rs, q_rn, Option.toList_some, Option.toList_none, List.cons_append, List.nil_append, true_and, and_true, eq_self, ↓reduceIte, not_true_eq_false, not_false_eq_true, Nat.reduceEqDiff, Nat.reduceLeDiff, Nat.reduceLT, Nat.reduceAdd, Nat.reduceMul, Nat.reduceSub, false_or, or_false, true_or, or_true, false_and, and_false, reduceCtorEq, q_n0, q_n1, q_em, q_em2, q_b0, q_b1, Classical.not_not]
        · obtain ⟨h2, e1, e2, e3⟩ := a3 (sI h 101 14 (nI (j + 1))) (MS_t zm)
          have h77 := fun F d => m177x o e2 (nI 141) d F
          refine ⟨h2, ((FrS.refl h).sI _ rfl).trans e1, e2, fun D F v3 hD => ?_⟩
          obtain ⟨D', rfl⟩ : ∃ d, D = d + 3 := ⟨D - 3, by unfold DPl at hD; omega⟩
          rw [hms h h2 zm e3 D' F v3 hD]
          simp (disch := omega) only [r183_78, r183_79, r183_81, r183_84, r183_87, r183_90, r183_91, r183_92, r183_95, r183_96, r183_98, r183_101, r183_104, r183_107, r183_108, r183_110, r183_113, r183_116, r183_119, r183_120, r183_122, r183_125, r183_128, r183_129, r183_130, r183_133, m179, h77, kdC, kdM, rpC, rpM, q_rs, q_rn, Option.toList_some, Option.toList_none, List.cons_append, List.nil_append, true_and, and_true, eq_self, ↓reduceIte, not_true_eq_false, not_false_eq_true, Nat.reduceEqDiff, Nat.reduceLeDiff, Nat.reduceLT, Nat.reduceAdd, Nat.reduceMul, Nat.reduceSub, false_or, or_false, true_or, or_true, false_and, and_false, reduceCtorEq, q_n0, q_n1, q_em, q_em2, q_b0, q_b1, Classical.not_not, nI_add, pk_mul, nI_clamp, q_vp, nI_eq, nI_leI, nI_ltI, q_sub, Nat.reduceAdd]
  · -- a comparison
    have hmb : ¬ mcJ B n j = nI 140 := by rw [mc40 o]; exact cb
    have hfst : ∀ (h : Hp) (cn : Nat) (x : Int32) (h2 : Hp), RC h B n j p z cn → (∀ D F, DSm dep ≤ D → cwp true D 54 [.ref 76, .int (nI dep)] h F = F (some (.int x)) h2) → ∀ D F (v2 v3 : Value), DPl dep ≤ D + 2 → wp true (D + 2) 51 40 [.ref 76, .int (nI dep), v2, v3] [] h F = wp true (D + 1) 53 5 [.ref 76, .int (nI dep), jn] [.int x] h2 (fun r h' => wp true (D + 2) 51 62 [.ref 76, .int (nI dep), v2, v3] (r.toList ++ []) h' F) := by
      intro h cn x h2 r e5 D F v2 v3 hD
      have h42 := fun F d => c42 o r (u := 40) (by omega) d F
      rw [q_bf cb] at h42
      have e5' := fun F => e5 D F (by unfold DPl at hD; unfold DSm; omega)
      simp (disch := omega) only [r51_40, r51_41, r51_43, r51_46, r51_49, r51_50, r51_51, r51_54, r51_57, r51_58, r51_59, e53, r53_0, r53_1, r53_2, h42, e5', kdC, kdM, rpC, rpM, q_rs, q_rn, Option.toList_some, Option.toList_none, List.cons_append, List.nil_append, true_and, and_true, eq_self, ↓reduceIte, not_true_eq_false, not_false_eq_true, Nat.reduceEqDiff, Nat.reduceLeDiff, Nat.reduceLT, Nat.reduceAdd, Nat.reduceMul, Nat.reduceSub, false_or, or_false, true_or, or_true, false_and, and_false, reduceCtorEq, q_n0, q_n1, q_em, q_em2, q_b0, q_b1, Classical.not_not]
    have hms : ∀ (h h2 : Hp), MS h B n m j p → (∀ D F, DSm dep ≤ D → cwp true D 184 [.ref 101, .int (nI dep)] h F = F none h2) → ∀ D F (v3 : Value), DPl dep ≤ D + 1 → ∃ v3' : Value, wp true (D + 1) 183 16 [.ref 101, .int (nI dep), .int (nI 0), v3] [] h F = wp true (D + 1) 183 95 [.ref 101, .int (nI dep), .int (nI 0), v3'] [] h2 F := by
      intro h h2 zm e3 D F v3 hD
      have h74 := fun F d => m174 zm d F
      have hr := (zm.2.2.2 j (by omega)).1
      have e3' := fun F => e3 D F (by unfold DPl at hD; unfold DSm; omega)
      refine ⟨.int (mcJ B n j), ?_⟩
      simp (disch := omega) only [r183_16, r183_17, r183_20, r183_23, r183_24, r183_25, r183_28, r183_29, r183_32, r183_33, r183_34, r183_35, r183_37, r183_40, r183_43, r183_44, r183_46, r183_49, r183_50, r183_53, r183_54, r183_57, r183_60, r183_61, r183_62, r183_63, r183_66, r183_67, r183_68, r183_71, r183_72, r183_73, r183_74, r183_75, r183_78, r183_79, r183_81, r183_84, r183_87, r183_90, r183_91, r183_92, h74, m179, zm.1, hr, hmb, e3', kdC, kdM, rpC, rpM, q_rs, q_rn, Option.toList_some, Option.toList_none, List.cons_append, List.nil_append, true_and, and_true, eq_self, ↓reduceIte, not_true_eq_false, not_false_eq_true, Nat.reduceEqDiff, Nat.reduceLeDiff, Nat.reduceLT, Nat.reduceAdd, Nat.reduceMul, Nat.reduceSub, false_or, or_false, true_or, or_true, false_and, and_false, reduceCtorEq, q_n0, q_n1, q_em, q_em2, q_b0, q_b1, Classical.not_not, nI_add, pk_mul, nI_clamp, q_vp, nI_eq, nI_leI, nI_ltI, q_sub, show j < 401 by omega, Nat.reduceAdd]
    rcases se j p z hj hp hz with ⟨j1, p1, cs1, a1, a2, a3, a4, a5, ⟨a6, a7⟩, a8⟩ | ⟨k, a1, a2, a3⟩
    · by_cases cop : ∃ op, (op = 6 ∧ tg B n j1 = 1060) ∨ (op = 7 ∧ tg B n j1 = 1062) ∨ (op = 8 ∧ tg B n j1 = 1061)
      · obtain ⟨op, hop⟩ := cop
        have hj1 : j1 < m := o.l a2 (by omega)
        -- the class goes on to the second SUM
        have hsec : ∀ (h2 h3 : Hp) (cn : Nat), RC h2 B n j1 p1 (z + cs1.length) cn → (∀ d F, cwp true (d + 1) 43 [.ref 76] h2 F = F none h3) → ∀ D F, wp true (D + 2) 53 5 [.ref 76, .int (nI dep), jn] [.int (nI 1)] h2 F = wp true (D + 2) 53 62 [.ref 76, .int (nI dep), .int (nI op)] [] h3 F := by
          intro h2 h3 cn e2 b4 D F
          have k1 := fun F d => c42 o e2 (u := 60) (by omega) d F
          have k2 := fun F d => c42 o e2 (u := 62) (by omega) d F
          have k3 := fun F d => c42 o e2 (u := 61) (by omega) d F
          rcases hop with ⟨rfl, ht⟩ | ⟨rfl, ht⟩ | ⟨rfl, ht⟩
          · rw [q_bt ht] at k1
            simp (disch := omega) only [r53_5, r53_8, r53_9, r53_10, r53_11, r53_13, r53_16, r53_19, r53_21, r53_24, r53_25, r53_27, r53_30, r53_33, r53_35, r53_38, r53_40, r53_41, r53_42, r53_44, r53_47, r53_48, r53_50, r53_53, r53_56, r53_57, r53_58, r53_59, k1, b4, kdC, kdM, rpC, rpM, q_rs, q_rn, Option.toList_some, Option.toList_none, List.cons_append, List.nil_append, true_and, and_true, eq_self, ↓reduceIte, not_true_eq_false, not_false_eq_true, Nat.reduceEqDiff, Nat.reduceLeDiff, Nat.reduceLT, Nat.reduceAdd, Nat.reduceMul, Nat.reduceSub, false_or, or_false, true_or, or_true, false_and, and_false, reduceCtorEq, q_n0, q_n1, q_em, q_em2, q_b0, q_b1, Classical.not_not, nI_add, pk_mul, nI_clamp, q_vp, nI_eq, nI_leI, nI_ltI, q_sub]
          · rw [q_bf (show ¬ tg B n j1 = 1000 + 60 by omega)] at k1
            rw [q_bt ht] at k2
            simp (disch := omega) only [r53_5, r53_8, r53_9, r53_10, r53_11, r53_13, r53_16, r53_19, r53_21, r53_24, r53_25, r53_27, r53_30, r53_33, r53_35, r53_38, r53_40, r53_41, r53_42, r53_44, r53_47, r53_48, r53_50, r53_53, r53_56, r53_57, r53_58, r53_59, k1, k2, b4, kdC, kdM, rpC, rpM, q_rs, q_rn, Option.toList_some, Option.toList_none, List.cons_append, List.nil_append, true_and, and_true, eq_self, ↓reduceIte, not_true_eq_false, not_false_eq_true, Nat.reduceEqDiff, Nat.reduceLeDiff, Nat.reduceLT, Nat.reduceAdd, Nat.reduceMul, Nat.reduceSub, false_or, or_false, true_or, or_true, false_and, and_false, reduceCtorEq, q_n0, q_n1, q_em, q_em2, q_b0, q_b1, Classical.not_not, nI_add, pk_mul, nI_clamp, q_vp, nI_eq, nI_leI, nI_ltI, q_sub]
          · rw [q_bf (show ¬ tg B n j1 = 1000 + 60 by omega)] at k1
            rw [q_bf (show ¬ tg B n j1 = 1000 + 62 by omega)] at k2
            rw [q_bt ht] at k3
            simp (disch := omega) only [r53_5, r53_8, r53_9, r53_10, r53_11, r53_13, r53_16, r53_19, r53_21, r53_24, r53_25, r53_27, r53_30, r53_33, r53_35, r53_38, r53_40, r53_41, r53_42, r53_44, r53_47, r53_48, r53_50, r53_53, r53_56, r53_57, r53_58, r53_59, k1, k2, k3, b4, kdC, kdM, rpC, rpM, q_rs, q_rn, Option.toList_some, Option.toList_none, List.cons_append, List.nil_append, true_and, and_true, eq_self, ↓reduceIte, not_true_eq_false, not_false_eq_true, Nat.reduceEqDiff, Nat.reduceLeDiff, Nat.reduceLT, Nat.reduceAdd, Nat.reduceMul, Nat.reduceSub, false_or, or_false, true_or, or_true, false_and, and_false, reduceCtorEq, q_n0, q_n1, q_em, q_em2, q_b0, q_b1, Classical.not_not, nI_add, pk_mul, nI_clamp, q_vp, nI_eq, nI_leI, nI_ltI, q_sub]
        have htk : ∀ (h2 : Hp), MS h2 B n m j1 p1 → ∀ D F (v3 : Value), wp true (D + 3) 183 95 [.ref 101, .int (nI dep), .int (nI 0), v3] [] h2 F = wp true (D + 3) 183 128 [.ref 101, .int (nI dep), .int (nI 0), v3] [] (sI h2 101 14 (nI (j1 + 1))) F := by
          intro h2 zm D F v3
          rcases hop with ⟨rfl, ht⟩ | ⟨rfl, ht⟩ | ⟨rfl, ht⟩
          · have t1 := fun F d => m176y o a2 zm (show mcJ B n j1 = nI 160 by rw [mc60 o]; exact ht) d F
            simp (disch := omega) only [r183_95, r183_96, r183_98, r183_101, r183_104, r183_107, r183_108, r183_110, r183_113, r183_116, r183_119, r183_120, r183_122, r183_125, m179, t1, kdC, kdM, rpC, rpM, q_rs, q_rn, Option.toList_some, Option.toList_none, List.cons_append, List.nil_append, true_and, and_true, eq_self, ↓reduceIte, not_true_eq_false, not_false_eq_true, Nat.reduceEqDiff, Nat.reduceLeDiff, Nat.reduceLT, Nat.reduceAdd, Nat.reduceMul, Nat.reduceSub, false_or, or_false, true_or, or_true, false_and, and_false, reduceCtorEq, q_n0, q_n1, q_em, q_em2, q_b0, q_b1, Classical.not_not, nI_add, pk_mul, nI_clamp, q_vp, nI_eq, nI_leI, nI_ltI, q_sub, Nat.reduceAdd]
          · have t1 := fun F d => m176n o a2 zm (show ¬ mcJ B n j1 = nI 160 by rw [mc60 o]; omega) d F
            have t2 := fun F d => m176y o a2 zm (show mcJ B n j1 = nI 162 by rw [mc62 o]; exact ht) d F
            simp (disch := omega) only [r183_95, r183_96, r183_98, r183_101, r183_104, r183_107, r183_108, r183_110, r183_113, r183_116, r183_119, r183_120, r183_122, r183_125, m179, t1, t2, kdC, kdM, rpC, rpM, q_rs, q_rn, Option.toList_some, Option.toList_none, List.cons_append, List.nil_append, true_and, and_true, eq_self, ↓reduceIte, not_true_eq_false, not_false_eq_true, Nat.reduceEqDiff, Nat.reduceLeDiff, Nat.reduceLT, Nat.reduceAdd, Nat.reduceMul, Nat.reduceSub, false_or, or_false, true_or, or_true, false_and, and_false, reduceCtorEq, q_n0, q_n1, q_em, q_em2, q_b0, q_b1, Classical.not_not, nI_add, pk_mul, nI_clamp, q_vp, nI_eq, nI_leI, nI_ltI, q_sub, Nat.reduceAdd]
          · have t1 := fun F d => m176n o a2 zm (show ¬ mcJ B n j1 = nI 160 by rw [mc60 o]; omega) d F
            have t2 := fun F d => m176n o a2 zm (show ¬ mcJ B n j1 = nI 162 by rw [mc62 o]; omega) d F
            have t3 := fun F d => m177y o a2 zm (show mcJ B n j1 = nI 161 by rw [mc61 o]; exact ht) d F
            simp (disch := omega) only [r183_95, r183_96, r183_98, r183_101, r183_104, r183_107, r183_108, r183_110, r183_113, r183_116, r183_119, r183_120, r183_122, r183_125, m179, t1, t2, t3, kdC, kdM, rpC, rpM, q_rs, q_rn, Option.toList_some, Option.toList_none, List.cons_append, List.nil_append, true_and, and_true, eq_self, ↓reduceIte, not_true_eq_false, not_false_eq_true, Nat.reduceEqDiff, Nat.reduceLeDiff, Nat.reduceLT, Nat.reduceAdd, Nat.reduceMul, Nat.reduceSub, false_or, or_false, true_or, or_true, false_and, and_false, reduceCtorEq, q_n0, q_n1, q_em, q_em2, q_b0, q_b1, Classical.not_not, nI_add, pk_mul, nI_clamp, q_vp, nI_eq, nI_leI, nI_ltI, q_sub, Nat.reduceAdd]
        rcases se (j1 + 1) p1 (z + cs1.length) (by omega) a3 (by omega) with ⟨j2, p2, cs2, f1, f2, f3, f4, f5, ⟨f6, f7⟩, f8⟩ | ⟨k, f1, f2, f3⟩
        · left
          refine ⟨j2, p2, cs1 ++ (cs2 ++ [stp 0 op]), by omega, f2, f3, ?_, nn_app a5 (nn_app f5 (nn_1 (by omega) (by omega))), ⟨fun h cn r => ?_, fun h zm => ?_⟩, ?_⟩
          · rw [List.length_append, List.length_append]
            show cs1.length + (cs2.length + 1) ≤ _
            omega
          · obtain ⟨h2, e1, e2, e3, e4, e5⟩ := a6 h cn r
            obtain ⟨h3, b1, b2, b3, b4⟩ := c43r o e2
            obtain ⟨h4, g1, g2, g3, g4, g5⟩ := f6 h3 cn b2
            have h47 := fun F d => c47 g2.2.2.1 (show z + cs1.length + cs2.length < 400 by omega) (w := 0) (by omega) (show op < 16 by omega) d F
            refine ⟨em h4 (z + cs1.length + cs2.length) (stp 0 op), e1.trans ((av_rc b1).trans (g1.trans (em_x _))), ?_, ?_, fun i hi => by rw [em_g, if_neg (by omega), g4 i (by omega), b3, e4 i hi], fun D F v2 v3 hD => ?_⟩
            · rw [List.length_append, List.length_append, show z + (cs1.length + (cs2.length + [stp 0 op].length)) = z + cs1.length + cs2.length + 1 by show z + (cs1.length + (cs2.length + 1)) = _; omega]
              exact em_r g2 _
            · rw [AT_app, AT_app]
              refine ⟨AT_cg (fun i _ hi => by rw [em_g, if_neg (by omega), g4 i (by omega), b3]) e3, AT_cg (fun i _ hi => by rw [em_g, if_neg (by omega)]) g3, AT_1.mpr (by rw [em_g, if_pos rfl])⟩
            · obtain ⟨D', rfl⟩ : ∃ d, D = d + 3 := ⟨D - 3, by unfold DPl at hD; omega⟩
              rw [show D' + 3 = D' + 1 + 2 by omega, hfst h cn _ h2 r e5 (D' + 1) F v2 v3 hD, hsec h2 h3 cn e2 b4 D' _]
              have g5' := fun F => g5 (D' + 1) F (by unfold DPl at hD; unfold DSm; omega)
              simp (disch := omega) only [r53_62, r53_63, r53_64, r53_67, r53_70, r53_71, r53_72, r53_73, r53_74, r53_75, r53_78, r53_79, r53_80, g5', h47, kdC, kdM, rpC, rpM, q_rs, q_rn, Option.toList_some, Option.toList_none, List.cons_append, List.nil_append, true_and, and_true, eq_self, ↓reduceIte, not_true_eq_false, not_false_eq_true, Nat.reduceEqDiff, Nat.reduceLeDiff, Nat.reduceLT, Nat.reduceAdd, Nat.reduceMul, Nat.reduceSub, false_or, or_false, true_or, or_true, false_and, and_false, reduceCtorEq, q_n0, q_n1, q_em, q_em2, q_b0, q_b1, Classical.not_not]
          · obtain ⟨h2, e1, e2, e3⟩ := a7 h zm
            obtain ⟨h4, g1, g2, g3⟩ := f7 (sI h2 101 14 (nI (j1 + 1))) (MS_t e2)
            refine ⟨h4, e1.trans (((FrS.refl h2).sI _ rfl).trans g1), g2, fun D F v3 hD => ?_⟩
            obtain ⟨D', rfl⟩ : ∃ d, D = d + 3 := ⟨D - 3, by unfold DPl at hD; omega⟩
            obtain ⟨v3', hx⟩ := hms h h2 zm e3 (D' + 2) F v3 hD
            rw [hx, htk h2 e2 D' F v3']
            have g3' := fun F => g3 (D' + 2) F (by unfold DPl at hD; unfold DSm; omega)
            simp (disch := omega) only [r183_128, r183_129, r183_130, r183_133, g3', kdC, kdM, rpC, rpM, q_rs, q_rn, Option.toList_some, Option.toList_none, List.cons_append, List.nil_append, true_and, and_true, eq_self, ↓reduceIte, not_true_eq_false, not_false_eq_true, Nat.reduceEqDiff, Nat.reduceLeDiff, Nat.reduceLT, Nat.reduceAdd, Nat.reduceMul, Nat.reduceSub, false_or, or_false, true_or, or_true, false_and, and_false, reduceCtorEq, q_n0, q_n1, q_em, q_em2, q_b0, q_b1, Classical.not_not]
          · have := tsem_c o (dep := dep) hj a2 cb hop a8 f8
            intro c v e o' env cx
            obtain ⟨r, r1, r2⟩ := this c v e o' env cx
            exact ⟨r, r1, fun N hN => r2 N (by unfold fuQ at hN; unfold fuP; omega)⟩
        · right
          refine ⟨k, f1, fun h cn r => ?_, fun h zm => ?_⟩
          · obtain ⟨h2, e1, e2, e3, e4, e5⟩ := a6 h cn r
            obtain ⟨h3, b1, b2, b3, b4⟩ := c43r o e2
            obtain ⟨h4, g1, g2, g5⟩ := f2 h3 cn b2
            refine ⟨h4, e1.trans ((av_rc b1).trans g1), g2, fun D F v2 v3 hD => ?_⟩
            obtain ⟨D', rfl⟩ : ∃ d, D = d + 3 := ⟨D - 3, by unfold DPl at hD; omega⟩
            rw [show D' + 3 = D' + 1 + 2 by omega, hfst h cn _ h2 r e5 (D' + 1) F v2 v3 hD, hsec h2 h3 cn e2 b4 D' _]
            have g5' := fun F => g5 (D' + 1) F (by unfold DPl at hD; unfold DSm; omega)
            simp (disch := omega) only [r53_62, r53_63, r53_64, r53_67, r53_70, r53_71, r53_72, r53_73, r53_74, r53_75, r53_78, r53_79, r53_80, g5', kdC, kdM, rpC, rpM, q_rs, q_rn, Option.toList_some, Option.toList_none, List.cons_append, List.nil_append, true_and, and_true, eq_self, ↓reduceIte, not_true_eq_false, not_false_eq_true, Nat.reduceEqDiff, Nat.reduceLeDiff, Nat.reduceLT, Nat.reduceAdd, Nat.reduceMul, Nat.reduceSub, false_or, or_false, true_or, or_true, false_and, and_false, reduceCtorEq, q_n0, q_n1, q_em, q_em2, q_b0, q_b1, Classical.not_not]
          · obtain ⟨h2, e1, e2, e3⟩ := a7 h zm
            obtain ⟨h4, g1, g2, g3⟩ := f3 (sI h2 101 14 (nI (j1 + 1))) (MS_t e2)
            refine ⟨h4, e1.trans (((FrS.refl h2).sI _ rfl).trans g1), g2, fun D F v3 hD => ?_⟩
            obtain ⟨D', rfl⟩ : ∃ d, D = d + 3 := ⟨D - 3, by unfold DPl at hD; omega⟩
            obtain ⟨v3', hx⟩ := hms h h2 zm e3 (D' + 2) F v3 hD
            rw [hx, htk h2 e2 D' F v3']
            have g3' := fun F => g3 (D' + 2) F (by unfold DPl at hD; unfold DSm; omega)
            simp (disch := omega) only [r183_128, r183_129, r183_130, r183_133, g3', kdC, kdM, rpC, rpM, q_rs, q_rn, Option.toList_some, Option.toList_none, List.cons_append, List.nil_append, true_and, and_true, eq_self, ↓reduceIte, not_true_eq_false, not_false_eq_true, Nat.reduceEqDiff, Nat.reduceLeDiff, Nat.reduceLT, Nat.reduceAdd, Nat.reduceMul, Nat.reduceSub, false_or, or_false, true_or, or_true, false_and, and_false, reduceCtorEq, q_n0, q_n1, q_em, q_em2, q_b0, q_b1, Classical.not_not]
      · have n0 : tg B n j1 ≠ 1060 ∧ tg B n j1 ≠ 1062 ∧ tg B n j1 ≠ 1061 := ⟨fun u => cop ⟨6, Or.inl ⟨rfl, u⟩⟩, fun u => cop ⟨7, Or.inr (Or.inl ⟨rfl, u⟩)⟩, fun u => cop ⟨8, Or.inr (Or.inr ⟨rfl, u⟩)⟩⟩
        right
        refine ⟨j1, a2, fun h cn r => ?_, fun h zm => ?_⟩
        · obtain ⟨h2, e1, e2, e3, e4, e5⟩ := a6 h cn r
          refine ⟨h2, e1, e2.fc (by omega), fun D F v2 v3 hD => ?_⟩
          obtain ⟨D', rfl⟩ : ∃ d, D = d + 2 := ⟨D - 2, by unfold DPl at hD; omega⟩
          have k1 := fun F d => c42 o e2 (u := 60) (by omega) d F
          have k2 := fun F d => c42 o e2 (u := 62) (by omega) d F
          have k3 := fun F d => c42 o e2 (u := 61) (by omega) d F
          rw [q_bf n0.1] at k1
          rw [q_bf n0.2.1] at k2
          rw [q_bf n0.2.2] at k3
          rw [hfst h cn _ h2 r e5 D' F v2 v3 hD]
          simp (disch := omega) only [r53_5, r53_8, r53_9, r53_10, r53_11, r53_13, r53_16, r53_19, r53_21, r53_24, r53_25, r53_27, r53_30, r53_33, r53_35, r53_38, r53_40, r53_41, r53_42, r53_44, r53_47, r53_48, r53_50, r53_53, r53_56, r53_57, k1, k2, k3, kdC, kdM, rpC, rpM, q_rs, q_rn, Option.toList_some, Option.toList_none, List.cons_append, List.nil_append, true_and, and_true, eq_self, ↓reduceIte, not_true_eq_false, not_false_eq_true, Nat.reduceEqDiff, Nat.reduceLeDiff, Nat.reduceLT, Nat.reduceAdd, Nat.reduceMul, Nat.reduceSub, false_or, or_false, true_or, or_true, false_and, and_false, reduceCtorEq, q_n0, q_n1, q_em, q_em2, q_b0, q_b1, Classical.not_not, nI_add, pk_mul, nI_clamp, q_vp, nI_eq, nI_leI, nI_ltI, q_sub]
        · obtain ⟨h2, e1, e2, e3⟩ := a7 h zm
          have t1 := fun F d => m176n o a2 e2 (show ¬ mcJ B n j1 = nI 160 by rw [mc60 o]; exact n0.1) d F
          have t2 := fun F d => m176n o a2 e2 (show ¬ mcJ B n j1 = nI 162 by rw [mc62 o]; exact n0.2.1) d F
          have t3 := fun F d => m177n o a2 e2 (show ¬ mcJ B n j1 = nI 161 by rw [mc61 o]; exact n0.2.2) d F
          have t4 := fun F d => m184x o (MX_f (h := h2) (B := B) (n := n) (j := j1)) (nI dep) d F
          refine ⟨sI h2 101 16 (nI (tpl B n j1)), e1.sI _ rfl, MX_f, fun D F v3 hD => ?_⟩
          obtain ⟨D', rfl⟩ : ∃ d, D = d + 5 := ⟨D - 5, by unfold DPl at hD; omega⟩
          obtain ⟨v3', hx⟩ := hms h h2 zm e3 (D' + 4) F v3 hD
          rw [hx]
          simp (disch := omega) only [r183_95, r183_96, r183_98, r183_101, r183_104, r183_107, r183_108, r183_110, r183_113, r183_116, r183_119, r183_120, r183_122, r183_125, r183_128, r183_129, r183_130, r183_133, m179, t1, t2, t3, t4, kdC, kdM, rpC, rpM, q_rs, q_rn, Option.toList_some, Option.toList_none, List.cons_append, List.nil_append, true_and, and_true, eq_self, ↓reduceIte, not_true_eq_false, not_false_eq_true, Nat.reduceEqDiff, Nat.reduceLeDiff, Nat.reduceLT, Nat.reduceAdd, Nat.reduceMul, Nat.reduceSub, false_or, or_false, true_or, or_true, false_and, and_false, reduceCtorEq, q_n0, q_n1, q_em, q_em2, q_b0, q_b1, Classical.not_not, nI_add, pk_mul, nI_clamp, q_vp, nI_eq, nI_leI, nI_ltI, q_sub, Nat.reduceAdd]
    · right
      refine ⟨k, a1, fun h cn r => ?_, fun h zm => ?_⟩
      · obtain ⟨h2, e1, e2, e5⟩ := a2 h cn r
        refine ⟨h2, e1, e2, fun D F v2 v3 hD => ?_⟩
        obtain ⟨D', rfl⟩ : ∃ d, D = d + 2 := ⟨D - 2, by unfold DPl at hD; omega⟩
        rw [hfst h cn _ h2 r e5 D' F v2 v3 hD]
        simp (disch := omega) only [r53_5, r53_8, r53_9, r53_10, r53_11, r53_13, r53_16, r53_19, r53_21, r53_24, r53_25, r53_27, r53_30, r53_33, r53_35, r53_38, r53_40, r53_41, r53_42, r53_44, r53_47, r53_48, r53_50, r53_53, r53_56, r53_57, kdC, kdM, rpC, rpM, q_rs, q_rn, Option.toList_some, Option.toList_none, List.cons_append, List.nil_append, true_and, and_true, eq_self, ↓reduceIte, not_true_eq_false, not_false_eq_true, Nat.reduceEqDiff, Nat.reduceLeDiff, Nat.reduceLT, Nat.reduceAdd, Nat.reduceMul, Nat.reduceSub, false_or, or_false, true_or, or_true, false_and, and_false, reduceCtorEq, q_n0, q_n1, q_em, q_em2, q_b0, q_b1, Classical.not_not]
      · obtain ⟨h2, e1, e2, e3⟩ := a3 h zm
        have t1 := fun c F d => m176x o e2 c d F
        have t3 := fun c F d => m177x o e2 c d F
        have t4 := fun F d => m184x o e2 (nI dep) d F
        refine ⟨h2, e1, e2, fun D F v3 hD => ?_⟩
        obtain ⟨D', rfl⟩ : ∃ d, D = d + 5 := ⟨D - 5, by unfold DPl at hD; omega⟩
        obtain ⟨v3', hx⟩ := hms h h2 zm e3 (D' + 4) F v3 hD
        rw [hx]
        simp (disch := omega) only [r183_95, r183_96, r183_98, r183_101, r183_104, r183_107, r183_108, r183_110, r183_113, r183_116, r183_119, r183_120, r183_122, r183_125, r183_128, r183_129, r183_130, r183_133, m179, t1, t3, t4, kdC, kdM, rpC, rpM, q_rs, q_rn, Option.toList_some, Option.toList_none, List.cons_append, List.nil_append, true_and, and_true, eq_self, ↓reduceIte, not_true_eq_false, not_false_eq_true, Nat.reduceEqDiff, Nat.reduceLeDiff, Nat.reduceLT, Nat.reduceAdd, Nat.reduceMul, Nat.reduceSub, false_or, or_false, true_or, or_true, false_and, and_false, reduceCtorEq, q_n0, q_n1, q_em, q_em2, q_b0, q_b1, Classical.not_not, nI_add, pk_mul, nI_clamp, q_vp, nI_eq, nI_leI, nI_ltI, q_sub, Nat.reduceAdd]
end PM
