/-! reading a part and a SUM, both -/
def FC (h : Hp) (B : Nat → Int32) (n k : Nat) : Prop := gI h 76 5 = nI (tpl B n k) ∧ ∃ zz, zz ≤ 400 ∧ gI h 76 9 = nI zz
section JJ
variable (B : Nat → Int32) (n m : Nat)
/-- both read, from token j to j', with p to p' parts, the class writing steps cs at z -/
def JOK (Mc Mm DD dep j p z j' p' : Nat) (cs : List Int32) : Prop :=
  (∀ h cn, RC h B n j p z cn → ∃ h', FrS rcS h h' ∧ RC h' B n j' p' (z + cs.length) cn ∧ AT (gI h' 78) z cs ∧ (∀ i, i < z → gI h' 78 i = gI h 78 i) ∧ ∀ D F, DD ≤ D → cwp true D Mc [.ref 76, .int (nI dep)] h F = F (some (.int (nI 1))) h') ∧
  ∀ h, MS h B n m j p → ∃ h', FrS psS h h' ∧ MS h' B n m j' p' ∧ ∀ D F, DD ≤ D → cwp true D Mm [.ref 101, .int (nI dep)] h F = F none h'
/-- both find a fault at token k -/
def JNO (Mc Mm DD dep j p z k : Nat) : Prop :=
  (∀ h cn, RC h B n j p z cn → ∃ h', FrS rcS h h' ∧ FC h' B n k ∧ ∀ D F, DD ≤ D → cwp true D Mc [.ref 76, .int (nI dep)] h F = F (some (.int (nI 0))) h') ∧
  ∀ h, MS h B n m j p → ∃ h', FrS psS h h' ∧ MX h' B n k ∧ ∀ D F, DD ≤ D → cwp true D Mm [.ref 101, .int (nI dep)] h F = F none h'
def DPt (dep : Nat) : Nat := 3 * (8 - dep) + 4
def DSm (dep : Nat) : Nat := 3 * (8 - dep) + 6
def fuP (dep : Nat) : Nat := 3 * (8 - dep) + 1
/-- steps that are no less than 0 -/
def nnL (cs : List Int32) : Prop := ∀ x, x ∈ cs → ¬ x < nI 0
def PEx (dep : Nat) : Prop := ∀ j p z, j ≤ m → p ≤ 50 → z ≤ j → (∃ j' p' cs, j < j' ∧ j' ≤ m ∧ p' ≤ 50 ∧ cs.length ≤ j' - j ∧ nnL cs ∧ JOK B n m 57 186 (DPt dep) dep j p z j' p' cs ∧ SEM B n m 2 (fuP dep) (2 * dep + 4) j z cs j') ∨ ∃ k, k ≤ m ∧ JNO B n m 57 186 (DPt dep) dep j p z k
def SEx (dep : Nat) : Prop := ∀ j p z, j ≤ m → p ≤ 50 → z ≤ j → (∃ j' p' cs, j < j' ∧ j' ≤ m ∧ p' ≤ 50 ∧ cs.length ≤ j' - j ∧ nnL cs ∧ JOK B n m 54 184 (DSm dep) dep j p z j' p' cs ∧ SEM B n m 0 (fuP dep + 2) (2 * dep + 2) j z cs j') ∨ ∃ k, k ≤ m ∧ JNO B n m 54 184 (DSm dep) dep j p z k
end JJ
section JP
variable {B : Nat → Int32} {n m : Nat}
theorem RC.fc {h : Hp} {j p z cn : Nat} (r : RC h B n j p z cn) (hz : z ≤ 400) : FC h B n j := ⟨r.1.2.2.1, z, hz, r.2.2.1⟩
theorem c55f {h : Hp} {k : Nat} (f : FC h B n k) (x : Option Nat) (hx : ∀ y, x = some y → y < 16) : ∃ h', FrS rcS h h' ∧ FC h' B n k ∧ ∀ d F, cwp true (d + 1) 55 [.ref 76, .int (opI x)] h F = F none h' := by
  obtain ⟨f1, zz, f2, f3⟩ := f
  cases x with
  | none => exact ⟨h, FrS.refl h, ⟨f1, zz, f2, f3⟩, fun d F => c55n d F⟩
  | some op =>
    by_cases c : zz < 400
    · refine ⟨em h zz (stp 0 op), em_x _, ⟨?_, zz + 1, by omega, ?_⟩, fun d F => c55s f3 c (hx op rfl) d F⟩
      · unfold em; rw [q_gm (by omega), q_gn (by omega)]; exact f1
      · unfold em; rw [q_gs]
    · obtain rfl : zz = 400 := by omega
      have ho := hx op rfl
      refine ⟨h, FrS.refl h, ⟨f1, 400, f2, f3⟩, fun d F => ?_⟩
      show cwp true (d + 1) 55 [.ref 76, .int (nI op)] h F = _
      simp (disch := omega) only [e55, r55_0, r55_1, r55_2, r55_5, r55_6, r55_7, r55_8, r55_11, r55_12, e47, r47_0, r47_1, r47_4, r47_5, r47_6, r47_7, r47_10, r47_11, r47_14, r47_15, r47_18, r47_19, r47_20, r47_21, r47_22, r47_23, r47_24, r47_25, r47_26, r47_27, r47_30, r47_31, r47_32, r47_35, r47_36, f3, q_nm, kdC, kdM, rpC, rpM, q_rs, q_rn, Option.toList_some, Option.toList_none, List.cons_append, List.nil_append, true_and, and_true, eq_self, ↓reduceIte, not_true_eq_false, not_false_eq_true, Nat.reduceEqDiff, Nat.reduceLeDiff, Nat.reduceLT, Nat.reduceAdd, Nat.reduceMul, Nat.reduceSub, false_or, or_false, true_or, or_true, false_and, and_false, reduceCtorEq, q_n0, q_n1, q_em, q_em2, q_b0, q_b1, Classical.not_not, nI_add, pk_mul, nI_clamp, q_vp, nI_eq, nI_leI, nI_ltI, q_sub, Nat.le_refl]
theorem c56 {h : Hp} {j p z cn : Nat} (o : TOK B n m) (r : RC h B n j p z cn) (d : Nat) (F : Po) : cwp true d 56 [.ref 76] h F = F (some (.int (opI (opT (tg B n j))))) h := by
  have h4 := r.1.2.1
  have hr := o.r j
  unfold opT
  by_cases c1 : tg B n j = 1043
  · rw [c1] at h4; rw [if_pos c1]
    have h4' : gI h 76 4 = nI 1043 := h4
    simp (disch := omega) only [e56, r56_0, r56_1, r56_4c0, r56_4c1, r56_4c2, r56_4c3, r56_4c4, r56_4c5, r56_4, r56_44, r56_45, r56_46, r56_47, r56_48, r56_49, r56_50, r56_51, r56_52, r56_53, h4', kdC, kdM, rpC, rpM, q_rs, q_rn, Option.toList_some, Option.toList_none, List.cons_append, List.nil_append, true_and, and_true, eq_self, ↓reduceIte, not_true_eq_false, not_false_eq_true, Nat.reduceEqDiff, Nat.reduceLeDiff, Nat.reduceLT, Nat.reduceAdd, Nat.reduceMul, Nat.reduceSub, false_or, or_false, true_or, or_true, false_and, and_false, reduceCtorEq, q_n0, q_n1, q_em, q_em2, q_b0, q_b1, Classical.not_not]
    rfl
  · rw [if_neg c1]
    by_cases c2 : tg B n j = 1045
    · rw [c2] at h4; rw [if_pos c2]
      have h4' : gI h 76 4 = nI 1045 := h4
      simp (disch := omega) only [e56, r56_0, r56_1, r56_4c0, r56_4c1, r56_4c2, r56_4c3, r56_4c4, r56_4c5, r56_4, r56_44, r56_45, r56_46, r56_47, r56_48, r56_49, r56_50, r56_51, r56_52, r56_53, h4', kdC, kdM, rpC, rpM, q_rs, q_rn, Option.toList_some, Option.toList_none, List.cons_append, List.nil_append, true_and, and_true, eq_self, ↓reduceIte, not_true_eq_false, not_false_eq_true, Nat.reduceEqDiff, Nat.reduceLeDiff, Nat.reduceLT, Nat.reduceAdd, Nat.reduceMul, Nat.reduceSub, false_or, or_false, true_or, or_true, false_and, and_false, reduceCtorEq, q_n0, q_n1, q_em, q_em2, q_b0, q_b1, Classical.not_not]
      rfl
    · rw [if_neg c2]
      by_cases c3 : tg B n j = 1042
      · rw [c3] at h4; rw [if_pos c3]
        have h4' : gI h 76 4 = nI 1042 := h4
        simp (disch := omega) only [e56, r56_0, r56_1, r56_4c0, r56_4c1, r56_4c2, r56_4c3, r56_4c4, r56_4c5, r56_4, r56_44, r56_45, r56_46, r56_47, r56_48, r56_49, r56_50, r56_51, r56_52, r56_53, h4', kdC, kdM, rpC, rpM, q_rs, q_rn, Option.toList_some, Option.toList_none, List.cons_append, List.nil_append, true_and, and_true, eq_self, ↓reduceIte, not_true_eq_false, not_false_eq_true, Nat.reduceEqDiff, Nat.reduceLeDiff, Nat.reduceLT, Nat.reduceAdd, Nat.reduceMul, Nat.reduceSub, false_or, or_false, true_or, or_true, false_and, and_false, reduceCtorEq, q_n0, q_n1, q_em, q_em2, q_b0, q_b1, Classical.not_not]
        rfl
      · rw [if_neg c3]
        by_cases c4 : tg B n j = 1047
        · rw [c4] at h4; rw [if_pos c4]
          have h4' : gI h 76 4 = nI 1047 := h4
          simp (disch := omega) only [e56, r56_0, r56_1, r56_4c0, r56_4c1, r56_4c2, r56_4c3, r56_4c4, r56_4c5, r56_4, r56_44, r56_45, r56_46, r56_47, r56_48, r56_49, r56_50, r56_51, r56_52, r56_53, h4', kdC, kdM, rpC, rpM, q_rs, q_rn, Option.toList_some, Option.toList_none, List.cons_append, List.nil_append, true_and, and_true, eq_self, ↓reduceIte, not_true_eq_false, not_false_eq_true, Nat.reduceEqDiff, Nat.reduceLeDiff, Nat.reduceLT, Nat.reduceAdd, Nat.reduceMul, Nat.reduceSub, false_or, or_false, true_or, or_true, false_and, and_false, reduceCtorEq, q_n0, q_n1, q_em, q_em2, q_b0, q_b1, Classical.not_not]
          rfl
        · rw [if_neg c4]
          by_cases c5 : tg B n j = 1044
          · rw [c5] at h4
            have h4' : gI h 76 4 = nI 1044 := h4
            simp (disch := omega) only [e56, r56_0, r56_1, r56_4c0, r56_4c1, r56_4c2, r56_4c3, r56_4c4, r56_4c5, r56_4, r56_44, r56_45, r56_46, r56_47, r56_48, r56_49, r56_50, r56_51, r56_52, r56_53, h4', kdC, kdM, rpC, rpM, q_rs, q_rn, Option.toList_some, Option.toList_none, List.cons_append, List.nil_append, true_and, and_true, eq_self, ↓reduceIte, not_true_eq_false, not_false_eq_true, Nat.reduceEqDiff, Nat.reduceLeDiff, Nat.reduceLT, Nat.reduceAdd, Nat.reduceMul, Nat.reduceSub, false_or, or_false, true_or, or_true, false_and, and_false, reduceCtorEq, q_n0, q_n1, q_em, q_em2, q_b0, q_b1, Classical.not_not]
            rfl
          · by_cases c6 : tg B n j = 1046
            · rw [c6] at h4
              have h4' : gI h 76 4 = nI 1046 := h4
              simp (disch := omega) only [e56, r56_0, r56_1, r56_4c0, r56_4c1, r56_4c2, r56_4c3, r56_4c4, r56_4c5, r56_4, r56_44, r56_45, r56_46, r56_47, r56_48, r56_49, r56_50, r56_51, r56_52, r56_53, h4', kdC, kdM, rpC, rpM, q_rs, q_rn, Option.toList_some, Option.toList_none, List.cons_append, List.nil_append, true_and, and_true, eq_self, ↓reduceIte, not_true_eq_false, not_false_eq_true, Nat.reduceEqDiff, Nat.reduceLeDiff, Nat.reduceLT, Nat.reduceAdd, Nat.reduceMul, Nat.reduceSub, false_or, or_false, true_or, or_true, false_and, and_false, reduceCtorEq, q_n0, q_n1, q_em, q_em2, q_b0, q_b1, Classical.not_not]
              rfl
            · have hy : (kdI (tg B n j)).toInt < 1042 ∨ 1047 < (kdI (tg B n j)).toInt := by
                unfold kdI
                by_cases q : tg B n j < 1128
                · rw [if_pos q, nI_toInt (by omega)]; omega
                · rw [if_neg q, nI_toInt (by omega)]; omega
              simp (disch := first | omega | assumption) only [e56, r56_0, r56_1, r56_4c0, r56_4c1, r56_4c2, r56_4c3, r56_4c4, r56_4c5, r56_4, r56_44, r56_45, r56_46, r56_47, r56_48, r56_49, r56_50, r56_51, r56_52, r56_53, h4, kdC, kdM, rpC, rpM, q_rs, q_rn, Option.toList_some, Option.toList_none, List.cons_append, List.nil_append, true_and, and_true, eq_self, ↓reduceIte, not_true_eq_false, not_false_eq_true, Nat.reduceEqDiff, Nat.reduceLeDiff, Nat.reduceLT, Nat.reduceAdd, Nat.reduceMul, Nat.reduceSub, false_or, or_false, true_or, or_true, false_and, and_false, reduceCtorEq, q_n0, q_n1, q_em, q_em2, q_b0, q_b1, Classical.not_not]
              rfl
theorem m186x (o : TOK B n m) {h : Hp} {k : Nat} (z : MX h B n k) (x : Int32) (d : Nat) (F : Po) : cwp true (d + 1) 186 [.ref 101, .int x] h F = F none h := by
  have h1 := fun F d => m174x o z d F
  simp (disch := omega) only [e186, r186_0, r186_1, r186_4, r186_7, r186_8, r186_9, r186_12, r186_13, r186_16, r186_17, r186_18, r186_19, r186_21, r186_24, r186_27, r186_28, r186_30, r186_33, r186_34, r186_37, r186_38, r186_41, r186_44, r186_45, r186_46, r186_47, r186_50, r186_51, r186_52, r186_55, r186_56, r186_57, r186_58, r186_59, r186_62, r186_63, r186_65, r186_68, r186_71, r186_74, r186_75, r186_77, r186_80, r186_81, r186_84, r186_85, r186_88, r186_89, r186_92, r186_95, r186_96, r186_98, r186_101, r186_102, r186_104, r186_107, r186_108, r186_111, r186_114, r186_115, r186_118, h1, kdC, kdM, rpC, rpM, q_rs, q_rn, Option.toList_some, Option.toList_none, List.cons_append, List.nil_append, true_and, and_true, eq_self, ↓reduceIte, not_true_eq_false, not_false_eq_true, Nat.reduceEqDiff, Nat.reduceLeDiff, Nat.reduceLT, Nat.reduceAdd, Nat.reduceMul, Nat.reduceSub, false_or, or_false, true_or, or_true, false_and, and_false, reduceCtorEq, q_n0, q_n1, q_em, q_em2, q_b0, q_b1, Classical.not_not]
theorem RC_p {h : Hp} {j p z cn : Nat} (r : RC h B n j p z cn) (p' : Nat) : RC (sI h 76 7 (nI p')) B n j p' z cn := by
  obtain ⟨⟨⟨r1, r2, r3⟩, r4, r5, r6⟩, r7, r8, r9⟩ := r
  exact ⟨⟨⟨by rw [q_gm (by omega)]; exact r1, fun i hi => by rw [q_gn (by omega)]; exact r2 i hi, by rw [q_gm (by omega)]; exact r3⟩, by rw [q_gm (by omega)]; exact r4, by rw [q_gm (by omega)]; exact r5, fun u => by rw [q_gm (by omega)]; exact r6 u⟩, q_gs _ _ _ _, by rw [q_gm (by omega)]; exact r8, by rw [q_gm (by omega)]; exact r9⟩
theorem part_ex (o : TOK B n m) {dep : Nat} (hdep : dep ≤ 8) (ih : dep < 8 → SEx B n m (dep + 1)) : PEx B n m dep := by
  intro j p z hj hp hz
  have hm4 := o.m400
  by_cases cb : tg B n j = 1091
  · -- brackets
    have hjm : j < m := o.l hj (by omega)
    have hmc : mcJ B n j = nI 191 := by rw [mc91 o]; exact cb
    by_cases c8 : dep = 8
    · right
      refine ⟨j, hj, fun h cn r => ⟨h, FrS.refl h, r.fc (by omega), fun D F hD => ?_⟩, fun h zm => ⟨sI h 101 16 (nI (tpl B n j)), (FrS.refl h).sI _ rfl, MX_f, fun D F hD => ?_⟩⟩
      · have h42 := fun F d => c42 o r (u := 91) (by omega) d F
        rw [q_bt cb] at h42
        obtain ⟨D', rfl⟩ : ∃ d, D = d + 1 := ⟨D - 1, by unfold DPt at hD; omega⟩
        simp (disch := omega) only [e57, r57_0, r57_1, r57_3, r57_6, r57_9, r57_10, r57_12, r57_15, r57_16, r57_17, r57_18, r57_21, r57_22, r57_23, r57_24, r57_25, r57_28, r57_31, r57_32, r57_34, r57_37, r57_40, r57_41, r57_42, r57_43, r57_46, r57_48, r57_51, r57_52, r57_55, r57_57, r57_60, r57_61, r57_64, r57_66, r57_69, r57_70, r57_71, r57_72, r57_73, r57_76, r57_77, r57_78, r57_81, r57_82, r57_83, r57_86, r57_88, r57_91, r57_92, r57_95, r57_96, r57_97, r57_100, r57_102, r57_105, r57_106, r57_109, r57_112, r57_113, r57_116, r57_118, r57_119, r57_122, r57_123, r57_124, r57_127, r57_128, h42, c8, kdC, kdM, rpC, rpM, q_rs, q_rn, Option.toList_some, Option.toList_none, List.cons_append, List.nil_append, true_and, and_true, eq_self, ↓reduceIte, not_true_eq_false, not_false_eq_true, Nat.reduceEqDiff, Nat.reduceLeDiff, Nat.reduceLT, Nat.reduceAdd, Nat.reduceMul, Nat.reduceSub, false_or, or_false, true_or, or_true, false_and, and_false, reduceCtorEq, q_n0, q_n1, q_em, q_em2, q_b0, q_b1, Classical.not_not, nI_add, pk_mul, nI_clamp, q_vp, nI_eq, nI_leI, nI_ltI, q_sub, Nat.le_refl]
      · obtain ⟨D', rfl⟩ : ∃ d, D = d + 2 := ⟨D - 2, by unfold DPt at hD; omega⟩
        have h74 := fun F d => m174 zm d F
        have h75 := fun F d => m175 o hj zm d F
        have h74x := fun F d => m174x o (MX_f (h := h) (B := B) (n := n) (j := j)) d F
        have hr := (zm.2.2.2 j (by omega)).1
        rw [hmc] at hr
        simp (disch := omega) only [e186, r186_0, r186_1, r186_4, r186_7, r186_8, r186_9, r186_12, r186_13, r186_16, r186_17, r186_18, r186_19, r186_21, r186_24, r186_27, r186_28, r186_30, r186_33, r186_34, r186_37, r186_38, r186_41, r186_44, r186_45, r186_46, r186_47, r186_50, r186_51, r186_52, r186_55, r186_56, r186_57, r186_58, r186_59, r186_62, r186_63, r186_65, r186_68, r186_71, r186_74, r186_75, r186_77, r186_80, r186_81, r186_84, r186_85, r186_88, r186_89, r186_92, r186_95, r186_96, r186_98, r186_101, r186_102, r186_104, r186_107, r186_108, r186_111, r186_114, r186_115, r186_118, h74, h75, h74x, m179, zm.1, hr, c8, kdC, kdM, rpC, rpM, q_rs, q_rn, Option.toList_some, Option.toList_none, List.cons_append, List.nil_append, true_and, and_true, eq_self, ↓reduceIte, not_true_eq_false, not_false_eq_true, Nat.reduceEqDiff, Nat.reduceLeDiff, Nat.reduceLT, Nat.reduceAdd, Nat.reduceMul, Nat.reduceSub, false_or, or_false, true_or, or_true, false_and, and_false, reduceCtorEq, q_n0, q_n1, q_em, q_em2, q_b0, q_b1, Classical.not_not, nI_add, pk_mul, nI_clamp, q_vp, nI_eq, nI_leI, nI_ltI, q_sub, show j < 401 by omega]
    · have hs := ih (by omega) (j + 1) p z (by omega) hp (by omega)
      rcases hs with ⟨j1, p1, cs, a1, a2, a3, a4, a5, ⟨a6, a7⟩, a8⟩ | ⟨k, a1, a2, a3⟩
      · by_cases ce : tg B n j1 = 1093
        · have hj1 : j1 < m := o.l a2 (by omega)
          left
          refine ⟨j1 + 1, p1, cs, by omega, by omega, a3, by omega, a5, ⟨fun h cn r => ?_, fun h zm => ?_⟩, ?_⟩
          · obtain ⟨h1, b1, b2, b3, b4⟩ := c43r o r
            obtain ⟨h2, e1, e2, e3, e4, e5⟩ := a6 h1 cn b2
            obtain ⟨h3, f1, f2, f3, f4⟩ := c43r o e2
            refine ⟨h3, (av_rc b1).trans (e1.trans (av_rc f1)), f2, by rw [f3]; exact e3, fun i hi => by rw [f3, e4 i hi, b3], fun D F hD => ?_⟩
            obtain ⟨D', rfl⟩ : ∃ d, D = d + 2 := ⟨D - 2, by unfold DPt at hD; omega⟩
            have h42 := fun F d => c42 o r (u := 91) (by omega) d F
            rw [q_bt cb] at h42
            have h42b := fun F d => c42 o e2 (u := 93) (by omega) d F
            rw [q_bt ce] at h42b
            have e5' := fun F => e5 (D' + 1) F (by unfold DPt at hD; unfold DSm; omega)
            simp (disch := omega) only [e57, r57_0, r57_1, r57_3, r57_6, r57_9, r57_10, r57_12, r57_15, r57_16, r57_17, r57_18, r57_21, r57_22, r57_23, r57_24, r57_25, r57_28, r57_31, r57_32, r57_34, r57_37, r57_40, r57_41, r57_42, r57_43, r57_46, r57_48, r57_51, r57_52, r57_55, r57_57, r57_60, r57_61, r57_64, r57_66, r57_69, r57_70, r57_71, r57_72, r57_73, r57_76, r57_77, r57_78, r57_81, r57_82, r57_83, r57_86, r57_88, r57_91, r57_92, r57_95, r57_96, r57_97, r57_100, r57_102, r57_105, r57_106, r57_109, r57_112, r57_113, r57_116, r57_118, r57_119, r57_122, r57_123, r57_124, r57_127, r57_128, h42, b4, e5', h42b, f4, kdC, kdM, rpC, rpM, q_rs, q_rn, Option.toList_some, Option.toList_none, List.cons_append, List.nil_append, true_and, and_true, eq_self, ↓reduceIte, not_true_eq_false, not_false_eq_true, Nat.reduceEqDiff, Nat.reduceLeDiff, Nat.reduceLT, Nat.reduceAdd, Nat.reduceMul, Nat.reduceSub, false_or, or_false, true_or, or_true, false_and, and_false, reduceCtorEq, q_n0, q_n1, q_em, q_em2, q_b0, q_b1, Classical.not_not, nI_add, pk_mul, nI_clamp, q_vp, nI_eq, nI_leI, nI_ltI, q_sub, show dep < 8 by omega]
          · obtain ⟨h2, e1, e2, e3⟩ := a7 (sI h 101 14 (nI (j + 1))) (MS_t zm)
            have hmc2 : mcJ B n j1 = nI 193 := by rw [mc93 o]; exact ce
            have h77 := fun F d => m177y o a2 e2 hmc2 d F
            refine ⟨sI h2 101 14 (nI (j1 + 1)), (((FrS.refl h).sI _ rfl).trans e1).sI _ rfl, MS_t e2, fun D F hD => ?_⟩
            obtain ⟨D', rfl⟩ : ∃ d, D = d + 3 := ⟨D - 3, by unfold DPt at hD; omega⟩
            have h74 := fun F d => m174 zm d F
            have hr := (zm.2.2.2 j (by omega)).1
            rw [hmc] at hr
            have e3' := fun F => e3 (D' + 2) F (by unfold DPt at hD; unfold DSm; omega)
            simp (disch := omega) only [e186, r186_0, r186_1, r186_4, r186_7, r186_8, r186_9, r186_12, r186_13, r186_16, r186_17, r186_18, r186_19, r186_21, r186_24, r186_27, r186_28, r186_30, r186_33, r186_34, r186_37, r186_38, r186_41, r186_44, r186_45, r186_46, r186_47, r186_50, r186_51, r186_52, r186_55, r186_56, r186_57, r186_58, r186_59, r186_62, r186_63, r186_65, r186_68, r186_71, r186_74, r186_75, r186_77, r186_80, r186_81, r186_84, r186_85, r186_88, r186_89, r186_92, r186_95, r186_96, r186_98, r186_101, r186_102, r186_104, r186_107, r186_108, r186_111, r186_114, r186_115, r186_118, h74, m179, zm.1, hr, e3', h77, kdC, kdM, rpC, rpM, q_rs, q_rn, Option.toList_some, Option.toList_none, List.cons_append, List.nil_append, true_and, and_true, eq_self, ↓reduceIte, not_true_eq_false, not_false_eq_true, Nat.reduceEqDiff, Nat.reduceLeDiff, Nat.reduceLT, Nat.reduceAdd, Nat.reduceMul, Nat.reduceSub, false_or, or_false, true_or, or_true, false_and, and_false, reduceCtorEq, q_n0, q_n1, q_em, q_em2, q_b0, q_b1, Classical.not_not, nI_add, pk_mul, nI_clamp, q_vp, nI_eq, nI_leI, nI_ltI, q_sub, show j < 401 by omega, show ¬ dep = 8 by omega]
          · have := sem_b o (lim' := 2 * dep + 4) (by omega) hj cb a8
            unfold fuP at *
            rw [show 3 * (8 - dep) + 1 = 3 * (8 - (dep + 1)) + 1 + 2 + 1 by omega]
            exact this
        · right
          refine ⟨j1, a2, fun h cn r => ?_, fun h zm => ?_⟩
          · obtain ⟨h1, b1, b2, b3, b4⟩ := c43r o r
            obtain ⟨h2, e1, e2, e3, e4, e5⟩ := a6 h1 cn b2
            refine ⟨h2, (av_rc b1).trans e1, e2.fc (by omega), fun D F hD => ?_⟩
            obtain ⟨D', rfl⟩ : ∃ d, D = d + 2 := ⟨D - 2, by unfold DPt at hD; omega⟩
            have h42 := fun F d => c42 o r (u := 91) (by omega) d F
            rw [q_bt cb] at h42
            have h42b := fun F d => c42 o e2 (u := 93) (by omega) d F
            rw [q_bf ce] at h42b
            have e5' := fun F => e5 (D' + 1) F (by unfold DPt at hD; unfold DSm; omega)
            simp (disch := omega) only [e57, r57_0, r57_1, r57_3, r57_6, r57_9, r57_10, r57_12, r57_15, r57_16, r57_17, r57_18, r57_21, r57_22, r57_23, r57_24, r57_25, r57_28, r57_31, r57_32, r57_34, r57_37, r57_40, r57_41, r57_42, r57_43, r57_46, r57_48, r57_51, r57_52, r57_55, r57_57, r57_60, r57_61, r57_64, r57_66, r57_69, r57_70, r57_71, r57_72, r57_73, r57_76, r57_77, r57_78, r57_81, r57_82, r57_83, r57_86, r57_88, r57_91, r57_92, r57_95, r57_96, r57_97, r57_100, r57_102, r57_105, r57_106, r57_109, r57_112, r57_113, r57_116, r57_118, r57_119, r57_122, r57_123, r57_124, r57_127, r57_128, h42, b4, e5', h42b, kdC, kdM, rpC, rpM, q_rs, q_rn, Option.toList_some, Option.toList_none, List.cons_append, List.nil_append, true_and, and_true, eq_self, ↓reduceIte, not_true_eq_false, not_false_eq_true, Nat.reduceEqDiff, Nat.reduceLeDiff, Nat.reduceLT, Nat.reduceAdd, Nat.reduceMul, Nat.reduceSub, false_or, or_false, true_or, or_true, false_and, and_false, reduceCtorEq, q_n0, q_n1, q_em, q_em2, q_b0, q_b1, Classical.not_not, nI_add, pk_mul, nI_clamp, q_vp, nI_eq, nI_leI, nI_ltI, q_sub, show dep < 8 by omega]
          · obtain ⟨h2, e1, e2, e3⟩ := a7 (sI h 101 14 (nI (j + 1))) (MS_t zm)
            have hmc2 : ¬ mcJ B n j1 = nI 193 := by rw [mc93 o]; exact ce
            have h77 := fun F d => m177n o a2 e2 hmc2 d F
            refine ⟨sI h2 101 16 (nI (tpl B n j1)), (((FrS.refl h).sI _ rfl).trans e1).sI _ rfl, MX_f, fun D F hD => ?_⟩
            obtain ⟨D', rfl⟩ : ∃ d, D = d + 3 := ⟨D - 3, by unfold DPt at hD; omega⟩
            have h74 := fun F d => m174 zm d F
            have hr := (zm.2.2.2 j (by omega)).1
            rw [hmc] at hr
            have e3' := fun F => e3 (D' + 2) F (by unfold DPt at hD; unfold DSm; omega)
            simp (disch := omega) only [e186, r186_0, r186_1, r186_4, r186_7, r186_8, r186_9, r186_12, r186_13, r186_16, r186_17, r186_18, r186_19, r186_21, r186_24, r186_27, r186_28, r186_30, r186_33, r186_34, r186_37, r186_38, r186_41, r186_44, r186_45, r186_46, r186_47, r186_50, r186_51, r186_52, r186_55, r186_56, r186_57, r186_58, r186_59, r186_62, r186_63, r186_65, r186_68, r186_71, r186_74, r186_75, r186_77, r186_80, r186_81, r186_84, r186_85, r186_88, r186_89, r186_92, r186_95, r186_96, r186_98, r186_101, r186_102, r186_104, r186_107, r186_108, r186_111, r186_114, r186_115, r186_118, h74, m179, zm.1, hr, e3', h77, kdC, kdM, rpC, rpM, q_rs, q_rn, Option.toList_some, Option.toList_none, List.cons_append, List.nil_append, true_and, and_true, eq_self, ↓reduceIte, not_true_eq_false, not_false_eq_true, Nat.reduceEqDiff, Nat.reduceLeDiff, Nat.reduceLT, Nat.reduceAdd, Nat.reduceMul, Nat.reduceSub, false_or, or_false, true_or, or_true, false_and, and_false, reduceCtorEq, q_n0, q_n1, q_em, q_em2, q_b0, q_b1, Classical.not_not, nI_add, pk_mul, nI_clamp, q_vp, nI_eq, nI_leI, nI_ltI, q_sub, show j < 401 by omega, show ¬ dep = 8 by omega]
      · right
        refine ⟨k, a1, fun h cn r => ?_, fun h zm => ?_⟩
        · obtain ⟨h1, b1, b2, b3, b4⟩ := c43r o r
          obtain ⟨h2, e1, e2, e5⟩ := a2 h1 cn b2
          refine ⟨h2, (av_rc b1).trans e1, e2, fun D F hD => ?_⟩
          obtain ⟨D', rfl⟩ : ∃ d, D = d + 2 := ⟨D - 2, by unfold DPt at hD; omega⟩
          have h42 := fun F d => c42 o r (u := 91) (by omega) d F
          rw [q_bt cb] at h42
          have e5' := fun F => e5 (D' + 1) F (by unfold DPt at hD; unfold DSm; omega)
          simp (disch := omega) only [e57, r57_0, r57_1, r57_3, r57_6, r57_9, r57_10, r57_12, r57_15, r57_16, r57_17, r57_18, r57_21, r57_22, r57_23, r57_24, r57_25, r57_28, r57_31, r57_32, r57_34, r57_37, r57_40, r57_41, r57_42, r57_43, r57_46, r57_48, r57_51, r57_52, r57_55, r57_57, r57_60, r57_61, r57_64, r57_66, r57_69, r57_70, r57_71, r57_72, r57_73, r57_76, r57_77, r57_78, r57_81, r57_82, r57_83, r57_86, r57_88, r57_91, r57_92, r57_95, r57_96, r57_97, r57_100, r57_102, r57_105, r57_106, r57_109, r57_112, r57_113, r57_116, r57_118, r57_119, r57_122, r57_123, r57_124, r57_127, r57_128, h42, b4, e5', kdC, kdM, rpC, rpM, q_rs, q_rn, Option.toList_some, Option.toList_none, List.cons_append, List.nil_append, true_and, and_true, eq_self, ↓reduceIte, not_true_eq_false, not_false_eq_true, Nat.reduceEqDiff, Nat.reduceLeDiff, Nat.reduceLT, Nat.reduceAdd, Nat.reduceMul, Nat.reduceSub, false_or, or_false, true_or, or_true, false_and, and_false, reduceCtorEq, q_n0, q_n1, q_em, q_em2, q_b0, q_b1, Classical.not_not, nI_add, pk_mul, nI_clamp, q_vp, nI_eq, nI_leI, nI_ltI, q_sub, show dep < 8 by omega]
        · obtain ⟨h2, e1, e2, e3⟩ := a3 (sI h 101 14 (nI (j + 1))) (MS_t zm)
          have h77 := fun F d => m177x o e2 (nI 193) d F
          refine ⟨h2, ((FrS.refl h).sI _ rfl).trans e1, e2, fun D F hD => ?_⟩
          obtain ⟨D', rfl⟩ : ∃ d, D = d + 3 := ⟨D - 3, by unfold DPt at hD; omega⟩
          have h74 := fun F d => m174 zm d F
          have hr := (zm.2.2.2 j (by omega)).1
          rw [hmc] at hr
          have e3' := fun F => e3 (D' + 2) F (by unfold DPt at hD; unfold DSm; omega)
          simp (disch := omega) only [e186, r186_0, r186_1, r186_4, r186_7, r186_8, r186_9, r186_12, r186_13, r186_16, r186_17, r186_18, r186_19, r186_21, r186_24, r186_27, r186_28, r186_30, r186_33, r186_34, r186_37, r186_38, r186_41, r186_44, r186_45, r186_46, r186_47, r186_50, r186_51, r186_52, r186_55, r186_56, r186_57, r186_58, r186_59, r186_62, r186_63, r186_65, r186_68, r186_71, r186_74, r186_75, r186_77, r186_80, r186_81, r186_84, r186_85, r186_88, r186_89, r186_92, r186_95, r186_96, r186_98, r186_101, r186_102, r186_104, r186_107, r186_108, r186_111, r186_114, r186_115, r186_118, h74, m179, zm.1, hr, e3', h77, kdC, kdM, rpC, rpM, q_rs, q_rn, Option.toList_some, Option.toList_none, List.cons_append, List.nil_append, true_and, and_true, eq_self, ↓reduceIte, not_true_eq_false, not_false_eq_true, Nat.reduceEqDiff, Nat.reduceLeDiff, Nat.reduceLT, Nat.reduceAdd, Nat.reduceMul, Nat.reduceSub, false_or, or_false, true_or, or_true, false_and, and_false, reduceCtorEq, q_n0, q_n1, q_em, q_em2, q_b0, q_b1, Classical.not_not, nI_add, pk_mul, nI_clamp, q_vp, nI_eq, nI_leI, nI_ltI, q_sub, show j < 401 by omega, show ¬ dep = 8 by omega]
  · have hmb : ¬ mcJ B n j = nI 191 := by rw [mc91 o]; exact cb
    have hr23 := o.r j
    by_cases cl : 8 ≤ tg B n j ∧ tg B n j ≤ 20
    · have hjm : j < m := o.l hj (by omega)
      -- the model's code
      have hmod : (mcJ B n j = nI 50 ∧ ∃ q, q ≤ 1000 ∧ mvJ B n j = nI q) ∨ (¬ mcJ B n j = nI 50 ∧ ∃ q, 9 ≤ q ∧ q ≤ 20 ∧ mcJ B n j = nI q) := by
        rcases mc_all o j with ⟨q1, q2⟩ | ⟨q1, q2, q3, q4⟩ | ⟨q1, _⟩ | ⟨q1, _⟩ | ⟨u, _, q1, _⟩
        · right
          exact ⟨by rw [q2, nI_eq (by omega) (by omega)]; omega, tg B n j + 1, by omega, by omega, q2⟩
        · left; exact ⟨q2, _, q4, q3⟩
        · omega
        · omega
        · omega
      have k1 : ¬ kdI (tg B n j) < nI 8 := by rw [kdI_lt hr23 (by omega)]; omega
      have k2 : ¬ nI 20 < kdI (tg B n j) := by rw [kdI_gt hr23 (by omega)]; omega
      have k3 : kdI (tg B n j) = nI (tg B n j) := by unfold kdI; rw [if_pos (by omega)]
      by_cases cp : p < 50
      · left
        refine ⟨j + 1, p + 1, [if tg B n j = 20 then stp (tnm B n j) 0 else stp (tg B n j - 8) 1], by omega, by omega, by omega, by show 1 ≤ j + 1 - j; omega, ?_, ⟨fun h cn r => ?_, fun h zm => ?_⟩, ?_⟩
        · intro x hx
          rw [List.mem_singleton] at hx
          rw [hx]
          by_cases c20 : tg B n j = 20
          · rw [if_pos c20]
            rcases mc_all o j with ⟨q1, q2⟩ | ⟨q1, q2, q3, q4⟩ | ⟨q1, _⟩ | ⟨q1, _⟩ | ⟨u, _, q1, _⟩
            · omega
            · exact stp_p (by omega) (by omega)
            · omega
            · omega
            · omega
          · rw [if_neg c20]; exact stp_p (by omega) (by omega)
        · have r1 := RC_p r (p + 1)
          have h42 := fun F d => c42 o r (u := 91) (by omega) d F
          rw [q_bf cb] at h42
          have h4 := r.1.2.1
          have g4 := r1.1.2.1
          have g9 := r1.2.2.1
          have hst : ∃ w op, w < 1000000 ∧ op < 16 ∧ (if tg B n j = 20 then stp (tnm B n j) 0 else stp (tg B n j - 8) 1) = stp w op ∧ ∀ D F, 4 ≤ D → cwp true D 57 [.ref 76, .int (nI dep)] h F = wp true D 57 119 [.ref 76, .int (nI dep)] [.int (nI w), .int (nI op), .ref 76] (sI h 76 7 (nI (p + 1))) F := by
            by_cases c20 : tg B n j = 20
            · have g6 := r1.1.2.2.2 c20
              have h20 : kdI (tg B n j) = nI 20 := by rw [c20]; rfl
              rcases mc_all o j with ⟨q1, q2⟩ | ⟨q1, q2, q3, q4⟩ | ⟨q1, _⟩ | ⟨q1, _⟩ | ⟨u, _, q1, _⟩
              · omega
              · refine ⟨tnm B n j, 0, by omega, by omega, by rw [if_pos c20], fun D F hD => ?_⟩
                obtain ⟨D', rfl⟩ : ∃ d, D = d + 1 := ⟨D - 1, by omega⟩
                rw [h20] at g4 h4
                simp (disch := omega) only [r57_0, r57_1, r57_3, r57_6, r57_9, r57_10, r57_12, r57_15, r57_16, r57_17, r57_18, r57_21, r57_22, r57_23, r57_24, r57_25, r57_28, r57_31, r57_32, r57_34, r57_37, r57_40, r57_41, r57_42, r57_43, r57_46, r57_48, r57_51, r57_52, r57_55, r57_57, r57_60, r57_61, r57_64, r57_66, r57_69, r57_70, r57_71, r57_72, r57_73, r57_76, r57_77, r57_78, r57_81, r57_82, r57_83, r57_86, r57_88, r57_91, r57_92, r57_95, r57_96, r57_97, r57_100, r57_102, r57_105, r57_106, r57_109, r57_112, e57, h42, h4, g4, g6, r.2.1, kdC, kdM, rpC, rpM, q_rs, q_rn, Option.toList_some, Option.toList_none, List.cons_append, List.nil_append, true_and, and_true, eq_self, ↓reduceIte, not_true_eq_false, not_false_eq_true, Nat.reduceEqDiff, Nat.reduceLeDiff, Nat.reduceLT, Nat.reduceAdd, Nat.reduceMul, Nat.reduceSub, false_or, or_false, true_or, or_true, false_and, and_false, reduceCtorEq, q_n0, q_n1, q_em, q_em2, q_b0, q_b1, Classical.not_not, nI_add, pk_mul, nI_clamp, q_vp, nI_eq, nI_leI, nI_ltI, q_sub, show p < 50 by omega]
              · omega
              · omega
              · omega
            · refine ⟨tg B n j - 8, 1, by omega, by omega, by rw [if_neg c20], fun D F hD => ?_⟩
              obtain ⟨D', rfl⟩ : ∃ d, D = d + 1 := ⟨D - 1, by omega⟩
              rw [k3] at g4 h4
              simp (disch := omega) only [r57_0, r57_1, r57_3, r57_6, r57_9, r57_10, r57_12, r57_15, r57_16, r57_17, r57_18, r57_21, r57_22, r57_23, r57_24, r57_25, r57_28, r57_31, r57_32, r57_34, r57_37, r57_40, r57_41, r57_42, r57_43, r57_46, r57_48, r57_51, r57_52, r57_55, r57_57, r57_60, r57_61, r57_64, r57_66, r57_69, r57_70, r57_71, r57_72, r57_73, r57_76, r57_77, r57_78, r57_81, r57_82, r57_83, r57_86, r57_88, r57_91, r57_92, r57_95, r57_96, r57_97, r57_100, r57_102, r57_105, r57_106, r57_109, r57_112, r57_113, r57_116, r57_118, e57, h42, h4, g4, r.2.1, kdC, kdM, rpC, rpM, q_rs, q_rn, Option.toList_some, Option.toList_none, List.cons_append, List.nil_append, true_and, and_true, eq_self, ↓reduceIte, not_true_eq_false, not_false_eq_true, Nat.reduceEqDiff, Nat.reduceLeDiff, Nat.reduceLT, Nat.reduceAdd, Nat.reduceMul, Nat.reduceSub, false_or, or_false, true_or, or_true, false_and, and_false, reduceCtorEq, q_n0, q_n1, q_em, q_em2, q_b0, q_b1, Classical.not_not, nI_add, pk_mul, nI_clamp, q_vp, nI_eq, nI_leI, nI_ltI, q_sub, show p < 50 by omega, show ¬ tg B n j < 8 by omega, show ¬ 20 < tg B n j by omega, c20]
          obtain ⟨w, op, w1, w2, w3, w4⟩ := hst
          rw [w3]
          have h47 := fun F d => c47 g9 (show z < 400 by omega) w1 w2 d F
          have r2 := em_r r1 (stp w op)
          obtain ⟨h3, f1, f2, f3, f4⟩ := c43r o r2
          refine ⟨h3, ((FrS.refl h).sI _ rfl).trans ((em_x _).trans (av_rc f1)), f2, ?_, fun i hi => ?_, fun D F hD => ?_⟩
          · rw [f3, AT_1, em_g, if_pos rfl]
          · rw [f3, em_g, if_neg (by omega), q_gn (by omega)]
          · rw [w4 D F (by unfold DPt at hD; omega)]
            obtain ⟨D', rfl⟩ : ∃ d, D = d + 2 := ⟨D - 2, by unfold DPt at hD; omega⟩
            simp (disch := omega) only [r57_119, r57_122, r57_123, r57_124, r57_127, r57_128, h47, f4, kdC, kdM, rpC, rpM, q_rs, q_rn, Option.toList_some, Option.toList_none, List.cons_append, List.nil_append, true_and, and_true, eq_self, ↓reduceIte, not_true_eq_false, not_false_eq_true, Nat.reduceEqDiff, Nat.reduceLeDiff, Nat.reduceLT, Nat.reduceAdd, Nat.reduceMul, Nat.reduceSub, false_or, or_false, true_or, or_true, false_and, and_false, reduceCtorEq, q_n0, q_n1, q_em, q_em2, q_b0, q_b1, Classical.not_not]
        · obtain ⟨h2, e1, e2, e3⟩ := m178y o hjm zm cp
          refine ⟨h2, e1, e2, fun D F hD => ?_⟩
          obtain ⟨D', rfl⟩ : ∃ d, D = d + 3 := ⟨D - 3, by unfold DPt at hD; omega⟩
          have h74 := fun F d => m174 zm d F
          obtain ⟨hr, hr2, _⟩ := zm.2.2.2 j (by omega)
          rcases hmod with ⟨q1, q, q2, q3⟩ | ⟨q1, q, q2, q3, q4⟩
          · rw [q3] at hr2
            rw [q1] at hr
            simp (disch := omega) only [e186, r186_0, r186_1, r186_4, r186_7, r186_8, r186_9, r186_12, r186_13, r186_16, r186_17, r186_18, r186_19, r186_21, r186_24, r186_27, r186_28, r186_30, r186_33, r186_34, r186_37, r186_38, r186_41, r186_44, r186_45, r186_46, r186_47, r186_50, r186_51, r186_52, r186_55, r186_56, r186_57, r186_58, r186_59, r186_62, r186_63, r186_65, r186_68, r186_71, r186_74, r186_75, r186_77, r186_80, r186_81, r186_84, r186_85, r186_88, r186_89, r186_92, r186_95, r186_96, r186_98, r186_101, r186_102, r186_104, r186_107, r186_108, r186_111, r186_114, r186_115, r186_118, h74, m179, zm.1, hr, hr2, e3, kdC, kdM, rpC, rpM, q_rs, q_rn, Option.toList_some, Option.toList_none, List.cons_append, List.nil_append, true_and, and_true, eq_self, ↓reduceIte, not_true_eq_false, not_false_eq_true, Nat.reduceEqDiff, Nat.reduceLeDiff, Nat.reduceLT, Nat.reduceAdd, Nat.reduceMul, Nat.reduceSub, false_or, or_false, true_or, or_true, false_and, and_false, reduceCtorEq, q_n0, q_n1, q_em, q_em2, q_b0, q_b1, Classical.not_not, nI_add, pk_mul, nI_clamp, q_vp, nI_eq, nI_leI, nI_ltI, q_sub, show j < 401 by omega, q2]
          · rw [q4] at hr q1
            rw [nI_eq (by omega) (by omega)] at q1
            simp (disch := omega) only [e186, r186_0, r186_1, r186_4, r186_7, r186_8, r186_9, r186_12, r186_13, r186_16, r186_17, r186_18, r186_19, r186_21, r186_24, r186_27, r186_28, r186_30, r186_33, r186_34, r186_37, r186_38, r186_41, r186_44, r186_45, r186_46, r186_47, r186_50, r186_51, r186_52, r186_55, r186_56, r186_57, r186_58, r186_59, r186_62, r186_63, r186_65, r186_68, r186_71, r186_74, r186_75, r186_77, r186_80, r186_81, r186_84, r186_85, r186_88, r186_89, r186_92, r186_95, r186_96, r186_98, r186_101, r186_102, r186_104, r186_107, r186_108, r186_111, r186_114, r186_115, r186_118, h74, m179, zm.1, hr, e3, kdC, kdM, rpC, rpM, q_rs, q_rn, Option.toList_some, Option.toList_none, List.cons_append, List.nil_append, true_and, and_true, eq_self, ↓reduceIte, not_true_eq_false, not_false_eq_true, Nat.reduceEqDiff, Nat.reduceLeDiff, Nat.reduceLT, Nat.reduceAdd, Nat.reduceMul, Nat.reduceSub, false_or, or_false, true_or, or_true, false_and, and_false, reduceCtorEq, q_n0, q_n1, q_em, q_em2, q_b0, q_b1, Classical.not_not, nI_add, pk_mul, nI_clamp, q_vp, nI_eq, nI_leI, nI_ltI, q_sub, show j < 401 by omega, q1, show ¬ q = 191 by omega, show ¬ q < 9 by omega, show ¬ 20 < q by omega]
        · have := sem_l o (lim := 2 * dep + 4) (z := z) (by omega) hjm cl
          intro c v e o' env cx
          obtain ⟨r, r1, r2⟩ := this c v e o' env cx
          exact ⟨r, r1, fun N hN => r2 N (by unfold fuP at hN; omega)⟩
      · obtain rfl : p = 50 := by omega
        right
        refine ⟨j, hj, fun h cn r => ⟨h, FrS.refl h, r.fc (by omega), fun D F hD => ?_⟩, fun h zm => ?_⟩
        · have h42 := fun F d => c42 o r (u := 91) (by omega) d F
          rw [q_bf cb] at h42
          have h4 := r.1.2.1
          obtain ⟨D', rfl⟩ : ∃ d, D = d + 1 := ⟨D - 1, by unfold DPt at hD; omega⟩
          rw [k3] at h4
          simp (disch := omega) only [e57, r57_0, r57_1, r57_3, r57_6, r57_9, r57_10, r57_12, r57_15, r57_16, r57_17, r57_18, r57_21, r57_22, r57_23, r57_24, r57_25, r57_28, r57_31, r57_32, r57_34, r57_37, r57_40, r57_41, r57_42, r57_43, r57_46, r57_48, r57_51, r57_52, r57_55, r57_57, r57_60, r57_61, r57_64, r57_66, r57_69, r57_70, r57_71, r57_72, r57_73, r57_76, r57_77, r57_78, r57_81, r57_82, r57_83, r57_86, r57_88, r57_91, r57_92, r57_95, r57_96, r57_97, r57_100, r57_102, r57_105, r57_106, r57_109, r57_112, r57_113, r57_116, r57_118, r57_119, r57_122, r57_123, r57_124, r57_127, r57_128, h42, h4, r.2.1, kdC, kdM, rpC, rpM, q_rs, q_rn, Option.toList_some, Option.toList_none, List.cons_append, List.nil_append, true_and, and_true, eq_self, ↓reduceIte, not_true_eq_false, not_false_eq_true, Nat.reduceEqDiff, Nat.reduceLeDiff, Nat.reduceLT, Nat.reduceAdd, Nat.reduceMul, Nat.reduceSub, false_or, or_false, true_or, or_true, false_and, and_false, reduceCtorEq, q_n0, q_n1, q_em, q_em2, q_b0, q_b1, Classical.not_not, nI_add, pk_mul, nI_clamp, q_vp, nI_eq, nI_leI, nI_ltI, q_sub, show ¬ tg B n j < 8 by omega, show ¬ 20 < tg B n j by omega]
        · obtain ⟨h2, e1, e2, e3⟩ := m178n o hjm zm
          refine ⟨h2, e1, e2, fun D F hD => ?_⟩
          obtain ⟨D', rfl⟩ : ∃ d, D = d + 3 := ⟨D - 3, by unfold DPt at hD; omega⟩
          have h74 := fun F d => m174 zm d F
          obtain ⟨hr, hr2, _⟩ := zm.2.2.2 j (by omega)
          rcases hmod with ⟨q1, q, q2, q3⟩ | ⟨q1, q, q2, q3, q4⟩
          · rw [q3] at hr2
            rw [q1] at hr
            simp (disch := omega) only [e186, r186_0, r186_1, r186_4, r186_7, r186_8, r186_9, r186_12, r186_13, r186_16, r186_17, r186_18, r186_19, r186_21, r186_24, r186_27, r186_28, r186_30, r186_33, r186_34, r186_37, r186_38, r186_41, r186_44, r186_45, r186_46, r186_47, r186_50, r186_51, r186_52, r186_55, r186_56, r186_57, r186_58, r186_59, r186_62, r186_63, r186_65, r186_68, r186_71, r186_74, r186_75, r186_77, r186_80, r186_81, r186_84, r186_85, r186_88, r186_89, r186_92, r186_95, r186_96, r186_98, r186_101, r186_102, r186_104, r186_107, r186_108, r186_111, r186_114, r186_115, r186_118, h74, m179, zm.1, hr, hr2, e3, kdC, kdM, rpC, rpM, q_rs, q_rn, Option.toList_some, Option.toList_none, List.cons_append, List.nil_append, true_and, and_true, eq_self, ↓reduceIte, not_true_eq_false, not_false_eq_true, Nat.reduceEqDiff, Nat.reduceLeDiff, Nat.reduceLT, Nat.reduceAdd, Nat.reduceMul, Nat.reduceSub, false_or, or_false, true_or, or_true, false_and, and_false, reduceCtorEq, q_n0, q_n1, q_em, q_em2, q_b0, q_b1, Classical.not_not, nI_add, pk_mul, nI_clamp, q_vp, nI_eq, nI_leI, nI_ltI, q_sub, show j < 401 by omega, q2]
          · rw [q4] at hr q1
            rw [nI_eq (by omega) (by omega)] at q1
            simp (disch := omega) only [e186, r186_0, r186_1, r186_4, r186_7, r186_8, r186_9, r186_12, r186_13, r186_16, r186_17, r186_18, r186_19, r186_21, r186_24, r186_27, r186_28, r186_30, r186_33, r186_34, r186_37, r186_38, r186_41, r186_44, r186_45, r186_46, r186_47, r186_50, r186_51, r186_52, r186_55, r186_56, r186_57, r186_58, r186_59, r186_62, r186_63, r186_65, r186_68, r186_71, r186_74, r186_75, r186_77, r186_80, r186_81, r186_84, r186_85, r186_88, r186_89, r186_92, r186_95, r186_96, r186_98, r186_101, r186_102, r186_104, r186_107, r186_108, r186_111, r186_114, r186_115, r186_118, h74, m179, zm.1, hr, e3, kdC, kdM, rpC, rpM, q_rs, q_rn, Option.toList_some, Option.toList_none, List.cons_append, List.nil_append, true_and, and_true, eq_self, ↓reduceIte, not_true_eq_false, not_false_eq_true, Nat.reduceEqDiff, Nat.reduceLeDiff, Nat.reduceLT, Nat.reduceAdd, Nat.reduceMul, Nat.reduceSub, false_or, or_false, true_or, or_true, false_and, and_false, reduceCtorEq, q_n0, q_n1, q_em, q_em2, q_b0, q_b1, Classical.not_not, nI_add, pk_mul, nI_clamp, q_vp, nI_eq, nI_leI, nI_ltI, q_sub, show j < 401 by omega, q1, show ¬ q = 191 by omega, show ¬ q < 9 by omega, show ¬ 20 < q by omega]
    · right
      have hno : (kdI (tg B n j) < nI 8) ∨ (nI 20 < kdI (tg B n j)) := by
        rw [kdI_lt hr23 (by omega), kdI_gt hr23 (by omega)]
        omega
      refine ⟨j, hj, fun h cn r => ⟨h, FrS.refl h, r.fc (by omega), fun D F hD => ?_⟩, fun h zm => ⟨sI h 101 16 (nI (tpl B n j)), (FrS.refl h).sI _ rfl, MX_f, fun D F hD => ?_⟩⟩
      · have h42 := fun F d => c42 o r (u := 91) (by omega) d F
        rw [q_bf cb] at h42
        have h4 := r.1.2.1
        obtain ⟨D', rfl⟩ : ∃ d, D = d + 1 := ⟨D - 1, by unfold DPt at hD; omega⟩
        by_cases c8 : kdI (tg B n j) < nI 8
        · simp (disch := omega) only [e57, r57_0, r57_1, r57_3, r57_6, r57_9, r57_10, r57_12, r57_15, r57_16, r57_17, r57_18, r57_21, r57_22, r57_23, r57_24, r57_25, r57_28, r57_31, r57_32, r57_34, r57_37, r57_40, r57_41, r57_42, r57_43, r57_46, r57_48, r57_51, r57_52, r57_55, r57_57, r57_60, r57_61, r57_64, r57_66, r57_69, r57_70, r57_71, r57_72, r57_73, r57_76, r57_77, r57_78, r57_81, r57_82, r57_83, r57_86, r57_88, r57_91, r57_92, r57_95, r57_96, r57_97, r57_100, r57_102, r57_105, r57_106, r57_109, r57_112, r57_113, r57_116, r57_118, r57_119, r57_122, r57_123, r57_124, r57_127, r57_128, h42, h4, c8, kdC, kdM, rpC, rpM, q_rs, q_rn, Option.toList_some, Option.toList_none, List.cons_append, List.nil_append, true_and, and_true, eq_self, ↓reduceIte, not_true_eq_false, not_false_eq_true, Nat.reduceEqDiff, Nat.reduceLeDiff, Nat.reduceLT, Nat.reduceAdd, Nat.reduceMul, Nat.reduceSub, false_or, or_false, true_or, or_true, false_and, and_false, reduceCtorEq, q_n0, q_n1, q_em, q_em2, q_b0, q_b1, Classical.not_not]
        · simp (disch := omega) only [e57, r57_0, r57_1, r57_3, r57_6, r57_9, r57_10, r57_12, r57_15, r57_16, r57_17, r57_18, r57_21, r57_22, r57_23, r57_24, r57_25, r57_28, r57_31, r57_32, r57_34, r57_37, r57_40, r57_41, r57_42, r57_43, r57_46, r57_48, r57_51, r57_52, r57_55, r57_57, r57_60, r57_61, r57_64, r57_66, r57_69, r57_70, r57_71, r57_72, r57_73, r57_76, r57_77, r57_78, r57_81, r57_82, r57_83, r57_86, r57_88, r57_91, r57_92, r57_95, r57_96, r57_97, r57_100, r57_102, r57_105, r57_106, r57_109, r57_112, r57_113, r57_116, r57_118, r57_119, r57_122, r57_123, r57_124, r57_127, r57_128, h42, h4, c8, hno.resolve_left c8, kdC, kdM, rpC, rpM, q_rs, q_rn, Option.toList_some, Option.toList_none, List.cons_append, List.nil_append, true_and, and_true, eq_self, ↓reduceIte, not_true_eq_false, not_false_eq_true, Nat.reduceEqDiff, Nat.reduceLeDiff, Nat.reduceLT, Nat.reduceAdd, Nat.reduceMul, Nat.reduceSub, false_or, or_false, true_or, or_true, false_and, and_false, reduceCtorEq, q_n0, q_n1, q_em, q_em2, q_b0, q_b1, Classical.not_not]
      · obtain ⟨D', rfl⟩ : ∃ d, D = d + 2 := ⟨D - 2, by unfold DPt at hD; omega⟩
        have h74 := fun F d => m174 zm d F
        have h75 := fun F d => m175 o hj zm d F
        obtain ⟨hr, hr2, _⟩ := zm.2.2.2 j (by omega)
        rcases mc_all o j with ⟨q1, q2⟩ | ⟨q1, _⟩ | ⟨q1, q2 | ⟨q2, q3, q4, q5⟩⟩ | ⟨q1, q2⟩ | ⟨u, u1, q1, q2⟩
        · rw [q2] at hr
          simp (disch := omega) only [e186, r186_0, r186_1, r186_4, r186_7, r186_8, r186_9, r186_12, r186_13, r186_16, r186_17, r186_18, r186_19, r186_21, r186_24, r186_27, r186_28, r186_30, r186_33, r186_34, r186_37, r186_38, r186_41, r186_44, r186_45, r186_46, r186_47, r186_50, r186_51, r186_52, r186_55, r186_56, r186_57, r186_58, r186_59, r186_62, r186_63, r186_65, r186_68, r186_71, r186_74, r186_75, r186_77, r186_80, r186_81, r186_84, r186_85, r186_88, r186_89, r186_92, r186_95, r186_96, r186_98, r186_101, r186_102, r186_104, r186_107, r186_108, r186_111, r186_114, r186_115, r186_118, h74, h75, m179, zm.1, hr, kdC, kdM, rpC, rpM, q_rs, q_rn, Option.toList_some, Option.toList_none, List.cons_append, List.nil_append, true_and, and_true, eq_self, ↓reduceIte, not_true_eq_false, not_false_eq_true, Nat.reduceEqDiff, Nat.reduceLeDiff, Nat.reduceLT, Nat.reduceAdd, Nat.reduceMul, Nat.reduceSub, false_or, or_false, true_or, or_true, false_and, and_false, reduceCtorEq, q_n0, q_n1, q_em, q_em2, q_b0, q_b1, Classical.not_not, nI_add, pk_mul, nI_clamp, q_vp, nI_eq, nI_leI, nI_ltI, q_sub, show j < 401 by omega, show ¬ tg B n j + 1 = 191 by omega, show ¬ tg B n j + 1 = 50 by omega, show tg B n j + 1 < 9 by omega]
        · omega
        · rw [q2] at hr
          simp (disch := omega) only [e186, r186_0, r186_1, r186_4, r186_7, r186_8, r186_9, r186_12, r186_13, r186_16, r186_17, r186_18, r186_19, r186_21, r186_24, r186_27, r186_28, r186_30, r186_33, r186_34, r186_37, r186_38, r186_41, r186_44, r186_45, r186_46, r186_47, r186_50, r186_51, r186_52, r186_55, r186_56, r186_57, r186_58, r186_59, r186_62, r186_63, r186_65, r186_68, r186_71, r186_74, r186_75, r186_77, r186_80, r186_81, r186_84, r186_85, r186_88, r186_89, r186_92, r186_95, r186_96, r186_98, r186_101, r186_102, r186_104, r186_107, r186_108, r186_111, r186_114, r186_115, r186_118, h74, h75, m179, zm.1, hr, kdC, kdM, rpC, rpM, q_rs, q_rn, Option.toList_some, Option.toList_none, List.cons_append, List.nil_append, true_and, and_true, eq_self, ↓reduceIte, not_true_eq_false, not_false_eq_true, Nat.reduceEqDiff, Nat.reduceLeDiff, Nat.reduceLT, Nat.reduceAdd, Nat.reduceMul, Nat.reduceSub, false_or, or_false, true_or, or_true, false_and, and_false, reduceCtorEq, q_n0, q_n1, q_em, q_em2, q_b0, q_b1, Classical.not_not, nI_add, pk_mul, nI_clamp, q_vp, nI_eq, nI_leI, nI_ltI, q_sub, show j < 401 by omega]
        · rw [q2] at hr
          rw [q3] at hr2
          simp (disch := omega) only [e186, r186_0, r186_1, r186_4, r186_7, r186_8, r186_9, r186_12, r186_13, r186_16, r186_17, r186_18, r186_19, r186_21, r186_24, r186_27, r186_28, r186_30, r186_33, r186_34, r186_37, r186_38, r186_41, r186_44, r186_45, r186_46, r186_47, r186_50, r186_51, r186_52, r186_55, r186_56, r186_57, r186_58, r186_59, r186_62, r186_63, r186_65, r186_68, r186_71, r186_74, r186_75, r186_77, r186_80, r186_81, r186_84, r186_85, r186_88, r186_89, r186_92, r186_95, r186_96, r186_98, r186_101, r186_102, r186_104, r186_107, r186_108, r186_111, r186_114, r186_115, r186_118, h74, h75, m179, zm.1, hr, hr2, kdC, kdM, rpC, rpM, q_rs, q_rn, Option.toList_some, Option.toList_none, List.cons_append, List.nil_append, true_and, and_true, eq_self, ↓reduceIte, not_true_eq_false, not_false_eq_true, Nat.reduceEqDiff, Nat.reduceLeDiff, Nat.reduceLT, Nat.reduceAdd, Nat.reduceMul, Nat.reduceSub, false_or, or_false, true_or, or_true, false_and, and_false, reduceCtorEq, q_n0, q_n1, q_em, q_em2, q_b0, q_b1, Classical.not_not, nI_add, pk_mul, nI_clamp, q_vp, nI_eq, nI_leI, nI_ltI, q_sub, show j < 401 by omega, show ¬ tnm B n j ≤ 1000 by omega]
        · rw [q2] at hr
          simp (disch := omega) only [e186, r186_0, r186_1, r186_4, r186_7, r186_8, r186_9, r186_12, r186_13, r186_16, r186_17, r186_18, r186_19, r186_21, r186_24, r186_27, r186_28, r186_30, r186_33, r186_34, r186_37, r186_38, r186_41, r186_44, r186_45, r186_46, r186_47, r186_50, r186_51, r186_52, r186_55, r186_56, r186_57, r186_58, r186_59, r186_62, r186_63, r186_65, r186_68, r186_71, r186_74, r186_75, r186_77, r186_80, r186_81, r186_84, r186_85, r186_88, r186_89, r186_92, r186_95, r186_96, r186_98, r186_101, r186_102, r186_104, r186_107, r186_108, r186_111, r186_114, r186_115, r186_118, h74, h75, m179, zm.1, hr, kdC, kdM, rpC, rpM, q_rs, q_rn, Option.toList_some, Option.toList_none, List.cons_append, List.nil_append, true_and, and_true, eq_self, ↓reduceIte, not_true_eq_false, not_false_eq_true, Nat.reduceEqDiff, Nat.reduceLeDiff, Nat.reduceLT, Nat.reduceAdd, Nat.reduceMul, Nat.reduceSub, false_or, or_false, true_or, or_true, false_and, and_false, reduceCtorEq, q_n0, q_n1, q_em, q_em2, q_b0, q_b1, Classical.not_not, nI_add, pk_mul, nI_clamp, q_vp, nI_eq, nI_leI, nI_ltI, q_sub, show j < 401 by omega]
        · rw [q2] at hr
          simp (disch := omega) only [e186, r186_0, r186_1, r186_4, r186_7, r186_8, r186_9, r186_12, r186_13, r186_16, r186_17, r186_18, r186_19, r186_21, r186_24, r186_27, r186_28, r186_30, r186_33, r186_34, r186_37, r186_38, r186_41, r186_44, r186_45, r186_46, r186_47, r186_50, r186_51, r186_52, r186_55, r186_56, r186_57, r186_58, r186_59, r186_62, r186_63, r186_65, r186_68, r186_71, r186_74, r186_75, r186_77, r186_80, r186_81, r186_84, r186_85, r186_88, r186_89, r186_92, r186_95, r186_96, r186_98, r186_101, r186_102, r186_104, r186_107, r186_108, r186_111, r186_114, r186_115, r186_118, h74, h75, m179, zm.1, hr, kdC, kdM, rpC, rpM, q_rs, q_rn, Option.toList_some, Option.toList_none, List.cons_append, List.nil_append, true_and, and_true, eq_self, ↓reduceIte, not_true_eq_false, not_false_eq_true, Nat.reduceEqDiff, Nat.reduceLeDiff, Nat.reduceLT, Nat.reduceAdd, Nat.reduceMul, Nat.reduceSub, false_or, or_false, true_or, or_true, false_and, and_false, reduceCtorEq, q_n0, q_n1, q_em, q_em2, q_b0, q_b1, Classical.not_not, nI_add, pk_mul, nI_clamp, q_vp, nI_eq, nI_leI, nI_ltI, q_sub, show j < 401 by omega, show ¬ 100 + u = 191 by omega, show ¬ 100 + u = 50 by omega, show ¬ 100 + u < 9 by omega, show 20 < 100 + u by omega]
end JP
