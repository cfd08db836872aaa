/-! reading a SUM, both -/
def wtO (wt : Option Bool) : Option Nat := match wt with
  | none => none
  | some true => some 2
  | some false => some 3
section JS
variable {B : Nat → Int32} {n m : Nat}
def LOK (B : Nat → Int32) (n m dep j p z : Nat) (wt : Option Bool) (j' p' : Nat) (cs : List Int32) : Prop :=
  (∀ h cn nn (v5 : Value), nn ≤ j → RC h B n j p z cn → ∃ h', FrS rcS h h' ∧ RC h' B n j' p' (z + cs.length) cn ∧ AT (gI h' 78) z cs ∧ (∀ i, i < z → gI h' 78 i = gI h 78 i) ∧ ∀ D F, DSm dep ≤ D → wp true D 54 11 [.ref 76, .int (nI dep), .int (opI (wtO wt)), .int (nI 1), .int (nI nn), v5] [] h F = F (some (.int (nI 1))) h') ∧
  ∀ h, MS h B n m j p → ∃ h', FrS psS h h' ∧ MS h' B n m j' p' ∧ ∀ D F, DPt dep + 1 ≤ D → wp true D 185 5 [.ref 101, .int (nI dep)] [] h (fun r h' => wp true (D + 1) 184 5 [.ref 101, .int (nI dep)] (r.toList ++ []) h' F) = F none h'
def LNO (B : Nat → Int32) (n m dep j p z : Nat) (wt : Option Bool) (k : Nat) : Prop :=
  (∀ h cn nn (v5 : Value), nn ≤ j → RC h B n j p z cn → ∃ h', FrS rcS h h' ∧ FC h' B n k ∧ ∀ D F, DSm dep ≤ D → wp true D 54 11 [.ref 76, .int (nI dep), .int (opI (wtO wt)), .int (nI 1), .int (nI nn), v5] [] h F = F (some (.int (nI 0))) h') ∧
  ∀ h, MS h B n m j p → ∃ h', FrS psS h h' ∧ MX h' B n k ∧ ∀ D F, DPt dep + 1 ≤ D → wp true D 185 5 [.ref 101, .int (nI dep)] [] h (fun r h' => wp true (D + 1) 184 5 [.ref 101, .int (nI dep)] (r.toList ++ []) h' F) = F none h'
/-- what waits is written -/
theorem c55w {h : Hp} {j p z cn : Nat} (r : RC h B n j p z cn) (wt : Option Bool) (hz : z + (wtC wt).length ≤ 400) : ∃ h', FrS rcS h h' ∧ RC h' B n j p (z + (wtC wt).length) cn ∧ AT (gI h' 78) z (wtC wt) ∧ (∀ i, i < z → gI h' 78 i = gI h 78 i) ∧ ∀ d F, cwp true (d + 1) 55 [.ref 76, .int (opI (wtO wt))] h F = F none h' := by
  cases wt with
  | none => exact ⟨h, FrS.refl h, r, AT_0 _ _, fun _ _ => rfl, fun d F => c55n d F⟩
  | some b =>
    cases b with
    | true =>
      have hz' : z + 1 ≤ 400 := hz
      refine ⟨em h z (stp 0 2), em_x _, em_r r _, ?_, fun i hi => by rw [em_g, if_neg (by omega)], fun d F => c55s r.2.2.1 (by omega) (by omega) d F⟩
      show AT _ z [stp 0 2]
      rw [AT_1, em_g, if_pos rfl]
    | false =>
      have hz' : z + 1 ≤ 400 := hz
      refine ⟨em h z (stp 0 3), em_x _, em_r r _, ?_, fun i hi => by rw [em_g, if_neg (by omega)], fun d F => c55s r.2.2.1 (by omega) (by omega) d F⟩
      show AT _ z [stp 0 3]
      rw [AT_1, em_g, if_pos rfl]
theorem wtC_l (wt : Option Bool) : (wtC wt).length ≤ 1 := by
  cases wt with
  | none => exact Nat.zero_le _
  | some b => cases b <;> exact Nat.le_refl _
theorem wtC_n (wt : Option Bool) : nnL (wtC wt) := by
  intro x hx
  cases wt with
  | none => cases hx
  | some b =>
    cases b with
    | true => rw [List.mem_singleton.mp hx]; exact stp_p (by omega) (by omega)
    | false => rw [List.mem_singleton.mp hx]; exact stp_p (by omega) (by omega)
theorem nn_app {a b : List Int32} (x : nnL a) (y : nnL b) : nnL (a ++ b) := fun z hz => (List.mem_append.mp hz).elim (x z) (y z)
theorem nn_1 {w op : Nat} (hw : w < 1000000) (ho : op < 16) : nnL [stp w op] := fun x hx => by rw [List.mem_singleton.mp hx]; exact stp_p hw ho
theorem wtO_l (wt : Option Bool) : ∀ y, wtO wt = some y → y < 16 := by
  intro y e
  cases wt with
  | none => cases e
  | some b => cases b <;> (cases e; omega)
/-- the model's loops when a fault is found -/
theorem ml_x (o : TOK B n m) {h : Hp} {k : Nat} (z : MX h B n k) (x : Int32) (D : Nat) (F : Po) : wp true (D + 3) 185 5 [.ref 101, .int x] [] h (fun r h' => wp true (D + 3 + 1) 184 5 [.ref 101, .int x] (r.toList ++ []) h' F) = F none h := by
  have h1 := fun c F d => m176x o z c d F
  rw [r185_5]
  simp (disch := omega) only [e185, r185_0, r185_1, r185_2, r185_6, r185_8, r185_11, r185_14, r185_17, r185_18, r185_20, r185_23, r185_26, r185_29, r185_30, r185_31, r185_34, r185_37, h1, m179, kdC, kdM, rpC, rpM, q_rs, q_rn, Option.toList_some, Option.toList_none, List.cons_append, List.nil_append, true_and, and_true, eq_self, ↓reduceIte, not_true_eq_false, not_false_eq_true, Nat.reduceEqDiff, Nat.reduceLeDiff, Nat.reduceLT, Nat.reduceAdd, Nat.reduceMul, Nat.reduceSub, false_or, or_false, true_or, or_true, false_and, and_false, reduceCtorEq, q_n0, q_n1, q_em, q_em2, q_b0, q_b1, Classical.not_not]
  rw [r184_5]
  simp (disch := omega) only [e184, r184_0, r184_1, r184_2, r184_6, r184_8, r184_11, r184_14, r184_17, r184_18, r184_20, r184_23, r184_26, r184_29, r184_30, r184_31, r184_34, r184_37, h1, m179, kdC, kdM, rpC, rpM, q_rs, q_rn, Option.toList_some, Option.toList_none, List.cons_append, List.nil_append, true_and, and_true, eq_self, ↓reduceIte, not_true_eq_false, not_false_eq_true, Nat.reduceEqDiff, Nat.reduceLeDiff, Nat.reduceLT, Nat.reduceAdd, Nat.reduceMul, Nat.reduceSub, false_or, or_false, true_or, or_true, false_and, and_false, reduceCtorEq, q_n0, q_n1, q_em, q_em2, q_b0, q_b1, Classical.not_not]
theorem loop_ex (o : TOK B n m) {dep : Nat} (hdep : dep ≤ 8) (pe : PEx B n m dep) : ∀ q j p z wt, m - j ≤ q → j ≤ m → p ≤ 50 → z + (wtC wt).length ≤ j → (∃ j' p' cs, j ≤ j' ∧ j' ≤ m ∧ p' ≤ 50 ∧ cs.length ≤ j' - j + (wtC wt).length ∧ nnL cs ∧ LOK B n m dep j p z wt j' p' cs ∧ SEML B n m (fuP dep) dep j z wt cs j') ∨ ∃ k, k ≤ m ∧ LNO B n m dep j p z wt k := by
  have hm4 := o.m400
  intro q
  induction q with
  | zero =>
    intro j p z wt hq hj hp hz
    obtain rfl : j = m := by omega
    have ht := o.e
    have hwl := wtC_l wt
    left
    refine ⟨j, p, wtC wt, Nat.le_refl _, Nat.le_refl _, hp, by omega, wtC_n wt, ⟨fun h cn nn v5 hnn r => ?_, fun h zm => ?_⟩, seml_e o (Nat.le_refl _) (by omega) (by omega) (by omega) (by omega) wt⟩
    · obtain ⟨h', a1, a2, a3, a4, a5⟩ := c55w r wt (by omega)
      refine ⟨h', a1, a2, a3, a4, fun D F hD => ?_⟩
      obtain ⟨D', rfl⟩ : ∃ d, D = d + 2 := ⟨D - 2, by unfold DSm at hD; omega⟩
      have h56 := fun F d => c56 o r d F
      have ho : opT (tg B n j) = none := by rw [ht]; rfl
      rw [ho] at h56
      have h56' : ∀ (F : Po) (d : Nat), cwp true d 56 [.ref 76] h F = F (some (.int (-1))) h := h56
      rw [r54_11]
      by_cases c4 : 400 ≤ nn
      · simp (disch := omega) only [e54, r54_0, r54_1, r54_2, r54_3, r54_4, r54_7, r54_8, r54_9, r54_13, r54_16, r54_19, r54_20, r54_23, r54_24, r54_27, r54_28, r54_31, r54_32, r54_35, r54_37, r54_39, r54_40, r54_43, r54_45, r54_46, r54_49, r54_50, r54_51, r54_54, r54_56, r54_57, r54_58, r54_61, r54_62, r54_63, r54_66, r54_67, r54_68, r54_70, r54_71, r54_74, r54_75, r54_78, r54_80, r54_83, r54_86, r54_89, r54_90, r54_91, r54_94, r54_95, a5, c4, kdC, kdM, rpC, rpM, q_rs, q_rn, Option.toList_some, Option.toList_none, List.cons_append, List.nil_append, true_and, and_true, eq_self, ↓reduceIte, not_true_eq_false, not_false_eq_true, Nat.reduceEqDiff, Nat.reduceLeDiff, Nat.reduceLT, Nat.reduceAdd, Nat.reduceMul, Nat.reduceSub, false_or, or_false, true_or, or_true, false_and, and_false, reduceCtorEq, q_n0, q_n1, q_em, q_em2, q_b0, q_b1, Classical.not_not, nI_add, pk_mul, nI_clamp, q_vp, nI_eq, nI_leI, nI_ltI, q_sub]
      · simp (disch := omega) only [e54, r54_0, r54_1, r54_2, r54_3, r54_4, r54_7, r54_8, r54_9, r54_13, r54_16, r54_19, r54_20, r54_23, r54_24, r54_27, r54_28, r54_31, r54_32, r54_35, r54_37, r54_39, r54_40, r54_43, r54_45, r54_46, r54_49, r54_50, r54_51, r54_54, r54_56, r54_57, r54_58, r54_61, r54_62, r54_63, r54_66, r54_67, r54_68, r54_70, r54_71, r54_74, r54_75, r54_78, r54_80, r54_83, r54_86, r54_89, r54_90, r54_91, r54_94, r54_95, a5, c4, h56', kdC, kdM, rpC, rpM, q_rs, q_rn, Option.toList_some, Option.toList_none, List.cons_append, List.nil_append, true_and, and_true, eq_self, ↓reduceIte, not_true_eq_false, not_false_eq_true, Nat.reduceEqDiff, Nat.reduceLeDiff, Nat.reduceLT, Nat.reduceAdd, Nat.reduceMul, Nat.reduceSub, false_or, or_false, true_or, or_true, false_and, and_false, reduceCtorEq, q_n0, q_n1, q_em, q_em2, q_b0, q_b1, Classical.not_not, nI_add, pk_mul, nI_clamp, q_vp, nI_eq, nI_leI, nI_ltI, q_sub]
    · have hx : ∀ u, u < 128 → ¬ mcJ B n j = nI (100 + u) := fun u hu => by rw [mc_s o j hu, ht]; omega
      have t1 := fun F d => m176n o (Nat.le_refl _) zm (hx 42 (by omega)) d F
      have t2 := fun F d => m176n o (Nat.le_refl _) zm (hx 47 (by omega)) d F
      have t3 := fun F d => m176n o (Nat.le_refl _) zm (hx 43 (by omega)) d F
      have t4 := fun F d => m176n o (Nat.le_refl _) zm (hx 45 (by omega)) d F
      refine ⟨h, FrS.refl h, zm, fun D F hD => ?_⟩
      obtain ⟨D', rfl⟩ : ∃ d, D = d + 2 := ⟨D - 2, by unfold DPt at hD; omega⟩
      rw [r185_5]
      simp (disch := omega) only [e185, r185_0, r185_1, r185_2, r185_6, r185_8, r185_11, r185_14, r185_17, r185_18, r185_20, r185_23, r185_26, r185_29, r185_30, r185_31, r185_34, r185_37, m179, t1, t2, kdC, kdM, rpC, rpM, q_rs, q_rn, Option.toList_some, Option.toList_none, List.cons_append, List.nil_append, true_and, and_true, eq_self, ↓reduceIte, not_true_eq_false, not_false_eq_true, Nat.reduceEqDiff, Nat.reduceLeDiff, Nat.reduceLT, Nat.reduceAdd, Nat.reduceMul, Nat.reduceSub, false_or, or_false, true_or, or_true, false_and, and_false, reduceCtorEq, q_n0, q_n1, q_em, q_em2, q_b0, q_b1, Classical.not_not]
      rw [r184_5]
      simp (disch := omega) only [e184, r184_0, r184_1, r184_2, r184_6, r184_8, r184_11, r184_14, r184_17, r184_18, r184_20, r184_23, r184_26, r184_29, r184_30, r184_31, r184_34, r184_37, m179, t3, t4, kdC, kdM, rpC, rpM, q_rs, q_rn, Option.toList_some, Option.toList_none, List.cons_append, List.nil_append, true_and, and_true, eq_self, ↓reduceIte, not_true_eq_false, not_false_eq_true, Nat.reduceEqDiff, Nat.reduceLeDiff, Nat.reduceLT, Nat.reduceAdd, Nat.reduceMul, Nat.reduceSub, false_or, or_false, true_or, or_true, false_and, and_false, reduceCtorEq, q_n0, q_n1, q_em, q_em2, q_b0, q_b1, Classical.not_not]
  | succ q ih =>
    intro j p z wt hq hj hp hz
    have hwl := wtC_l wt
    by_cases cop : opT (tg B n j) = none
    · -- the end of the SUM
      have hno : tg B n j ≠ 1042 ∧ tg B n j ≠ 1043 ∧ tg B n j ≠ 1045 ∧ tg B n j ≠ 1047 := by
        unfold opT at cop
        refine ⟨?_, ?_, ?_, ?_⟩ <;> intro u <;> rw [u] at cop <;> cases cop
      left
      refine ⟨j, p, wtC wt, Nat.le_refl _, hj, hp, by omega, wtC_n wt, ⟨fun h cn nn v5 hnn r => ?_, fun h zm => ?_⟩, seml_e o hj hno.1 hno.2.1 hno.2.2.1 hno.2.2.2 wt⟩
      · obtain ⟨h', a1, a2, a3, a4, a5⟩ := c55w r wt (by omega)
        refine ⟨h', a1, a2, a3, a4, fun D F hD => ?_⟩
        obtain ⟨D', rfl⟩ : ∃ d, D = d + 2 := ⟨D - 2, by unfold DSm at hD; omega⟩
        have h56 := fun F d => c56 o r d F
        rw [cop] at h56
        have h56' : ∀ (F : Po) (d : Nat), cwp true d 56 [.ref 76] h F = F (some (.int (-1))) h := h56
        rw [r54_11]
        by_cases c4 : 400 ≤ nn
        · simp (disch := omega) only [e54, r54_0, r54_1, r54_2, r54_3, r54_4, r54_7, r54_8, r54_9, r54_13, r54_16, r54_19, r54_20, r54_23, r54_24, r54_27, r54_28, r54_31, r54_32, r54_35, r54_37, r54_39, r54_40, r54_43, r54_45, r54_46, r54_49, r54_50, r54_51, r54_54, r54_56, r54_57, r54_58, r54_61, r54_62, r54_63, r54_66, r54_67, r54_68, r54_70, r54_71, r54_74, r54_75, r54_78, r54_80, r54_83, r54_86, r54_89, r54_90, r54_91, r54_94, r54_95, a5, c4, kdC, kdM, rpC, rpM, q_rs, q_rn, Option.toList_some, Option.toList_none, List.cons_append, List.nil_append, true_and, and_true, eq_self, ↓reduceIte, not_true_eq_false, not_false_eq_true, Nat.reduceEqDiff, Nat.reduceLeDiff, Nat.reduceLT, Nat.reduceAdd, Nat.reduceMul, Nat.reduceSub, false_or, or_false, true_or, or_true, false_and, and_false, reduceCtorEq, q_n0, q_n1, q_em, q_em2, q_b0, q_b1, Classical.not_not, nI_add, pk_mul, nI_clamp, q_vp, nI_eq, nI_leI, nI_ltI, q_sub]
        · simp (disch := omega) only [e54, r54_0, r54_1, r54_2, r54_3, r54_4, r54_7, r54_8, r54_9, r54_13, r54_16, r54_19, r54_20, r54_23, r54_24, r54_27, r54_28, r54_31, r54_32, r54_35, r54_37, r54_39, r54_40, r54_43, r54_45, r54_46, r54_49, r54_50, r54_51, r54_54, r54_56, r54_57, r54_58, r54_61, r54_62, r54_63, r54_66, r54_67, r54_68, r54_70, r54_71, r54_74, r54_75, r54_78, r54_80, r54_83, r54_86, r54_89, r54_90, r54_91, r54_94, r54_95, a5, c4, h56', kdC, kdM, rpC, rpM, q_rs, q_rn, Option.toList_some, Option.toList_none, List.cons_append, List.nil_append, true_and, and_true, eq_self, ↓reduceIte, not_true_eq_false, not_false_eq_true, Nat.reduceEqDiff, Nat.reduceLeDiff, Nat.reduceLT, Nat.reduceAdd, Nat.reduceMul, Nat.reduceSub, false_or, or_false, true_or, or_true, false_and, and_false, reduceCtorEq, q_n0, q_n1, q_em, q_em2, q_b0, q_b1, Classical.not_not, nI_add, pk_mul, nI_clamp, q_vp, nI_eq, nI_leI, nI_ltI, q_sub]
      · have t1 := fun F d => m176n o hj zm (show ¬ mcJ B n j = nI 142 by rw [mc42 o]; exact hno.1) d F
        have t2 := fun F d => m176n o hj zm (show ¬ mcJ B n j = nI 147 by rw [mc47 o]; exact hno.2.2.2) d F
        have t3 := fun F d => m176n o hj zm (show ¬ mcJ B n j = nI 143 by rw [mc43 o]; exact hno.2.1) d F
        have t4 := fun F d => m176n o hj zm (show ¬ mcJ B n j = nI 145 by rw [mc45 o]; exact hno.2.2.1) d F
        refine ⟨h, FrS.refl h, zm, fun D F hD => ?_⟩
        obtain ⟨D', rfl⟩ : ∃ d, D = d + 2 := ⟨D - 2, by unfold DPt at hD; omega⟩
        rw [r185_5]
        simp (disch := omega) only [e185, r185_0, r185_1, r185_2, r185_6, r185_8, r185_11, r185_14, r185_17, r185_18, r185_20, r185_23, r185_26, r185_29, r185_30, r185_31, r185_34, r185_37, m179, t1, t2, kdC, kdM, rpC, rpM, q_rs, q_rn, Option.toList_some, Option.toList_none, List.cons_append, List.nil_append, true_and, and_true, eq_self, ↓reduceIte, not_true_eq_false, not_false_eq_true, Nat.reduceEqDiff, Nat.reduceLeDiff, Nat.reduceLT, Nat.reduceAdd, Nat.reduceMul, Nat.reduceSub, false_or, or_false, true_or, or_true, false_and, and_false, reduceCtorEq, q_n0, q_n1, q_em, q_em2, q_b0, q_b1, Classical.not_not, nI_add, pk_mul, nI_clamp, q_vp, nI_eq, nI_leI, nI_ltI, q_sub, Nat.reduceAdd]
        rw [r184_5]
        simp (disch := omega) only [e184, r184_0, r184_1, r184_2, r184_6, r184_8, r184_11, r184_14, r184_17, r184_18, r184_20, r184_23, r184_26, r184_29, r184_30, r184_31, r184_34, r184_37, m179, t3, t4, kdC, kdM, rpC, rpM, q_rs, q_rn, Option.toList_some, Option.toList_none, List.cons_append, List.nil_append, true_and, and_true, eq_self, ↓reduceIte, not_true_eq_false, not_false_eq_true, Nat.reduceEqDiff, Nat.reduceLeDiff, Nat.reduceLT, Nat.reduceAdd, Nat.reduceMul, Nat.reduceSub, false_or, or_false, true_or, or_true, false_and, and_false, reduceCtorEq, q_n0, q_n1, q_em, q_em2, q_b0, q_b1, Classical.not_not, nI_add, pk_mul, nI_clamp, q_vp, nI_eq, nI_leI, nI_ltI, q_sub, Nat.reduceAdd]
    · have hjm : j < m := o.l hj (fun u => cop (by rw [u]; rfl))
      by_cases cm : tg B n j = 1042 ∨ tg B n j = 1047
      · -- * or /
        obtain ⟨op, hop, hopT⟩ : ∃ op, ((op = 4 ∧ tg B n j = 1042) ∨ (op = 5 ∧ tg B n j = 1047)) ∧ opT (tg B n j) = some op := by
          rcases cm with u | u
          · exact ⟨4, Or.inl ⟨rfl, u⟩, by rw [u]; rfl⟩
          · exact ⟨5, Or.inr ⟨rfl, u⟩, by rw [u]; rfl⟩
        have hopl : 4 ≤ op ∧ op ≤ 5 := by omega
        -- the model takes it
        have htk : ∀ (h : Hp), MS h B n m j p → ∀ D F, wp true (D + 2) 185 5 [.ref 101, .int (nI dep)] [] h F = cwp true (D + 1) 186 [.ref 101, .int (nI dep)] (sI h 101 14 (nI (j + 1))) (fun r h' => wp true (D + 2) 185 5 [.ref 101, .int (nI dep)] (r.toList ++ []) h' F) := by
          intro h zm D F
          rcases hop with ⟨_, u⟩ | ⟨_, u⟩
          · have t1 := fun F d => m176y o hj zm (show mcJ B n j = nI 142 by rw [mc42 o]; exact u) d F
            rw [r185_5]
            simp (disch := omega) only [e185, r185_0, r185_1, r185_2, r185_6, r185_8, r185_11, r185_14, r185_17, r185_18, r185_20, r185_23, r185_26, r185_29, r185_30, r185_31, r185_34, r185_37, m179, t1, kdC, kdM, rpC, rpM, q_rs, q_rn, Option.toList_some, Option.toList_none, List.cons_append, List.nil_append, true_and, and_true, eq_self, ↓reduceIte, not_true_eq_false, not_false_eq_true, Nat.reduceEqDiff, Nat.reduceLeDiff, Nat.reduceLT, Nat.reduceAdd, Nat.reduceMul, Nat.reduceSub, false_or, or_false, true_or, or_true, false_and, and_false, reduceCtorEq, q_n0, q_n1, q_em, q_em2, q_b0, q_b1, Classical.not_not, nI_add, pk_mul, nI_clamp, q_vp, nI_eq, nI_leI, nI_ltI, q_sub, Nat.reduceAdd]
          · have t1 := fun F d => m176n o hj zm (show ¬ mcJ B n j = nI 142 by rw [mc42 o]; omega) d F
            have t2 := fun F d => m176y o hj zm (show mcJ B n j = nI 147 by rw [mc47 o]; exact u) d F
            rw [r185_5]
            simp (disch := omega) only [e185, r185_0, r185_1, r185_2, r185_6, r185_8, r185_11, r185_14, r185_17, r185_18, r185_20, r185_23, r185_26, r185_29, r185_30, r185_31, r185_34, r185_37, m179, t1, t2, kdC, kdM, rpC, rpM, q_rs, q_rn, Option.toList_some, Option.toList_none, List.cons_append, List.nil_append, true_and, and_true, eq_self, ↓reduceIte, not_true_eq_false, not_false_eq_true, Nat.reduceEqDiff, Nat.reduceLeDiff, Nat.reduceLT, Nat.reduceAdd, Nat.reduceMul, Nat.reduceSub, false_or, or_false, true_or, or_true, false_and, and_false, reduceCtorEq, q_n0, q_n1, q_em, q_em2, q_b0, q_b1, Classical.not_not, nI_add, pk_mul, nI_clamp, q_vp, nI_eq, nI_leI, nI_ltI, q_sub, Nat.reduceAdd]
        rcases pe (j + 1) p z (by omega) hp (by omega) with ⟨j1, p1, cs1, a1, a2, a3, a4, a5, ⟨a6, a7⟩, a8⟩ | ⟨k, a1, a2, a3⟩
        · have hz1 : z + cs1.length + 1 + (wtC wt).length ≤ j1 := by omega
          have hnwt : ¬ nI op = opI (wtO wt) := by
            cases wt with
            | none => show ¬ nI op = -1; rw [q_nm (by omega)]; exact id
            | some b =>
              cases b with
              | true => show ¬ nI op = nI 2; rw [nI_eq (by omega) (by omega)]; omega
              | false => show ¬ nI op = nI 3; rw [nI_eq (by omega) (by omega)]; omega
          -- the class's first steps
          have hcl : ∀ h cn nn (v5 : Value), nn ≤ j → RC h B n j p z cn → ∃ h2, FrS rcS h h2 ∧ RC h2 B n j1 p1 (z + cs1.length + 1) cn ∧ AT (gI h2 78) z cs1 ∧ gI h2 78 (z + cs1.length) = stp 0 op ∧ (∀ i, i < z → gI h2 78 i = gI h 78 i) ∧ ∀ D F, DSm dep ≤ D → wp true D 54 11 [.ref 76, .int (nI dep), .int (opI (wtO wt)), .int (nI 1), .int (nI nn), v5] [] h F = wp true D 54 11 [.ref 76, .int (nI dep), .int (opI (wtO wt)), .int (nI 1), .int (nI (nn + 1)), .int (nI op)] [] h2 F := by
            intro h cn nn v5 hnn r
            obtain ⟨h1, b1, b2, b3, b4⟩ := c43r o r
            obtain ⟨g1, e1, e2, e3, e4, e5⟩ := a6 h1 cn b2
            have h55 := fun F d => c55s e2.2.2.1 (show z + cs1.length < 400 by omega) (show op < 16 by omega) d F
            refine ⟨em g1 (z + cs1.length) (stp 0 op), (av_rc b1).trans (e1.trans (em_x _)), em_r e2 _, AT_cg (fun i _ hi => by rw [em_g, if_neg (by omega)]) e3, by rw [em_g, if_pos rfl], fun i hi => by rw [em_g, if_neg (by omega), e4 i hi, b3], fun D F hD => ?_⟩
            obtain ⟨D', rfl⟩ : ∃ d, D = d + 2 := ⟨D - 2, by unfold DSm at hD; omega⟩
            have h56 := fun F d => c56 o r d F
            rw [hopT] at h56
            have h56' : ∀ (F : Po) (d : Nat), cwp true d 56 [.ref 76] h F = F (some (.int (nI op))) h := h56
            have e5' := fun F => e5 (D' + 1) F (by unfold DSm at hD; unfold DPt; omega)
            rw [r54_11]
            simp (disch := omega) only [e54, r54_0, r54_1, r54_2, r54_3, r54_4, r54_7, r54_8, r54_9, r54_13, r54_16, r54_19, r54_20, r54_23, r54_24, r54_27, r54_28, r54_31, r54_32, r54_35, r54_37, r54_39, r54_40, r54_43, r54_45, r54_46, r54_49, r54_50, r54_51, r54_54, r54_56, r54_57, r54_58, r54_61, r54_62, r54_63, r54_66, r54_67, r54_68, r54_70, r54_71, r54_74, r54_75, r54_78, r54_80, r54_83, r54_86, r54_89, r54_90, r54_91, r54_94, r54_95, h56', q_nm, b4, e5', h55, hnwt, kdC, kdM, rpC, rpM, q_rs, q_rn, Option.toList_some, Option.toList_none, List.cons_append, List.nil_append, true_and, and_true, eq_self, ↓reduceIte, not_true_eq_false, not_false_eq_true, Nat.reduceEqDiff, Nat.reduceLeDiff, Nat.reduceLT, Nat.reduceAdd, Nat.reduceMul, Nat.reduceSub, false_or, or_false, true_or, or_true, false_and, and_false, reduceCtorEq, q_n0, q_n1, q_em, q_em2, q_b0, q_b1, Classical.not_not, nI_add, pk_mul, nI_clamp, q_vp, nI_eq, nI_leI, nI_ltI, q_sub, show ¬ 400 ≤ nn by omega, show ¬ op = 2 by omega, show ¬ op = 3 by omega]
          rcases ih j1 p1 (z + cs1.length + 1) wt (by omega) a2 a3 hz1 with ⟨j2, p2, cs2, f1, f2, f3, f4, f5, ⟨f6, f7⟩, f8⟩ | ⟨k, f1, f2, f3⟩
          · left
            refine ⟨j2, p2, cs1 ++ ([stp 0 op] ++ cs2), by omega, f2, f3, ?_, nn_app a5 (nn_app (nn_1 (by omega) (by omega)) f5), ⟨fun h cn nn v5 hnn r => ?_, fun h zm => ?_⟩, seml_m o hop (by omega) a2 a8 f8⟩
            · rw [List.length_append, List.length_append]
              show cs1.length + (1 + cs2.length) ≤ _
              omega
            · obtain ⟨h2, b1, b2, b3, b4, b5, b6⟩ := hcl h cn nn v5 hnn r
              obtain ⟨h3, g1, g2, g3, g4, g5⟩ := f6 h2 cn (nn + 1) (.int (nI op)) (by omega) b2
              refine ⟨h3, b1.trans g1, ?_, ?_, fun i hi => by rw [g4 i (by omega), b5 i hi], fun D F hD => by rw [b6 D F hD, g5 D F hD]⟩
              · rw [List.length_append, List.length_append, show z + (cs1.length + ([stp 0 op].length + cs2.length)) = z + cs1.length + 1 + cs2.length by show z + (cs1.length + (1 + cs2.length)) = _; omega]
                exact g2
              · rw [AT_app, AT_app]
                refine ⟨AT_cg (fun i _ hi => g4 i (by omega)) b3, AT_1.mpr (by rw [g4 _ (by omega)]; exact b4), g3⟩
            · obtain ⟨h2, b1, b2, b3⟩ := a7 (sI h 101 14 (nI (j + 1))) (MS_t zm)
              obtain ⟨h3, g1, g2, g3⟩ := f7 h2 b2
              refine ⟨h3, ((FrS.refl h).sI _ rfl).trans (b1.trans g1), g2, fun D F hD => ?_⟩
              obtain ⟨D', rfl⟩ : ∃ d, D = d + 2 := ⟨D - 2, by unfold DPt at hD; omega⟩
              rw [htk h zm, b3 (D' + 1) _ (by omega)]
              exact g3 (D' + 2) F hD
          · right
            refine ⟨k, f1, fun h cn nn v5 hnn r => ?_, fun h zm => ?_⟩
            · obtain ⟨h2, b1, b2, b3, b4, b5, b6⟩ := hcl h cn nn v5 hnn r
              obtain ⟨h3, g1, g2, g3⟩ := f2 h2 cn (nn + 1) (.int (nI op)) (by omega) b2
              exact ⟨h3, b1.trans g1, g2, fun D F hD => by rw [b6 D F hD, g3 D F hD]⟩
            · obtain ⟨h2, b1, b2, b3⟩ := a7 (sI h 101 14 (nI (j + 1))) (MS_t zm)
              obtain ⟨h3, g1, g2, g3⟩ := f3 h2 b2
              refine ⟨h3, ((FrS.refl h).sI _ rfl).trans (b1.trans g1), g2, fun D F hD => ?_⟩
              obtain ⟨D', rfl⟩ : ∃ d, D = d + 2 := ⟨D - 2, by unfold DPt at hD; omega⟩
              rw [htk h zm, b3 (D' + 1) _ (by omega)]
              exact g3 (D' + 2) F hD
        · right
          refine ⟨k, a1, fun h cn nn v5 hnn r => ?_, fun h zm => ?_⟩
          · obtain ⟨h1, b1, b2, b3, b4⟩ := c43r o r
            obtain ⟨g1, e1, e2, e5⟩ := a2 h1 cn b2
            have hnwt : ¬ nI op = opI (wtO wt) := by
              cases wt with
              | none => show ¬ nI op = -1; rw [q_nm (by omega)]; exact id
              | some b =>
                cases b with
                | true => show ¬ nI op = nI 2; rw [nI_eq (by omega) (by omega)]; omega
                | false => show ¬ nI op = nI 3; rw [nI_eq (by omega) (by omega)]; omega
            obtain ⟨g2, x1, x2, x3⟩ := c55f e2 (some op) (fun y e => by cases e; omega)
            obtain ⟨g3, y1, y2, y3⟩ := c55f x2 (wtO wt) (wtO_l wt)
            have x3' : ∀ (d : Nat) (F : Po), cwp true (d + 1) 55 [.ref 76, .int (nI op)] g1 F = F none g2 := x3
            refine ⟨g3, (av_rc b1).trans (e1.trans (x1.trans y1)), y2, fun D F hD => ?_⟩
            obtain ⟨D', rfl⟩ : ∃ d, D = d + 2 := ⟨D - 2, by unfold DSm at hD; omega⟩
            have h56 := fun F d => c56 o r d F
            rw [hopT] at h56
            have h56' : ∀ (F : Po) (d : Nat), cwp true d 56 [.ref 76] h F = F (some (.int (nI op))) h := h56
            have e5' := fun F => e5 (D' + 1) F (by unfold DSm at hD; unfold DPt; omega)
            rw [r54_11]
            simp (disch := omega) only [e54, r54_0, r54_1, r54_2, r54_3, r54_4, r54_7, r54_8, r54_9, r54_13, r54_16, r54_19, r54_20, r54_23, r54_24, r54_27, r54_28, r54_31, r54_32, r54_35, r54_37, r54_39, r54_40, r54_43, r54_45, r54_46, r54_49, r54_50, r54_51, r54_54, r54_56, r54_57, r54_58, r54_61, r54_62, r54_63, r54_66, r54_67, r54_68, r54_70, r54_71, r54_74, r54_75, r54_78, r54_80, r54_83, r54_86, r54_89, r54_90, r54_91, r54_94, r54_95, h56', q_nm, b4, e5', x3', hnwt, kdC, kdM, rpC, rpM, q_rs, q_rn, Option.toList_some, Option.toList_none, List.cons_append, List.nil_append, true_and, and_true, eq_self, ↓reduceIte, not_true_eq_false, not_false_eq_true, Nat.reduceEqDiff, Nat.reduceLeDiff, Nat.reduceLT, Nat.reduceAdd, Nat.reduceMul, Nat.reduceSub, false_or, or_false, true_or, or_true, false_and, and_false, reduceCtorEq, q_n0, q_n1, q_em, q_em2, q_b0, q_b1, Classical.not_not, nI_add, pk_mul, nI_clamp, q_vp, nI_eq, nI_leI, nI_ltI, q_sub, show ¬ 400 ≤ nn by omega, show ¬ op = 2 by omega, show ¬ op = 3 by omega]
            rw [r54_11]
            by_cases c4 : 400 ≤ nn + 1
            · simp (disch := omega) only [e54, r54_0, r54_1, r54_2, r54_3, r54_4, r54_7, r54_8, r54_9, r54_13, r54_16, r54_19, r54_20, r54_23, r54_24, r54_27, r54_28, r54_31, r54_32, r54_35, r54_37, r54_39, r54_40, r54_43, r54_45, r54_46, r54_49, r54_50, r54_51, r54_54, r54_56, r54_57, r54_58, r54_61, r54_62, r54_63, r54_66, r54_67, r54_68, r54_70, r54_71, r54_74, r54_75, r54_78, r54_80, r54_83, r54_86, r54_89, r54_90, r54_91, r54_94, r54_95, y3, c4, kdC, kdM, rpC, rpM, q_rs, q_rn, Option.toList_some, Option.toList_none, List.cons_append, List.nil_append, true_and, and_true, eq_self, ↓reduceIte, not_true_eq_false, not_false_eq_true, Nat.reduceEqDiff, Nat.reduceLeDiff, Nat.reduceLT, Nat.reduceAdd, Nat.reduceMul, Nat.reduceSub, false_or, or_false, true_or, or_true, false_and, and_false, reduceCtorEq, q_n0, q_n1, q_em, q_em2, q_b0, q_b1, Classical.not_not, nI_add, pk_mul, nI_clamp, q_vp, nI_eq, nI_leI, nI_ltI, q_sub]
            · simp (disch := omega) only [e54, r54_0, r54_1, r54_2, r54_3, r54_4, r54_7, r54_8, r54_9, r54_13, r54_16, r54_19, r54_20, r54_23, r54_24, r54_27, r54_28, r54_31, r54_32, r54_35, r54_37, r54_39, r54_40, r54_43, r54_45, r54_46, r54_49, r54_50, r54_51, r54_54, r54_56, r54_57, r54_58, r54_61, r54_62, r54_63, r54_66, r54_67, r54_68, r54_70, r54_71, r54_74, r54_75, r54_78, r54_80, r54_83, r54_86, r54_89, r54_90, r54_91, r54_94, r54_95, y3, c4, kdC, kdM, rpC, rpM, q_rs, q_rn, Option.toList_some, Option.toList_none, List.cons_append, List.nil_append, true_and, and_true, eq_self, ↓reduceIte, not_true_eq_false, not_false_eq_true, Nat.reduceEqDiff, Nat.reduceLeDiff, Nat.reduceLT, Nat.reduceAdd, Nat.reduceMul, Nat.reduceSub, false_or, or_false, true_or, or_true, false_and, and_false, reduceCtorEq, q_n0, q_n1, q_em, q_em2, q_b0, q_b1, Classical.not_not, nI_add, pk_mul, nI_clamp, q_vp, nI_eq, nI_leI, nI_ltI, q_sub]
          · obtain ⟨h2, b1, b2, b3⟩ := a3 (sI h 101 14 (nI (j + 1))) (MS_t zm)
            refine ⟨h2, ((FrS.refl h).sI _ rfl).trans b1, b2, fun D F hD => ?_⟩
            obtain ⟨D', rfl⟩ : ∃ d, D = d + 3 := ⟨D - 3, by unfold DPt at hD; omega⟩
            have hq : ∀ Q : Po, wp true (D' + 3) 185 5 [.ref 101, .int (nI dep)] [] h Q = wp true (D' + 3) 185 5 [.ref 101, .int (nI dep)] [] h2 Q := by
              intro Q
              rw [show D' + 3 = D' + 1 + 2 by omega, htk h zm, b3 (D' + 1 + 1) _ (by omega)]
              rfl
            rw [hq]
            exact ml_x o b2 _ D' F
      · -- + or -
        obtain ⟨b, hb, hopT⟩ : ∃ b : Bool, (tg B n j = if b then 1043 else 1045) ∧ opT (tg B n j) = wtO (some b) := by
          unfold opT at cop
          by_cases u : tg B n j = 1043
          · exact ⟨true, u, by rw [u]; rfl⟩
          · rw [if_neg u] at cop
            by_cases u2 : tg B n j = 1045
            · exact ⟨false, u2, by rw [u2]; rfl⟩
            · rw [if_neg u2, if_neg (fun w => cm (Or.inl w)), if_neg (fun w => cm (Or.inr w))] at cop
              exact absurd rfl cop
        have hbl : tg B n j = 1043 ∨ tg B n j = 1045 := by cases b <;> simp_all
        -- the model leaves the term and takes it
        have htk : ∀ (h : Hp), MS h B n m j p → ∀ D F, wp true (D + 2) 185 5 [.ref 101, .int (nI dep)] [] h (fun r h' => wp true (D + 3) 184 5 [.ref 101, .int (nI dep)] (r.toList ++ []) h' F) = cwp true (D + 1) 186 [.ref 101, .int (nI dep)] (sI h 101 14 (nI (j + 1))) (fun r h' => wp true (D + 2) 185 5 [.ref 101, .int (nI dep)] (r.toList ++ []) h' (fun r h' => wp true (D + 3) 184 5 [.ref 101, .int (nI dep)] (r.toList ++ []) h' F)) := by
          intro h zm D F
          have t1 := fun F d => m176n o hj zm (show ¬ mcJ B n j = nI 142 by rw [mc42 o]; omega) d F
          have t2 := fun F d => m176n o hj zm (show ¬ mcJ B n j = nI 147 by rw [mc47 o]; omega) d F
          rw [r185_5]
          simp (disch := omega) only [e185, r185_0, r185_1, r185_2, r185_6, r185_8, r185_11, r185_14, r185_17, r185_18, r185_20, r185_23, r185_26, r185_29, r185_30, r185_31, r185_34, r185_37, m179, t1, t2, kdC, kdM, rpC, rpM, q_rs, q_rn, Option.toList_some, Option.toList_none, List.cons_append, List.nil_append, true_and, and_true, eq_self, ↓reduceIte, not_true_eq_false, not_false_eq_true, Nat.reduceEqDiff, Nat.reduceLeDiff, Nat.reduceLT, Nat.reduceAdd, Nat.reduceMul, Nat.reduceSub, false_or, or_false, true_or, or_true, false_and, and_false, reduceCtorEq, q_n0, q_n1, q_em, q_em2, q_b0, q_b1, Classical.not_not, nI_add, pk_mul, nI_clamp, q_vp, nI_eq, nI_leI, nI_ltI, q_sub, Nat.reduceAdd]
          rw [r184_5]
          rcases hbl with u | u
          · have t3 := fun F d => m176y o hj zm (show mcJ B n j = nI 143 by rw [mc43 o]; exact u) d F
            simp (disch := omega) only [e184, r184_0, r184_1, r184_2, r184_6, r184_8, r184_11, r184_14, r184_17, r184_18, r184_20, r184_23, r184_26, r184_29, r184_30, r184_31, r184_34, r184_37, e185, r185_0, r185_1, r185_2, r185_6, r185_8, r185_11, r185_14, r185_17, r185_18, r185_20, r185_23, r185_26, r185_29, r185_30, r185_31, r185_34, r185_37, m179, t3, kdC, kdM, rpC, rpM, q_rs, q_rn, Option.toList_some, Option.toList_none, List.cons_append, List.nil_append, true_and, and_true, eq_self, ↓reduceIte, not_true_eq_false, not_false_eq_true, Nat.reduceEqDiff, Nat.reduceLeDiff, Nat.reduceLT, Nat.reduceAdd, Nat.reduceMul, Nat.reduceSub, false_or, or_false, true_or, or_true, false_and, and_false, reduceCtorEq, q_n0, q_n1, q_em, q_em2, q_b0, q_b1, Classical.not_not, nI_add, pk_mul, nI_clamp, q_vp, nI_eq, nI_leI, nI_ltI, q_sub, Nat.reduceAdd]
          · have t3 := fun F d => m176n o hj zm (show ¬ mcJ B n j = nI 143 by rw [mc43 o]; omega) d F
            have t4 := fun F d => m176y o hj zm (show mcJ B n j = nI 145 by rw [mc45 o]; exact u) d F
            simp (disch := omega) only [e184, r184_0, r184_1, r184_2, r184_6, r184_8, r184_11, r184_14, r184_17, r184_18, r184_20, r184_23, r184_26, r184_29, r184_30, r184_31, r184_34, r184_37, e185, r185_0, r185_1, r185_2, r185_6, r185_8, r185_11, r185_14, r185_17, r185_18, r185_20, r185_23, r185_26, r185_29, r185_30, r185_31, r185_34, r185_37, m179, t3, t4, kdC, kdM, rpC, rpM, q_rs, q_rn, Option.toList_some, Option.toList_none, List.cons_append, List.nil_append, true_and, and_true, eq_self, ↓reduceIte, not_true_eq_false, not_false_eq_true, Nat.reduceEqDiff, Nat.reduceLeDiff, Nat.reduceLT, Nat.reduceAdd, Nat.reduceMul, Nat.reduceSub, false_or, or_false, true_or, or_true, false_and, and_false, reduceCtorEq, q_n0, q_n1, q_em, q_em2, q_b0, q_b1, Classical.not_not, nI_add, pk_mul, nI_clamp, q_vp, nI_eq, nI_leI, nI_ltI, q_sub, Nat.reduceAdd]
        have hopv : ∃ ob, (ob = 2 ∨ ob = 3) ∧ wtO (some b) = some ob := by
          cases b with
          | true => exact ⟨2, Or.inl rfl, rfl⟩
          | false => exact ⟨3, Or.inr rfl, rfl⟩
        obtain ⟨ob, hob, hwb⟩ := hopv
        rcases pe (j + 1) p (z + (wtC wt).length) (by omega) hp (by omega) with ⟨j1, p1, cs1, a1, a2, a3, a4, a5, ⟨a6, a7⟩, a8⟩ | ⟨k, a1, a2, a3⟩
        · have hz1 : z + (wtC wt).length + cs1.length + (wtC (some b)).length ≤ j1 := by have := wtC_l (some b); omega
          have hcl : ∀ h cn nn (v5 : Value), nn ≤ j → RC h B n j p z cn → ∃ h2, FrS rcS h h2 ∧ RC h2 B n j1 p1 (z + (wtC wt).length + cs1.length) cn ∧ AT (gI h2 78) z (wtC wt) ∧ AT (gI h2 78) (z + (wtC wt).length) cs1 ∧ (∀ i, i < z → gI h2 78 i = gI h 78 i) ∧ ∀ D F, DSm dep ≤ D → wp true D 54 11 [.ref 76, .int (nI dep), .int (opI (wtO wt)), .int (nI 1), .int (nI nn), v5] [] h F = wp true D 54 11 [.ref 76, .int (nI dep), .int (opI (wtO (some b))), .int (nI 1), .int (nI (nn + 1)), .int (nI ob)] [] h2 F := by
            intro h cn nn v5 hnn r
            obtain ⟨h0, w1, w2, w3, w4, w5⟩ := c55w r wt (by omega)
            obtain ⟨h1, b1, b2, b3, b4⟩ := c43r o w2
            obtain ⟨g1, e1, e2, e3, e4, e5⟩ := a6 h1 cn b2
            refine ⟨g1, w1.trans ((av_rc b1).trans e1), e2, AT_cg (fun i _ hi => by rw [e4 i hi, b3]) w3, e3, fun i hi => by rw [e4 i (by omega), b3, w4 i hi], fun D F hD => ?_⟩
            obtain ⟨D', rfl⟩ : ∃ d, D = d + 2 := ⟨D - 2, by unfold DSm at hD; omega⟩
            have h56 := fun F d => c56 o r d F
            rw [hopT, hwb] at h56
            have h56' : ∀ (F : Po) (d : Nat), cwp true d 56 [.ref 76] h F = F (some (.int (nI ob))) h := h56
            have e5' := fun F => e5 (D' + 1) F (by unfold DSm at hD; unfold DPt; omega)
            have n1 := fun F d => c55n (h := g1) d F
            rw [hwb]
            show _ = wp true (D' + 2) 54 11 [.ref 76, .int (nI dep), .int (nI ob), .int (nI 1), .int (nI (nn + 1)), .int (nI ob)] [] g1 F
            rw [r54_11]
            rcases hob with rfl | rfl
            · simp (disch := omega) only [e54, r54_0, r54_1, r54_2, r54_3, r54_4, r54_7, r54_8, r54_9, r54_13, r54_16, r54_19, r54_20, r54_23, r54_24, r54_27, r54_28, r54_31, r54_32, r54_35, r54_37, r54_39, r54_40, r54_43, r54_45, r54_46, r54_49, r54_50, r54_51, r54_54, r54_56, r54_57, r54_58, r54_61, r54_62, r54_63, r54_66, r54_67, r54_68, r54_70, r54_71, r54_74, r54_75, r54_78, r54_80, r54_83, r54_86, r54_89, r54_90, r54_91, r54_94, r54_95, h56', q_nm, w5, b4, e5', n1, kdC, kdM, rpC, rpM, q_rs, q_rn, Option.toList_some, Option.toList_none, List.cons_append, List.nil_append, true_and, and_true, eq_self, ↓reduceIte, not_true_eq_false, not_false_eq_true, Nat.reduceEqDiff, Nat.reduceLeDiff, Nat.reduceLT, Nat.reduceAdd, Nat.reduceMul, Nat.reduceSub, false_or, or_false, true_or, or_true, false_and, and_false, reduceCtorEq, q_n0, q_n1, q_em, q_em2, q_b0, q_b1, Classical.not_not, nI_add, pk_mul, nI_clamp, q_vp, nI_eq, nI_leI, nI_ltI, q_sub, show ¬ 400 ≤ nn by omega]
            · simp (disch := omega) only [e54, r54_0, r54_1, r54_2, r54_3, r54_4, r54_7, r54_8, r54_9, r54_13, r54_16, r54_19, r54_20, r54_23, r54_24, r54_27, r54_28, r54_31, r54_32, r54_35, r54_37, r54_39, r54_40, r54_43, r54_45, r54_46, r54_49, r54_50, r54_51, r54_54, r54_56, r54_57, r54_58, r54_61, r54_62, r54_63, r54_66, r54_67, r54_68, r54_70, r54_71, r54_74, r54_75, r54_78, r54_80, r54_83, r54_86, r54_89, r54_90, r54_91, r54_94, r54_95, h56', q_nm, w5, b4, e5', n1, kdC, kdM, rpC, rpM, q_rs, q_rn, Option.toList_some, Option.toList_none, List.cons_append, List.nil_append, true_and, and_true, eq_self, ↓reduceIte, not_true_eq_false, not_false_eq_true, Nat.reduceEqDiff, Nat.reduceLeDiff, Nat.reduceLT, Nat.reduceAdd, Nat.reduceMul, Nat.reduceSub, false_or, or_false, true_or, or_true, false_and, and_false, reduceCtorEq, q_n0, q_n1, q_em, q_em2, q_b0, q_b1, Classical.not_not, nI_add, pk_mul, nI_clamp, q_vp, nI_eq, nI_leI, nI_ltI, q_sub, show ¬ 400 ≤ nn by omega]
          rcases ih j1 p1 (z + (wtC wt).length + cs1.length) (some b) (by omega) a2 a3 hz1 with ⟨j2, p2, cs2, f1, f2, f3, f4, f5, ⟨f6, f7⟩, f8⟩ | ⟨k, f1, f2, f3⟩
          · left
            refine ⟨j2, p2, wtC wt ++ (cs1 ++ cs2), by omega, f2, f3, ?_, nn_app (wtC_n wt) (nn_app a5 f5), ⟨fun h cn nn v5 hnn r => ?_, fun h zm => ?_⟩, seml_a o hb (by omega) a2 a8 f8⟩
            · have := wtC_l (some b)
              rw [List.length_append, List.length_append]
              omega
            · obtain ⟨h2, b1, b2, b3, b4, b5, b6⟩ := hcl h cn nn v5 hnn r
              obtain ⟨h3, g1, g2, g3, g4, g5⟩ := f6 h2 cn (nn + 1) (.int (nI ob)) (by omega) b2
              refine ⟨h3, b1.trans g1, ?_, ?_, fun i hi => by rw [g4 i (by omega), b5 i hi], fun D F hD => by rw [b6 D F hD, g5 D F hD]⟩
              · rw [List.length_append, List.length_append, show z + ((wtC wt).length + (cs1.length + cs2.length)) = z + (wtC wt).length + cs1.length + cs2.length by omega]
                exact g2
              · rw [AT_app, AT_app]
                exact ⟨AT_cg (fun i _ hi => g4 i (by omega)) b3, AT_cg (fun i _ hi => g4 i (by omega)) b4, g3⟩
            · obtain ⟨h2, b1, b2, b3⟩ := a7 (sI h 101 14 (nI (j + 1))) (MS_t zm)
              obtain ⟨h3, g1, g2, g3⟩ := f7 h2 b2
              refine ⟨h3, ((FrS.refl h).sI _ rfl).trans (b1.trans g1), g2, fun D F hD => ?_⟩
              obtain ⟨D', rfl⟩ : ∃ d, D = d + 2 := ⟨D - 2, by unfold DPt at hD; omega⟩
              rw [htk h zm, b3 (D' + 1) _ (by omega)]
              exact g3 (D' + 2) F hD
          · right
            refine ⟨k, f1, fun h cn nn v5 hnn r => ?_, fun h zm => ?_⟩
            · obtain ⟨h2, b1, b2, b3, b4, b5, b6⟩ := hcl h cn nn v5 hnn r
              obtain ⟨h3, g1, g2, g3⟩ := f2 h2 cn (nn + 1) (.int (nI ob)) (by omega) b2
              exact ⟨h3, b1.trans g1, g2, fun D F hD => by rw [b6 D F hD, g3 D F hD]⟩
            · obtain ⟨h2, b1, b2, b3⟩ := a7 (sI h 101 14 (nI (j + 1))) (MS_t zm)
              obtain ⟨h3, g1, g2, g3⟩ := f3 h2 b2
              refine ⟨h3, ((FrS.refl h).sI _ rfl).trans (b1.trans g1), g2, fun D F hD => ?_⟩
              obtain ⟨D', rfl⟩ : ∃ d, D = d + 2 := ⟨D - 2, by unfold DPt at hD; omega⟩
              rw [htk h zm, b3 (D' + 1) _ (by omega)]
              exact g3 (D' + 2) F hD
        · right
          refine ⟨k, a1, fun h cn nn v5 hnn r => ?_, fun h zm => ?_⟩
          · obtain ⟨h0, w1, w2, w3, w4, w5⟩ := c55w r wt (by omega)
            obtain ⟨h1, b1, b2, b3, b4⟩ := c43r o w2
            obtain ⟨g1, e1, e2, e5⟩ := a2 h1 cn b2
            obtain ⟨g3, y1, y2, y3⟩ := c55f e2 (some ob) (fun y e => by cases e; omega)
            have y3' : ∀ (d : Nat) (F : Po), cwp true (d + 1) 55 [.ref 76, .int (nI ob)] g1 F = F none g3 := y3
            refine ⟨g3, w1.trans ((av_rc b1).trans (e1.trans y1)), y2, fun D F hD => ?_⟩
            obtain ⟨D', rfl⟩ : ∃ d, D = d + 2 := ⟨D - 2, by unfold DSm at hD; omega⟩
            have h56 := fun F d => c56 o r d F
            rw [hopT, hwb] at h56
            have h56' : ∀ (F : Po) (d : Nat), cwp true d 56 [.ref 76] h F = F (some (.int (nI ob))) h := h56
            have e5' := fun F => e5 (D' + 1) F (by unfold DSm at hD; unfold DPt; omega)
            have n1 := fun F d => c55n (h := g1) d F
            have step : wp true (D' + 2) 54 11 [.ref 76, .int (nI dep), .int (opI (wtO wt)), .int (nI 1), .int (nI nn), v5] [] h F = wp true (D' + 2) 54 11 [.ref 76, .int (nI dep), .int (nI ob), .int (nI 0), .int (nI (nn + 1)), .int (nI ob)] [] g1 F := by
              rw [r54_11]
              rcases hob with rfl | rfl
              · simp (disch := omega) only [e54, r54_0, r54_1, r54_2, r54_3, r54_4, r54_7, r54_8, r54_9, r54_13, r54_16, r54_19, r54_20, r54_23, r54_24, r54_27, r54_28, r54_31, r54_32, r54_35, r54_37, r54_39, r54_40, r54_43, r54_45, r54_46, r54_49, r54_50, r54_51, r54_54, r54_56, r54_57, r54_58, r54_61, r54_62, r54_63, r54_66, r54_67, r54_68, r54_70, r54_71, r54_74, r54_75, r54_78, r54_80, r54_83, r54_86, r54_89, r54_90, r54_91, r54_94, r54_95, h56', q_nm, w5, b4, e5', n1, kdC, kdM, rpC, rpM, q_rs, q_rn, Option.toList_some, Option.toList_none, List.cons_append, List.nil_append, true_and, and_true, eq_self, ↓reduceIte, not_true_eq_false, not_false_eq_true, Nat.reduceEqDiff, Nat.reduceLeDiff, Nat.reduceLT, Nat.reduceAdd, Nat.reduceMul, Nat.reduceSub, false_or, or_false, true_or, or_true, false_and, and_false, reduceCtorEq, q_n0, q_n1, q_em, q_em2, q_b0, q_b1, Classical.not_not, nI_add, pk_mul, nI_clamp, q_vp, nI_eq, nI_leI, nI_ltI, q_sub, show ¬ 400 ≤ nn by omega]
              · simp (disch := omega) only [e54, r54_0, r54_1, r54_2, r54_3, r54_4, r54_7, r54_8, r54_9, r54_13, r54_16, r54_19, r54_20, r54_23, r54_24, r54_27, r54_28, r54_31, r54_32, r54_35, r54_37, r54_39, r54_40, r54_43, r54_45, r54_46, r54_49, r54_50, r54_51, r54_54, r54_56, r54_57, r54_58, r54_61, r54_62, r54_63, r54_66, r54_67, r54_68, r54_70, r54_71, r54_74, r54_75, r54_78, r54_80, r54_83, r54_86, r54_89, r54_90, r54_91, r54_94, r54_95, h56', q_nm, w5, b4, e5', n1, kdC, kdM, rpC, rpM, q_rs, q_rn, Option.toList_some, Option.toList_none, List.cons_append, List.nil_append, true_and, and_true, eq_self, ↓reduceIte, not_true_eq_false, not_false_eq_true, Nat.reduceEqDiff, Nat.reduceLeDiff, Nat.reduceLT, Nat.reduceAdd, Nat.reduceMul, Nat.reduceSub, false_or, or_false, true_or, or_true, false_and, and_false, reduceCtorEq, q_n0, q_n1, q_em, q_em2, q_b0, q_b1, Classical.not_not, nI_add, pk_mul, nI_clamp, q_vp, nI_eq, nI_leI, nI_ltI, q_sub, show ¬ 400 ≤ nn by omega]
            rw [step, r54_11]
            by_cases c4 : 400 ≤ nn + 1
            · simp (disch := omega) only [e54, r54_0, r54_1, r54_2, r54_3, r54_4, r54_7, r54_8, r54_9, r54_13, r54_16, r54_19, r54_20, r54_23, r54_24, r54_27, r54_28, r54_31, r54_32, r54_35, r54_37, r54_39, r54_40, r54_43, r54_45, r54_46, r54_49, r54_50, r54_51, r54_54, r54_56, r54_57, r54_58, r54_61, r54_62, r54_63, r54_66, r54_67, r54_68, r54_70, r54_71, r54_74, r54_75, r54_78, r54_80, r54_83, r54_86, r54_89, r54_90, r54_91, r54_94, r54_95, y3', c4, kdC, kdM, rpC, rpM, q_rs, q_rn, Option.toList_some, Option.toList_none, List.cons_append, List.nil_append, true_and, and_true, eq_self, ↓reduceIte, not_true_eq_false, not_false_eq_true, Nat.reduceEqDiff, Nat.reduceLeDiff, Nat.reduceLT, Nat.reduceAdd, Nat.reduceMul, Nat.reduceSub, false_or, or_false, true_or, or_true, false_and, and_false, reduceCtorEq, q_n0, q_n1, q_em, q_em2, q_b0, q_b1, Classical.not_not, nI_add, pk_mul, nI_clamp, q_vp, nI_eq, nI_leI, nI_ltI, q_sub]
            · simp (disch := omega) only [e54, r54_0, r54_1, r54_2, r54_3, r54_4, r54_7, r54_8, r54_9, r54_13, r54_16, r54_19, r54_20, r54_23, r54_24, r54_27, r54_28, r54_31, r54_32, r54_35, r54_37, r54_39, r54_40, r54_43, r54_45, r54_46, r54_49, r54_50, r54_51, r54_54, r54_56, r54_57, r54_58, r54_61, r54_62, r54_63, r54_66, r54_67, r54_68, r54_70, r54_71, r54_74, r54_75, r54_78, r54_80, r54_83, r54_86, r54_89, r54_90, r54_91, r54_94, r54_95, y3', c4, kdC, kdM, rpC, rpM, q_rs, q_rn, Option.toList_some, Option.toList_none, List.cons_append, List.nil_append, true_and, and_true, eq_self, ↓reduceIte, not_true_eq_false, not_false_eq_true, Nat.reduceEqDiff, Nat.reduceLeDiff, Nat.reduceLT, Nat.reduceAdd, Nat.reduceMul, Nat.reduceSub, false_or, or_false, true_or, or_true, false_and, and_false, reduceCtorEq, q_n0, q_n1, q_em, q_em2, q_b0, q_b1, Classical.not_not, nI_add, pk_mul, nI_clamp, q_vp, nI_eq, nI_leI, nI_ltI, q_sub]
          · obtain ⟨h2, b1, b2, b3⟩ := a3 (sI h 101 14 (nI (j + 1))) (MS_t zm)
            refine ⟨h2, ((FrS.refl h).sI _ rfl).trans b1, b2, fun D F hD => ?_⟩
            obtain ⟨D', rfl⟩ : ∃ d, D = d + 3 := ⟨D - 3, by unfold DPt at hD; omega⟩
            have hq : wp true (D' + 3) 185 5 [.ref 101, .int (nI dep)] [] h (fun r h' => wp true (D' + 3 + 1) 184 5 [.ref 101, .int (nI dep)] (r.toList ++ []) h' F) = wp true (D' + 3) 185 5 [.ref 101, .int (nI dep)] [] h2 (fun r h' => wp true (D' + 3 + 1) 184 5 [.ref 101, .int (nI dep)] (r.toList ++ []) h' F) := by
              refine Eq.trans (htk h zm (D' + 1) F) ?_
              rw [b3 (D' + 1 + 1) _ (by omega)]
              rfl
            rw [hq]
            exact ml_x o b2 _ D' F
theorem sum_ex (o : TOK B n m) {dep : Nat} (hdep : dep ≤ 8) (pe : PEx B n m dep) : SEx B n m dep := by
  intro j p z hj hp hz
  have hm4 := o.m400
  rcases pe j p z hj hp hz with ⟨j1, p1, cs1, a1, a2, a3, a4, a5, ⟨a6, a7⟩, a8⟩ | ⟨k, a1, a2, a3⟩
  · rcases loop_ex o hdep pe m j1 p1 (z + cs1.length) none (by omega) a2 a3 (by show z + cs1.length + 0 ≤ j1; omega) with ⟨j2, p2, cs2, f1, f2, f3, f4, f5, ⟨f6, f7⟩, f8⟩ | ⟨k, f1, f2, f3⟩
    · left
      refine ⟨j2, p2, cs1 ++ cs2, by omega, f2, f3, ?_, nn_app a5 f5, ⟨fun h cn r => ?_, fun h zm => ?_⟩, sem_s o a8 f8⟩
      · rw [List.length_append]
        have : (wtC none).length = 0 := rfl
        omega
      · obtain ⟨h2, b1, b2, b3, b4, b5⟩ := a6 h cn r
        obtain ⟨h3, g1, g2, g3, g4, g5⟩ := f6 h2 cn 0 jn (by omega) b2
        refine ⟨h3, b1.trans g1, ?_, ?_, fun i hi => by rw [g4 i (by omega), b4 i hi], fun D F hD => ?_⟩
        · rw [List.length_append, ← Nat.add_assoc]; exact g2
        · rw [AT_app]
          exact ⟨AT_cg (fun i _ hi => g4 i (by omega)) b3, g3⟩
        · obtain ⟨D', rfl⟩ : ∃ d, D = d + 1 := ⟨D - 1, by unfold DSm at hD; omega⟩
          have b5' := fun F => b5 D' F (by unfold DSm at hD; unfold DPt; omega)
          refine Eq.trans ?_ (g5 (D' + 1) F hD)
          simp (disch := omega) only [r54_0, r54_1, r54_2, r54_3, r54_4, r54_7, r54_8, r54_9, e54, b5', kdC, kdM, rpC, rpM, q_rs, q_rn, Option.toList_some, Option.toList_none, List.cons_append, List.nil_append, true_and, and_true, eq_self, ↓reduceIte, not_true_eq_false, not_false_eq_true, Nat.reduceEqDiff, Nat.reduceLeDiff, Nat.reduceLT, Nat.reduceAdd, Nat.reduceMul, Nat.reduceSub, false_or, or_false, true_or, or_true, false_and, and_false, reduceCtorEq, q_n0, q_n1, q_em, q_em2, q_b0, q_b1, Classical.not_not]
          rfl
      · obtain ⟨h2, b1, b2, b3⟩ := a7 h zm
        obtain ⟨h3, g1, g2, g3⟩ := f7 h2 b2
        refine ⟨h3, b1.trans g1, g2, fun D F hD => ?_⟩
        obtain ⟨D', rfl⟩ : ∃ d, D = d + 2 := ⟨D - 2, by unfold DSm at hD; omega⟩
        have b3' := fun F => b3 D' F (by unfold DSm at hD; unfold DPt; omega)
        refine Eq.trans ?_ (g3 (D' + 1) F (by unfold DSm at hD; unfold DPt; omega))
        simp (disch := omega) only [r184_0, r184_1, r184_2, e184, r185_0, r185_1, r185_2, e185, b3', kdC, kdM, rpC, rpM, q_rs, q_rn, Option.toList_some, Option.toList_none, List.cons_append, List.nil_append, true_and, and_true, eq_self, ↓reduceIte, not_true_eq_false, not_false_eq_true, Nat.reduceEqDiff, Nat.reduceLeDiff, Nat.reduceLT, Nat.reduceAdd, Nat.reduceMul, Nat.reduceSub, false_or, or_false, true_or, or_true, false_and, and_false, reduceCtorEq, q_n0, q_n1, q_em, q_em2, q_b0, q_b1, Classical.not_not]
    · right
      refine ⟨k, f1, fun h cn r => ?_, fun h zm => ?_⟩
      · obtain ⟨h2, b1, b2, b3, b4, b5⟩ := a6 h cn r
        obtain ⟨h3, g1, g2, g5⟩ := f2 h2 cn 0 jn (by omega) b2
        refine ⟨h3, b1.trans g1, g2, fun D F hD => ?_⟩
        obtain ⟨D', rfl⟩ : ∃ d, D = d + 1 := ⟨D - 1, by unfold DSm at hD; omega⟩
        have b5' := fun F => b5 D' F (by unfold DSm at hD; unfold DPt; omega)
        refine Eq.trans ?_ (g5 (D' + 1) F hD)
        simp (disch := omega) only [r54_0, r54_1, r54_2, r54_3, r54_4, r54_7, r54_8, r54_9, e54, b5', kdC, kdM, rpC, rpM, q_rs, q_rn, Option.toList_some, Option.toList_none, List.cons_append, List.nil_append, true_and, and_true, eq_self, ↓reduceIte, not_true_eq_false, not_false_eq_true, Nat.reduceEqDiff, Nat.reduceLeDiff, Nat.reduceLT, Nat.reduceAdd, Nat.reduceMul, Nat.reduceSub, false_or, or_false, true_or, or_true, false_and, and_false, reduceCtorEq, q_n0, q_n1, q_em, q_em2, q_b0, q_b1, Classical.not_not]
        rfl
      · obtain ⟨h2, b1, b2, b3⟩ := a7 h zm
        obtain ⟨h3, g1, g2, g3⟩ := f3 h2 b2
        refine ⟨h3, b1.trans g1, g2, fun D F hD => ?_⟩
        obtain ⟨D', rfl⟩ : ∃ d, D = d + 2 := ⟨D - 2, by unfold DSm at hD; omega⟩
        have b3' := fun F => b3 D' F (by unfold DSm at hD; unfold DPt; omega)
        refine Eq.trans ?_ (g3 (D' + 1) F (by unfold DSm at hD; unfold DPt; omega))
        simp (disch := omega) only [r184_0, r184_1, r184_2, e184, r185_0, r185_1, r185_2, e185, b3', kdC, kdM, rpC, rpM, q_rs, q_rn, Option.toList_some, Option.toList_none, List.cons_append, List.nil_append, true_and, and_true, eq_self, ↓reduceIte, not_true_eq_false, not_false_eq_true, Nat.reduceEqDiff, Nat.reduceLeDiff, Nat.reduceLT, Nat.reduceAdd, Nat.reduceMul, Nat.reduceSub, false_or, or_false, true_or, or_true, false_and, and_false, reduceCtorEq, q_n0, q_n1, q_em, q_em2, q_b0, q_b1, Classical.not_not]
  · right
    refine ⟨k, a1, fun h cn r => ?_, fun h zm => ?_⟩
    · obtain ⟨h2, b1, b2, b5⟩ := a2 h cn r
      refine ⟨h2, b1, b2, fun D F hD => ?_⟩
      obtain ⟨D', rfl⟩ : ∃ d, D = d + 2 := ⟨D - 2, by unfold DSm at hD; omega⟩
      have b5' := fun F => b5 (D' + 1) F (by unfold DSm at hD; unfold DPt; omega)
      have n1 := fun F d => c55n (h := h2) d F
      simp (disch := omega) only [r54_0, r54_1, r54_2, r54_3, r54_4, r54_7, r54_8, r54_9, e54, b5', kdC, kdM, rpC, rpM, q_rs, q_rn, Option.toList_some, Option.toList_none, List.cons_append, List.nil_append, true_and, and_true, eq_self, ↓reduceIte, not_true_eq_false, not_false_eq_true, Nat.reduceEqDiff, Nat.reduceLeDiff, Nat.reduceLT, Nat.reduceAdd, Nat.reduceMul, Nat.reduceSub, false_or, or_false, true_or, or_true, false_and, and_false, reduceCtorEq, q_n0, q_n1, q_em, q_em2, q_b0, q_b1, Classical.not_not]
      rw [r54_11]
      simp (disch := omega) only [e54, r54_0, r54_1, r54_2, r54_3, r54_4, r54_7, r54_8, r54_9, r54_13, r54_16, r54_19, r54_20, r54_23, r54_24, r54_27, r54_28, r54_31, r54_32, r54_35, r54_37, r54_39, r54_40, r54_43, r54_45, r54_46, r54_49, r54_50, r54_51, r54_54, r54_56, r54_57, r54_58, r54_61, r54_62, r54_63, r54_66, r54_67, r54_68, r54_70, r54_71, r54_74, r54_75, r54_78, r54_80, r54_83, r54_86, r54_89, r54_90, r54_91, r54_94, r54_95, n1, kdC, kdM, rpC, rpM, q_rs, q_rn, Option.toList_some, Option.toList_none, List.cons_append, List.nil_append, true_and, and_true, eq_self, ↓reduceIte, not_true_eq_false, not_false_eq_true, Nat.reduceEqDiff, Nat.reduceLeDiff, Nat.reduceLT, Nat.reduceAdd, Nat.reduceMul, Nat.reduceSub, false_or, or_false, true_or, or_true, false_and, and_false, reduceCtorEq, q_n0, q_n1, q_em, q_em2, q_b0, q_b1, Classical.not_not, nI_add, pk_mul, nI_clamp, q_vp, nI_eq, nI_leI, nI_ltI, q_sub]
    · obtain ⟨h2, b1, b2, b3⟩ := a3 h zm
      refine ⟨h2, b1, b2, fun D F hD => ?_⟩
      obtain ⟨D', rfl⟩ : ∃ d, D = d + 4 := ⟨D - 4, by unfold DSm at hD; omega⟩
      have b3' := fun F => b3 (D' + 2) F (by unfold DSm at hD; unfold DPt; omega)
      refine Eq.trans ?_ (ml_x o b2 (nI dep) D' F)
      simp (disch := omega) only [r184_0, r184_1, r184_2, e184, r185_0, r185_1, r185_2, e185, b3', kdC, kdM, rpC, rpM, q_rs, q_rn, Option.toList_some, Option.toList_none, List.cons_append, List.nil_append, true_and, and_true, eq_self, ↓reduceIte, not_true_eq_false, not_false_eq_true, Nat.reduceEqDiff, Nat.reduceLeDiff, Nat.reduceLT, Nat.reduceAdd, Nat.reduceMul, Nat.reduceSub, false_or, or_false, true_or, or_true, false_and, and_false, reduceCtorEq, q_n0, q_n1, q_em, q_em2, q_b0, q_b1, Classical.not_not]
theorem sums_all (o : TOK B n m) : ∀ q dep, dep + q = 8 → PEx B n m dep ∧ SEx B n m dep
  | 0, dep, e => by
    have pe := part_ex (B := B) (n := n) (m := m) o (dep := dep) (by omega) (fun h => by omega)
    exact ⟨pe, sum_ex o (by omega) pe⟩
  | q + 1, dep, e => by
    have pe := part_ex (B := B) (n := n) (m := m) o (dep := dep) (by omega) (fun h => (sums_all o q (dep + 1) (by omega)).2)
    exact ⟨pe, sum_ex o (by omega) pe⟩
end JS
