/-! reading a TEST, whole, both -/
section TW
variable {B : Nat → Int32} {n m : Nat}
def UOK (B : Nat → Int32) (n m dep j p z j' p' : Nat) (cs : List Int32) (Ta Ts : Nat) : Prop :=
  (∀ h cn nn (aP sP : Option Nat), nn ≤ j → (∀ y, aP = some y → y < z) → (∀ y, sP = some y → y < z) → (∀ y, aP = some y → sP ≠ some y) → RC h B n j p z cn → ∃ h', FrS rcS h h' ∧ RC h' B n j' p' (z + cs.length) cn ∧ AT (gI h' 78) z cs ∧ (∀ i, i < z → aP ≠ some i → sP ≠ some i → gI h' 78 i = gI h 78 i) ∧ (∀ y, aP = some y → gI h' 78 y = stp Ta 11) ∧ (∀ y, sP = some y → gI h' 78 y = stp Ts 10) ∧ ∀ D F, DTs dep ≤ D → wp true D 50 14 [.ref 76, .int (nI dep), .int (opI aP), .int (opI sP), .int (nI 1), .int (nI nn)] [] h F = F (some (.int (nI 1))) h') ∧
  ∀ h, MS h B n m j p → ∃ h', FrS psS h h' ∧ MS h' B n m j' p' ∧ ∀ D F, DPl dep + 1 ≤ D → wp true D 182 5 [.ref 101, .int (nI dep)] [] h (fun r h' => wp true (D + 1) 181 5 [.ref 101, .int (nI dep)] (r.toList ++ []) h' F) = F none h'
def UNO (B : Nat → Int32) (n m dep j p z k : Nat) : Prop :=
  (∀ h cn nn (aP sP : Option Nat), nn ≤ j → (∀ y, aP = some y → y < z) → (∀ y, sP = some y → y < z) → RC h B n j p z cn → ∃ h', FrS rcS h h' ∧ FC h' B n k ∧ ∀ D F, DTs dep ≤ D → wp true D 50 14 [.ref 76, .int (nI dep), .int (opI aP), .int (opI sP), .int (nI 1), .int (nI nn)] [] h F = F (some (.int (nI 0))) h') ∧
  ∀ h, MS h B n m j p → ∃ h', FrS psS h h' ∧ MX h' B n k ∧ ∀ D F, DPl dep + 1 ≤ D → wp true D 182 5 [.ref 101, .int (nI dep)] [] h (fun r h' => wp true (D + 1) 181 5 [.ref 101, .int (nI dep)] (r.toList ++ []) h' F) = F none h'
theorem mt_x (o : TOK B n m) {h : Hp} {k : Nat} (z : MX h B n k) (x : Int32) (D : Nat) (F : Po) : wp true (D + 3) 182 5 [.ref 101, .int x] [] h (fun r h' => wp true (D + 3 + 1) 181 5 [.ref 101, .int x] (r.toList ++ []) h' F) = F none h := by
  have h1 := fun c F d => m176x o z c d F
  rw [r182_5]
  simp (disch := omega) only [e182, r182_0, r182_1, r182_2, r182_6, r182_8, r182_11, r182_14, r182_15, r182_16, r182_19, r182_22, h1, kdC, kdM, rpC, rpM, q_rs, q_rn, Option.toList_some, Option.toList_none, List.cons_append, List.nil_append, true_and, and_true, eq_self, ↓reduceIte, not_true_eq_false, not_false_eq_true, Nat.reduceEqDiff, Nat.reduceLeDiff, Nat.reduceLT, Nat.reduceAdd, Nat.reduceMul, Nat.reduceSub, false_or, or_false, true_or, or_true, false_and, and_false, reduceCtorEq, q_n0, q_n1, q_em, q_em2, q_b0, q_b1, Classical.not_not]
  rw [r181_5]
  simp (disch := omega) only [e181, r181_0, r181_1, r181_2, r181_6, r181_8, r181_11, r181_14, r181_15, r181_16, r181_19, r181_22, h1, kdC, kdM, rpC, rpM, q_rs, q_rn, Option.toList_some, Option.toList_none, List.cons_append, List.nil_append, true_and, and_true, eq_self, ↓reduceIte, not_true_eq_false, not_false_eq_true, Nat.reduceEqDiff, Nat.reduceLeDiff, Nat.reduceLT, Nat.reduceAdd, Nat.reduceMul, Nat.reduceSub, false_or, or_false, true_or, or_true, false_and, and_false, reduceCtorEq, q_n0, q_n1, q_em, q_em2, q_b0, q_b1, Classical.not_not]
/-- the class ends a TEST that has failed -/
theorem cl50_x {h : Hp} {k dep nn : Nat} (hnn : nn ≤ 401) (f : FC h B n k) (aP sP : Option Nat) (ha : ∀ y, aP = some y → y < 400) (hs : ∀ y, sP = some y → y < 400) : ∃ h', FrS rcS h h' ∧ FC h' B n k ∧ ∀ D F, wp true (D + 1) 50 14 [.ref 76, .int (nI dep), .int (opI aP), .int (opI sP), .int (nI 0), .int (nI nn)] [] h F = F (some (.int (nI 0))) h' := by
  obtain ⟨h1, a1, a2, a3⟩ := c48f f aP ha (op := 11) (by omega)
  obtain ⟨h2, b1, b2, b3⟩ := c48f a2 sP hs (op := 10) (by omega)
  refine ⟨h2, a1.trans b1, b2, fun D F => ?_⟩
  rw [r50_14]
  by_cases c4 : 400 ≤ nn
  · simp (disch := omega) only [e50, r50_0, r50_1, r50_2, r50_3, r50_4, r50_5, r50_6, r50_9, r50_11, r50_12, r50_16, r50_19, r50_22, r50_24, r50_27, r50_28, r50_31, r50_33, r50_36, r50_37, r50_40, r50_41, r50_44, r50_45, r50_46, r50_48, r50_51, r50_52, r50_55, r50_57, r50_60, r50_61, r50_63, r50_64, r50_67, r50_68, r50_71, r50_72, r50_73, r50_75, r50_78, r50_79, r50_81, r50_82, r50_85, r50_86, r50_87, r50_88, r50_89, r50_92, r50_93, r50_94, r50_97, r50_99, r50_102, r50_105, r50_106, r50_107, r50_109, r50_112, r50_113, r50_114, r50_116, r50_119, r50_121, a3, b3, c4, kdC, kdM, rpC, rpM, q_rs, q_rn, Option.toList_some, Option.toList_none, List.cons_append, List.nil_append, true_and, and_true, eq_self, ↓reduceIte, not_true_eq_false, not_false_eq_true, Nat.reduceEqDiff, Nat.reduceLeDiff, Nat.reduceLT, Nat.reduceAdd, Nat.reduceMul, Nat.reduceSub, false_or, or_false, true_or, or_true, false_and, and_false, reduceCtorEq, q_n0, q_n1, q_em, q_em2, q_b0, q_b1, Classical.not_not, nI_add, pk_mul, nI_clamp, q_vp, nI_eq, nI_leI, nI_ltI, q_sub]
  · simp (disch := omega) only [e50, r50_0, r50_1, r50_2, r50_3, r50_4, r50_5, r50_6, r50_9, r50_11, r50_12, r50_16, r50_19, r50_22, r50_24, r50_27, r50_28, r50_31, r50_33, r50_36, r50_37, r50_40, r50_41, r50_44, r50_45, r50_46, r50_48, r50_51, r50_52, r50_55, r50_57, r50_60, r50_61, r50_63, r50_64, r50_67, r50_68, r50_71, r50_72, r50_73, r50_75, r50_78, r50_79, r50_81, r50_82, r50_85, r50_86, r50_87, r50_88, r50_89, r50_92, r50_93, r50_94, r50_97, r50_99, r50_102, r50_105, r50_106, r50_107, r50_109, r50_112, r50_113, r50_114, r50_116, r50_119, r50_121, a3, b3, c4, kdC, kdM, rpC, rpM, q_rs, q_rn, Option.toList_some, Option.toList_none, List.cons_append, List.nil_append, true_and, and_true, eq_self, ↓reduceIte, not_true_eq_false, not_false_eq_true, Nat.reduceEqDiff, Nat.reduceLeDiff, Nat.reduceLT, Nat.reduceAdd, Nat.reduceMul, Nat.reduceSub, false_or, or_false, true_or, or_true, false_and, and_false, reduceCtorEq, q_n0, q_n1, q_em, q_em2, q_b0, q_b1, Classical.not_not, nI_add, pk_mul, nI_clamp, q_vp, nI_eq, nI_leI, nI_ltI, q_sub]
/-- a TEST ends -/
theorem tl_end (o : TOK B n m) {dep j p z : Nat} (hdep : dep ≤ 8) (hj : j ≤ m) (hp : p ≤ 50) (hz : z ≤ j) (h5 : tg B n j ≠ 5) (h6 : tg B n j ≠ 6) : ∃ j' p' cs Ta Ts, j ≤ j' ∧ j' ≤ m ∧ p' ≤ 50 ∧ cs.length ≤ j' - j ∧ nnL cs ∧ UOK B n m dep j p z j' p' cs Ta Ts ∧ TSL B n m (fuQ dep + 1) (2 * dep + 1) j z cs Ta Ts j' := by
  have hm4 := o.m400
  refine ⟨j, p, [], z, z, Nat.le_refl _, hj, hp, Nat.zero_le _, (fun x hx => absurd hx (List.not_mem_nil)), ⟨fun h cn nn aP sP hnn ha hs has r => ?_, fun h zm => ?_⟩, tsl_e o hj h5 h6⟩
  · obtain ⟨h1, a1, a2, a3, a4, a5⟩ := c48r r aP ha (by omega) (op := 11) (by omega)
    obtain ⟨h2, b1, b2, b3, b4, b5⟩ := c48r a2 sP hs (by omega) (op := 10) (by omega)
    refine ⟨h2, a1.trans b1, b2, AT_0 _ _, fun i hi n1 n2 => by rw [b3 i n2, a3 i n1], fun y ey => by rw [b3 y (has y ey)]; exact a4 y ey, b4, fun D F hD => ?_⟩
    obtain ⟨D', rfl⟩ : ∃ d, D = d + 1 := ⟨D - 1, by unfold DTs at hD; omega⟩
    have h4 := r.1.2.1
    have k5 : ¬ kdI (tg B n j) = nI 5 := by rw [kd_w o j (by omega)]; exact h5
    have k6 : ¬ kdI (tg B n j) = nI 6 := by rw [kd_w o j (by omega)]; exact h6
    rw [r50_14]
    by_cases c4 : 400 ≤ nn
    · simp (disch := omega) only [e50, r50_0, r50_1, r50_2, r50_3, r50_4, r50_5, r50_6, r50_9, r50_11, r50_12, r50_16, r50_19, r50_22, r50_24, r50_27, r50_28, r50_31, r50_33, r50_36, r50_37, r50_40, r50_41, r50_44, r50_45, r50_46, r50_48, r50_51, r50_52, r50_55, r50_57, r50_60, r50_61, r50_63, r50_64, r50_67, r50_68, r50_71, r50_72, r50_73, r50_75, r50_78, r50_79, r50_81, r50_82, r50_85, r50_86, r50_87, r50_88, r50_89, r50_92, r50_93, r50_94, r50_97, r50_99, r50_102, r50_105, r50_106, r50_107, r50_109, r50_112, r50_113, r50_114, r50_116, r50_119, r50_121, a5, b5, c4, kdC, kdM, rpC, rpM, q_rs, q_rn, Option.toList_some, Option.toList_none, List.cons_append, List.nil_append, true_and, and_true, eq_self, ↓reduceIte, not_true_eq_false, not_false_eq_true, Nat.reduceEqDiff, Nat.reduceLeDiff, Nat.reduceLT, Nat.reduceAdd, Nat.reduceMul, Nat.reduceSub, false_or, or_false, true_or, or_true, false_and, and_false, reduceCtorEq, q_n0, q_n1, q_em, q_em2, q_b0, q_b1, Classical.not_not, nI_add, pk_mul, nI_clamp, q_vp, nI_eq, nI_leI, nI_ltI, q_sub]
    · simp (disch := omega) only [e50, r50_0, r50_1, r50_2, r50_3, r50_4, r50_5, r50_6, r50_9, r50_11, r50_12, r50_16, r50_19, r50_22, r50_24, r50_27, r50_28, r50_31, r50_33, r50_36, r50_37, r50_40, r50_41, r50_44, r50_45, r50_46, r50_48, r50_51, r50_52, r50_55, r50_57, r50_60, r50_61, r50_63, r50_64, r50_67, r50_68, r50_71, r50_72, r50_73, r50_75, r50_78, r50_79, r50_81, r50_82, r50_85, r50_86, r50_87, r50_88, r50_89, r50_92, r50_93, r50_94, r50_97, r50_99, r50_102, r50_105, r50_106, r50_107, r50_109, r50_112, r50_113, r50_114, r50_116, r50_119, r50_121, a5, b5, c4, h4, k5, k6, kdC, kdM, rpC, rpM, q_rs, q_rn, Option.toList_some, Option.toList_none, List.cons_append, List.nil_append, true_and, and_true, eq_self, ↓reduceIte, not_true_eq_false, not_false_eq_true, Nat.reduceEqDiff, Nat.reduceLeDiff, Nat.reduceLT, Nat.reduceAdd, Nat.reduceMul, Nat.reduceSub, false_or, or_false, true_or, or_true, false_and, and_false, reduceCtorEq, q_n0, q_n1, q_em, q_em2, q_b0, q_b1, Classical.not_not, nI_add, pk_mul, nI_clamp, q_vp, nI_eq, nI_leI, nI_ltI, q_sub]
  · have t1 := fun F d => m176n o hj zm (show ¬ mcJ B n j = nI 7 by rw [mcA o]; exact h6) d F
    have t2 := fun F d => m176n o hj zm (show ¬ mcJ B n j = nI 6 by rw [mcO o]; exact h5) d F
    refine ⟨h, FrS.refl h, zm, fun D F hD => ?_⟩
    obtain ⟨D', rfl⟩ : ∃ d, D = d + 2 := ⟨D - 2, by unfold DPl at hD; omega⟩
    rw [r182_5]
    simp (disch := omega) only [e182, r182_0, r182_1, r182_2, r182_6, r182_8, r182_11, r182_14, r182_15, r182_16, r182_19, r182_22, t1, kdC, kdM, rpC, rpM, q_rs, q_rn, Option.toList_some, Option.toList_none, List.cons_append, List.nil_append, true_and, and_true, eq_self, ↓reduceIte, not_true_eq_false, not_false_eq_true, Nat.reduceEqDiff, Nat.reduceLeDiff, Nat.reduceLT, Nat.reduceAdd, Nat.reduceMul, Nat.reduceSub, false_or, or_false, true_or, or_true, false_and, and_false, reduceCtorEq, q_n0, q_n1, q_em, q_em2, q_b0, q_b1, Classical.not_not]
    rw [r181_5]
    simp (disch := omega) only [e181, r181_0, r181_1, r181_2, r181_6, r181_8, r181_11, r181_14, r181_15, r181_16, r181_19, r181_22, t2, kdC, kdM, rpC, rpM, q_rs, q_rn, Option.toList_some, Option.toList_none, List.cons_append, List.nil_append, true_and, and_true, eq_self, ↓reduceIte, not_true_eq_false, not_false_eq_true, Nat.reduceEqDiff, Nat.reduceLeDiff, Nat.reduceLT, Nat.reduceAdd, Nat.reduceMul, Nat.reduceSub, false_or, or_false, true_or, or_true, false_and, and_false, reduceCtorEq, q_n0, q_n1, q_em, q_em2, q_b0, q_b1, Classical.not_not]
/-- the class at an "or", when only the place of a fault counts -/
theorem hcx1 (o : TOK B n m) {dep j p z : Nat} (hj : j ≤ m) (hjm : j < m) (hz : z ≤ j) (hm4 : m ≤ 400) (hk : kdI (tg B n j) = nI 5) : ∀ h cn nn (aP sP : Option Nat), nn ≤ j → (∀ y, aP = some y → y < z) → (∀ y, sP = some y → y < z) → RC h B n j p z cn → ∃ h2, FrS rcS h h2 ∧ RC h2 B n (j + 1) p (z + 1) cn ∧ ∀ D F, wp true (D + 2) 50 14 [.ref 76, .int (nI dep), .int (opI aP), .int (opI sP), .int (nI 1), .int (nI nn)] [] h F = wp true (D + 2) 50 92 [.ref 76, .int (nI dep), .int (-1), .int (nI z), .int (nI 1), .int (nI nn)] [] h2 F := by
  intro h cn nn aP sP hnn ha hs r
  obtain ⟨h1, a1, a2, a3, a4, a5⟩ := c48r r aP ha (by omega) (op := 11) (by omega)
  obtain ⟨h2, b1, b2, b3, b4, b5⟩ := c48r a2 sP hs (by omega) (op := 10) (by omega)
  have h47 := fun F d => c47 b2.2.2.1 (show z < 400 by omega) (w := 0) (op := 10) (by omega) (by omega) d F
  have r3 := em_r b2 (stp 0 10)
  obtain ⟨h4, e1, e2, e3, e4⟩ := c43r o r3
  have h4k := r.1.2.1
  have h4k1 := a2.1.2.1
  rw [hk] at h4k h4k1
  refine ⟨h4, a1.trans (b1.trans ((em_x _).trans (av_rc e1))), e2, fun D F => ?_⟩
  rw [r50_14]
  simp (disch := omega) only [r50_16, r50_19, r50_22, r50_24, r50_27, r50_28, r50_31, r50_33, r50_36, r50_37, r50_40, r50_41, r50_44, r50_45, r50_46, r50_48, r50_51, r50_52, r50_55, r50_57, r50_60, r50_61, r50_63, r50_64, r50_67, r50_68, r50_71, r50_72, r50_73, r50_75, r50_78, r50_79, r50_81, r50_82, r50_85, r50_86, r50_87, r50_88, r50_89, h4k, h4k1, a5, b5, h47, e4, kdC, kdM, rpC, rpM, q_rs, q_rn, Option.toList_some, Option.toList_none, List.cons_append, List.nil_append, true_and, and_true, eq_self, ↓reduceIte, not_true_eq_false, not_false_eq_true, Nat.reduceEqDiff, Nat.reduceLeDiff, Nat.reduceLT, Nat.reduceAdd, Nat.reduceMul, Nat.reduceSub, false_or, or_false, true_or, or_true, false_and, and_false, reduceCtorEq, q_n0, q_n1, q_em, q_em2, q_b0, q_b1, Classical.not_not, nI_add, pk_mul, nI_clamp, q_vp, nI_eq, nI_leI, nI_ltI, q_sub, show ¬ 400 ≤ nn by omega]
theorem tl_ex (o : TOK B n m) {dep : Nat} (hdep : dep ≤ 8) (pe : PlEx B n m dep) : ∀ q j p z, m - j ≤ q → j ≤ m → p ≤ 50 → z ≤ j → (∃ j' p' cs Ta Ts, j ≤ j' ∧ j' ≤ m ∧ p' ≤ 50 ∧ cs.length ≤ j' - j ∧ nnL cs ∧ UOK B n m dep j p z j' p' cs Ta Ts ∧ TSL B n m (fuQ dep + 1) (2 * dep + 1) j z cs Ta Ts j') ∨ ∃ k, k ≤ m ∧ UNO B n m dep j p z k := by
  have hm4 := o.m400
  intro q
  induction q with
  | zero =>
    intro j p z hq hj hp hz
    obtain rfl : j = m := by omega
    exact Or.inl (tl_end o hdep hj hp hz (by rw [o.e]; omega) (by rw [o.e]; omega))
  | succ q ih =>
    intro j p z hq hj hp hz
    by_cases c5 : tg B n j = 5
    · -- "or"
      have hjm : j < m := o.l hj (by omega)
      have htk : ∀ (h : Hp), MS h B n m j p → ∀ D F, wp true (D + 2) 182 5 [.ref 101, .int (nI dep)] [] h (fun r h' => wp true (D + 3) 181 5 [.ref 101, .int (nI dep)] (r.toList ++ []) h' F) = cwp true (D + 1) 183 [.ref 101, .int (nI dep)] (sI h 101 14 (nI (j + 1))) (fun r h' => wp true (D + 2) 182 5 [.ref 101, .int (nI dep)] (r.toList ++ []) h' (fun r h' => wp true (D + 3) 181 5 [.ref 101, .int (nI dep)] (r.toList ++ []) h' F)) := by
        intro h zm D F
        have t1 := fun F d => m176n o hj zm (show ¬ mcJ B n j = nI 7 by rw [mcA o]; omega) d F
        have t2 := fun F d => m176y o hj zm (show mcJ B n j = nI 6 by rw [mcO o]; exact c5) d F
        rw [r182_5]
        simp (disch := omega) only [e182, r182_0, r182_1, r182_2, r182_6, r182_8, r182_11, r182_14, r182_15, r182_16, r182_19, r182_22, t1, kdC, kdM, rpC, rpM, q_rs, q_rn, Option.toList_some, Option.toList_none, List.cons_append, List.nil_append, true_and, and_true, eq_self, ↓reduceIte, not_true_eq_false, not_false_eq_true, Nat.reduceEqDiff, Nat.reduceLeDiff, Nat.reduceLT, Nat.reduceAdd, Nat.reduceMul, Nat.reduceSub, false_or, or_false, true_or, or_true, false_and, and_false, reduceCtorEq, q_n0, q_n1, q_em, q_em2, q_b0, q_b1, Classical.not_not]
        rw [r181_5]
        simp (disch := omega) only [e181, r181_0, r181_1, r181_2, r181_6, r181_8, r181_11, r181_14, r181_15, r181_16, r181_19, r181_22, e182, r182_0, r182_1, r182_2, r182_6, r182_8, r182_11, r182_14, r182_15, r182_16, r182_19, r182_22, t2, kdC, kdM, rpC, rpM, q_rs, q_rn, Option.toList_some, Option.toList_none, List.cons_append, List.nil_append, true_and, and_true, eq_self, ↓reduceIte, not_true_eq_false, not_false_eq_true, Nat.reduceEqDiff, Nat.reduceLeDiff, Nat.reduceLT, Nat.reduceAdd, Nat.reduceMul, Nat.reduceSub, false_or, or_false, true_or, or_true, false_and, and_false, reduceCtorEq, q_n0, q_n1, q_em, q_em2, q_b0, q_b1, Classical.not_not]
      have hk : kdI (tg B n j) = nI 5 := by rw [c5]; rfl
      -- the class's first steps
      have hcl : ∀ h cn nn (aP sP : Option Nat), nn ≤ j → (∀ y, aP = some y → y < z) → (∀ y, sP = some y → y < z) → (∀ y, aP = some y → sP ≠ some y) → RC h B n j p z cn → ∃ h2, FrS rcS h h2 ∧ RC h2 B n (j + 1) p (z + 1) cn ∧ (∀ i, i < z → aP ≠ some i → sP ≠ some i → gI h2 78 i = gI h 78 i) ∧ (∀ y, aP = some y → gI h2 78 y = stp z 11) ∧ (∀ y, sP = some y → gI h2 78 y = stp z 10) ∧ ∀ D F, wp true (D + 2) 50 14 [.ref 76, .int (nI dep), .int (opI aP), .int (opI sP), .int (nI 1), .int (nI nn)] [] h F = wp true (D + 2) 50 92 [.ref 76, .int (nI dep), .int (-1), .int (nI z), .int (nI 1), .int (nI nn)] [] h2 F := by
        intro h cn nn aP sP hnn ha hs has r
        obtain ⟨h1, a1, a2, a3, a4, a5⟩ := c48r r aP ha (by omega) (op := 11) (by omega)
        obtain ⟨h2, b1, b2, b3, b4, b5⟩ := c48r a2 sP hs (by omega) (op := 10) (by omega)
        have h47 := fun F d => c47 b2.2.2.1 (show z < 400 by omega) (w := 0) (op := 10) (by omega) (by omega) d F
        have r3 := em_r b2 (stp 0 10)
        obtain ⟨h4, e1, e2, e3, e4⟩ := c43r o r3
        have h4k := r.1.2.1
        have h4k1 := a2.1.2.1
        rw [hk] at h4k h4k1
        refine ⟨h4, a1.trans (b1.trans ((em_x _).trans (av_rc e1))), e2, fun i hi n1 n2 => ?_, fun y ey => ?_, fun y ey => ?_, fun D F => ?_⟩
        · rw [e3, em_g, if_neg (by omega), b3 i n2, a3 i n1]
        · have := ha y ey
          rw [e3, em_g, if_neg (by omega), b3 y (has y ey)]
          exact a4 y ey
        · have := hs y ey
          rw [e3, em_g, if_neg (by omega)]
          exact b4 y ey
        · rw [r50_14]
          simp (disch := omega) only [r50_16, r50_19, r50_22, r50_24, r50_27, r50_28, r50_31, r50_33, r50_36, r50_37, r50_40, r50_41, r50_44, r50_45, r50_46, r50_48, r50_51, r50_52, r50_55, r50_57, r50_60, r50_61, r50_63, r50_64, r50_67, r50_68, r50_71, r50_72, r50_73, r50_75, r50_78, r50_79, r50_81, r50_82, r50_85, r50_86, r50_87, r50_88, r50_89, h4k, h4k1, a5, b5, h47, e4, kdC, kdM, rpC, rpM, q_rs, q_rn, Option.toList_some, Option.toList_none, List.cons_append, List.nil_append, true_and, and_true, eq_self, ↓reduceIte, not_true_eq_false, not_false_eq_true, Nat.reduceEqDiff, Nat.reduceLeDiff, Nat.reduceLT, Nat.reduceAdd, Nat.reduceMul, Nat.reduceSub, false_or, or_false, true_or, or_true, false_and, and_false, reduceCtorEq, q_n0, q_n1, q_em, q_em2, q_b0, q_b1, Classical.not_not, nI_add, pk_mul, nI_clamp, q_vp, nI_eq, nI_leI, nI_ltI, q_sub, show ¬ 400 ≤ nn by omega]
      rcases pe (j + 1) p (z + 1) (by omega) hp (by omega) with ⟨j1, p1, cs1, a1, a2, a3, a4, a5, ⟨a6, a7⟩, a8⟩ | ⟨k, a1, a2, a3⟩
      · have hbo : ∀ h2 cn nn, RC h2 B n (j + 1) p (z + 1) cn → ∃ h3, FrS rcS h2 h3 ∧ RC h3 B n j1 p1 (z + 1 + cs1.length) cn ∧ AT (gI h3 78) (z + 1) cs1 ∧ (∀ i, i < z + 1 → gI h3 78 i = gI h2 78 i) ∧ ∀ D F, DTs dep ≤ D + 2 → wp true (D + 2) 50 92 [.ref 76, .int (nI dep), .int (-1), .int (nI z), .int (nI 1), .int (nI nn)] [] h2 F = wp true (D + 2) 50 14 [.ref 76, .int (nI dep), .int (-1), .int (nI z), .int (nI 1), .int (nI (nn + 1))] [] h3 F := by
          intro h2 cn nn r
          obtain ⟨h3, e1, e2, e3, e4, e5⟩ := a6 h2 cn r
          refine ⟨h3, e1, e2, e3, e4, fun D F hD => ?_⟩
          have e5' := fun F => e5 (D + 1) F (by unfold DTs at hD; unfold DPl; omega)
          simp (disch := omega) only [r50_92, r50_93, r50_94, r50_97, r50_99, r50_102, e5', kdC, kdM, rpC, rpM, q_rs, q_rn, Option.toList_some, Option.toList_none, List.cons_append, List.nil_append, true_and, and_true, eq_self, ↓reduceIte, not_true_eq_false, not_false_eq_true, Nat.reduceEqDiff, Nat.reduceLeDiff, Nat.reduceLT, Nat.reduceAdd, Nat.reduceMul, Nat.reduceSub, false_or, or_false, true_or, or_true, false_and, and_false, reduceCtorEq, q_n0, q_n1, q_em, q_em2, q_b0, q_b1, Classical.not_not, nI_add, pk_mul, nI_clamp, q_vp, nI_eq, nI_leI, nI_ltI, q_sub]
        rcases ih j1 p1 (z + 1 + cs1.length) (by omega) a2 a3 (by omega) with ⟨j2, p2, cs2, Ta, Ts, f1, f2, f3, f4, f5, ⟨f6, f7⟩, f8⟩ | ⟨k, f1, f2, f3⟩
        · left
          have hTs := f8.1
          refine ⟨j2, p2, [stp Ts 10] ++ (cs1 ++ cs2), z, z, by omega, f2, f3, ?_, nn_app (nn_1 (by omega) (by omega)) (nn_app a5 f5), ⟨fun h cn nn aP sP hnn ha hs has r => ?_, fun h zm => ?_⟩, tsl_o o c5 (by omega) a2 (by omega) a8 f8⟩
          · rw [List.length_append, List.length_append]
            show 1 + (cs1.length + cs2.length) ≤ _
            omega
          · obtain ⟨h2, b1, b2, b3, b4, b5, b6⟩ := hcl h cn nn aP sP hnn ha hs has r
            obtain ⟨h3, e1, e2, e3, e4, e5⟩ := hbo h2 cn nn b2
            obtain ⟨h4, g1, g2, g3, g4, g5, g6, g7⟩ := f6 h3 cn (nn + 1) none (some z) (by omega) (fun y e => by cases e) (fun y e => by cases e; omega) (fun y e => by cases e) e2
            have low : ∀ i, i < z → gI h4 78 i = gI h2 78 i := fun i hi => by rw [g4 i (by omega) (by simp) (by simp; omega), e4 i (by omega)]
            refine ⟨h4, b1.trans (e1.trans g1), ?_, ?_, fun i hi n1 n2 => by rw [low i hi, b3 i hi n1 n2], fun y ey => by rw [low y (ha y ey), b4 y ey], fun y ey => by rw [low y (hs y ey), b5 y ey], fun D F hD => ?_⟩
            · rw [List.length_append, List.length_append, show z + ([stp Ts 10].length + (cs1.length + cs2.length)) = z + 1 + cs1.length + cs2.length by show z + (1 + (cs1.length + cs2.length)) = _; omega]
              exact g2
            · rw [AT_app, AT_app]
              refine ⟨AT_1.mpr (g6 z rfl), AT_cg (fun i h1 hi => g4 i (by simp at *; omega) (by simp) (by simp at *; omega)) e3, g3⟩
            · obtain ⟨D', rfl⟩ : ∃ d, D = d + 2 := ⟨D - 2, by unfold DTs at hD; omega⟩
              rw [b6 D' F, e5 D' F hD]
              exact g7 (D' + 2) F hD
          · obtain ⟨h2, b1, b2, b3⟩ := a7 (sI h 101 14 (nI (j + 1))) (MS_t zm)
            obtain ⟨h3, g1, g2, g3⟩ := f7 h2 b2
            refine ⟨h3, ((FrS.refl h).sI _ rfl).trans (b1.trans g1), g2, fun D F hD => ?_⟩
            obtain ⟨D', rfl⟩ : ∃ d, D = d + 2 := ⟨D - 2, by unfold DPl at hD; omega⟩
            rw [htk h zm, b3 (D' + 1) _ (by omega)]
            exact g3 (D' + 2) F hD
        · right
          refine ⟨k, f1, fun h cn nn aP sP hnn ha hs r => ?_, fun h zm => ?_⟩
          · obtain ⟨h2, b1, b2, b6⟩ := hcx1 o hj hjm hz hm4 hk h cn nn aP sP hnn ha hs r
            obtain ⟨h3, e1, e2, e3, e4, e5⟩ := hbo h2 cn nn b2
            obtain ⟨h4, g1, g2, g7⟩ := f2 h3 cn (nn + 1) none (some z) (by omega) (fun y e => by cases e) (fun y e => by cases e; omega) e2
            refine ⟨h4, b1.trans (e1.trans g1), g2, fun D F hD => ?_⟩
            obtain ⟨D', rfl⟩ : ∃ d, D = d + 2 := ⟨D - 2, by unfold DTs at hD; omega⟩
            rw [b6 D' F, e5 D' F hD]
            exact g7 (D' + 2) F hD
          · obtain ⟨h2, b1, b2, b3⟩ := a7 (sI h 101 14 (nI (j + 1))) (MS_t zm)
            obtain ⟨h3, g1, g2, g3⟩ := f3 h2 b2
            refine ⟨h3, ((FrS.refl h).sI _ rfl).trans (b1.trans g1), g2, fun D F hD => ?_⟩
            obtain ⟨D', rfl⟩ : ∃ d, D = d + 2 := ⟨D - 2, by unfold DPl at hD; omega⟩
            rw [htk h zm, b3 (D' + 1) _ (by omega)]
            exact g3 (D' + 2) F hD
      · right
        refine ⟨k, a1, fun h cn nn aP sP hnn ha hs r => ?_, fun h zm => ?_⟩
        · obtain ⟨h2, b1, b2, b6⟩ := hcx1 o hj hjm hz hm4 hk h cn nn aP sP hnn ha hs r
          obtain ⟨h3, e1, e2, e5⟩ := a2 h2 cn b2
          obtain ⟨h4, g1, g2, g3⟩ := cl50_x (dep := dep) (nn := nn + 1) (by omega) e2 none (some z) (fun y e => by cases e) (fun y e => by cases e; omega)
          refine ⟨h4, b1.trans (e1.trans g1), g2, fun D F hD => ?_⟩
          obtain ⟨D', rfl⟩ : ∃ d, D = d + 2 := ⟨D - 2, by unfold DTs at hD; omega⟩
          have e5' := fun F => e5 (D' + 1) F (by unfold DTs at hD; unfold DPl; omega)
          rw [b6 D' F]
          refine Eq.trans ?_ (g3 (D' + 1) F)
          simp (disch := omega) only [r50_92, r50_93, r50_94, r50_97, r50_99, r50_102, e5', kdC, kdM, rpC, rpM, q_rs, q_rn, Option.toList_some, Option.toList_none, List.cons_append, List.nil_append, true_and, and_true, eq_self, ↓reduceIte, not_true_eq_false, not_false_eq_true, Nat.reduceEqDiff, Nat.reduceLeDiff, Nat.reduceLT, Nat.reduceAdd, Nat.reduceMul, Nat.reduceSub, false_or, or_false, true_or, or_true, false_and, and_false, reduceCtorEq, q_n0, q_n1, q_em, q_em2, q_b0, q_b1, Classical.not_not, nI_add, pk_mul, nI_clamp, q_vp, nI_eq, nI_leI, nI_ltI, q_sub]
          rfl
        · obtain ⟨h2, b1, b2, b3⟩ := a3 (sI h 101 14 (nI (j + 1))) (MS_t zm)
          refine ⟨h2, ((FrS.refl h).sI _ rfl).trans b1, b2, fun D F hD => ?_⟩
          obtain ⟨D', rfl⟩ : ∃ d, D = d + 3 := ⟨D - 3, by unfold DPl at hD; omega⟩
          refine Eq.trans (htk h zm (D' + 1) F) ?_
          rw [b3 (D' + 1 + 1) _ (by omega)]
          exact mt_x o b2 _ D' F
    · by_cases c6 : tg B n j = 6
      · -- "and"
        have hjm : j < m := o.l hj (by omega)
        have htk : ∀ (h : Hp), MS h B n m j p → ∀ D F, wp true (D + 2) 182 5 [.ref 101, .int (nI dep)] [] h F = cwp true (D + 1) 183 [.ref 101, .int (nI dep)] (sI h 101 14 (nI (j + 1))) (fun r h' => wp true (D + 2) 182 5 [.ref 101, .int (nI dep)] (r.toList ++ []) h' F) := by
          intro h zm D F
          have t1 := fun F d => m176y o hj zm (show mcJ B n j = nI 7 by rw [mcA o]; exact c6) d F
          rw [r182_5]
          simp (disch := omega) only [e182, r182_0, r182_1, r182_2, r182_6, r182_8, r182_11, r182_14, r182_15, r182_16, r182_19, r182_22, t1, kdC, kdM, rpC, rpM, q_rs, q_rn, Option.toList_some, Option.toList_none, List.cons_append, List.nil_append, true_and, and_true, eq_self, ↓reduceIte, not_true_eq_false, not_false_eq_true, Nat.reduceEqDiff, Nat.reduceLeDiff, Nat.reduceLT, Nat.reduceAdd, Nat.reduceMul, Nat.reduceSub, false_or, or_false, true_or, or_true, false_and, and_false, reduceCtorEq, q_n0, q_n1, q_em, q_em2, q_b0, q_b1, Classical.not_not]
        have hk : kdI (tg B n j) = nI 6 := by rw [c6]; rfl
        have hcl : ∀ h cn nn (aP sP : Option Nat), nn ≤ j → (∀ y, aP = some y → y < z) → RC h B n j p z cn → ∃ h2, FrS rcS h h2 ∧ RC h2 B n (j + 1) p (z + 1) cn ∧ (∀ i, i < z → aP ≠ some i → gI h2 78 i = gI h 78 i) ∧ (∀ y, aP = some y → gI h2 78 y = stp z 11) ∧ ∀ D F, wp true (D + 2) 50 14 [.ref 76, .int (nI dep), .int (opI aP), .int (opI sP), .int (nI 1), .int (nI nn)] [] h F = wp true (D + 2) 50 92 [.ref 76, .int (nI dep), .int (nI z), .int (opI sP), .int (nI 1), .int (nI nn)] [] h2 F := by
          intro h cn nn aP sP hnn ha r
          obtain ⟨h1, a1, a2, a3, a4, a5⟩ := c48r r aP ha (by omega) (op := 11) (by omega)
          have h47 := fun F d => c47 a2.2.2.1 (show z < 400 by omega) (w := 0) (op := 11) (by omega) (by omega) d F
          have r3 := em_r a2 (stp 0 11)
          obtain ⟨h4, e1, e2, e3, e4⟩ := c43r o r3
          have h4k := r.1.2.1
          have h4k1 := a2.1.2.1
          rw [hk] at h4k h4k1
          refine ⟨h4, a1.trans ((em_x _).trans (av_rc e1)), e2, fun i hi n1 => ?_, fun y ey => ?_, fun D F => ?_⟩
          · rw [e3, em_g, if_neg (by omega), a3 i n1]
          · have := ha y ey
            rw [e3, em_g, if_neg (by omega)]
            exact a4 y ey
          · rw [r50_14]
            simp (disch := omega) only [r50_16, r50_19, r50_22, r50_24, r50_27, r50_28, r50_31, r50_33, r50_36, r50_37, r50_40, r50_41, r50_44, r50_45, r50_46, r50_48, r50_51, r50_52, r50_55, r50_57, r50_60, r50_61, r50_63, r50_64, r50_67, r50_68, r50_71, r50_72, r50_73, r50_75, r50_78, r50_79, r50_81, r50_82, r50_85, r50_86, r50_87, r50_88, r50_89, h4k, h4k1, a5, h47, e4, kdC, kdM, rpC, rpM, q_rs, q_rn, Option.toList_some, Option.toList_none, List.cons_append, List.nil_append, true_and, and_true, eq_self, ↓reduceIte, not_true_eq_false, not_false_eq_true, Nat.reduceEqDiff, Nat.reduceLeDiff, Nat.reduceLT, Nat.reduceAdd, Nat.reduceMul, Nat.reduceSub, false_or, or_false, true_or, or_true, false_and, and_false, reduceCtorEq, q_n0, q_n1, q_em, q_em2, q_b0, q_b1, Classical.not_not, nI_add, pk_mul, nI_clamp, q_vp, nI_eq, nI_leI, nI_ltI, q_sub, show ¬ 400 ≤ nn by omega]
        rcases pe (j + 1) p (z + 1) (by omega) hp (by omega) with ⟨j1, p1, cs1, a1, a2, a3, a4, a5, ⟨a6, a7⟩, a8⟩ | ⟨k, a1, a2, a3⟩
        · have hbo : ∀ h2 cn nn (sv : Int32), RC h2 B n (j + 1) p (z + 1) cn → ∃ h3, FrS rcS h2 h3 ∧ RC h3 B n j1 p1 (z + 1 + cs1.length) cn ∧ AT (gI h3 78) (z + 1) cs1 ∧ (∀ i, i < z + 1 → gI h3 78 i = gI h2 78 i) ∧ ∀ D F, DTs dep ≤ D + 2 → wp true (D + 2) 50 92 [.ref 76, .int (nI dep), .int (nI z), .int sv, .int (nI 1), .int (nI nn)] [] h2 F = wp true (D + 2) 50 14 [.ref 76, .int (nI dep), .int (nI z), .int sv, .int (nI 1), .int (nI (nn + 1))] [] h3 F := by
            intro h2 cn nn sv r
            obtain ⟨h3, e1, e2, e3, e4, e5⟩ := a6 h2 cn r
            refine ⟨h3, e1, e2, e3, e4, fun D F hD => ?_⟩
            have e5' := fun F => e5 (D + 1) F (by unfold DTs at hD; unfold DPl; omega)
            simp (disch := omega) only [r50_92, r50_93, r50_94, r50_97, r50_99, r50_102, e5', kdC, kdM, rpC, rpM, q_rs, q_rn, Option.toList_some, Option.toList_none, List.cons_append, List.nil_append, true_and, and_true, eq_self, ↓reduceIte, not_true_eq_false, not_false_eq_true, Nat.reduceEqDiff, Nat.reduceLeDiff, Nat.reduceLT, Nat.reduceAdd, Nat.reduceMul, Nat.reduceSub, false_or, or_false, true_or, or_true, false_and, and_false, reduceCtorEq, q_n0, q_n1, q_em, q_em2, q_b0, q_b1, Classical.not_not, nI_add, pk_mul, nI_clamp, q_vp, nI_eq, nI_leI, nI_ltI, q_sub]
          rcases ih j1 p1 (z + 1 + cs1.length) (by omega) a2 a3 (by omega) with ⟨j2, p2, cs2, Ta, Ts, f1, f2, f3, f4, f5, ⟨f6, f7⟩, f8⟩ | ⟨k, f1, f2, f3⟩
          · left
            have hTs := f8.1
            refine ⟨j2, p2, [stp Ta 11] ++ (cs1 ++ cs2), z, Ts, by omega, f2, f3, ?_, nn_app (nn_1 (by omega) (by omega)) (nn_app a5 f5), ⟨fun h cn nn aP sP hnn ha hs has r => ?_, fun h zm => ?_⟩, tsl_a o c6 (by omega) a2 (by omega) a8 f8⟩
            · rw [List.length_append, List.length_append]
              show 1 + (cs1.length + cs2.length) ≤ _
              omega
            · obtain ⟨h2, b1, b2, b3, b4, b6⟩ := hcl h cn nn aP sP hnn ha r
              obtain ⟨h3, e1, e2, e3, e4, e5⟩ := hbo h2 cn nn (opI sP) b2
              obtain ⟨h4, g1, g2, g3, g4, g5, g6, g7⟩ := f6 h3 cn (nn + 1) (some z) sP (by omega) (fun y e => by cases e; omega) (fun y e => by have := hs y e; omega) (fun y e => by cases e; intro u; have := hs _ u; omega) e2
              have low : ∀ i, i < z → sP ≠ some i → gI h4 78 i = gI h2 78 i := fun i hi hs' => by rw [g4 i (by omega) (by simp; omega) hs', e4 i (by omega)]
              refine ⟨h4, b1.trans (e1.trans g1), ?_, ?_, fun i hi n1 n2 => by rw [low i hi n2, b3 i hi n1], fun y ey => by rw [low y (ha y ey) (has y ey), b4 y ey], fun y ey => g6 y ey, fun D F hD => ?_⟩
              · rw [List.length_append, List.length_append, show z + ([stp Ta 11].length + (cs1.length + cs2.length)) = z + 1 + cs1.length + cs2.length by show z + (1 + (cs1.length + cs2.length)) = _; omega]
                exact g2
              · rw [AT_app, AT_app]
                refine ⟨AT_1.mpr (g5 z rfl), AT_cg (fun i h1 hi => g4 i (by simp at *; omega) (by simp at *; omega) (fun u => by have := hs _ u; simp at *; omega)) e3, g3⟩
              · obtain ⟨D', rfl⟩ : ∃ d, D = d + 2 := ⟨D - 2, by unfold DTs at hD; omega⟩
                rw [b6 D' F, e5 D' F hD]
                exact g7 (D' + 2) F hD
            · obtain ⟨h2, b1, b2, b3⟩ := a7 (sI h 101 14 (nI (j + 1))) (MS_t zm)
              obtain ⟨h3, g1, g2, g3⟩ := f7 h2 b2
              refine ⟨h3, ((FrS.refl h).sI _ rfl).trans (b1.trans g1), g2, fun D F hD => ?_⟩
              obtain ⟨D', rfl⟩ : ∃ d, D = d + 2 := ⟨D - 2, by unfold DPl at hD; omega⟩
              rw [htk h zm, b3 (D' + 1) _ (by omega)]
              exact g3 (D' + 2) F hD
          · right
            refine ⟨k, f1, fun h cn nn aP sP hnn ha hs r => ?_, fun h zm => ?_⟩
            · obtain ⟨h2, b1, b2, b3, b4, b6⟩ := hcl h cn nn aP sP hnn ha r
              obtain ⟨h3, e1, e2, e3, e4, e5⟩ := hbo h2 cn nn (opI sP) b2
              obtain ⟨h4, g1, g2, g7⟩ := f2 h3 cn (nn + 1) (some z) sP (by omega) (fun y e => by cases e; omega) (fun y e => by have := hs y e; omega) e2
              refine ⟨h4, b1.trans (e1.trans g1), g2, fun D F hD => ?_⟩
              obtain ⟨D', rfl⟩ : ∃ d, D = d + 2 := ⟨D - 2, by unfold DTs at hD; omega⟩
              rw [b6 D' F, e5 D' F hD]
              exact g7 (D' + 2) F hD
            · obtain ⟨h2, b1, b2, b3⟩ := a7 (sI h 101 14 (nI (j + 1))) (MS_t zm)
              obtain ⟨h3, g1, g2, g3⟩ := f3 h2 b2
              refine ⟨h3, ((FrS.refl h).sI _ rfl).trans (b1.trans g1), g2, fun D F hD => ?_⟩
              obtain ⟨D', rfl⟩ : ∃ d, D = d + 2 := ⟨D - 2, by unfold DPl at hD; omega⟩
              rw [htk h zm, b3 (D' + 1) _ (by omega)]
              exact g3 (D' + 2) F hD
        · right
          refine ⟨k, a1, fun h cn nn aP sP hnn ha hs r => ?_, fun h zm => ?_⟩
          · obtain ⟨h2, b1, b2, b3, b4, b6⟩ := hcl h cn nn aP sP hnn ha r
            obtain ⟨h3, e1, e2, e5⟩ := a2 h2 cn b2
            obtain ⟨h4, g1, g2, g3⟩ := cl50_x (dep := dep) (nn := nn + 1) (by omega) e2 (some z) sP (fun y e => by cases e; omega) (fun y e => by have := hs y e; omega)
            refine ⟨h4, b1.trans (e1.trans g1), g2, fun D F hD => ?_⟩
            obtain ⟨D', rfl⟩ : ∃ d, D = d + 2 := ⟨D - 2, by unfold DTs at hD; omega⟩
            have e5' := fun F => e5 (D' + 1) F (by unfold DTs at hD; unfold DPl; omega)
            rw [b6 D' F]
            refine Eq.trans ?_ (g3 (D' + 1) F)
            simp (disch := omega) only [r50_92, r50_93, r50_94, r50_97, r50_99, r50_102, e5', kdC, kdM, rpC, rpM, q_rs, q_rn, Option.toList_some, Option.toList_none, List.cons_append, List.nil_append, true_and, and_true, eq_self, ↓reduceIte, not_true_eq_false, not_false_eq_true, Nat.reduceEqDiff, Nat.reduceLeDiff, Nat.reduceLT, Nat.reduceAdd, Nat.reduceMul, Nat.reduceSub, false_or, or_false, true_or, or_true, false_and, and_false, reduceCtorEq, q_n0, q_n1, q_em, q_em2, q_b0, q_b1, Classical.not_not, nI_add, pk_mul, nI_clamp, q_vp, nI_eq, nI_leI, nI_ltI, q_sub]
            rfl
          · obtain ⟨h2, b1, b2, b3⟩ := a3 (sI h 101 14 (nI (j + 1))) (MS_t zm)
            refine ⟨h2, ((FrS.refl h).sI _ rfl).trans b1, b2, fun D F hD => ?_⟩
            obtain ⟨D', rfl⟩ : ∃ d, D = d + 3 := ⟨D - 3, by unfold DPl at hD; omega⟩
            refine Eq.trans (htk h zm (D' + 1) _) ?_
            rw [b3 (D' + 1 + 1) _ (by omega)]
            exact mt_x o b2 _ D' F
      · exact Or.inl (tl_end o hdep hj hp hz c5 c6)
theorem test_ex (o : TOK B n m) {dep : Nat} (hdep : dep ≤ 8) (pe : PlEx B n m dep) : TEx B n m dep := by
  intro j p z hj hp hz
  have hm4 := o.m400
  rcases pe j p z hj hp hz with ⟨j1, p1, cs1, a1, a2, a3, a4, a5, ⟨a6, a7⟩, a8⟩ | ⟨k, a1, a2, a3⟩
  · rcases tl_ex o hdep pe m j1 p1 (z + cs1.length) (by omega) a2 a3 (by omega) with ⟨j2, p2, cs2, Ta, Ts, f1, f2, f3, f4, f5, ⟨f6, f7⟩, f8⟩ | ⟨k, f1, f2, f3⟩
    · left
      refine ⟨j2, p2, cs1 ++ cs2, by omega, f2, f3, ?_, nn_app a5 f5, ⟨fun h cn r => ?_, fun h zm => ?_⟩, tsem_t o a8 f8⟩
      · rw [List.length_append]; omega
      · obtain ⟨h2, b1, b2, b3, b4, b5⟩ := a6 h cn r
        obtain ⟨h3, g1, g2, g3, g4, g5, g6, g7⟩ := f6 h2 cn 0 none none (by omega) (fun y e => by cases e) (fun y e => by cases e) (fun y e => by cases e) b2
        have low : ∀ i, i < z + cs1.length → gI h3 78 i = gI h2 78 i := fun i hi => g4 i hi (by simp) (by simp)
        refine ⟨h3, b1.trans g1, ?_, ?_, fun i hi => by rw [low i (by omega), b4 i hi], fun D F hD => ?_⟩
        · rw [List.length_append, ← Nat.add_assoc]; exact g2
        · rw [AT_app]
          exact ⟨AT_cg (fun i _ hi => low i (by omega)) b3, g3⟩
        · obtain ⟨D', rfl⟩ : ∃ d, D = d + 1 := ⟨D - 1, by unfold DTs at hD; omega⟩
          have b5' := fun F => b5 D' F (by unfold DTs at hD; unfold DPl; omega)
          refine Eq.trans ?_ (g7 (D' + 1) F hD)
          simp (disch := omega) only [r50_0, r50_1, r50_2, r50_3, r50_4, r50_5, r50_6, r50_9, r50_11, r50_12, e50, b5', kdC, kdM, rpC, rpM, q_rs, q_rn, Option.toList_some, Option.toList_none, List.cons_append, List.nil_append, true_and, and_true, eq_self, ↓reduceIte, not_true_eq_false, not_false_eq_true, Nat.reduceEqDiff, Nat.reduceLeDiff, Nat.reduceLT, Nat.reduceAdd, Nat.reduceMul, Nat.reduceSub, false_or, or_false, true_or, or_true, false_and, and_false, reduceCtorEq, q_n0, q_n1, q_em, q_em2, q_b0, q_b1, Classical.not_not]
          rfl
      · obtain ⟨h2, b1, b2, b3⟩ := a7 h zm
        obtain ⟨h3, g1, g2, g3⟩ := f7 h2 b2
        refine ⟨h3, b1.trans g1, g2, fun D F hD => ?_⟩
        obtain ⟨D', rfl⟩ : ∃ d, D = d + 2 := ⟨D - 2, by unfold DTs at hD; omega⟩
        have b3' := fun F => b3 D' F (by unfold DTs at hD; unfold DPl; omega)
        refine Eq.trans ?_ (g3 (D' + 1) F (by unfold DTs at hD; unfold DPl; omega))
        simp (disch := omega) only [r181_0, r181_1, r181_2, e181, r182_0, r182_1, r182_2, e182, b3', kdC, kdM, rpC, rpM, q_rs, q_rn, Option.toList_some, Option.toList_none, List.cons_append, List.nil_append, true_and, and_true, eq_self, ↓reduceIte, not_true_eq_false, not_false_eq_true, Nat.reduceEqDiff, Nat.reduceLeDiff, Nat.reduceLT, Nat.reduceAdd, Nat.reduceMul, Nat.reduceSub, false_or, or_false, true_or, or_true, false_and, and_false, reduceCtorEq, q_n0, q_n1, q_em, q_em2, q_b0, q_b1, Classical.not_not]
    · right
      refine ⟨k, f1, fun h cn r => ?_, fun h zm => ?_⟩
      · obtain ⟨h2, b1, b2, b3, b4, b5⟩ := a6 h cn r
        obtain ⟨h3, g1, g2, g7⟩ := f2 h2 cn 0 none none (by omega) (fun y e => by cases e) (fun y e => by cases e) b2
        refine ⟨h3, b1.trans g1, g2, fun D F hD => ?_⟩
        obtain ⟨D', rfl⟩ : ∃ d, D = d + 1 := ⟨D - 1, by unfold DTs at hD; omega⟩
        have b5' := fun F => b5 D' F (by unfold DTs at hD; unfold DPl; omega)
        refine Eq.trans ?_ (g7 (D' + 1) F hD)
        simp (disch := omega) only [r50_0, r50_1, r50_2, r50_3, r50_4, r50_5, r50_6, r50_9, r50_11, r50_12, e50, b5', kdC, kdM, rpC, rpM, q_rs, q_rn, Option.toList_some, Option.toList_none, List.cons_append, List.nil_append, true_and, and_true, eq_self, ↓reduceIte, not_true_eq_false, not_false_eq_true, Nat.reduceEqDiff, Nat.reduceLeDiff, Nat.reduceLT, Nat.reduceAdd, Nat.reduceMul, Nat.reduceSub, false_or, or_false, true_or, or_true, false_and, and_false, reduceCtorEq, q_n0, q_n1, q_em, q_em2, q_b0, q_b1, Classical.not_not]
        rfl
      · obtain ⟨h2, b1, b2, b3⟩ := a7 h zm
        obtain ⟨h3, g1, g2, g3⟩ := f3 h2 b2
        refine ⟨h3, b1.trans g1, g2, fun D F hD => ?_⟩
        obtain ⟨D', rfl⟩ : ∃ d, D = d + 2 := ⟨D - 2, by unfold DTs at hD; omega⟩
        have b3' := fun F => b3 D' F (by unfold DTs at hD; unfold DPl; omega)
        refine Eq.trans ?_ (g3 (D' + 1) F (by unfold DTs at hD; unfold DPl; omega))
        simp (disch := omega) only [r181_0, r181_1, r181_2, e181, r182_0, r182_1, r182_2, e182, b3', kdC, kdM, rpC, rpM, q_rs, q_rn, Option.toList_some, Option.toList_none, List.cons_append, List.nil_append, true_and, and_true, eq_self, ↓reduceIte, not_true_eq_false, not_false_eq_true, Nat.reduceEqDiff, Nat.reduceLeDiff, Nat.reduceLT, Nat.reduceAdd, Nat.reduceMul, Nat.reduceSub, false_or, or_false, true_or, or_true, false_and, and_false, reduceCtorEq, q_n0, q_n1, q_em, q_em2, q_b0, q_b1, Classical.not_not]
  · right
    refine ⟨k, a1, fun h cn r => ?_, fun h zm => ?_⟩
    · obtain ⟨h2, b1, b2, b5⟩ := a2 h cn r
      obtain ⟨h4, g1, g2, g3⟩ := cl50_x (dep := dep) (nn := 0) (by omega) b2 none none (fun y e => by cases e) (fun y e => by cases e)
      refine ⟨h4, b1.trans g1, g2, fun D F hD => ?_⟩
      obtain ⟨D', rfl⟩ : ∃ d, D = d + 1 := ⟨D - 1, by unfold DTs at hD; omega⟩
      have b5' := fun F => b5 D' F (by unfold DTs at hD; unfold DPl; omega)
      refine Eq.trans ?_ (g3 D' F)
      simp (disch := omega) only [r50_0, r50_1, r50_2, r50_3, r50_4, r50_5, r50_6, r50_9, r50_11, r50_12, e50, b5', kdC, kdM, rpC, rpM, q_rs, q_rn, Option.toList_some, Option.toList_none, List.cons_append, List.nil_append, true_and, and_true, eq_self, ↓reduceIte, not_true_eq_false, not_false_eq_true, Nat.reduceEqDiff, Nat.reduceLeDiff, Nat.reduceLT, Nat.reduceAdd, Nat.reduceMul, Nat.reduceSub, false_or, or_false, true_or, or_true, false_and, and_false, reduceCtorEq, q_n0, q_n1, q_em, q_em2, q_b0, q_b1, Classical.not_not]
      rfl
    · obtain ⟨h2, b1, b2, b3⟩ := a3 h zm
      refine ⟨h2, b1, b2, fun D F hD => ?_⟩
      obtain ⟨D', rfl⟩ : ∃ d, D = d + 4 := ⟨D - 4, by unfold DTs at hD; omega⟩
      have b3' := fun F => b3 (D' + 2) F (by unfold DTs at hD; unfold DPl; omega)
      refine Eq.trans ?_ (mt_x o b2 (nI dep) D' F)
      simp (disch := omega) only [r181_0, r181_1, r181_2, e181, r182_0, r182_1, r182_2, e182, b3', kdC, kdM, rpC, rpM, q_rs, q_rn, Option.toList_some, Option.toList_none, List.cons_append, List.nil_append, true_and, and_true, eq_self, ↓reduceIte, not_true_eq_false, not_false_eq_true, Nat.reduceEqDiff, Nat.reduceLeDiff, Nat.reduceLT, Nat.reduceAdd, Nat.reduceMul, Nat.reduceSub, false_or, or_false, true_or, or_true, false_and, and_false, reduceCtorEq, q_n0, q_n1, q_em, q_em2, q_b0, q_b1, Classical.not_not]
theorem tests_all (o : TOK B n m) : ∀ q dep, dep + q = 8 → TEx B n m dep
  | 0, dep, e => test_ex o (by omega) (plain_ex o (by omega) (sums_all o 0 dep e).2 (fun h => by omega))
  | q + 1, dep, e => test_ex o (by omega) (plain_ex o (by omega) (sums_all o (q + 1) dep e).2 (fun h => tests_all o q (dep + 1) (by omega)))
end TW
