/-! reading a TEST, both -/
section TE
variable {B : Nat → Int32} {n m : Nat}
theorem not_k (o : TOK B n m) : ∀ q j, m - j ≤ q → j ≤ m → ∃ k, j + k ≤ m ∧ (∀ i, i < k → tg B n (j + i) = 7) ∧ tg B n (j + k) ≠ 7
  | 0, j, hq, hj => by
    obtain rfl : j = m := by omega
    exact ⟨0, by omega, fun i hi => by omega, by rw [Nat.add_zero, o.e]; omega⟩
  | q + 1, j, hq, hj => by
    by_cases c : tg B n j = 7
    · have := o.l hj (by omega)
      obtain ⟨k, k1, k2, k3⟩ := not_k o q (j + 1) (by omega) (by omega)
      refine ⟨k + 1, by omega, fun i hi => ?_, by rw [show j + (k + 1) = j + 1 + k by omega]; exact k3⟩
      by_cases e : i = 0
      · rw [e]; exact c
      · rw [show j + i = j + 1 + (i - 1) by omega]; exact k2 (i - 1) (by omega)
    · exact ⟨0, by omega, fun i hi => by omega, c⟩
theorem cl51 (o : TOK B n m) {p z cn dep : Nat} : ∀ k j h (b : Bool) nn, j + k ≤ m → nn ≤ j → (∀ i, i < k → tg B n (j + i) = 7) → tg B n (j + k) ≠ 7 → RC h B n j p z cn → ∃ h', FrS rcS h h' ∧ RC h' B n (j + k) p z cn ∧ gI h' 78 = gI h 78 ∧ ∀ D F, wp true (D + 2) 51 4 [.ref 76, .int (nI dep), .int (sB b), .int (nI nn)] [] h F = wp true (D + 2) 51 40 [.ref 76, .int (nI dep), .int (sB (xor b (oddN k))), .int (nI (nn + k))] [] h' F
  | 0, j, h, b, nn, hjm, hnn, hy, hn, r => by
    have h4 := r.1.2.1
    have hm4 := o.m400
    have hk : ¬ kdI (tg B n j) = nI 7 := by rw [kd_w o j (by omega)]; exact hn
    refine ⟨h, FrS.refl h, r, rfl, fun D F => ?_⟩
    have hb : xor b (oddN 0) = b := by show xor b false = b; exact Bool.xor_false b
    rw [hb, r51_4]
    by_cases c4 : 400 ≤ nn
    · simp (disch := omega) only [r51_5, r51_8, c4, kdC, kdM, rpC, rpM, q_rs, q_rn, Option.toList_some, Option.toList_none, List.cons_append, List.nil_append, true_and, and_true, eq_self, ↓reduceIte, not_true_eq_false, not_false_eq_true, Nat.reduceEqDiff, Nat.reduceLeDiff, Nat.reduceLT, Nat.reduceAdd, Nat.reduceMul, Nat.reduceSub, false_or, or_false, true_or, or_true, false_and, and_false, reduceCtorEq, q_n0, q_n1, q_em, q_em2, q_b0, q_b1, Classical.not_not, nI_add, pk_mul, nI_clamp, q_vp, nI_eq, nI_leI, nI_ltI, q_sub, Nat.add_zero]
    · simp (disch := omega) only [r51_5, r51_8, r51_11, r51_12, r51_15, r51_17, c4, h4, hk, kdC, kdM, rpC, rpM, q_rs, q_rn, Option.toList_some, Option.toList_none, List.cons_append, List.nil_append, true_and, and_true, eq_self, ↓reduceIte, not_true_eq_false, not_false_eq_true, Nat.reduceEqDiff, Nat.reduceLeDiff, Nat.reduceLT, Nat.reduceAdd, Nat.reduceMul, Nat.reduceSub, false_or, or_false, true_or, or_true, false_and, and_false, reduceCtorEq, q_n0, q_n1, q_em, q_em2, q_b0, q_b1, Classical.not_not, nI_add, pk_mul, nI_clamp, q_vp, nI_eq, nI_leI, nI_ltI, q_sub, Nat.add_zero]
  | k + 1, j, h, b, nn, hjm, hnn, hy, hn, r => by
    have hm4 := o.m400
    have h4 := r.1.2.1
    have hk : kdI (tg B n j) = nI 7 := by rw [kd_w o j (by omega)]; exact hy 0 (by omega)
    rw [hk] at h4
    obtain ⟨h1, b1, b2, b3, b4⟩ := c43r o r
    obtain ⟨h', a1, a2, a3, a4⟩ := cl51 o (dep := dep) k (j + 1) h1 (!b) (nn + 1) (by omega) (by omega) (fun i hi => by rw [show j + 1 + i = j + (i + 1) by omega]; exact hy (i + 1) (by omega)) (by rw [show j + 1 + k = j + (k + 1) by omega]; exact hn) b2
    refine ⟨h', (av_rc b1).trans a1, by rw [show j + (k + 1) = j + 1 + k by omega]; exact a2, by rw [a3, b3], fun D F => ?_⟩
    have hb : xor b (oddN (k + 1)) = xor (!b) (oddN k) := by show xor b (!oddN k) = _; cases b <;> cases oddN k <;> rfl
    rw [hb, show nn + (k + 1) = nn + 1 + k by omega]
    refine Eq.trans ?_ (a4 D F)
    rw [r51_4]
    cases b with
    | true => simp (disch := omega) only [r51_5, r51_8, r51_11, r51_12, r51_15, r51_17, r51_20, r51_21, r51_24, r51_25, r51_28, r51_29, r51_30, r51_31, r51_34, r51_37, h4, b4, sB, Bool.not_true, kdC, kdM, rpC, rpM, q_rs, q_rn, Option.toList_some, Option.toList_none, List.cons_append, List.nil_append, true_and, and_true, eq_self, ↓reduceIte, not_true_eq_false, not_false_eq_true, Nat.reduceEqDiff, Nat.reduceLeDiff, Nat.reduceLT, Nat.reduceAdd, Nat.reduceMul, Nat.reduceSub, false_or, or_false, true_or, or_true, false_and, and_false, reduceCtorEq, q_n0, q_n1, q_em, q_em2, q_b0, q_b1, Classical.not_not, nI_add, pk_mul, nI_clamp, q_vp, nI_eq, nI_leI, nI_ltI, q_sub, show ¬ 400 ≤ nn by omega]
    | false => simp (disch := omega) only [r51_5, r51_8, r51_11, r51_12, r51_15, r51_17, r51_20, r51_21, r51_24, r51_25, r51_28, r51_29, r51_30, r51_31, r51_34, r51_37, h4, b4, sB, Bool.not_false, kdC, kdM, rpC, rpM, q_rs, q_rn, Option.toList_some, Option.toList_none, List.cons_append, List.nil_append, true_and, and_true, eq_self, ↓reduceIte, not_true_eq_false, not_false_eq_true, Nat.reduceEqDiff, Nat.reduceLeDiff, Nat.reduceLT, Nat.reduceAdd, Nat.reduceMul, Nat.reduceSub, false_or, or_false, true_or, or_true, false_and, and_false, reduceCtorEq, q_n0, q_n1, q_em, q_em2, q_b0, q_b1, Classical.not_not, nI_add, pk_mul, nI_clamp, q_vp, nI_eq, nI_leI, nI_ltI, q_sub, show ¬ 400 ≤ nn by omega]
theorem ml183 (o : TOK B n m) {p dep : Nat} (v3 : Value) : ∀ k j h, j + k ≤ m → (∀ i, i < k → tg B n (j + i) = 7) → tg B n (j + k) ≠ 7 → MS h B n m j p → ∃ h', FrS psS h h' ∧ MS h' B n m (j + k) p ∧ ∀ D F, wp true (D + 2) 183 2 [.ref 101, .int (nI dep), .int (nI 1), v3] [] h F = wp true (D + 2) 183 16 [.ref 101, .int (nI dep), .int (nI 0), v3] [] h' F
  | 0, j, h, hjm, hy, hn, z => by
    have t1 := fun F d => m176n o (by omega) z (show ¬ mcJ B n j = nI 8 by rw [mc_w o j (w := 7) (by omega)]; exact hn) d F
    refine ⟨h, FrS.refl h, z, fun D F => ?_⟩
    rw [r183_2]
    simp (disch := omega) only [r183_3, r183_6, r183_7, r183_9, r183_12, r183_13, t1, kdC, kdM, rpC, rpM, q_rs, q_rn, Option.toList_some, Option.toList_none, List.cons_append, List.nil_append, true_and, and_true, eq_self, ↓reduceIte, not_true_eq_false, not_false_eq_true, Nat.reduceEqDiff, Nat.reduceLeDiff, Nat.reduceLT, Nat.reduceAdd, Nat.reduceMul, Nat.reduceSub, false_or, or_false, true_or, or_true, false_and, and_false, reduceCtorEq, q_n0, q_n1, q_em, q_em2, q_b0, q_b1, Classical.not_not]
    rw [r183_2]
    simp (disch := omega) only [r183_3, kdC, kdM, rpC, rpM, q_rs, q_rn, Option.toList_some, Option.toList_none, List.cons_append, List.nil_append, true_and, and_true, eq_self, ↓reduceIte, not_true_eq_false, not_false_eq_true, Nat.reduceEqDiff, Nat.reduceLeDiff, Nat.reduceLT, Nat.reduceAdd, Nat.reduceMul, Nat.reduceSub, false_or, or_false, true_or, or_true, false_and, and_false, reduceCtorEq, q_n0, q_n1, q_em, q_em2, q_b0, q_b1, Classical.not_not]
  | k + 1, j, h, hjm, hy, hn, z => by
    have t1 := fun F d => m176y o (by omega) z (show mcJ B n j = nI 8 by rw [mc_w o j (w := 7) (by omega)]; exact hy 0 (by omega)) d F
    obtain ⟨h', a1, a2, a3⟩ := ml183 o (dep := dep) v3 k (j + 1) (sI h 101 14 (nI (j + 1))) (by omega) (fun i hi => by rw [show j + 1 + i = j + (i + 1) by omega]; exact hy (i + 1) (by omega)) (by rw [show j + 1 + k = j + (k + 1) by omega]; exact hn) (MS_t z)
    refine ⟨h', ((FrS.refl h).sI _ rfl).trans a1, by rw [show j + (k + 1) = j + 1 + k by omega]; exact a2, fun D F => ?_⟩
    refine Eq.trans ?_ (a3 D F)
    rw [r183_2]
    simp (disch := omega) only [r183_3, r183_6, r183_7, r183_9, r183_12, r183_13, t1, kdC, kdM, rpC, rpM, q_rs, q_rn, Option.toList_some, Option.toList_none, List.cons_append, List.nil_append, true_and, and_true, eq_self, ↓reduceIte, not_true_eq_false, not_false_eq_true, Nat.reduceEqDiff, Nat.reduceLeDiff, Nat.reduceLT, Nat.reduceAdd, Nat.reduceMul, Nat.reduceSub, false_or, or_false, true_or, or_true, false_and, and_false, reduceCtorEq, q_n0, q_n1, q_em, q_em2, q_b0, q_b1, Classical.not_not]
theorem fl_len (b : Bool) : (flC b).length ≤ 1 := by cases b <;> simp [flC]
theorem plain_ex (o : TOK B n m) {dep : Nat} (hdep : dep ≤ 8) (se : SEx B n m dep) (ih : dep < 8 → TEx B n m (dep + 1)) : PlEx B n m dep := by
  intro j p z hj hp hz
  have hm4 := o.m400
  obtain ⟨k, k1, k2, k3⟩ := not_k o m j (by omega) hj
  have hk1 : oddN k = true → 1 ≤ k := by
    intro u
    cases k with
    | zero => cases u
    | succ k => omega
  rcases pos_ex o hdep se ih (j + k) p z k1 hp (by omega) with ⟨j1, p1, cs, a1, a2, a3, a4, a5, ⟨a6, a7⟩, a8⟩ | ⟨kk, a1, a2, a3⟩
  · left
    refine ⟨j1, p1, cs ++ flC (oddN k), by omega, a2, a3, ?_, ?_, ⟨fun h cn r => ?_, fun h zm => ?_⟩, tsem_n o k1 k2 k3 a8⟩
    · rw [List.length_append]
      cases hb : oddN k with
      | true => have := hk1 hb; show cs.length + 1 ≤ _; omega
      | false => show cs.length + 0 ≤ _; omega
    · cases hb : oddN k with
      | true => exact nn_app a5 (nn_1 (by omega) (by omega))
      | false => exact nn_app a5 (fun x hx => by cases hx)
    · obtain ⟨h1, b1, b2, b3, b4⟩ := cl51 o (dep := dep) k j h false 0 k1 (by omega) k2 k3 r
      obtain ⟨h2, e1, e2, e3, e4, e5⟩ := a6 h1 cn b2
      have hst : ∀ D F, DPl dep ≤ D + 2 → cwp true (D + 2) 51 [.ref 76, .int (nI dep)] h F = wp true (D + 2) 51 62 [.ref 76, .int (nI dep), .int (sB (oddN k)), .int (nI (0 + k))] [.int (nI 1)] h2 F := by
        intro D F hD
        refine Eq.trans ?_ ((b4 D F).trans ?_)
        · simp (disch := omega) only [r51_0, r51_1, r51_2, r51_3, e51]
          rfl
        · rw [Bool.false_xor]
          exact e5 (D + 2) F _ _ hD
      cases hb : oddN k with
      | true =>
        have hkk := hk1 hb
        have h47 := fun F d => c47 e2.2.2.1 (show z + cs.length < 400 by omega) (w := 0) (op := 9) (by omega) (by omega) d F
        refine ⟨em h2 (z + cs.length) (stp 0 9), b1.trans (e1.trans (em_x _)), ?_, ?_, fun i hi => by rw [em_g, if_neg (by omega), e4 i hi, b3], fun D F hD => ?_⟩
        · rw [List.length_append, ← Nat.add_assoc]
          exact em_r e2 _
        · rw [AT_app]
          exact ⟨AT_cg (fun i _ hi => by rw [em_g, if_neg (by omega)]) e3, AT_1.mpr (by rw [em_g, if_pos rfl])⟩
        · obtain ⟨D', rfl⟩ : ∃ d, D = d + 2 := ⟨D - 2, by unfold DPl at hD; omega⟩
          rw [hst D' F hD, hb]
          simp (disch := omega) only [r51_62, r51_63, r51_64, r51_67, r51_68, r51_71, r51_72, r51_74, r51_75, r51_78, r51_79, r51_80, h47, sB, kdC, kdM, rpC, rpM, q_rs, q_rn, Option.toList_some, Option.toList_none, List.cons_append, List.nil_append, true_and, and_true, eq_self, ↓reduceIte, not_true_eq_false, not_false_eq_true, Nat.reduceEqDiff, Nat.reduceLeDiff, Nat.reduceLT, Nat.reduceAdd, Nat.reduceMul, Nat.reduceSub, false_or, or_false, true_or, or_true, false_and, and_false, reduceCtorEq, q_n0, q_n1, q_em, q_em2, q_b0, q_b1, Classical.not_not]
      | false =>
        refine ⟨h2, b1.trans e1, ?_, ?_, fun i hi => by rw [e4 i hi, b3], fun D F hD => ?_⟩
        · rw [List.length_append, ← Nat.add_assoc]
          exact e2
        · rw [AT_app]
          exact ⟨e3, AT_0 _ _⟩
        · obtain ⟨D', rfl⟩ : ∃ d, D = d + 2 := ⟨D - 2, by unfold DPl at hD; omega⟩
          rw [hst D' F hD, hb]
          simp (disch := omega) only [r51_62, r51_63, r51_64, r51_67, r51_68, r51_71, r51_72, r51_74, r51_75, r51_78, r51_79, r51_80, sB, kdC, kdM, rpC, rpM, q_rs, q_rn, Option.toList_some, Option.toList_none, List.cons_append, List.nil_append, true_and, and_true, eq_self, ↓reduceIte, not_true_eq_false, not_false_eq_true, Nat.reduceEqDiff, Nat.reduceLeDiff, Nat.reduceLT, Nat.reduceAdd, Nat.reduceMul, Nat.reduceSub, false_or, or_false, true_or, or_true, false_and, and_false, reduceCtorEq, q_n0, q_n1, q_em, q_em2, q_b0, q_b1, Classical.not_not]
    · obtain ⟨h1, b1, b2, b3⟩ := ml183 o (dep := dep) jn k j h k1 k2 k3 zm
      obtain ⟨h2, e1, e2, e3⟩ := a7 h1 b2
      refine ⟨h2, b1.trans e1, e2, fun D F hD => ?_⟩
      obtain ⟨D', rfl⟩ : ∃ d, D = d + 2 := ⟨D - 2, by unfold DPl at hD; omega⟩
      refine Eq.trans ?_ ((b3 D' F).trans (e3 (D' + 2) F _ hD))
      simp (disch := omega) only [r183_0, r183_1, e183]
  · right
    refine ⟨kk, a1, fun h cn r => ?_, fun h zm => ?_⟩
    · obtain ⟨h1, b1, b2, b3, b4⟩ := cl51 o (dep := dep) k j h false 0 k1 (by omega) k2 k3 r
      obtain ⟨h2, e1, e2, e5⟩ := a2 h1 cn b2
      refine ⟨h2, b1.trans e1, e2, fun D F hD => ?_⟩
      obtain ⟨D', rfl⟩ : ∃ d, D = d + 2 := ⟨D - 2, by unfold DPl at hD; omega⟩
      refine Eq.trans (Eq.trans ?_ ((b4 D' F).trans (e5 (D' + 2) F _ _ hD))) ?_
      · simp (disch := omega) only [r51_0, r51_1, r51_2, r51_3, e51]
        rfl
      · simp (disch := omega) only [r51_62, r51_63, r51_64, r51_67, r51_68, r51_71, r51_72, r51_74, r51_75, r51_78, r51_79, r51_80, kdC, kdM, rpC, rpM, q_rs, q_rn, Option.toList_some, Option.toList_none, List.cons_append, List.nil_append, true_and, and_true, eq_self, ↓reduceIte, not_true_eq_false, not_false_eq_true, Nat.reduceEqDiff, Nat.reduceLeDiff, Nat.reduceLT, Nat.reduceAdd, Nat.reduceMul, Nat.reduceSub, false_or, or_false, true_or, or_true, false_and, and_false, reduceCtorEq, q_n0, q_n1, q_em, q_em2, q_b0, q_b1, Classical.not_not]
    · obtain ⟨h1, b1, b2, b3⟩ := ml183 o (dep := dep) jn k j h k1 k2 k3 zm
      obtain ⟨h2, e1, e2, e3⟩ := a3 h1 b2
      refine ⟨h2, b1.trans e1, e2, fun D F hD => ?_⟩
      obtain ⟨D', rfl⟩ : ∃ d, D = d + 2 := ⟨D - 2, by unfold DPl at hD; omega⟩
      refine Eq.trans ?_ ((b3 D' F).trans (e3 (D' + 2) F _ hD))
      simp (disch := omega) only [r183_0, r183_1, e183]
/-- a skip is written -/
theorem c48n {h : Hp} (op : Int32) (d : Nat) (F : Po) : cwp true d 48 [.ref 76, .int (-1), .int op] h F = F none h := by
  simp (disch := omega) only [e48, r48_0, r48_1, r48_2, r48_5, r48_6, r48_7, r48_10, r48_13, r48_14, r48_17, r48_18, r48_19, r48_22, r48_23, r48_24, r48_25, r48_26, r48_27, kdC, kdM, rpC, rpM, q_rs, q_rn, Option.toList_some, Option.toList_none, List.cons_append, List.nil_append, true_and, and_true, eq_self, ↓reduceIte, not_true_eq_false, not_false_eq_true, Nat.reduceEqDiff, Nat.reduceLeDiff, Nat.reduceLT, Nat.reduceAdd, Nat.reduceMul, Nat.reduceSub, false_or, or_false, true_or, or_true, false_and, and_false, reduceCtorEq, q_n0, q_n1, q_em, q_em2, q_b0, q_b1, Classical.not_not]
theorem c48s {h : Hp} {a z op : Nat} (h9 : gI h 76 9 = nI z) (ha : a < z) (hz : z ≤ 400) (ho : op < 16) (d : Nat) (F : Po) : cwp true d 48 [.ref 76, .int (nI a), .int (nI op)] h F = F none (sI h 78 a (stp z op)) := by
  simp (disch := omega) only [e48, r48_0, r48_1, r48_2, r48_5, r48_6, r48_7, r48_10, r48_13, r48_14, r48_17, r48_18, r48_19, r48_22, r48_23, r48_24, r48_25, r48_26, r48_27, h9, q_nm, stp_i (w := z) (op := op) (by omega) ho, kdC, kdM, rpC, rpM, q_rs, q_rn, Option.toList_some, Option.toList_none, List.cons_append, List.nil_append, true_and, and_true, eq_self, ↓reduceIte, not_true_eq_false, not_false_eq_true, Nat.reduceEqDiff, Nat.reduceLeDiff, Nat.reduceLT, Nat.reduceAdd, Nat.reduceMul, Nat.reduceSub, false_or, or_false, true_or, or_true, false_and, and_false, reduceCtorEq, q_n0, q_n1, q_em, q_em2, q_b0, q_b1, Classical.not_not, nI_add, pk_mul, nI_clamp, q_vp, nI_eq, nI_leI, nI_ltI, q_sub, show ¬ z ≤ a by omega, show a < 400 by omega]
theorem c48f {h : Hp} {k : Nat} (f : FC h B n k) (x : Option Nat) (hx : ∀ y, x = some y → y < 400) {op : Nat} (ho : op < 16) : ∃ h', FrS rcS h h' ∧ FC h' B n k ∧ ∀ d F, cwp true d 48 [.ref 76, .int (opI x), .int (nI op)] h F = F none h' := by
  obtain ⟨f1, zz, f2, f3⟩ := f
  cases x with
  | none => exact ⟨h, FrS.refl h, ⟨f1, zz, f2, f3⟩, fun d F => c48n _ d F⟩
  | some a =>
    have ha := hx a rfl
    by_cases c : a < zz
    · exact ⟨sI h 78 a (stp zz op), (FrS.refl h).sI _ rfl, ⟨by rw [q_gn (by omega)]; exact f1, zz, f2, by rw [q_gn (by omega)]; exact f3⟩, fun d F => c48s f3 c f2 ho d F⟩
    · refine ⟨h, FrS.refl h, ⟨f1, zz, f2, f3⟩, fun d F => ?_⟩
      show cwp true d 48 [.ref 76, .int (nI a), .int (nI op)] h F = _
      simp (disch := omega) only [e48, r48_0, r48_1, r48_2, r48_5, r48_6, r48_7, r48_10, r48_13, r48_14, r48_17, r48_18, r48_19, r48_22, r48_23, r48_24, r48_25, r48_26, r48_27, f3, q_nm, kdC, kdM, rpC, rpM, q_rs, q_rn, Option.toList_some, Option.toList_none, List.cons_append, List.nil_append, true_and, and_true, eq_self, ↓reduceIte, not_true_eq_false, not_false_eq_true, Nat.reduceEqDiff, Nat.reduceLeDiff, Nat.reduceLT, Nat.reduceAdd, Nat.reduceMul, Nat.reduceSub, false_or, or_false, true_or, or_true, false_and, and_false, reduceCtorEq, q_n0, q_n1, q_em, q_em2, q_b0, q_b1, Classical.not_not, nI_add, pk_mul, nI_clamp, q_vp, nI_eq, nI_leI, nI_ltI, q_sub, show zz ≤ a by omega]
theorem RC_s {h : Hp} {j p z cn : Nat} (r : RC h B n j p z cn) (a : Nat) (x : Int32) : RC (sI h 78 a x) B n j p z cn := by
  obtain ⟨⟨⟨r1, r2, r3⟩, r4, r5, r6⟩, r7, r8, r9⟩ := r
  exact ⟨⟨⟨by rw [q_gn (by omega)]; exact r1, fun i hi => by rw [q_gn (by omega)]; exact r2 i hi, by rw [q_gn (by omega)]; exact r3⟩, by rw [q_gn (by omega)]; exact r4, by rw [q_gn (by omega)]; exact r5, fun u => by rw [q_gn (by omega)]; exact r6 u⟩, by rw [q_gn (by omega)]; exact r7, by rw [q_gn (by omega)]; exact r8, by rw [q_gn (by omega)]; exact r9⟩
/-- a skip, if there is one, is written -/
theorem c48r {h : Hp} {j p z cn : Nat} (r : RC h B n j p z cn) (x : Option Nat) (hx : ∀ y, x = some y → y < z) (hz : z ≤ 400) {op : Nat} (ho : op < 16) : ∃ h', FrS rcS h h' ∧ RC h' B n j p z cn ∧ (∀ i, x ≠ some i → gI h' 78 i = gI h 78 i) ∧ (∀ y, x = some y → gI h' 78 y = stp z op) ∧ ∀ d F, cwp true d 48 [.ref 76, .int (opI x), .int (nI op)] h F = F none h' := by
  cases x with
  | none => exact ⟨h, FrS.refl h, r, fun _ _ => rfl, fun y e => (by cases e), fun d F => c48n _ d F⟩
  | some a =>
    refine ⟨sI h 78 a (stp z op), (FrS.refl h).sI _ rfl, RC_s r a _, fun i hi => q_gm (fun e => hi (by rw [e])), fun y e => by cases e; exact q_gs _ _ _ _, fun d F => c48s r.2.2.1 (hx a rfl) hz ho d F⟩
end TE
