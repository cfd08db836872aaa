/-! reading a TEXT, both -/
def CLE (h : Hp) (i : Nat) (HD P1 P2 P3 : Nat → Nat) : Prop := ∀ k, k < i → gI h 79 (4 * k) = nI (HD k) ∧ gI h 79 (4 * k + 1) = nI (P1 k) ∧ gI h 79 (4 * k + 2) = nI (P2 k) ∧ gI h 79 (4 * k + 3) = nI (P3 k)
def rsS (a i : Nat) : Bool := psS a i || (Nat.beq a 101 && Nat.beq i 9)
theorem ps_rs {h h' : Hp} (x : FrS psS h h') : FrS rsS h h' := x.mono (fun a i e => (bor e).1)
section RD
variable {B : Nat → Int32} {n m : Nat}
theorem mc59 (o : TOK B n m) (j : Nat) : (mcJ B n j = nI 159) = (tg B n j = 1059) := mc_s o j (u := 59) (by omega)
/-- the model ends: a fault was found -/
theorem ml187x (o : TOK B n m) {h : Hp} {k : Nat} (z : MX h B n k) (v1 : Value) (D : Nat) (F : Po) : wp true (D + 2) 187 34 [.ref 101, v1] [] h F = F (some (.int (nI 0))) (sI h 101 9 (nI (tpl B n k))) := by
  have h1 := fun F d => m176x o z (nI 159) d F
  have h2 := fun F d => m174x o z d F
  have z2 : MX (sI h 101 9 (nI (tpl B n k))) B n k := by unfold MX; rw [q_gm (by omega)]; exact z
  have h3 := fun F d => m174x o z2 d F
  have z' : gI h 101 16 = nI (tpl B n k) := z
  rw [r187_34]
  simp (disch := omega) only [e187, r187_0, r187_1, r187_2, r187_5, r187_8, r187_9, r187_10, r187_13, r187_14, r187_15, r187_18, r187_19, r187_20, r187_23, r187_24, r187_25, r187_28, r187_29, r187_32, r187_33, r187_35, r187_37, r187_40, r187_43, r187_46, r187_47, r187_49, r187_52, r187_53, r187_56, r187_57, r187_60, r187_63, r187_64, r187_67, r187_70, r187_73, r187_74, r187_77, r187_80, r187_81, r187_84, r187_85, r187_88, r187_91, r187_92, r187_95, r187_96, r187_97, r187_100, r187_103, r187_104, r187_107, m179, h1, h2, h3, z', kdC, kdM, rpC, rpM, q_rs, q_rn, Option.toList_some, Option.toList_none, List.cons_append, List.nil_append, true_and, and_true, eq_self, ↓reduceIte, not_true_eq_false, not_false_eq_true, Nat.reduceEqDiff, Nat.reduceLeDiff, Nat.reduceLT, Nat.reduceAdd, Nat.reduceMul, Nat.reduceSub, false_or, or_false, true_or, or_true, false_and, and_false, reduceCtorEq, q_n0, q_n1, q_em, q_em2, q_b0, q_b1, Classical.not_not, nI_add, pk_mul, nI_clamp, q_vp, nI_eq, nI_leI, nI_ltI, q_sub, Nat.reduceAdd]
/-- the end of a TEXT -/
theorem rd_end (o : TOK B n m) {i p : Nat} {cs : List Int32} {HD P1 P2 P3 : Nat → Nat} (hi1 : 1 ≤ i) (hi : i ≤ 12) (hp : p ≤ 50) (hz : cs.length ≤ m) (hnn : nnL cs) (hs : SEQ B n m i (m + 1) cs HD P1 P2 P3) : ∃ i' cs' HD' P1' P2' P3', i' ≤ 12 ∧ cs'.length ≤ 400 ∧ nnL cs' ∧ SEQ B n m i' (m + 1) cs' HD' P1' P2' P3' ∧
      (∀ h, RC h B n m p cs.length (4 * i) → AT (gI h 78) 0 cs → CLE h i HD P1 P2 P3 → ∃ h', FrS clS h h' ∧ AT (gI h' 78) 0 cs' ∧ CLE h' i' HD' P1' P2' P3' ∧ gI h' 76 9 = nI cs'.length ∧ gI h' 76 11 = nI (4 * i') ∧ ∃ v3' : Value, ∀ D F (v1 : Value), 70 ≤ D → wp true D 41 42 [.ref 76, v1, .int (nI 1), .int (nI i)] [] h F = wp true D 41 105 [.ref 76, v1, .int (nI 1), v3'] [] h' F) ∧
      ∀ h, MS h B n m m p → gI h 101 13 = nI m → ∃ h', FrS rsS h h' ∧ gI h' 101 9 = -1 ∧ ∀ D F, 70 ≤ D → wp true D 187 34 [.ref 101, .int (nI i)] [] h F = F (some (.int (nI 1))) h' := by
  have hm4 := o.m400
  have ht := o.e
  refine ⟨i, cs, HD, P1, P2, P3, hi, by omega, hnn, hs, fun h r hat hcle => ?_, fun h zm hm => ?_⟩
  · have h42 := fun F d => c42 o r (u := 59) (by omega) d F
    rw [q_bf (show ¬ tg B n m = 1000 + 59 by omega)] at h42
    have h4 := r.1.2.1
    rw [ht] at h4
    have h4' : gI h 76 4 = nI 22 := h4
    refine ⟨h, FrS.refl h, hat, hcle, r.2.2.1, r.2.2.2, .int (nI i), fun D F v1 hD => ?_⟩
    obtain ⟨D', rfl⟩ : ∃ d, D = d + 2 := ⟨D - 2, by omega⟩
    rw [r41_42]
    simp (disch := omega) only [r41_43, r41_45, r41_48, r41_49, r41_52, r41_53, r41_55, r41_58, r41_61, r41_62, r41_65, r41_66, r41_68, r41_71, r41_72, r41_75, r41_78, r41_79, r41_82, r41_83, r41_84, r41_87, r41_90, r41_91, r41_94, r41_95, r41_98, r41_100, h42, h4', kdC, kdM, rpC, rpM, q_rs, q_rn, Option.toList_some, Option.toList_none, List.cons_append, List.nil_append, true_and, and_true, eq_self, ↓reduceIte, not_true_eq_false, not_false_eq_true, Nat.reduceEqDiff, Nat.reduceLeDiff, Nat.reduceLT, Nat.reduceAdd, Nat.reduceMul, Nat.reduceSub, false_or, or_false, true_or, or_true, false_and, and_false, reduceCtorEq, q_n0, q_n1, q_em, q_em2, q_b0, q_b1, Classical.not_not, nI_add, pk_mul, nI_clamp, q_vp, nI_eq, nI_leI, nI_ltI, q_sub, show ¬ 12 < i by omega]
  · have t1 := fun F d => m176n o (Nat.le_refl _) zm (show ¬ mcJ B n m = nI 159 by rw [mc59 o]; omega) d F
    have h74 := fun F d => m174 zm d F
    have zm2 : MS (sI h 101 9 (-1)) B n m m p := ⟨by rw [q_gm (by omega)]; exact zm.1, by rw [q_gm (by omega)]; exact zm.2.1, by rw [q_gm (by omega)]; exact zm.2.2.1, fun t ht => by rw [q_gn (by omega), q_gn (by omega), q_gn (by omega)]; exact zm.2.2.2 t ht⟩
    have h74b := fun F d => m174 zm2 d F
    refine ⟨sI h 101 9 (-1), (FrS.refl h).sI _ rfl, q_gs _ _ _ _, fun D F hD => ?_⟩
    obtain ⟨D', rfl⟩ : ∃ d, D = d + 2 := ⟨D - 2, by omega⟩
    rw [r187_34]
    simp (disch := omega) only [e187, r187_0, r187_1, r187_2, r187_5, r187_8, r187_9, r187_10, r187_13, r187_14, r187_15, r187_18, r187_19, r187_20, r187_23, r187_24, r187_25, r187_28, r187_29, r187_32, r187_33, r187_35, r187_37, r187_40, r187_43, r187_46, r187_47, r187_49, r187_52, r187_53, r187_56, r187_57, r187_60, r187_63, r187_64, r187_67, r187_70, r187_73, r187_74, r187_77, r187_80, r187_81, r187_84, r187_85, r187_88, r187_91, r187_92, r187_95, r187_96, r187_97, r187_100, r187_103, r187_104, r187_107, m179, t1, h74, h74b, zm.1, zm.2.2.1, hm, kdC, kdM, rpC, rpM, q_rs, q_rn, Option.toList_some, Option.toList_none, List.cons_append, List.nil_append, true_and, and_true, eq_self, ↓reduceIte, not_true_eq_false, not_false_eq_true, Nat.reduceEqDiff, Nat.reduceLeDiff, Nat.reduceLT, Nat.reduceAdd, Nat.reduceMul, Nat.reduceSub, false_or, or_false, true_or, or_true, false_and, and_false, reduceCtorEq, q_n0, q_n1, q_em, q_em2, q_b0, q_b1, Classical.not_not, nI_add, pk_mul, nI_clamp, q_vp, nI_eq, nI_leI, nI_ltI, q_sub, Nat.reduceAdd, Nat.le_refl]
theorem rd_ex (o : TOK B n m) : ∀ q i j p (cs : List Int32) (HD P1 P2 P3 : Nat → Nat), m - j ≤ q → 1 ≤ i → i ≤ 12 → j ≤ m → p ≤ 50 → cs.length ≤ j → nnL cs → SEQ B n m i (j + 1) cs HD P1 P2 P3 →
    (∃ i' cs' HD' P1' P2' P3', i' ≤ 12 ∧ cs'.length ≤ 400 ∧ nnL cs' ∧ SEQ B n m i' (m + 1) cs' HD' P1' P2' P3' ∧
      (∀ h, RC h B n j p cs.length (4 * i) → AT (gI h 78) 0 cs → CLE h i HD P1 P2 P3 → ∃ h', FrS clS h h' ∧ AT (gI h' 78) 0 cs' ∧ CLE h' i' HD' P1' P2' P3' ∧ gI h' 76 9 = nI cs'.length ∧ gI h' 76 11 = nI (4 * i') ∧ ∃ v3' : Value, ∀ D F (v1 : Value), 70 ≤ D → wp true D 41 42 [.ref 76, v1, .int (nI 1), .int (nI i)] [] h F = wp true D 41 105 [.ref 76, v1, .int (nI 1), v3'] [] h' F) ∧
      ∀ h, MS h B n m j p → gI h 101 13 = nI m → ∃ h', FrS rsS h h' ∧ gI h' 101 9 = -1 ∧ ∀ D F, 70 ≤ D → wp true D 187 34 [.ref 101, .int (nI i)] [] h F = F (some (.int (nI 1))) h') ∨
    ∃ k, (∀ h, RC h B n j p cs.length (4 * i) → ∃ h', FrS clS h h' ∧ gI h' 76 5 = nI (tpl B n k) ∧ ∀ D F (v1 : Value), 70 ≤ D → wp true D 41 42 [.ref 76, v1, .int (nI 1), .int (nI i)] [] h F = F (some .null) h') ∧
      ∀ h, MS h B n m j p → gI h 101 13 = nI m → ∃ h', FrS rsS h h' ∧ gI h' 101 9 = nI (tpl B n k) ∧ ∀ D F, 70 ≤ D → wp true D 187 34 [.ref 101, .int (nI i)] [] h F = F (some (.int (nI 0))) h' := by
  have hm4 := o.m400
  intro q
  induction q with
  | zero =>
    intro i j p cs HD P1 P2 P3 hq hi1 hi hj hp hz hnn hs
    obtain rfl : j = m := by omega
    exact Or.inl (rd_end o hi1 hi hp hz hnn hs)
  | succ q ih =>
    intro i j p cs HD P1 P2 P3 hq hi1 hi hj hp hz hnn hs
    by_cases c59 : tg B n j = 1059
    · have hjm : j < m := o.l hj (by omega)
      have tk := fun (h : Hp) (zm : MS h B n m j p) F d => m176y o hj zm (show mcJ B n j = nI 159 by rw [mc59 o]; exact c59) d F
      by_cases c12 : i = 12
      · -- one clause too many
        right
        refine ⟨j + 1, fun h r => ?_, fun h zm hm => ?_⟩
        · obtain ⟨h1, b1, b2, b3, b4⟩ := c43r o r
          have h42 := fun F d => c42 o r (u := 59) (by omega) d F
          rw [q_bt c59] at h42
          refine ⟨h1, rc_cl (av_rc b1), b2.1.2.2.1, fun D F v1 hD => ?_⟩
          obtain ⟨D', rfl⟩ : ∃ d, D = d + 2 := ⟨D - 2, by omega⟩
          rw [r41_42]
          simp (disch := omega) only [e41, r41_0, r41_1, r41_2, r41_5, r41_8, r41_11, r41_12, r41_13, r41_16, r41_17, r41_18, r41_21, r41_22, r41_23, r41_26, r41_27, r41_28, r41_31, r41_32, r41_35, r41_36, r41_39, r41_40, r41_41, r41_43, r41_45, r41_48, r41_49, r41_52, r41_53, r41_55, r41_58, r41_61, r41_62, r41_65, r41_66, r41_68, r41_71, r41_72, r41_75, r41_78, r41_79, r41_82, r41_83, r41_84, r41_87, r41_90, r41_91, r41_94, r41_95, r41_98, r41_100, r41_103, r41_104, r41_104n, r41_105, r41_108, r41_109, r41_110, r41_113, r41_114, r41_117, r41_120, r41_121, r41_124, r41_125, r41_128, r41_131, r41_134, r41_134n, h42, b4, c12, kdC, kdM, rpC, rpM, q_rs, q_rn, Option.toList_some, Option.toList_none, List.cons_append, List.nil_append, true_and, and_true, eq_self, ↓reduceIte, not_true_eq_false, not_false_eq_true, Nat.reduceEqDiff, Nat.reduceLeDiff, Nat.reduceLT, Nat.reduceAdd, Nat.reduceMul, Nat.reduceSub, false_or, or_false, true_or, or_true, false_and, and_false, reduceCtorEq, q_n0, q_n1, q_em, q_em2, q_b0, q_b1, Classical.not_not, nI_add, pk_mul, nI_clamp, q_vp, nI_eq, nI_leI, nI_ltI, q_sub, Nat.le_refl, Nat.lt_irrefl]
          rw [r41_42]
          simp (disch := omega) only [e41, r41_0, r41_1, r41_2, r41_5, r41_8, r41_11, r41_12, r41_13, r41_16, r41_17, r41_18, r41_21, r41_22, r41_23, r41_26, r41_27, r41_28, r41_31, r41_32, r41_35, r41_36, r41_39, r41_40, r41_41, r41_43, r41_45, r41_48, r41_49, r41_52, r41_53, r41_55, r41_58, r41_61, r41_62, r41_65, r41_66, r41_68, r41_71, r41_72, r41_75, r41_78, r41_79, r41_82, r41_83, r41_84, r41_87, r41_90, r41_91, r41_94, r41_95, r41_98, r41_100, r41_103, r41_104, r41_104n, r41_105, r41_108, r41_109, r41_110, r41_113, r41_114, r41_117, r41_120, r41_121, r41_124, r41_125, r41_128, r41_131, r41_134, r41_134n, kdC, kdM, rpC, rpM, q_rs, q_rn, Option.toList_some, Option.toList_none, List.cons_append, List.nil_append, true_and, and_true, eq_self, ↓reduceIte, not_true_eq_false, not_false_eq_true, Nat.reduceEqDiff, Nat.reduceLeDiff, Nat.reduceLT, Nat.reduceAdd, Nat.reduceMul, Nat.reduceSub, false_or, or_false, true_or, or_true, false_and, and_false, reduceCtorEq, q_n0, q_n1, q_em, q_em2, q_b0, q_b1, Classical.not_not, nI_add, pk_mul, nI_clamp, q_vp, nI_eq, nI_leI, nI_ltI, q_sub]
        · have zm2 := MS_t (j' := j + 1) zm
          have h75 := fun F d => m175 o (show j + 1 ≤ m by omega) zm2 d F
          have zx : MX (sI (sI h 101 14 (nI (j + 1))) 101 16 (nI (tpl B n (j + 1)))) B n (j + 1) := MX_f
          have h74x := fun F d => m174x o zx d F
          refine ⟨sI (sI (sI h 101 14 (nI (j + 1))) 101 16 (nI (tpl B n (j + 1)))) 101 9 (nI (tpl B n (j + 1))), (((FrS.refl h).sI _ rfl).sI _ rfl).sI _ rfl, q_gs _ _ _ _, fun D F hD => ?_⟩
          obtain ⟨D', rfl⟩ : ∃ d, D = d + 2 := ⟨D - 2, by omega⟩
          have t1 := fun F d => tk h zm F d
          refine Eq.trans ?_ (ml187x o zx (.int (nI 13)) D' F)
          rw [r187_34]
          simp (disch := omega) only [r187_35, r187_37, r187_40, r187_43, r187_46, r187_47, r187_49, r187_52, r187_53, r187_56, r187_57, r187_60, r187_63, r187_64, r187_67, r187_70, m179, t1, h75, h74x, c12, kdC, kdM, rpC, rpM, q_rs, q_rn, Option.toList_some, Option.toList_none, List.cons_append, List.nil_append, true_and, and_true, eq_self, ↓reduceIte, not_true_eq_false, not_false_eq_true, Nat.reduceEqDiff, Nat.reduceLeDiff, Nat.reduceLT, Nat.reduceAdd, Nat.reduceMul, Nat.reduceSub, false_or, or_false, true_or, or_true, false_and, and_false, reduceCtorEq, q_n0, q_n1, q_em, q_em2, q_b0, q_b1, Classical.not_not, nI_add, pk_mul, nI_clamp, q_vp, nI_eq, nI_leI, nI_ltI, q_sub, Nat.reduceAdd]
      · have hj1 : j + 1 ≤ m := by omega
        rcases clause_ex o (j + 1) p cs.length hj1 hp (by omega) with ⟨j', p', hd, csS, csT, a1, a2, a3, a4, a5, a6, ⟨a7, a8⟩, a9⟩ | ⟨k, a1, a2, a3⟩
        · have hsq := seq_s hs (by omega) a4 a9
          have hlen : (cs ++ (csS ++ csT)).length = cs.length + csS.length + csT.length := by rw [List.length_append, List.length_append]; omega
          have hnx := ih (i + 1) j' p' (cs ++ (csS ++ csT)) _ _ _ _ (by omega) (by omega) (by omega) a2 a3 (by rw [hlen]; omega) (nn_app hnn a6) hsq
          -- one clause in the class
          have hcl : ∀ h, RC h B n j p cs.length (4 * i) → ∃ h2, FrS clS h h2 ∧ RC h2 B n j' p' (cs ++ (csS ++ csT)).length (4 * (i + 1)) ∧ (AT (gI h 78) 0 cs → AT (gI h2 78) 0 (cs ++ (csS ++ csT))) ∧ (CLE h i HD P1 P2 P3 → CLE h2 (i + 1) (fun k => if k = i then hd else HD k) (fun k => if k = i then cs.length else P1 k) (fun k => if k = i then cs.length + csS.length else P2 k) (fun k => if k = i then cs.length + csS.length + csT.length else P3 k)) ∧ ∀ D F (v1 : Value), 70 ≤ D → wp true D 41 42 [.ref 76, v1, .int (nI 1), .int (nI i)] [] h F = wp true D 41 42 [.ref 76, v1, .int (nI 1), .int (nI (i + 1))] [] h2 F := by
            intro h r
            obtain ⟨h1, b1, b2, b3, b4⟩ := c43r o r
            obtain ⟨h2, e1, e2, e3, e4, e5, ⟨e6, e7, e8, e9⟩, e10⟩ := a7 h1 i (by omega) b2
            have h42 := fun F d => c42 o r (u := 59) (by omega) d F
            rw [q_bt c59] at h42
            refine ⟨h2, (rc_cl (av_rc b1)).trans e1, by rw [hlen]; exact e2, fun hat => ?_, fun hcle k hk => ?_, fun D F v1 hD => ?_⟩
            · rw [AT_app, Nat.zero_add]
              exact ⟨AT_cg (fun t _ ht => by rw [e4 t (by omega), b3]) hat, e3⟩
            · show gI h2 79 (4 * k) = nI (if k = i then hd else HD k) ∧ gI h2 79 (4 * k + 1) = nI (if k = i then cs.length else P1 k) ∧ gI h2 79 (4 * k + 2) = nI (if k = i then cs.length + csS.length else P2 k) ∧ gI h2 79 (4 * k + 3) = nI (if k = i then cs.length + csS.length + csT.length else P3 k)
              by_cases ek : k = i
              · subst ek
                rw [if_pos rfl, if_pos rfl, if_pos rfl, if_pos rfl]
                exact ⟨e6, e7, e8, e9⟩
              · rw [if_neg ek, if_neg ek, if_neg ek, if_neg ek]
                have x79 : ∀ t, gI h1 79 t = gI h 79 t := fun t => b1.g (a := 79) (i := t) rfl
                rw [e5 _ (by omega), e5 _ (by omega), e5 _ (by omega), e5 _ (by omega), x79, x79, x79, x79]
                exact hcle k (by omega)
            · obtain ⟨D', rfl⟩ : ∃ d, D = d + 2 := ⟨D - 2, by omega⟩
              have e10' := fun F => e10 (D' + 1) F (by omega)
              rw [r41_42]
              simp (disch := omega) only [r41_43, r41_45, r41_48, r41_49, r41_52, r41_53, r41_55, r41_58, r41_61, r41_62, r41_65, r41_66, r41_68, r41_71, r41_72, r41_75, r41_78, r41_79, r41_82, r41_83, r41_84, r41_87, h42, b4, e10', kdC, kdM, rpC, rpM, q_rs, q_rn, Option.toList_some, Option.toList_none, List.cons_append, List.nil_append, true_and, and_true, eq_self, ↓reduceIte, not_true_eq_false, not_false_eq_true, Nat.reduceEqDiff, Nat.reduceLeDiff, Nat.reduceLT, Nat.reduceAdd, Nat.reduceMul, Nat.reduceSub, false_or, or_false, true_or, or_true, false_and, and_false, reduceCtorEq, q_n0, q_n1, q_em, q_em2, q_b0, q_b1, Classical.not_not, nI_add, pk_mul, nI_clamp, q_vp, nI_eq, nI_leI, nI_ltI, q_sub, show ¬ 12 < i by omega, show ¬ 12 ≤ i by omega]
          have hmo : ∀ h, MS h B n m j p → ∃ h2, FrS psS h h2 ∧ MS h2 B n m j' p' ∧ ∀ D F, 70 ≤ D → wp true D 187 34 [.ref 101, .int (nI i)] [] h F = wp true D 187 34 [.ref 101, .int (nI (i + 1))] [] h2 F := by
            intro h zm
            obtain ⟨h2, e1, e2, e3⟩ := a8 (sI h 101 14 (nI (j + 1))) (MS_t zm)
            refine ⟨h2, ((FrS.refl h).sI _ rfl).trans e1, e2, fun D F hD => ?_⟩
            obtain ⟨D', rfl⟩ : ∃ d, D = d + 2 := ⟨D - 2, by omega⟩
            have t1 := fun F d => tk h zm F d
            have h74 := fun F d => m174 (MS_t (j' := j + 1) zm) d F
            have e3' := fun F => e3 (D' + 1) F (by omega)
            rw [r187_34]
            simp (disch := omega) only [r187_35, r187_37, r187_40, r187_43, r187_46, r187_47, r187_49, r187_52, r187_53, r187_56, r187_57, r187_60, r187_63, r187_64, r187_67, r187_70, m179, t1, h74, e3', kdC, kdM, rpC, rpM, q_rs, q_rn, Option.toList_some, Option.toList_none, List.cons_append, List.nil_append, true_and, and_true, eq_self, ↓reduceIte, not_true_eq_false, not_false_eq_true, Nat.reduceEqDiff, Nat.reduceLeDiff, Nat.reduceLT, Nat.reduceAdd, Nat.reduceMul, Nat.reduceSub, false_or, or_false, true_or, or_true, false_and, and_false, reduceCtorEq, q_n0, q_n1, q_em, q_em2, q_b0, q_b1, Classical.not_not, nI_add, pk_mul, nI_clamp, q_vp, nI_eq, nI_leI, nI_ltI, q_sub, Nat.reduceAdd, show ¬ i = 12 by omega]
          rcases hnx with ⟨i', cs', HD', P1', P2', P3', f1, f2, f3, f4, f5, f6⟩ | ⟨k, f5, f6⟩
          · left
            refine ⟨i', cs', HD', P1', P2', P3', f1, f2, f3, f4, fun h r hat hcle => ?_, fun h zm hm => ?_⟩
            · obtain ⟨h2, b1, b2, b3, b4, b5⟩ := hcl h r
              obtain ⟨h3, g1, g2, g3, g4, g5, v3', g6⟩ := f5 h2 b2 (b3 hat) (b4 hcle)
              exact ⟨h3, b1.trans g1, g2, g3, g4, g5, v3', fun D F v1 hD => by rw [b5 D F v1 hD, g6 D F v1 hD]⟩
            · obtain ⟨h2, b1, b2, b3⟩ := hmo h zm
              obtain ⟨h3, g1, g2, g3⟩ := f6 h2 b2 (by rw [b1.g (a := 101) (i := 13) rfl]; exact hm)
              exact ⟨h3, (ps_rs b1).trans g1, g2, fun D F hD => by rw [b3 D F hD, g3 D F hD]⟩
          · right
            refine ⟨k, fun h r => ?_, fun h zm hm => ?_⟩
            · obtain ⟨h2, b1, b2, b3, b4, b5⟩ := hcl h r
              obtain ⟨h3, g1, g2, g6⟩ := f5 h2 b2
              exact ⟨h3, b1.trans g1, g2, fun D F v1 hD => by rw [b5 D F v1 hD, g6 D F v1 hD]⟩
            · obtain ⟨h2, b1, b2, b3⟩ := hmo h zm
              obtain ⟨h3, g1, g2, g3⟩ := f6 h2 b2 (by rw [b1.g (a := 101) (i := 13) rfl]; exact hm)
              exact ⟨h3, (ps_rs b1).trans g1, g2, fun D F hD => by rw [b3 D F hD, g3 D F hD]⟩
        · right
          refine ⟨k, fun h r => ?_, fun h zm hm => ?_⟩
          · obtain ⟨h1, b1, b2, b3, b4⟩ := c43r o r
            obtain ⟨h2, e1, e2, e10⟩ := a2 h1 i (by omega) b2
            have h42 := fun F d => c42 o r (u := 59) (by omega) d F
            rw [q_bt c59] at h42
            refine ⟨h2, (rc_cl (av_rc b1)).trans e1, e2.1, fun D F v1 hD => ?_⟩
            obtain ⟨D', rfl⟩ : ∃ d, D = d + 2 := ⟨D - 2, by omega⟩
            have e10' := fun F => e10 (D' + 1) F (by omega)
            rw [r41_42]
            simp (disch := omega) only [e41, r41_0, r41_1, r41_2, r41_5, r41_8, r41_11, r41_12, r41_13, r41_16, r41_17, r41_18, r41_21, r41_22, r41_23, r41_26, r41_27, r41_28, r41_31, r41_32, r41_35, r41_36, r41_39, r41_40, r41_41, r41_43, r41_45, r41_48, r41_49, r41_52, r41_53, r41_55, r41_58, r41_61, r41_62, r41_65, r41_66, r41_68, r41_71, r41_72, r41_75, r41_78, r41_79, r41_82, r41_83, r41_84, r41_87, r41_90, r41_91, r41_94, r41_95, r41_98, r41_100, r41_103, r41_104, r41_104n, r41_105, r41_108, r41_109, r41_110, r41_113, r41_114, r41_117, r41_120, r41_121, r41_124, r41_125, r41_128, r41_131, r41_134, r41_134n, h42, b4, e10', kdC, kdM, rpC, rpM, q_rs, q_rn, Option.toList_some, Option.toList_none, List.cons_append, List.nil_append, true_and, and_true, eq_self, ↓reduceIte, not_true_eq_false, not_false_eq_true, Nat.reduceEqDiff, Nat.reduceLeDiff, Nat.reduceLT, Nat.reduceAdd, Nat.reduceMul, Nat.reduceSub, false_or, or_false, true_or, or_true, false_and, and_false, reduceCtorEq, q_n0, q_n1, q_em, q_em2, q_b0, q_b1, Classical.not_not, nI_add, pk_mul, nI_clamp, q_vp, nI_eq, nI_leI, nI_ltI, q_sub, show ¬ 12 < i by omega, show ¬ 12 ≤ i by omega]
            rw [r41_42]
            simp (disch := omega) only [e41, r41_0, r41_1, r41_2, r41_5, r41_8, r41_11, r41_12, r41_13, r41_16, r41_17, r41_18, r41_21, r41_22, r41_23, r41_26, r41_27, r41_28, r41_31, r41_32, r41_35, r41_36, r41_39, r41_40, r41_41, r41_43, r41_45, r41_48, r41_49, r41_52, r41_53, r41_55, r41_58, r41_61, r41_62, r41_65, r41_66, r41_68, r41_71, r41_72, r41_75, r41_78, r41_79, r41_82, r41_83, r41_84, r41_87, r41_90, r41_91, r41_94, r41_95, r41_98, r41_100, r41_103, r41_104, r41_104n, r41_105, r41_108, r41_109, r41_110, r41_113, r41_114, r41_117, r41_120, r41_121, r41_124, r41_125, r41_128, r41_131, r41_134, r41_134n, kdC, kdM, rpC, rpM, q_rs, q_rn, Option.toList_some, Option.toList_none, List.cons_append, List.nil_append, true_and, and_true, eq_self, ↓reduceIte, not_true_eq_false, not_false_eq_true, Nat.reduceEqDiff, Nat.reduceLeDiff, Nat.reduceLT, Nat.reduceAdd, Nat.reduceMul, Nat.reduceSub, false_or, or_false, true_or, or_true, false_and, and_false, reduceCtorEq, q_n0, q_n1, q_em, q_em2, q_b0, q_b1, Classical.not_not, nI_add, pk_mul, nI_clamp, q_vp, nI_eq, nI_leI, nI_ltI, q_sub, show ¬ 12 < i + 1 by omega]
          · obtain ⟨h2, e1, e2, e3⟩ := a3 (sI h 101 14 (nI (j + 1))) (MS_t zm)
            refine ⟨sI h2 101 9 (nI (tpl B n k)), (ps_rs (((FrS.refl h).sI _ rfl).trans e1)).sI _ rfl, q_gs _ _ _ _, fun D F hD => ?_⟩
            obtain ⟨D', rfl⟩ : ∃ d, D = d + 2 := ⟨D - 2, by omega⟩
            have t1 := fun F d => tk h zm F d
            have h74 := fun F d => m174 (MS_t (j' := j + 1) zm) d F
            have e3' := fun F => e3 (D' + 1) F (by omega)
            refine Eq.trans ?_ (ml187x o e2 (.int (nI (i + 1))) D' F)
            rw [r187_34]
            simp (disch := omega) only [r187_35, r187_37, r187_40, r187_43, r187_46, r187_47, r187_49, r187_52, r187_53, r187_56, r187_57, r187_60, r187_63, r187_64, r187_67, r187_70, m179, t1, h74, e3', kdC, kdM, rpC, rpM, q_rs, q_rn, Option.toList_some, Option.toList_none, List.cons_append, List.nil_append, true_and, and_true, eq_self, ↓reduceIte, not_true_eq_false, not_false_eq_true, Nat.reduceEqDiff, Nat.reduceLeDiff, Nat.reduceLT, Nat.reduceAdd, Nat.reduceMul, Nat.reduceSub, false_or, or_false, true_or, or_true, false_and, and_false, reduceCtorEq, q_n0, q_n1, q_em, q_em2, q_b0, q_b1, Classical.not_not, nI_add, pk_mul, nI_clamp, q_vp, nI_eq, nI_leI, nI_ltI, q_sub, Nat.reduceAdd, show ¬ i = 12 by omega]
    · by_cases c22 : tg B n j = 22
      · have hjm : j = m := by
          rcases Nat.lt_or_ge j m with u | u
          · have := o.2.2.2.2 j u
            have := (tg_end o.1 o.2.1 j).mp c22
            omega
          · omega
        subst hjm
        exact Or.inl (rd_end o hi1 hi hp hz hnn hs)
      · have hjm : j < m := o.l hj c22
        right
        refine ⟨j, fun h r => ⟨h, FrS.refl h, r.1.2.2.1, fun D F v1 hD => ?_⟩, fun h zm hm => ?_⟩
        · have h42 := fun F d => c42 o r (u := 59) (by omega) d F
          rw [q_bf c59] at h42
          have h4 := r.1.2.1
          have k22 : ¬ kdI (tg B n j) = nI 22 := by rw [kd_w o j (by omega)]; exact c22
          obtain ⟨D', rfl⟩ : ∃ d, D = d + 2 := ⟨D - 2, by omega⟩
          rw [r41_42]
          simp (disch := omega) only [e41, r41_0, r41_1, r41_2, r41_5, r41_8, r41_11, r41_12, r41_13, r41_16, r41_17, r41_18, r41_21, r41_22, r41_23, r41_26, r41_27, r41_28, r41_31, r41_32, r41_35, r41_36, r41_39, r41_40, r41_41, r41_43, r41_45, r41_48, r41_49, r41_52, r41_53, r41_55, r41_58, r41_61, r41_62, r41_65, r41_66, r41_68, r41_71, r41_72, r41_75, r41_78, r41_79, r41_82, r41_83, r41_84, r41_87, r41_90, r41_91, r41_94, r41_95, r41_98, r41_100, r41_103, r41_104, r41_104n, r41_105, r41_108, r41_109, r41_110, r41_113, r41_114, r41_117, r41_120, r41_121, r41_124, r41_125, r41_128, r41_131, r41_134, r41_134n, h42, h4, k22, kdC, kdM, rpC, rpM, q_rs, q_rn, Option.toList_some, Option.toList_none, List.cons_append, List.nil_append, true_and, and_true, eq_self, ↓reduceIte, not_true_eq_false, not_false_eq_true, Nat.reduceEqDiff, Nat.reduceLeDiff, Nat.reduceLT, Nat.reduceAdd, Nat.reduceMul, Nat.reduceSub, false_or, or_false, true_or, or_true, false_and, and_false, reduceCtorEq, q_n0, q_n1, q_em, q_em2, q_b0, q_b1, Classical.not_not, nI_add, pk_mul, nI_clamp, q_vp, nI_eq, nI_leI, nI_ltI, q_sub, show ¬ 12 < i by omega]
        · have t1 := fun F d => m176n o hj zm (show ¬ mcJ B n j = nI 159 by rw [mc59 o]; exact c59) d F
          have h74 := fun F d => m174 zm d F
          have h75 := fun F d => m175 o hj zm d F
          have zx : MX (sI h 101 16 (nI (tpl B n j))) B n j := MX_f
          have z2 : MX (sI (sI h 101 16 (nI (tpl B n j))) 101 9 (nI (tpl B n j))) B n j := by unfold MX; rw [q_gm (by omega)]; exact zx
          have h74x := fun F d => m174x o z2 d F
          have g16 : gI (sI h 101 16 (nI (tpl B n j))) 101 16 = nI (tpl B n j) := q_gs _ _ _ _
          refine ⟨sI (sI h 101 16 (nI (tpl B n j))) 101 9 (nI (tpl B n j)), ((FrS.refl h).sI _ rfl).sI _ rfl, q_gs _ _ _ _, fun D F hD => ?_⟩
          obtain ⟨D', rfl⟩ : ∃ d, D = d + 2 := ⟨D - 2, by omega⟩
          rw [r187_34]
          simp (disch := omega) only [e187, r187_0, r187_1, r187_2, r187_5, r187_8, r187_9, r187_10, r187_13, r187_14, r187_15, r187_18, r187_19, r187_20, r187_23, r187_24, r187_25, r187_28, r187_29, r187_32, r187_33, r187_35, r187_37, r187_40, r187_43, r187_46, r187_47, r187_49, r187_52, r187_53, r187_56, r187_57, r187_60, r187_63, r187_64, r187_67, r187_70, r187_73, r187_74, r187_77, r187_80, r187_81, r187_84, r187_85, r187_88, r187_91, r187_92, r187_95, r187_96, r187_97, r187_100, r187_103, r187_104, r187_107, m179, t1, h74, h75, zm.1, hm, g16, h74x, kdC, kdM, rpC, rpM, q_rs, q_rn, Option.toList_some, Option.toList_none, List.cons_append, List.nil_append, true_and, and_true, eq_self, ↓reduceIte, not_true_eq_false, not_false_eq_true, Nat.reduceEqDiff, Nat.reduceLeDiff, Nat.reduceLT, Nat.reduceAdd, Nat.reduceMul, Nat.reduceSub, false_or, or_false, true_or, or_true, false_and, and_false, reduceCtorEq, q_n0, q_n1, q_em, q_em2, q_b0, q_b1, Classical.not_not, nI_add, pk_mul, nI_clamp, q_vp, nI_eq, nI_leI, nI_ltI, q_sub, Nat.reduceAdd, show ¬ m ≤ j by omega]
end RD
