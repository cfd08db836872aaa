/-! terms, feed, end -/
section TE
variable {n : Nat} {h : Hp}
def tlo : Nat → Nat
  | 1 => 1
  | _ => 0
def thi : Nat → Nat
  | 0 => 600
  | 1 => 12
  | 2 => 100
  | _ => 99
theorem c132_0 (d : Nat) (F : Po) : cwp true d 132 [.int (nI 0)] h F = F (some (.int (nI 600))) h := by simp only [e132, r132_0, r132_1c0, r132_1c1, r132_1c2, r132_1, r132_28, r132_31, r132_32, r132_34, r132_35, r132_37, r132_38, r132_40]
theorem c132_1 (d : Nat) (F : Po) : cwp true d 132 [.int (nI 1)] h F = F (some (.int (nI 12))) h := by simp only [e132, r132_0, r132_1c0, r132_1c1, r132_1c2, r132_1, r132_28, r132_31, r132_32, r132_34, r132_35, r132_37, r132_38, r132_40]
theorem c132_2 (d : Nat) (F : Po) : cwp true d 132 [.int (nI 2)] h F = F (some (.int (nI 100))) h := by simp only [e132, r132_0, r132_1c0, r132_1c1, r132_1c2, r132_1, r132_28, r132_31, r132_32, r132_34, r132_35, r132_37, r132_38, r132_40]
theorem c132_3 (d : Nat) (F : Po) : cwp true d 132 [.int (nI 3)] h F = F (some (.int (nI 99))) h := by simp (disch := decide) only [e132, r132_0, r132_1c0, r132_1c1, r132_1c2, r132_1, r132_28, r132_31, r132_32, r132_34, r132_35, r132_37, r132_38, r132_40]
theorem term_S {K : Nat → Int32} (z : STS h 0 K) {j : Nat} (hj : j ≤ 3) {s : Int32} (hs : rg s (tlo j) (thi j)) : STS (sI (sI h 24 j s) 103 (216 + j) s) 0 (upd K (216 + j) s) := by
  have x : Mu h (sI (sI h 24 j s) 103 (216 + j) s) := ((FrS.refl h).sI _ rfl).sI _ rfl
  obtain ⟨pf, pc, pp, pt, ps, px⟩ := STS_iff.mp z
  have hk : ∀ i, i ≠ 216 + j → upd K (216 + j) s i = K i := fun i hi => gup _ _ _ _ hi
  have hg : ∀ y, y ≠ 103 → y ≠ 24 → gI (sI (sI h 24 j s) 103 (216 + j) s) y = gI h y := fun y h1 h2 => by rw [q_gn h1, q_gn h2]
  refine STS_iff.mpr ⟨PF_cg (fun c i h1 h2 => by rw [hg c (by omega) (by omega)]) (fun i h1 => hk i (by omega)) pf, ?_, PP_cg (by rw [hg 8 (by omega) (by omega)]) (fun c i h1 h2 => by rw [hg c (by omega) (by omega)]) (fun i h1 => hk i (by omega)) pp, PT_cg (by rw [hg 11 (by omega) (by omega)]) (fun c i h1 h2 => by rw [hg c (by omega) (by omega)]) (fun i h1 => hk i (by omega)) pt, PS_cg (by rw [hg 11 (by omega) (by omega)]) (fun c i h1 h2 => by rw [hg c (by omega) (by omega)]) (fun i h1 => hk i (by omega)) (by unfold nt; rw [hk 378 (by omega)]; exact Nat.le_refl _) ps, PX_cg (by rw [hg 2 (by omega) (by omega)]) (fun t => by rw [q_gPI, q_gPI]) (fun a T => tAt_mu x) (fun i h1 => hk i (by omega)) px⟩
  obtain ⟨⟨a1, a2, a3, a4⟩, b⟩ := pc
  refine ⟨?_, ?_⟩
  · rcases (show j = 0 ∨ j = 1 ∨ j = 2 ∨ j = 3 by omega) with rfl | rfl | rfl | rfl
    · exact ⟨by rw [guq]; exact hs, by rw [hk _ (by omega)]; exact a2, by rw [hk _ (by omega)]; exact a3, by rw [hk _ (by omega)]; exact a4⟩
    · exact ⟨by rw [hk _ (by omega)]; exact a1, by rw [guq]; exact hs, by rw [hk _ (by omega)]; exact a3, by rw [hk _ (by omega)]; exact a4⟩
    · exact ⟨by rw [hk _ (by omega)]; exact a1, by rw [hk _ (by omega)]; exact a2, by rw [guq]; exact hs, by rw [hk _ (by omega)]; exact a4⟩
    · exact ⟨by rw [hk _ (by omega)]; exact a1, by rw [hk _ (by omega)]; exact a2, by rw [hk _ (by omega)]; exact a3, by rw [guq]; exact hs⟩
  · intro i hi
    rw [q_gn (by omega), q_gi]
    by_cases e : i = j
    · subst e
      rw [if_pos ⟨rfl, rfl⟩, Nat.one_mul, guq]
    · rw [if_neg (fun q => e q.2), hk _ (by omega)]; exact b i hi
theorem p_terms (z : Inv n h) (a b : Int32) : PRI n h 90 166 [.int a, .int b] := by
  intro d
  have w := z.1.1
  have q := z.1.2.1
  have hr1 := q_rfK (h := h) (-1) 0
  by_cases hA : nI 0 ≤ a ∧ a ≤ nI 3
  · obtain ⟨j, hj, rfl⟩ := q_ix2 (by omega) hA.1 hA.2
    by_cases hB : nI (tlo j) ≤ b ∧ b ≤ nI (thi j)
    · have hl : tlo j < 1000 ∧ thi j < 1000 := by
        rcases (show j = 0 ∨ j = 1 ∨ j = 2 ∨ j = 3 by omega) with rfl | rfl | rfl | rfl <;> decide
      have hS := term_S z.1 hj (rg_of hB (nI_toInt (by omega)) (nI_toInt (by omega)))
      have hK : gI (grt (sI h 24 j b)) 103 = gI h 103 := by rw [grt_K, q_gn (by omega)]
      refine ⟨gI h 103 (216 + j), grt (sI h 24 j b), sI (sI (grt (sI h 24 j b)) 103 (216 + j) b) 101 0 (nI 0), fun F => ?_, fun F => ?_, ?_⟩
      · have ht := q.t (show j < 4 by omega)
        rcases (show j = 0 ∨ j = 1 ∨ j = 2 ∨ j = 3 by omega) with rfl | rfl | rfl | rfl <;> simp only [tlo, thi] at hB <;>
        simp (disch := omega) only [e90, r90_0, r90_1, r90_2, r90_3, r90_6, r90_9, r90_10, r90_11, r90_14, r90_15, r90_18, r90_21, r90_24, r90_25, r90_26, r90_29, r90_30, r90_31, r90_34, r90_37, r90_38, r90_39, r90_40, r90_41, r90_44, r90_47, r90_48, r90_49, r90_50, r90_51, r90_52, r90_55, c125, c131, c132_0, c132_1, c132_2, c132_3, c135, hA, hB, kdC, kdM, rpC, rpM, q_rs, q_rn, Option.toList_some, Option.toList_none, List.cons_append, List.nil_append, true_and, and_true, eq_self, ↓reduceIte, not_true_eq_false, not_false_eq_true, Nat.reduceEqDiff, Nat.reduceLeDiff, Nat.reduceLT, Nat.reduceAdd, Nat.reduceMul, Nat.reduceSub, false_or, or_false, true_or, or_true, false_and, and_false, reduceCtorEq, q_n0, q_n1, q_em, q_em2, q_b0, q_b1, Classical.not_not, nI_add, pk_mul, nI_clamp, q_vp, nI_eq, nI_leI, nI_ltI, q_sub, q_bT, q_bF, ht, Nat.add_zero]
      · rcases (show j = 0 ∨ j = 1 ∨ j = 2 ∨ j = 3 by omega) with rfl | rfl | rfl | rfl <;> simp only [tlo, thi] at hB <;>
        simp (disch := omega) only [e166, r166_0, r166_1, r166_2, r166_3, r166_6, r166_9, r166_10, r166_11, r166_12, r166_15, r166_16, r166_19, r166_20, r166_21, r166_24, r166_27, r166_30, r166_31, r166_32, r166_35, r166_37, r166_40, r166_41, r166_42, r166_45, r166_47, r166_50, r166_52, r166_55, r166_58, r166_59, r166_60, r166_63, r166_64, r166_65, r166_66, r166_69, r166_70, r166_71, r166_74, r166_77, r166_78, r166_79, r166_80, r166_81, r166_82, r166_83, r166_86, c143, c149 _ _ _ hK (show 0 < 4 by omega), c149 _ _ _ hK (show 1 < 4 by omega), c149 _ _ _ hK (show 2 < 4 by omega), c149 _ _ _ hK (show 3 < 4 by omega), c145, hA, hB, kdC, kdM, rpC, rpM, q_rs, q_rn, Option.toList_some, Option.toList_none, List.cons_append, List.nil_append, true_and, and_true, eq_self, ↓reduceIte, not_true_eq_false, not_false_eq_true, Nat.reduceEqDiff, Nat.reduceLeDiff, Nat.reduceLT, Nat.reduceAdd, Nat.reduceMul, Nat.reduceSub, false_or, or_false, true_or, or_true, false_and, and_false, reduceCtorEq, q_n0, q_n1, q_em, q_em2, q_b0, q_b1, Classical.not_not, nI_add, pk_mul, nI_clamp, q_vp, nI_eq, nI_leI, nI_ltI, q_sub, q_bT, q_bF, Nat.add_zero]
      · rw [q_grc (by omega)]
        refine Inv_gr2 z (((FrS.refl h).sI _ rfl).sI _ rfl) ?_ (fun b hb => by rw [q_gn (by omega), q_gn (by omega)])
        rw [q_gsu, q_gn (by omega)]
        exact hS
    · refine ⟨-1, rfc h (-1) 0, rfm (rfc h (-1) 0) (-1) 1, fun F => ?_, fun F => ?_, Inv_rf z (by omega)⟩
      · rcases (show j = 0 ∨ j = 1 ∨ j = 2 ∨ j = 3 by omega) with rfl | rfl | rfl | rfl <;> simp only [tlo, thi] at hB <;>
        simp (disch := omega) only [e90, r90_0, r90_1, r90_2, r90_3, r90_6, r90_9, r90_10, r90_11, r90_14, r90_15, r90_18, r90_21, r90_24, r90_25, r90_26, r90_29, r90_30, r90_31, r90_34, r90_37, r90_38, r90_39, r90_40, r90_41, r90_44, r90_47, r90_48, r90_49, r90_50, r90_51, r90_52, r90_55, c125, c131, c132_0, c132_1, c132_2, c132_3, c133_1, hA, hB, kdC, kdM, rpC, rpM, q_rs, q_rn, Option.toList_some, Option.toList_none, List.cons_append, List.nil_append, true_and, and_true, eq_self, ↓reduceIte, not_true_eq_false, not_false_eq_true, Nat.reduceEqDiff, Nat.reduceLeDiff, Nat.reduceLT, Nat.reduceAdd, Nat.reduceMul, Nat.reduceSub, false_or, or_false, true_or, or_true, false_and, and_false, reduceCtorEq, q_n0, q_n1, q_em, q_em2, q_b0, q_b1, Classical.not_not, nI_add, pk_mul, nI_clamp, q_vp, nI_eq, nI_leI, nI_ltI, q_sub, q_bT, q_bF]
      · rcases (show j = 0 ∨ j = 1 ∨ j = 2 ∨ j = 3 by omega) with rfl | rfl | rfl | rfl <;> simp only [tlo, thi] at hB <;>
        simp (disch := omega) only [e166, r166_0, r166_1, r166_2, r166_3, r166_6, r166_9, r166_10, r166_11, r166_12, r166_15, r166_16, r166_19, r166_20, r166_21, r166_24, r166_27, r166_30, r166_31, r166_32, r166_35, r166_37, r166_40, r166_41, r166_42, r166_45, r166_47, r166_50, r166_52, r166_55, r166_58, r166_59, r166_60, r166_63, r166_64, r166_65, r166_66, r166_69, r166_70, r166_71, r166_74, r166_77, r166_78, r166_79, r166_80, r166_81, r166_82, r166_83, r166_86, c143, m144_1, hA, hB, kdC, kdM, rpC, rpM, q_rs, q_rn, Option.toList_some, Option.toList_none, List.cons_append, List.nil_append, true_and, and_true, eq_self, ↓reduceIte, not_true_eq_false, not_false_eq_true, Nat.reduceEqDiff, Nat.reduceLeDiff, Nat.reduceLT, Nat.reduceAdd, Nat.reduceMul, Nat.reduceSub, false_or, or_false, true_or, or_true, false_and, and_false, reduceCtorEq, q_n0, q_n1, q_em, q_em2, q_b0, q_b1, Classical.not_not, nI_add, pk_mul, nI_clamp, q_vp, nI_eq, nI_leI, nI_ltI, q_sub, q_bT, q_bF]
  · refine ⟨-1, rfc h (-1) 0, rfm (rfc h (-1) 0) (-1) 1, fun F => ?_, fun F => ?_, Inv_rf z (by omega)⟩
    · simp (disch := omega) only [e90, r90_0, r90_1, r90_2, r90_3, r90_6, r90_9, r90_10, r90_11, r90_14, r90_15, r90_18, r90_21, r90_24, r90_25, r90_26, r90_29, r90_30, r90_31, r90_34, r90_37, r90_38, r90_39, r90_40, r90_41, r90_44, r90_47, r90_48, r90_49, r90_50, r90_51, r90_52, r90_55, c125, c133_1, hA, kdC, kdM, rpC, rpM, q_rs, q_rn, Option.toList_some, Option.toList_none, List.cons_append, List.nil_append, true_and, and_true, eq_self, ↓reduceIte, not_true_eq_false, not_false_eq_true, Nat.reduceEqDiff, Nat.reduceLeDiff, Nat.reduceLT, Nat.reduceAdd, Nat.reduceMul, Nat.reduceSub, false_or, or_false, true_or, or_true, false_and, and_false, reduceCtorEq, q_n0, q_n1, q_em, q_em2, q_b0, q_b1, Classical.not_not, nI_add, pk_mul, nI_clamp, q_vp, nI_eq, nI_leI, nI_ltI, q_sub]
    · simp (disch := omega) only [e166, r166_0, r166_1, r166_2, r166_3, r166_6, r166_9, r166_10, r166_11, r166_12, r166_15, r166_16, r166_19, r166_20, r166_21, r166_24, r166_27, r166_30, r166_31, r166_32, r166_35, r166_37, r166_40, r166_41, r166_42, r166_45, r166_47, r166_50, r166_52, r166_55, r166_58, r166_59, r166_60, r166_63, r166_64, r166_65, r166_66, r166_69, r166_70, r166_71, r166_74, r166_77, r166_78, r166_79, r166_80, r166_81, r166_82, r166_83, r166_86, c143, m144_1, hA, kdC, kdM, rpC, rpM, q_rs, q_rn, Option.toList_some, Option.toList_none, List.cons_append, List.nil_append, true_and, and_true, eq_self, ↓reduceIte, not_true_eq_false, not_false_eq_true, Nat.reduceEqDiff, Nat.reduceLeDiff, Nat.reduceLT, Nat.reduceAdd, Nat.reduceMul, Nat.reduceSub, false_or, or_false, true_or, or_true, false_and, and_false, reduceCtorEq, q_n0, q_n1, q_em, q_em2, q_b0, q_b1, Classical.not_not, nI_add, pk_mul, nI_clamp, q_vp, nI_eq, nI_leI, nI_ltI, q_sub]
/-- calls that change the tape alone -/
theorem Inv_tp {h' : Hp} (z : Inv n h) (x : Mu h h') (hg : ∀ b, b ≠ 76 → b ≠ 77 → b ≠ 107 → b ≠ 108 → b ≠ 101 → gI h' b = gI h b) (h0 : gI h' 101 0 = gI h 101 0) (h9 : gI h' 101 9 = gI h 101 9) (hp : gP h' = gP h) (hT : TPS h') : Inv (n + 1) h' := by
  have hK := hg 103 (by omega) (by omega) (by omega) (by omega) (by omega)
  refine Inv_mu x z (STS_mu0 x hK (fun c i h1 h2 _ => by rw [hg c (by omega) (by omega) (by omega) (by omega) (by omega)]) (fun t => by rw [hp]) z.1) hT ?_ ?_ (CAS_mu0 x hK (by rw [hg 88 (by omega) (by omega) (by omega) (by omega) (by omega)]) (by rw [hp]) (by rw [hp]) z.2.2.2.2.2.2.2.2)
  · unfold RFS
    rw [hg 100 (by omega) (by omega) (by omega) (by omega) (by omega), hg 102 (by omega) (by omega) (by omega) (by omega) (by omega)]
    exact z.2.2.2.1
  · rw [hg 1 (by omega) (by omega) (by omega) (by omega) (by omega), h0, h9]
    exact z.2.2.2.2.1
/-- how many bytes there are -/
theorem TPS.len (t : TPS h) : ∃ m, m ≤ 400 ∧ gI h 76 1 = nI m ∧ gI h 101 8 = nI m := by
  have h1 := rg_nI t.2.2 (by omega)
  have h2 := rg_n t.2.2 (by omega)
  exact ⟨_, by omega, h1, by rw [← t.2.1]; exact h1⟩
theorem p_end (z : Inv n h) (a : Int32) : PRI n h 92 169 [.int a] := by
  intro d
  have t := z.2.2.1
  obtain ⟨m, hm, e1, e2⟩ := t.len
  by_cases hA : nI 0 ≤ a ∧ a ≤ nI m
  · obtain ⟨j, hj, rfl⟩ := q_ix2 (by omega) hA.1 hA.2
    refine ⟨nI j, sI h 76 1 (nI j), sI (sI h 76 1 (nI j)) 101 8 (nI j), fun F => ?_, fun F => ?_, ?_⟩
    · simp (disch := omega) only [e92, r92_0, r92_1, r92_2, r92_3, r92_6, r92_9, r92_12, r92_15, r92_16, r92_17, r92_18, r92_21, r92_22, r92_25, r92_26, c125, hA, kdC, kdM, rpC, rpM, q_rs, q_rn, Option.toList_some, Option.toList_none, List.cons_append, List.nil_append, true_and, and_true, eq_self, ↓reduceIte, not_true_eq_false, not_false_eq_true, Nat.reduceEqDiff, Nat.reduceLeDiff, Nat.reduceLT, Nat.reduceAdd, Nat.reduceMul, Nat.reduceSub, false_or, or_false, true_or, or_true, false_and, and_false, reduceCtorEq, q_n0, q_n1, q_em, q_em2, q_b0, q_b1, Classical.not_not, nI_add, pk_mul, nI_clamp, q_vp, nI_eq, nI_leI, nI_ltI, q_sub, e1]
    · have e3 : gI (sI h 76 1 (nI j)) 101 8 = nI m := by rw [q_gn (by omega), e2]
      simp (disch := omega) only [e169, r169_0, r169_1, r169_2, r169_3, r169_6, r169_9, r169_12, r169_13, r169_14, r169_15, r169_16, r169_19, r169_20, c143, hA, kdC, kdM, rpC, rpM, q_rs, q_rn, Option.toList_some, Option.toList_none, List.cons_append, List.nil_append, true_and, and_true, eq_self, ↓reduceIte, not_true_eq_false, not_false_eq_true, Nat.reduceEqDiff, Nat.reduceLeDiff, Nat.reduceLT, Nat.reduceAdd, Nat.reduceMul, Nat.reduceSub, false_or, or_false, true_or, or_true, false_and, and_false, reduceCtorEq, q_n0, q_n1, q_em, q_em2, q_b0, q_b1, Classical.not_not, nI_add, pk_mul, nI_clamp, q_vp, nI_eq, nI_leI, nI_ltI, q_sub, e3]
    · refine Inv_tp z (((FrS.refl h).sI _ rfl).sI _ rfl) (fun b h1 h2 h3 h4 h5 => by rw [q_gn h5, q_gn h1]) ?_ ?_ ?_ ⟨fun i hi => ?_, ?_, ?_⟩
      · rw [q_gm (by omega), q_gn (by omega)]
      · rw [q_gm (by omega), q_gn (by omega)]
      · rw [q_gPI, q_gPI]
      · rw [q_gn (by omega), q_gn (by omega), q_gn (by omega), q_gn (by omega)]; exact t.1 i hi
      · rw [q_gs, q_gn (by omega), q_gs]
      · rw [q_gn (by omega), q_gs]
        unfold rg
        rw [nI_toInt (by omega)]
        omega
  · refine ⟨-1, h, h, fun F => ?_, fun F => ?_, Inv_fr (Fr.refl h) z⟩
    · simp (disch := omega) only [e92, r92_0, r92_1, r92_2, r92_3, r92_6, r92_9, r92_12, r92_15, r92_16, r92_17, r92_18, r92_21, r92_22, r92_25, r92_26, c125, hA, kdC, kdM, rpC, rpM, q_rs, q_rn, Option.toList_some, Option.toList_none, List.cons_append, List.nil_append, true_and, and_true, eq_self, ↓reduceIte, not_true_eq_false, not_false_eq_true, Nat.reduceEqDiff, Nat.reduceLeDiff, Nat.reduceLT, Nat.reduceAdd, Nat.reduceMul, Nat.reduceSub, false_or, or_false, true_or, or_true, false_and, and_false, reduceCtorEq, q_n0, q_n1, q_em, q_em2, q_b0, q_b1, Classical.not_not, nI_add, pk_mul, nI_clamp, q_vp, nI_eq, nI_leI, nI_ltI, q_sub, e1]
    · simp (disch := omega) only [e169, r169_0, r169_1, r169_2, r169_3, r169_6, r169_9, r169_12, r169_13, r169_14, r169_15, r169_16, r169_19, r169_20, c143, hA, kdC, kdM, rpC, rpM, q_rs, q_rn, Option.toList_some, Option.toList_none, List.cons_append, List.nil_append, true_and, and_true, eq_self, ↓reduceIte, not_true_eq_false, not_false_eq_true, Nat.reduceEqDiff, Nat.reduceLeDiff, Nat.reduceLT, Nat.reduceAdd, Nat.reduceMul, Nat.reduceSub, false_or, or_false, true_or, or_true, false_and, and_false, reduceCtorEq, q_n0, q_n1, q_em, q_em2, q_b0, q_b1, Classical.not_not, nI_add, pk_mul, nI_clamp, q_vp, nI_eq, nI_leI, nI_ltI, q_sub, e2]
end TE
