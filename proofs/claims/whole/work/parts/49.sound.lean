/-! the class runs the steps of a text -/
theorem vop_n (x : Int32) : x &&& nI 15 = nI (vop x) ∧ vop x < 16 := by
  obtain ⟨j, hj, e⟩ := pk_andE x (m := nI 15) 4 (by decide)
  have h1 : vop x = j := by unfold vop; rw [e, nI_clamp (by omega)]
  rw [h1]
  exact ⟨e, hj⟩
theorem vwi_n {x : Int32} (hx : ¬ x < nI 0) : ∃ j, j < 2147483648 ∧ vwi x = nI j := by
  have h1 := pk_shr x (nI 4 &&& 31) 4 (n_sl 4 (by omega))
  have h2 : ¬ vwi x < 0 := by
    rw [Int32.lt_iff_toInt_lt, show (0 : Int32).toInt = 0 by decide]
    rw [Int32.lt_iff_toInt_lt, q_z0] at hx
    unfold vwi
    rw [h1, Int.shiftRight_eq_div_pow]
    have := Int.ediv_nonneg (a := x.toInt) (b := (2 ^ 4 : Nat)) (by omega) (by omega)
    omega
  obtain ⟨j, hj, e⟩ := nI_of h2
  exact ⟨j, hj, e⟩
section SO
variable (h : Hp) {st : Nat → Int32} {n sr : Nat}
/-- what a text's steps stand in -/
def stH (h : Hp) (sr n : Nat) (st : Nat → Int32) : Prop := 121 ≤ sr ∧ hk h sr = (20, n) ∧ gI h sr = st ∧ n ≤ 400 ∧ ∀ i, i < n → ¬ st i < nI 0
theorem sB_d (b : Bool) (p : Prop) [Decidable p] : (b = decide p) = (sB b = if p then nI 1 else nI 0) := by
  apply propext
  by_cases q : p
  · rw [if_pos q, decide_eq_true q, sB1]
  · rw [if_neg q, decide_eq_false q, sB0]
theorem cl3 (hh : stH h sr n st) {fr en : Nat} (hen : en ≤ n) : ∀ k at' (f : Nat → Int32) (z : VS), at' + k = en → stk f z.1 → z.1.length ≤ 64 → z.2.2 < 2147483648 →
    (vrun (gI h 81) st k at' z = none → ∃ f' t' s', ∀ d F (v6 v7 : Value), wp true (d + 1) 3 11 [.ref 80, .ref sr, .int (nI fr), .int (nI en), .int (nI z.2.2), .int (nI at'), v6, v7] [] (ask h f z.1.length z.2.1) F = F (some (.int (nI 0))) (ask h f' t' s')) ∧
    (∀ z', vrun (gI h 81) st k at' z = some z' → z'.1.length ≤ 64 ∧ ∃ f', stk f' z'.1 ∧ ∀ d F (v6 v7 : Value), wp true (d + 1) 3 11 [.ref 80, .ref sr, .int (nI fr), .int (nI en), .int (nI z.2.2), .int (nI at'), v6, v7] [] (ask h f z.1.length z.2.1) F = F (some (.int (nI 1))) (ask h f' z'.1.length z'.2.1))
  | 0, at', f, z, e, hs, hl, hz' => by
    refine ⟨fun q => (by cases q), fun z' q => ?_⟩
    cases q
    refine ⟨hl, f, hs, fun d F v6 v7 => ?_⟩
    have := hh.2.2.2.1
    rw [r3_11]
    simp (disch := omega) only [e3, r3_0, r3_1, r3_2, r3_5, r3_6, r3_8, r3_9, r3_13, r3_14, r3_17, r3_19, r3_19n, r3_20, r3_21, r3_24, r3_26, r3_28, r3_31, r3_34, r3_34n, r3_35, r3_37, r3_38, r3_40, r3_41, r3_43, r3_43n, r3_44, r3_46, r3_47, r3_48, r3_49, r3_51, r3_53, r3_54, r3_57, r3_58, r3_61, r3_63, r3_66, r3_68, r3_69, r3_72, r3_74, r3_76, r3_79, r3_80, r3_81, r3_82, r3_85, r3_86, r3_89, r3_91, r3_92, r3_95, r3_96, r3_99, r3_101, r3_102, r3_105, r3_107, r3_108, r3_109, r3_110, r3_113, r3_114, r3_115, r3_118, r3_121, r3_123, r3_125, r3_128, r3_129, r3_131, r3_134, r3_137, r3_138, r3_139, r3_141, r3_143, r3_146, r3_147, r3_148, r3_151, r3_154, r3_155, r3_158, r3_159, r3_162, r3_165, r3_166, r3_169, r3_171, r3_173, r3_176, r3_177, r3_180, r3_181, r3_184, r3_186, r3_188, r3_191, r3_194, r3_195, kdC, kdM, rpC, rpM, q_rs, q_rn, Option.toList_some, Option.toList_none, List.cons_append, List.nil_append, true_and, and_true, eq_self, ↓reduceIte, not_true_eq_false, not_false_eq_true, Nat.reduceEqDiff, Nat.reduceLeDiff, Nat.reduceLT, Nat.reduceAdd, Nat.reduceMul, Nat.reduceSub, false_or, or_false, true_or, or_true, false_and, and_false, reduceCtorEq, q_n0, q_n1, q_em, q_em2, q_b0, q_b1, Classical.not_not, nI_add, pk_mul, nI_clamp, q_vp, nI_eq, nI_leI, nI_ltI, q_sub, show at' = en from e, Nat.le_refl]
  | k + 1, at', f, z, e, hs, hl, hz' => by
    obtain ⟨g1, g2, g3, g4, g5⟩ := hh
    have hkd : ∀ f t s, kdm true (ask h f t s) sr = (20, n) := fun f t s => by rw [kd_big g1, ask_k, g2]
    have hgi : ∀ f t s, gI (ask h f t s) sr = st := fun f t s => by rw [ask_n _ _ _ _ (by omega) (by omega), g3]
    have hat : at' < n := by omega
    unfold vrun
    by_cases hsk : at' < z.2.2
    · rw [if_pos hsk]
      obtain ⟨i1, i2⟩ := cl3 ⟨g1, g2, g3, g4, g5⟩ (fr := fr) hen k (at' + 1) f z (by omega) hs hl hz'
      have hstep : ∀ d F (v6 v7 : Value), wp true (d + 1) 3 11 [.ref 80, .ref sr, .int (nI fr), .int (nI en), .int (nI z.2.2), .int (nI at'), v6, v7] [] (ask h f z.1.length z.2.1) F = wp true (d + 1) 3 11 [.ref 80, .ref sr, .int (nI fr), .int (nI en), .int (nI z.2.2), .int (nI (at' + 1)), v6, v7] [] (ask h f z.1.length z.2.1) F := by
        intro d F v6 v7
        rw [r3_11]
        simp (disch := omega) only [e3, r3_0, r3_1, r3_2, r3_5, r3_6, r3_8, r3_9, r3_13, r3_14, r3_17, r3_19, r3_19n, r3_20, r3_21, r3_24, r3_26, r3_28, r3_31, r3_34, r3_34n, r3_35, r3_37, r3_38, r3_40, r3_41, r3_43, r3_43n, r3_44, r3_46, r3_47, r3_48, r3_49, r3_51, r3_53, r3_54, r3_57, r3_58, r3_61, r3_63, r3_66, r3_68, r3_69, r3_72, r3_74, r3_76, r3_79, r3_80, r3_81, r3_82, r3_85, r3_86, r3_89, r3_91, r3_92, r3_95, r3_96, r3_99, r3_101, r3_102, r3_105, r3_107, r3_108, r3_109, r3_110, r3_113, r3_114, r3_115, r3_118, r3_121, r3_123, r3_125, r3_128, r3_129, r3_131, r3_134, r3_137, r3_138, r3_139, r3_141, r3_143, r3_146, r3_147, r3_148, r3_151, r3_154, r3_155, r3_158, r3_159, r3_162, r3_165, r3_166, r3_169, r3_171, r3_173, r3_176, r3_177, r3_180, r3_181, r3_184, r3_186, r3_188, r3_191, r3_194, r3_195, kdC, kdM, rpC, rpM, q_rs, q_rn, Option.toList_some, Option.toList_none, List.cons_append, List.nil_append, true_and, and_true, eq_self, ↓reduceIte, not_true_eq_false, not_false_eq_true, Nat.reduceEqDiff, Nat.reduceLeDiff, Nat.reduceLT, Nat.reduceAdd, Nat.reduceMul, Nat.reduceSub, false_or, or_false, true_or, or_true, false_and, and_false, reduceCtorEq, q_n0, q_n1, q_em, q_em2, q_b0, q_b1, Classical.not_not, nI_add, pk_mul, nI_clamp, q_vp, nI_eq, nI_leI, nI_ltI, q_sub, hkd, show ¬ en ≤ at' by omega, show ¬ n ≤ at' by omega, show ¬ z.2.2 ≤ at' by omega]
      refine ⟨fun q => ?_, fun z' q => ?_⟩
      · obtain ⟨f', t', s', i3⟩ := i1 q
        exact ⟨f', t', s', fun d F v6 v7 => by rw [hstep]; exact i3 d F v6 v7⟩
      · obtain ⟨i3, f', i4, i5⟩ := i2 z' q
        exact ⟨i3, f', i4, fun d F v6 v7 => by rw [hstep]; exact i5 d F v6 v7⟩
    · rw [if_neg hsk]
      obtain ⟨o1, o2⟩ := vop_n (st at')
      obtain ⟨wi, hwi, ew⟩ := vwi_n (g5 at' hat)
      have ew' : st at' >>> (nI 4 &&& 31) = nI wi := ew
      -- the step itself
      have key : (vone (gI h 81) (st at') z = none → ∃ f' t' s', ∀ d F (v6 v7 : Value), wp true (d + 1) 3 11 [.ref 80, .ref sr, .int (nI fr), .int (nI en), .int (nI z.2.2), .int (nI at'), v6, v7] [] (ask h f z.1.length z.2.1) F = F (some (.int (nI 0))) (ask h f' t' s')) ∧
          (∀ y, vone (gI h 81) (st at') z = some y → y.1.length ≤ 64 ∧ y.2.2 < 2147483648 ∧ ∃ f', stk f' y.1 ∧ ∀ d F (v6 v7 : Value), wp true (d + 1) 3 11 [.ref 80, .ref sr, .int (nI fr), .int (nI en), .int (nI z.2.2), .int (nI at'), v6, v7] [] (ask h f z.1.length z.2.1) F = wp true (d + 1) 3 11 [.ref 80, .ref sr, .int (nI fr), .int (nI en), .int (nI y.2.2), .int (nI (at' + 1)), .int (nI (vop (st at'))), .int (nI wi)] [] (ask h f' y.1.length y.2.1) F) := by
        unfold vone
        rw [ew]
        by_cases c0 : vop (st at') = 0
        · rw [if_pos c0]
          by_cases c1 : 64 ≤ z.1.length
          · rw [if_pos c1]
            refine ⟨fun _ => ⟨f, z.1.length, z.2.1, fun d F v6 v7 => ?_⟩, fun y q => by cases q⟩
            rw [r3_11]
            simp (disch := omega) only [e3, r3_0, r3_1, r3_2, r3_5, r3_6, r3_8, r3_9, r3_13, r3_14, r3_17, r3_19, r3_19n, r3_20, r3_21, r3_24, r3_26, r3_28, r3_31, r3_34, r3_34n, r3_35, r3_37, r3_38, r3_40, r3_41, r3_43, r3_43n, r3_44, r3_46, r3_47, r3_48, r3_49, r3_51, r3_53, r3_54, r3_57, r3_58, r3_61, r3_63, r3_66, r3_68, r3_69, r3_72, r3_74, r3_76, r3_79, r3_80, r3_81, r3_82, r3_85, r3_86, r3_89, r3_91, r3_92, r3_95, r3_96, r3_99, r3_101, r3_102, r3_105, r3_107, r3_108, r3_109, r3_110, r3_113, r3_114, r3_115, r3_118, r3_121, r3_123, r3_125, r3_128, r3_129, r3_131, r3_134, r3_137, r3_138, r3_139, r3_141, r3_143, r3_146, r3_147, r3_148, r3_151, r3_154, r3_155, r3_158, r3_159, r3_162, r3_165, r3_166, r3_169, r3_171, r3_173, r3_176, r3_177, r3_180, r3_181, r3_184, r3_186, r3_188, r3_191, r3_194, r3_195, kdC, kdM, rpC, rpM, q_rs, q_rn, Option.toList_some, Option.toList_none, List.cons_append, List.nil_append, true_and, and_true, eq_self, ↓reduceIte, not_true_eq_false, not_false_eq_true, Nat.reduceEqDiff, Nat.reduceLeDiff, Nat.reduceLT, Nat.reduceAdd, Nat.reduceMul, Nat.reduceSub, false_or, or_false, true_or, or_true, false_and, and_false, reduceCtorEq, q_n0, q_n1, q_em, q_em2, q_b0, q_b1, Classical.not_not, nI_add, pk_mul, nI_clamp, q_vp, nI_eq, nI_leI, nI_ltI, q_sub, hkd, hgi, o1, ew', c0, c1, ask_g3, show ¬ en ≤ at' by omega, show ¬ n ≤ at' by omega, show z.2.2 ≤ at' by omega, hat]
          · rw [if_neg c1]
            refine ⟨fun q => (by cases q), fun y q => ?_⟩
            cases q
            refine ⟨by simp only [List.length_cons]; omega, hz', upd f z.1.length (nI wi), ⟨pk_us, stk_u hs (Nat.le_refl _)⟩, fun d F v6 v7 => ?_⟩
            rw [r3_11]
            simp (disch := omega) only [e3, r3_0, r3_1, r3_2, r3_5, r3_6, r3_8, r3_9, r3_13, r3_14, r3_17, r3_19, r3_19n, r3_20, r3_21, r3_24, r3_26, r3_28, r3_31, r3_34, r3_34n, r3_35, r3_37, r3_38, r3_40, r3_41, r3_43, r3_43n, r3_44, r3_46, r3_47, r3_48, r3_49, r3_51, r3_53, r3_54, r3_57, r3_58, r3_61, r3_63, r3_66, r3_68, r3_69, r3_72, r3_74, r3_76, r3_79, r3_80, r3_81, r3_82, r3_85, r3_86, r3_89, r3_91, r3_92, r3_95, r3_96, r3_99, r3_101, r3_102, r3_105, r3_107, r3_108, r3_109, r3_110, r3_113, r3_114, r3_115, r3_118, r3_121, r3_123, r3_125, r3_128, r3_129, r3_131, r3_134, r3_137, r3_138, r3_139, r3_141, r3_143, r3_146, r3_147, r3_148, r3_151, r3_154, r3_155, r3_158, r3_159, r3_162, r3_165, r3_166, r3_169, r3_171, r3_173, r3_176, r3_177, r3_180, r3_181, r3_184, r3_186, r3_188, r3_191, r3_194, r3_195, kdC, kdM, rpC, rpM, q_rs, q_rn, Option.toList_some, Option.toList_none, List.cons_append, List.nil_append, true_and, and_true, eq_self, ↓reduceIte, not_true_eq_false, not_false_eq_true, Nat.reduceEqDiff, Nat.reduceLeDiff, Nat.reduceLT, Nat.reduceAdd, Nat.reduceMul, Nat.reduceSub, false_or, or_false, true_or, or_true, false_and, and_false, reduceCtorEq, q_n0, q_n1, q_em, q_em2, q_b0, q_b1, Classical.not_not, nI_add, pk_mul, nI_clamp, q_vp, nI_eq, nI_leI, nI_ltI, q_sub, hkd, hgi, o1, ew', c0, c1, ask_g3, ask_s, ask_3, show ¬ en ≤ at' by omega, show ¬ n ≤ at' by omega, show z.2.2 ≤ at' by omega, hat, show z.1.length < 64 by omega, List.length_cons]
        · rw [if_neg c0]
          by_cases c2 : vop (st at') = 1
          · rw [if_pos c2]
            by_cases c1 : 64 ≤ z.1.length
            · rw [if_pos (Or.inl c1)]
              refine ⟨fun _ => ⟨f, z.1.length, z.2.1, fun d F v6 v7 => ?_⟩, fun y q => by cases q⟩
              rw [r3_11]
              simp (disch := omega) only [e3, r3_0, r3_1, r3_2, r3_5, r3_6, r3_8, r3_9, r3_13, r3_14, r3_17, r3_19, r3_19n, r3_20, r3_21, r3_24, r3_26, r3_28, r3_31, r3_34, r3_34n, r3_35, r3_37, r3_38, r3_40, r3_41, r3_43, r3_43n, r3_44, r3_46, r3_47, r3_48, r3_49, r3_51, r3_53, r3_54, r3_57, r3_58, r3_61, r3_63, r3_66, r3_68, r3_69, r3_72, r3_74, r3_76, r3_79, r3_80, r3_81, r3_82, r3_85, r3_86, r3_89, r3_91, r3_92, r3_95, r3_96, r3_99, r3_101, r3_102, r3_105, r3_107, r3_108, r3_109, r3_110, r3_113, r3_114, r3_115, r3_118, r3_121, r3_123, r3_125, r3_128, r3_129, r3_131, r3_134, r3_137, r3_138, r3_139, r3_141, r3_143, r3_146, r3_147, r3_148, r3_151, r3_154, r3_155, r3_158, r3_159, r3_162, r3_165, r3_166, r3_169, r3_171, r3_173, r3_176, r3_177, r3_180, r3_181, r3_184, r3_186, r3_188, r3_191, r3_194, r3_195, kdC, kdM, rpC, rpM, q_rs, q_rn, Option.toList_some, Option.toList_none, List.cons_append, List.nil_append, true_and, and_true, eq_self, ↓reduceIte, not_true_eq_false, not_false_eq_true, Nat.reduceEqDiff, Nat.reduceLeDiff, Nat.reduceLT, Nat.reduceAdd, Nat.reduceMul, Nat.reduceSub, false_or, or_false, true_or, or_true, false_and, and_false, reduceCtorEq, q_n0, q_n1, q_em, q_em2, q_b0, q_b1, Classical.not_not, nI_add, pk_mul, nI_clamp, q_vp, nI_eq, nI_leI, nI_ltI, q_sub, hkd, hgi, o1, ew', c2, c1, ask_g3, show ¬ en ≤ at' by omega, show ¬ n ≤ at' by omega, show z.2.2 ≤ at' by omega, hat]
            · by_cases c3 : 12 ≤ wi
              · rw [if_pos (Or.inr ((nI_leI (by omega) (by omega)).mpr c3))]
                refine ⟨fun _ => ⟨f, z.1.length, z.2.1, fun d F v6 v7 => ?_⟩, fun y q => by cases q⟩
                rw [r3_11]
                simp (disch := omega) only [e3, r3_0, r3_1, r3_2, r3_5, r3_6, r3_8, r3_9, r3_13, r3_14, r3_17, r3_19, r3_19n, r3_20, r3_21, r3_24, r3_26, r3_28, r3_31, r3_34, r3_34n, r3_35, r3_37, r3_38, r3_40, r3_41, r3_43, r3_43n, r3_44, r3_46, r3_47, r3_48, r3_49, r3_51, r3_53, r3_54, r3_57, r3_58, r3_61, r3_63, r3_66, r3_68, r3_69, r3_72, r3_74, r3_76, r3_79, r3_80, r3_81, r3_82, r3_85, r3_86, r3_89, r3_91, r3_92, r3_95, r3_96, r3_99, r3_101, r3_102, r3_105, r3_107, r3_108, r3_109, r3_110, r3_113, r3_114, r3_115, r3_118, r3_121, r3_123, r3_125, r3_128, r3_129, r3_131, r3_134, r3_137, r3_138, r3_139, r3_141, r3_143, r3_146, r3_147, r3_148, r3_151, r3_154, r3_155, r3_158, r3_159, r3_162, r3_165, r3_166, r3_169, r3_171, r3_173, r3_176, r3_177, r3_180, r3_181, r3_184, r3_186, r3_188, r3_191, r3_194, r3_195, kdC, kdM, rpC, rpM, q_rs, q_rn, Option.toList_some, Option.toList_none, List.cons_append, List.nil_append, true_and, and_true, eq_self, ↓reduceIte, not_true_eq_false, not_false_eq_true, Nat.reduceEqDiff, Nat.reduceLeDiff, Nat.reduceLT, Nat.reduceAdd, Nat.reduceMul, Nat.reduceSub, false_or, or_false, true_or, or_true, false_and, and_false, reduceCtorEq, q_n0, q_n1, q_em, q_em2, q_b0, q_b1, Classical.not_not, nI_add, pk_mul, nI_clamp, q_vp, nI_eq, nI_leI, nI_ltI, q_sub, hkd, hgi, o1, ew', c2, c1, ask_g3, show ¬ en ≤ at' by omega, show ¬ n ≤ at' by omega, show z.2.2 ≤ at' by omega, hat, show ¬ wi < 12 by omega]
              · rw [if_neg (by rw [nI_leI (by omega) (by omega)]; omega), nI_clamp (by omega)]
                refine ⟨fun q => (by cases q), fun y q => ?_⟩
                cases q
                refine ⟨by simp only [List.length_cons]; omega, hz', upd f z.1.length (gI h 81 wi), ⟨pk_us, stk_u hs (Nat.le_refl _)⟩, fun d F v6 v7 => ?_⟩
                have h81 : ∀ f t s, gI (ask h f t s) 81 = gI h 81 := fun f t s => ask_n _ _ _ _ (by omega) (by omega)
                rw [r3_11]
                simp (disch := omega) only [e3, r3_0, r3_1, r3_2, r3_5, r3_6, r3_8, r3_9, r3_13, r3_14, r3_17, r3_19, r3_19n, r3_20, r3_21, r3_24, r3_26, r3_28, r3_31, r3_34, r3_34n, r3_35, r3_37, r3_38, r3_40, r3_41, r3_43, r3_43n, r3_44, r3_46, r3_47, r3_48, r3_49, r3_51, r3_53, r3_54, r3_57, r3_58, r3_61, r3_63, r3_66, r3_68, r3_69, r3_72, r3_74, r3_76, r3_79, r3_80, r3_81, r3_82, r3_85, r3_86, r3_89, r3_91, r3_92, r3_95, r3_96, r3_99, r3_101, r3_102, r3_105, r3_107, r3_108, r3_109, r3_110, r3_113, r3_114, r3_115, r3_118, r3_121, r3_123, r3_125, r3_128, r3_129, r3_131, r3_134, r3_137, r3_138, r3_139, r3_141, r3_143, r3_146, r3_147, r3_148, r3_151, r3_154, r3_155, r3_158, r3_159, r3_162, r3_165, r3_166, r3_169, r3_171, r3_173, r3_176, r3_177, r3_180, r3_181, r3_184, r3_186, r3_188, r3_191, r3_194, r3_195, kdC, kdM, rpC, rpM, q_rs, q_rn, Option.toList_some, Option.toList_none, List.cons_append, List.nil_append, true_and, and_true, eq_self, ↓reduceIte, not_true_eq_false, not_false_eq_true, Nat.reduceEqDiff, Nat.reduceLeDiff, Nat.reduceLT, Nat.reduceAdd, Nat.reduceMul, Nat.reduceSub, false_or, or_false, true_or, or_true, false_and, and_false, reduceCtorEq, q_n0, q_n1, q_em, q_em2, q_b0, q_b1, Classical.not_not, nI_add, pk_mul, nI_clamp, q_vp, nI_eq, nI_leI, nI_ltI, q_sub, hkd, hgi, h81, o1, ew', c2, c1, ask_g3, ask_s, ask_3, show ¬ en ≤ at' by omega, show ¬ n ≤ at' by omega, show z.2.2 ≤ at' by omega, hat, show z.1.length < 64 by omega, show wi < 12 by omega, List.length_cons]
          · rw [if_neg c2]
            by_cases c3 : vop (st at') ≤ 8
            · rw [if_pos c3]
              obtain ⟨k1, k2⟩ := c4_all h f z.2.1 hs hl (op := vop (st at')) (by omega) c3
              cases er : vrl (vop (st at')) z.1 z.2.1 with
              | none =>
                have k3 := k1 er
                refine ⟨fun _ => ⟨f, z.1.length, z.2.1, fun d F v6 v7 => ?_⟩, fun y q => by cases q⟩
                rw [r3_11]
                simp (disch := omega) only [e3, r3_0, r3_1, r3_2, r3_5, r3_6, r3_8, r3_9, r3_13, r3_14, r3_17, r3_19, r3_19n, r3_20, r3_21, r3_24, r3_26, r3_28, r3_31, r3_34, r3_34n, r3_35, r3_37, r3_38, r3_40, r3_41, r3_43, r3_43n, r3_44, r3_46, r3_47, r3_48, r3_49, r3_51, r3_53, r3_54, r3_57, r3_58, r3_61, r3_63, r3_66, r3_68, r3_69, r3_72, r3_74, r3_76, r3_79, r3_80, r3_81, r3_82, r3_85, r3_86, r3_89, r3_91, r3_92, r3_95, r3_96, r3_99, r3_101, r3_102, r3_105, r3_107, r3_108, r3_109, r3_110, r3_113, r3_114, r3_115, r3_118, r3_121, r3_123, r3_125, r3_128, r3_129, r3_131, r3_134, r3_137, r3_138, r3_139, r3_141, r3_143, r3_146, r3_147, r3_148, r3_151, r3_154, r3_155, r3_158, r3_159, r3_162, r3_165, r3_166, r3_169, r3_171, r3_173, r3_176, r3_177, r3_180, r3_181, r3_184, r3_186, r3_188, r3_191, r3_194, r3_195, k3, kdC, kdM, rpC, rpM, q_rs, q_rn, Option.toList_some, Option.toList_none, List.cons_append, List.nil_append, true_and, and_true, eq_self, ↓reduceIte, not_true_eq_false, not_false_eq_true, Nat.reduceEqDiff, Nat.reduceLeDiff, Nat.reduceLT, Nat.reduceAdd, Nat.reduceMul, Nat.reduceSub, false_or, or_false, true_or, or_true, false_and, and_false, reduceCtorEq, q_n0, q_n1, q_em, q_em2, q_b0, q_b1, Classical.not_not, nI_add, pk_mul, nI_clamp, q_vp, nI_eq, nI_leI, nI_ltI, q_sub, hkd, hgi, o1, ew', c3, ask_g3, show ¬ en ≤ at' by omega, show ¬ n ≤ at' by omega, show z.2.2 ≤ at' by omega, hat, show 1 < vop (st at') by omega, show ¬ 8 < vop (st at') by omega]
              | some y0 =>
                obtain ⟨k3, f', k4, k5⟩ := k2 y0.1 y0.2 er
                refine ⟨fun q => (by cases q), fun y q => ?_⟩
                cases q
                refine ⟨by show y0.1.length ≤ 64; omega, hz', f', k4, fun d F v6 v7 => ?_⟩
                rw [r3_11]
                simp (disch := omega) only [e3, r3_0, r3_1, r3_2, r3_5, r3_6, r3_8, r3_9, r3_13, r3_14, r3_17, r3_19, r3_19n, r3_20, r3_21, r3_24, r3_26, r3_28, r3_31, r3_34, r3_34n, r3_35, r3_37, r3_38, r3_40, r3_41, r3_43, r3_43n, r3_44, r3_46, r3_47, r3_48, r3_49, r3_51, r3_53, r3_54, r3_57, r3_58, r3_61, r3_63, r3_66, r3_68, r3_69, r3_72, r3_74, r3_76, r3_79, r3_80, r3_81, r3_82, r3_85, r3_86, r3_89, r3_91, r3_92, r3_95, r3_96, r3_99, r3_101, r3_102, r3_105, r3_107, r3_108, r3_109, r3_110, r3_113, r3_114, r3_115, r3_118, r3_121, r3_123, r3_125, r3_128, r3_129, r3_131, r3_134, r3_137, r3_138, r3_139, r3_141, r3_143, r3_146, r3_147, r3_148, r3_151, r3_154, r3_155, r3_158, r3_159, r3_162, r3_165, r3_166, r3_169, r3_171, r3_173, r3_176, r3_177, r3_180, r3_181, r3_184, r3_186, r3_188, r3_191, r3_194, r3_195, k5, kdC, kdM, rpC, rpM, q_rs, q_rn, Option.toList_some, Option.toList_none, List.cons_append, List.nil_append, true_and, and_true, eq_self, ↓reduceIte, not_true_eq_false, not_false_eq_true, Nat.reduceEqDiff, Nat.reduceLeDiff, Nat.reduceLT, Nat.reduceAdd, Nat.reduceMul, Nat.reduceSub, false_or, or_false, true_or, or_true, false_and, and_false, reduceCtorEq, q_n0, q_n1, q_em, q_em2, q_b0, q_b1, Classical.not_not, nI_add, pk_mul, nI_clamp, q_vp, nI_eq, nI_leI, nI_ltI, q_sub, hkd, hgi, o1, ew', c3, ask_g3, show ¬ en ≤ at' by omega, show ¬ n ≤ at' by omega, show z.2.2 ≤ at' by omega, hat, show 1 < vop (st at') by omega, show ¬ 8 < vop (st at') by omega]
            · rw [if_neg c3]
              by_cases c4 : vop (st at') = 9
              · rw [if_pos c4]
                refine ⟨fun q => (by cases q), fun y q => ?_⟩
                cases q
                refine ⟨hl, hz', f, hs, fun d F v6 v7 => ?_⟩
                rw [r3_11]
                cases es : z.2.1 with
                | true => simp (disch := omega) only [e3, r3_0, r3_1, r3_2, r3_5, r3_6, r3_8, r3_9, r3_13, r3_14, r3_17, r3_19, r3_19n, r3_20, r3_21, r3_24, r3_26, r3_28, r3_31, r3_34, r3_34n, r3_35, r3_37, r3_38, r3_40, r3_41, r3_43, r3_43n, r3_44, r3_46, r3_47, r3_48, r3_49, r3_51, r3_53, r3_54, r3_57, r3_58, r3_61, r3_63, r3_66, r3_68, r3_69, r3_72, r3_74, r3_76, r3_79, r3_80, r3_81, r3_82, r3_85, r3_86, r3_89, r3_91, r3_92, r3_95, r3_96, r3_99, r3_101, r3_102, r3_105, r3_107, r3_108, r3_109, r3_110, r3_113, r3_114, r3_115, r3_118, r3_121, r3_123, r3_125, r3_128, r3_129, r3_131, r3_134, r3_137, r3_138, r3_139, r3_141, r3_143, r3_146, r3_147, r3_148, r3_151, r3_154, r3_155, r3_158, r3_159, r3_162, r3_165, r3_166, r3_169, r3_171, r3_173, r3_176, r3_177, r3_180, r3_181, r3_184, r3_186, r3_188, r3_191, r3_194, r3_195, kdC, kdM, rpC, rpM, q_rs, q_rn, Option.toList_some, Option.toList_none, List.cons_append, List.nil_append, true_and, and_true, eq_self, ↓reduceIte, not_true_eq_false, not_false_eq_true, Nat.reduceEqDiff, Nat.reduceLeDiff, Nat.reduceLT, Nat.reduceAdd, Nat.reduceMul, Nat.reduceSub, false_or, or_false, true_or, or_true, false_and, and_false, reduceCtorEq, q_n0, q_n1, q_em, q_em2, q_b0, q_b1, Classical.not_not, nI_add, pk_mul, nI_clamp, q_vp, nI_eq, nI_leI, nI_ltI, q_sub, hkd, hgi, o1, ew', c4, ask_g3, ask_g4, ask_40, sB, Bool.not_true, show ¬ en ≤ at' by omega, show ¬ n ≤ at' by omega, show z.2.2 ≤ at' by omega, hat]
                | false => simp (disch := omega) only [e3, r3_0, r3_1, r3_2, r3_5, r3_6, r3_8, r3_9, r3_13, r3_14, r3_17, r3_19, r3_19n, r3_20, r3_21, r3_24, r3_26, r3_28, r3_31, r3_34, r3_34n, r3_35, r3_37, r3_38, r3_40, r3_41, r3_43, r3_43n, r3_44, r3_46, r3_47, r3_48, r3_49, r3_51, r3_53, r3_54, r3_57, r3_58, r3_61, r3_63, r3_66, r3_68, r3_69, r3_72, r3_74, r3_76, r3_79, r3_80, r3_81, r3_82, r3_85, r3_86, r3_89, r3_91, r3_92, r3_95, r3_96, r3_99, r3_101, r3_102, r3_105, r3_107, r3_108, r3_109, r3_110, r3_113, r3_114, r3_115, r3_118, r3_121, r3_123, r3_125, r3_128, r3_129, r3_131, r3_134, r3_137, r3_138, r3_139, r3_141, r3_143, r3_146, r3_147, r3_148, r3_151, r3_154, r3_155, r3_158, r3_159, r3_162, r3_165, r3_166, r3_169, r3_171, r3_173, r3_176, r3_177, r3_180, r3_181, r3_184, r3_186, r3_188, r3_191, r3_194, r3_195, kdC, kdM, rpC, rpM, q_rs, q_rn, Option.toList_some, Option.toList_none, List.cons_append, List.nil_append, true_and, and_true, eq_self, ↓reduceIte, not_true_eq_false, not_false_eq_true, Nat.reduceEqDiff, Nat.reduceLeDiff, Nat.reduceLT, Nat.reduceAdd, Nat.reduceMul, Nat.reduceSub, false_or, or_false, true_or, or_true, false_and, and_false, reduceCtorEq, q_n0, q_n1, q_em, q_em2, q_b0, q_b1, Classical.not_not, nI_add, pk_mul, nI_clamp, q_vp, nI_eq, nI_leI, nI_ltI, q_sub, hkd, hgi, o1, ew', c4, ask_g3, ask_g4, ask_41, sB, Bool.not_false, show ¬ en ≤ at' by omega, show ¬ n ≤ at' by omega, show z.2.2 ≤ at' by omega, hat]
              · rw [if_neg c4]
                by_cases c5 : z.2.1 = decide (vop (st at') = 10)
                · rw [if_pos c5, nI_clamp (by omega)]
                  refine ⟨fun q => (by cases q), fun y q => ?_⟩
                  cases q
                  refine ⟨hl, hwi, f, hs, fun d F v6 v7 => ?_⟩
                  rw [r3_11]
                  by_cases c6 : vop (st at') = 10
                  · rw [decide_eq_true c6] at c5
                    simp (disch := omega) only [e3, r3_0, r3_1, r3_2, r3_5, r3_6, r3_8, r3_9, r3_13, r3_14, r3_17, r3_19, r3_19n, r3_20, r3_21, r3_24, r3_26, r3_28, r3_31, r3_34, r3_34n, r3_35, r3_37, r3_38, r3_40, r3_41, r3_43, r3_43n, r3_44, r3_46, r3_47, r3_48, r3_49, r3_51, r3_53, r3_54, r3_57, r3_58, r3_61, r3_63, r3_66, r3_68, r3_69, r3_72, r3_74, r3_76, r3_79, r3_80, r3_81, r3_82, r3_85, r3_86, r3_89, r3_91, r3_92, r3_95, r3_96, r3_99, r3_101, r3_102, r3_105, r3_107, r3_108, r3_109, r3_110, r3_113, r3_114, r3_115, r3_118, r3_121, r3_123, r3_125, r3_128, r3_129, r3_131, r3_134, r3_137, r3_138, r3_139, r3_141, r3_143, r3_146, r3_147, r3_148, r3_151, r3_154, r3_155, r3_158, r3_159, r3_162, r3_165, r3_166, r3_169, r3_171, r3_173, r3_176, r3_177, r3_180, r3_181, r3_184, r3_186, r3_188, r3_191, r3_194, r3_195, kdC, kdM, rpC, rpM, q_rs, q_rn, Option.toList_some, Option.toList_none, List.cons_append, List.nil_append, true_and, and_true, eq_self, ↓reduceIte, not_true_eq_false, not_false_eq_true, Nat.reduceEqDiff, Nat.reduceLeDiff, Nat.reduceLT, Nat.reduceAdd, Nat.reduceMul, Nat.reduceSub, false_or, or_false, true_or, or_true, false_and, and_false, reduceCtorEq, q_n0, q_n1, q_em, q_em2, q_b0, q_b1, Classical.not_not, nI_add, pk_mul, nI_clamp, q_vp, nI_eq, nI_leI, nI_ltI, q_sub, hkd, hgi, o1, ew', c6, c5, ask_g3, ask_g4, sB, show ¬ en ≤ at' by omega, show ¬ n ≤ at' by omega, show z.2.2 ≤ at' by omega, hat]
                  · rw [decide_eq_false c6] at c5
                    simp (disch := omega) only [e3, r3_0, r3_1, r3_2, r3_5, r3_6, r3_8, r3_9, r3_13, r3_14, r3_17, r3_19, r3_19n, r3_20, r3_21, r3_24, r3_26, r3_28, r3_31, r3_34, r3_34n, r3_35, r3_37, r3_38, r3_40, r3_41, r3_43, r3_43n, r3_44, r3_46, r3_47, r3_48, r3_49, r3_51, r3_53, r3_54, r3_57, r3_58, r3_61, r3_63, r3_66, r3_68, r3_69, r3_72, r3_74, r3_76, r3_79, r3_80, r3_81, r3_82, r3_85, r3_86, r3_89, r3_91, r3_92, r3_95, r3_96, r3_99, r3_101, r3_102, r3_105, r3_107, r3_108, r3_109, r3_110, r3_113, r3_114, r3_115, r3_118, r3_121, r3_123, r3_125, r3_128, r3_129, r3_131, r3_134, r3_137, r3_138, r3_139, r3_141, r3_143, r3_146, r3_147, r3_148, r3_151, r3_154, r3_155, r3_158, r3_159, r3_162, r3_165, r3_166, r3_169, r3_171, r3_173, r3_176, r3_177, r3_180, r3_181, r3_184, r3_186, r3_188, r3_191, r3_194, r3_195, kdC, kdM, rpC, rpM, q_rs, q_rn, Option.toList_some, Option.toList_none, List.cons_append, List.nil_append, true_and, and_true, eq_self, ↓reduceIte, not_true_eq_false, not_false_eq_true, Nat.reduceEqDiff, Nat.reduceLeDiff, Nat.reduceLT, Nat.reduceAdd, Nat.reduceMul, Nat.reduceSub, false_or, or_false, true_or, or_true, false_and, and_false, reduceCtorEq, q_n0, q_n1, q_em, q_em2, q_b0, q_b1, Classical.not_not, nI_add, pk_mul, nI_clamp, q_vp, nI_eq, nI_leI, nI_ltI, q_sub, hkd, hgi, o1, ew', c4, c6, c5, ask_g3, ask_g4, sB, show ¬ en ≤ at' by omega, show ¬ n ≤ at' by omega, show z.2.2 ≤ at' by omega, hat, show 1 < vop (st at') by omega, show 8 < vop (st at') by omega]
                · rw [if_neg c5]
                  refine ⟨fun q => (by cases q), fun y q => ?_⟩
                  cases q
                  refine ⟨hl, hz', f, hs, fun d F v6 v7 => ?_⟩
                  rw [r3_11]
                  by_cases c6 : vop (st at') = 10
                  · rw [decide_eq_true c6] at c5
                    simp only [Bool.not_eq_true] at c5
                    simp (disch := omega) only [e3, r3_0, r3_1, r3_2, r3_5, r3_6, r3_8, r3_9, r3_13, r3_14, r3_17, r3_19, r3_19n, r3_20, r3_21, r3_24, r3_26, r3_28, r3_31, r3_34, r3_34n, r3_35, r3_37, r3_38, r3_40, r3_41, r3_43, r3_43n, r3_44, r3_46, r3_47, r3_48, r3_49, r3_51, r3_53, r3_54, r3_57, r3_58, r3_61, r3_63, r3_66, r3_68, r3_69, r3_72, r3_74, r3_76, r3_79, r3_80, r3_81, r3_82, r3_85, r3_86, r3_89, r3_91, r3_92, r3_95, r3_96, r3_99, r3_101, r3_102, r3_105, r3_107, r3_108, r3_109, r3_110, r3_113, r3_114, r3_115, r3_118, r3_121, r3_123, r3_125, r3_128, r3_129, r3_131, r3_134, r3_137, r3_138, r3_139, r3_141, r3_143, r3_146, r3_147, r3_148, r3_151, r3_154, r3_155, r3_158, r3_159, r3_162, r3_165, r3_166, r3_169, r3_171, r3_173, r3_176, r3_177, r3_180, r3_181, r3_184, r3_186, r3_188, r3_191, r3_194, r3_195, kdC, kdM, rpC, rpM, q_rs, q_rn, Option.toList_some, Option.toList_none, List.cons_append, List.nil_append, true_and, and_true, eq_self, ↓reduceIte, not_true_eq_false, not_false_eq_true, Nat.reduceEqDiff, Nat.reduceLeDiff, Nat.reduceLT, Nat.reduceAdd, Nat.reduceMul, Nat.reduceSub, false_or, or_false, true_or, or_true, false_and, and_false, reduceCtorEq, q_n0, q_n1, q_em, q_em2, q_b0, q_b1, Classical.not_not, nI_add, pk_mul, nI_clamp, q_vp, nI_eq, nI_leI, nI_ltI, q_sub, hkd, hgi, o1, ew', c6, c5, ask_g3, ask_g4, sB, show ¬ en ≤ at' by omega, show ¬ n ≤ at' by omega, show z.2.2 ≤ at' by omega, hat]
                  · rw [decide_eq_false c6] at c5
                    simp only [Bool.not_eq_false] at c5
                    simp (disch := omega) only [e3, r3_0, r3_1, r3_2, r3_5, r3_6, r3_8, r3_9, r3_13, r3_14, r3_17, r3_19, r3_19n, r3_20, r3_21, r3_24, r3_26, r3_28, r3_31, r3_34, r3_34n, r3_35, r3_37, r3_38, r3_40, r3_41, r3_43, r3_43n, r3_44, r3_46, r3_47, r3_48, r3_49, r3_51, r3_53, r3_54, r3_57, r3_58, r3_61, r3_63, r3_66, r3_68, r3_69, r3_72, r3_74, r3_76, r3_79, r3_80, r3_81, r3_82, r3_85, r3_86, r3_89, r3_91, r3_92, r3_95, r3_96, r3_99, r3_101, r3_102, r3_105, r3_107, r3_108, r3_109, r3_110, r3_113, r3_114, r3_115, r3_118, r3_121, r3_123, r3_125, r3_128, r3_129, r3_131, r3_134, r3_137, r3_138, r3_139, r3_141, r3_143, r3_146, r3_147, r3_148, r3_151, r3_154, r3_155, r3_158, r3_159, r3_162, r3_165, r3_166, r3_169, r3_171, r3_173, r3_176, r3_177, r3_180, r3_181, r3_184, r3_186, r3_188, r3_191, r3_194, r3_195, kdC, kdM, rpC, rpM, q_rs, q_rn, Option.toList_some, Option.toList_none, List.cons_append, List.nil_append, true_and, and_true, eq_self, ↓reduceIte, not_true_eq_false, not_false_eq_true, Nat.reduceEqDiff, Nat.reduceLeDiff, Nat.reduceLT, Nat.reduceAdd, Nat.reduceMul, Nat.reduceSub, false_or, or_false, true_or, or_true, false_and, and_false, reduceCtorEq, q_n0, q_n1, q_em, q_em2, q_b0, q_b1, Classical.not_not, nI_add, pk_mul, nI_clamp, q_vp, nI_eq, nI_leI, nI_ltI, q_sub, hkd, hgi, o1, ew', c4, c6, c5, ask_g3, ask_g4, sB, show ¬ en ≤ at' by omega, show ¬ n ≤ at' by omega, show z.2.2 ≤ at' by omega, hat, show 1 < vop (st at') by omega, show 8 < vop (st at') by omega]
      obtain ⟨k1, k2⟩ := key
      cases ev1 : vone (gI h 81) (st at') z with
      | none =>
        refine ⟨fun _ => k1 ev1, fun z' q => by cases q⟩
      | some y =>
        obtain ⟨k3, k4, f', k5, k6⟩ := k2 y ev1
        obtain ⟨i1, i2⟩ := cl3 ⟨g1, g2, g3, g4, g5⟩ (fr := fr) hen k (at' + 1) f' y (by omega) k5 k3 k4
        refine ⟨fun q => ?_, fun z' q => ?_⟩
        · obtain ⟨f2, t2, s2, i3⟩ := i1 q
          exact ⟨f2, t2, s2, fun d F v6 v7 => by rw [k6]; exact i3 d F _ _⟩
        · obtain ⟨i3, f2, i4, i5⟩ := i2 z' q
          exact ⟨i3, f2, i4, fun d F v6 v7 => by rw [k6]; exact i5 d F _ _⟩
theorem c3 (hh : stH h sr n st) {fr en : Nat} (hfr : fr ≤ en) (hen : en ≤ n) (f : Nat → Int32) (t : Nat) (s : Bool) :
    (vrun (gI h 81) st (en - fr) fr ([], s, fr) = none → ∃ f' t' s', ∀ d F, cwp true (d + 1) 3 [.ref 80, .ref sr, .int (nI fr), .int (nI en)] (ask h f t s) F = F (some (.int (nI 0))) (ask h f' t' s')) ∧
    (∀ z', vrun (gI h 81) st (en - fr) fr ([], s, fr) = some z' → z'.1.length ≤ 64 ∧ ∃ f', stk f' z'.1 ∧ ∀ d F, cwp true (d + 1) 3 [.ref 80, .ref sr, .int (nI fr), .int (nI en)] (ask h f t s) F = F (some (.int (nI 1))) (ask h f' z'.1.length z'.2.1)) := by
  have := hh.2.2.2.1
  obtain ⟨i1, i2⟩ := cl3 h hh (fr := fr) hen (en - fr) fr f ([], s, fr) (by omega) trivial (by simp) (by show fr < 2147483648; omega)
  have hst : ∀ d F, cwp true (d + 1) 3 [.ref 80, .ref sr, .int (nI fr), .int (nI en)] (ask h f t s) F = wp true (d + 1) 3 11 [.ref 80, .ref sr, .int (nI fr), .int (nI en), .int (nI fr), .int (nI fr), jn, jn] [] (ask h f 0 s) F := by
    intro d F
    simp (disch := omega) only [e3, r3_0, r3_1, r3_2, r3_5, r3_6, r3_8, r3_9, r3_13, r3_14, r3_17, r3_19, r3_19n, r3_20, r3_21, r3_24, r3_26, r3_28, r3_31, r3_34, r3_34n, r3_35, r3_37, r3_38, r3_40, r3_41, r3_43, r3_43n, r3_44, r3_46, r3_47, r3_48, r3_49, r3_51, r3_53, r3_54, r3_57, r3_58, r3_61, r3_63, r3_66, r3_68, r3_69, r3_72, r3_74, r3_76, r3_79, r3_80, r3_81, r3_82, r3_85, r3_86, r3_89, r3_91, r3_92, r3_95, r3_96, r3_99, r3_101, r3_102, r3_105, r3_107, r3_108, r3_109, r3_110, r3_113, r3_114, r3_115, r3_118, r3_121, r3_123, r3_125, r3_128, r3_129, r3_131, r3_134, r3_137, r3_138, r3_139, r3_141, r3_143, r3_146, r3_147, r3_148, r3_151, r3_154, r3_155, r3_158, r3_159, r3_162, r3_165, r3_166, r3_169, r3_171, r3_173, r3_176, r3_177, r3_180, r3_181, r3_184, r3_186, r3_188, r3_191, r3_194, r3_195, kdC, kdM, rpC, rpM, q_rs, q_rn, Option.toList_some, Option.toList_none, List.cons_append, List.nil_append, true_and, and_true, eq_self, ↓reduceIte, not_true_eq_false, not_false_eq_true, Nat.reduceEqDiff, Nat.reduceLeDiff, Nat.reduceLT, Nat.reduceAdd, Nat.reduceMul, Nat.reduceSub, false_or, or_false, true_or, or_true, false_and, and_false, reduceCtorEq, q_n0, q_n1, q_em, q_em2, q_b0, q_b1, Classical.not_not, ask_3]
  refine ⟨fun q => ?_, fun z' q => ?_⟩
  · obtain ⟨f2, t2, s2, i3⟩ := i1 q
    exact ⟨f2, t2, s2, fun d F => by rw [hst]; exact i3 d F _ _⟩
  · obtain ⟨i3, f2, i4, i5⟩ := i2 z' q
    exact ⟨i3, f2, i4, fun d F => by rw [hst]; exact i5 d F _ _⟩
end SO
