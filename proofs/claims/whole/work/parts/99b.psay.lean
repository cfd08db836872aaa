/-! says: the pair -/
section IW
variable {h h' : Hp}
theorem Inv_gen {n m : Nat} (hg : ∀ b, b ≤ 120 → gI h' b = gI h b) (hp : ∀ b, b ≤ 120 → b ≠ 86 → gP h' b = gP h b) (ht : ∀ a T, tAt h a T → tAt h' a T) (z : Inv n h) (hT : TCS h') (hA : ALS m h') : Inv m h' := by
  obtain ⟨i1, i2, i3, i4, i5, i6, i7, i8, i9⟩ := z
  refine ⟨?_, ?_, ?_, ?_, ?_, ?_, hT, hA, ?_⟩
  · rw [hg 103 (by omega)]
    exact STS_of (o := 0) (fun c i h1 h2 _ => by rw [hg _ (by omega)]) (fun t => by rw [hp _ (by omega) (by omega)]) ht i1
  · intro k hk
    obtain ⟨a1, a2, a3⟩ := i2 k hk
    rw [hg 75 (by omega), hg 105 (by omega)]
    refine ⟨a1, a2, fun e => ?_⟩
    have hm : imK h' k = imK h k := by unfold imK; rw [hg 104 (by omega)]
    rw [hm]
    exact STS_of (fun c i h1 h2 _ => by rw [hg _ (by omega)]) (fun t => by rw [hp _ (by omega) (by omega)]) ht (a3 e)
  · unfold TPS at *
    rw [hg 77 (by omega), hg 107 (by omega), hg 76 (by omega), hg 101 (by omega)]; exact i3
  · unfold RFS at *
    rw [hg 100 (by omega), hg 102 (by omega)]; exact i4
  · rw [hg 1 (by omega), hg 101 (by omega)]; exact i5
  · unfold WDS at *
    rw [hg 106 (by omega)]; exact i6
  · intro a b ha hb
    rw [hp 88 (by omega) (by omega)] at ha hb
    obtain ⟨Tm, Ts, t1, t2, t3⟩ := i9 a b ha hb
    rw [hg 103 (by omega), hg 88 (by omega)]
    exact ⟨Tm, Ts, ht a Tm t1, ht b Ts t2, t3⟩
/-- the row of ways is written -/
theorem Inv_wy {n A : Nat} (z : Inv n h) (o : okW h A) (T : Nat → Int32) : Inv n (sA h A T) := by
  have z7 := z.2.2.2.2.2.2.1
  have z8 := z.2.2.2.2.2.2.2.1
  obtain ⟨o1, o2, o3⟩ := o
  rcases z8 with ⟨h1, h2, h3⟩ | ⟨a, h1, h2, h3, h4, h5, h6, h7⟩
  · rw [h1] at o1; cases o1
  · rw [h1] at o1; cases o1
    refine Inv_gen (fun b hb => q_gan (by omega)) (fun b _ _ => rfl) ?_ z z7 (Or.inr ⟨A, h1, h2, h3, h4, h5, h6, h7⟩)
    rintro a' T' ⟨s, c, ⟨k1, k2, k3, k4, k5, k6⟩, p0, p1, q0, q1, q2, g0, g1⟩
    have hn := h5 a' k1 k2 q0
    rw [p0, p1] at hn
    have e1 : s ≠ A := fun e => hn.1 (by rw [e])
    have e2 : c ≠ A := fun e => hn.2 (by rw [e])
    exact ⟨s, c, ⟨k1, k2, k3, k4, k5, k6⟩, p0, p1, q0, q1, q2, (q_gan e1).trans g0, (q_gan e2).trans g1⟩
theorem nw_p {a : Nat} (h1 : a ≠ hz h) (h2 : a ≠ 86) : gP (nwW h) a = gP h a := by
  unfold nwW
  rw [q_pn h2]
  show up1 (gP h) (hz h) (fun _ => none) a = _
  exact if_neg h1
theorem nw_k {a : Nat} (h1 : a ≠ hz h) : hk (nwW h) a = hk h a := by
  show up1 (hk h) (hz h) (20, 24973) a = _
  exact if_neg h1
/-- the row of ways is made -/
theorem Inv_nw {n : Nat} (z : Inv n h) (hN : gP h 86 2 = none) : Inv n (nwW h) := by
  obtain ⟨t1, t2, t3⟩ := z.2.2.2.2.2.2.1
  have z8 := z.2.2.2.2.2.2.2.1
  have o := nw_ok t1
  have hz' : hz (nwW h) = hz h + 1 := rfl
  have hu' : hu (nwW h) = hu h + 24973 := rfl
  rcases z8 with ⟨h1, h2, h3⟩ | ⟨a, h1, _⟩
  · refine Inv_gen (fun b hb => nw_g (by omega)) (fun b hb hb2 => nw_p (by omega) hb2) ?_ z ?_ ?_
    · rintro a' T' ⟨s, c, ⟨k1, k2, k3, k4, k5, k6⟩, p0, p1, q0, q1, q2, g0, g1⟩
      exact ⟨s, c, by rw [hz']; exact ⟨k1, by omega, k3, by omega, k5, by omega⟩, by rw [nw_p (by omega) (by omega)]; exact p0, by rw [nw_p (by omega) (by omega)]; exact p1, by rw [nw_k (by omega)]; exact q0, by rw [nw_k (by omega)]; exact q1, by rw [nw_k (by omega)]; exact q2, by rw [nw_g (by omega)]; exact g0, by rw [nw_g (by omega)]; exact g1⟩
    · refine ⟨by rw [hz']; omega, fun b hb1 hb2 hb3 => ?_, fun c hc t ht a ha => ?_⟩
      · by_cases e : b = hz h
        · subst e; rw [o.2.2] at hb3; cases hb3
        · rw [hz'] at *
          rw [nw_k e] at hb3
          obtain ⟨s, c, p0, p1, k1, k2⟩ := t2 b hb1 (by omega) hb3
          rw [nw_p e (by omega)]
          exact ⟨s, c, p0, p1, by omega, by omega⟩
      · rw [nw_p (by omega) (by omega)] at ha
        obtain ⟨k1, k2, k3⟩ := t3 c hc t ht a ha
        rw [hz', nw_k (by omega)]
        exact ⟨k1, by omega, k3⟩
    · refine Or.inr ⟨hz h, o.1, t1, by rw [hz']; omega, o.2.2, fun b hb1 hb2 hb3 => ?_, by rw [hz']; omega, by rw [hu']; omega⟩
      by_cases e : b = hz h
      · subst e; rw [o.2.2] at hb3; cases hb3
      · rw [hz'] at hb2
        rw [nw_k e] at hb3
        obtain ⟨s, c, p0, p1, k1, k2⟩ := t2 b hb1 (by omega) hb3
        rw [nw_p e (by omega), p0, p1]
        exact ⟨fun q => by cases q; omega, fun q => by cases q; omega⟩
  · rw [h1] at hN; cases hN
end IW
theorem Inv_fr0 {n : Nat} {h h' : Hp} (x : Fr h h') (z : Inv n h) : Inv n h' := by
  have z1 := Inv_fr x z
  exact ⟨z1.1, z1.2.1, z1.2.2.1, z1.2.2.2.1, z1.2.2.2.2.1, z1.2.2.2.2.2.1, z1.2.2.2.2.2.2.1, ALS_fr x z.2.2.2.2.2.2.2.1, z1.2.2.2.2.2.2.2.2⟩
theorem p_says {n : Nat} {h : Hp} (z : Inv n h) (a b : Int32) : PRI n h 100 212 [.int a, .int b] := by
  intro d
  have w := z.1.1
  by_cases hA : a = nI 0 ∨ a = nI 1
  · by_cases hB : b = nI 0 ∨ b = nI 1
    · have hAt : (a = nI 0 ∨ a = nI 1) = True := eq_true hA
      have zW : gP h 86 2 = none ∨ ∃ A, okW h A := by
        rcases z.2.2.2.2.2.2.2.1 with ⟨h1, _⟩ | ⟨A, h1, h2, h3, h4, _⟩
        · exact Or.inl h1
        · exact Or.inr ⟨A, h1, h2, h4⟩
      rcases hB with rfl | rfl
      · obtain ⟨V, h1, A, T, k1, k2⟩ := c82 z.1 hA z.2.2.2.2.2.2.1.1 zW
        have zV := Inv_fr ((Fr.refl h).sA (a := 87) V (fun _ => rfl)) z
        have z1 : Inv (n + 1) (sA h1 A T) := by
          rcases k1 with ⟨q1, rfl, rfl⟩ | ⟨rfl, o⟩
          · exact Inv_wy (Inv_nw zV q1) (nw_ok zV.2.2.2.2.2.2.1.1) T
          · exact Inv_wy zV o T
        have hK1 : gI (sA h1 A T) 103 = gI h 103 := by
          rcases k1 with ⟨q1, rfl, rfl⟩ | ⟨rfl, o⟩
          · have := z.2.2.2.2.2.2.1.1
            rw [q_gan (by omega), nw_g (by show 103 ≠ hz h; omega), q_gan (by omega)]
          · have := o.2.1
            rw [q_gan (by omega), q_gan (by omega)]
        obtain ⟨T2, m1⟩ := m212 (p := 0) hK1 w hA (by omega)
        refine ⟨nI (saysC (gI h 103) a), sA h1 A T, sA (sA h1 A T) 116 T2, fun F => ?_, fun F => ?_, Inv_fr0 (fr116 T2) z1⟩
        · have k2' := fun F => k2 (d + 895) F
          have f0 : (nI 0 = nI 0 ∨ nI 0 = nI 1) = True := eq_true (Or.inl rfl)
          simp (disch := omega) only [e100, r100_0, r100_1, r100_4, r100_7, r100_8, r100_11, r100_14, r100_15, r100_16, r100_17, r100_20, r100_21, r100_24, r100_25, r100_28, r100_31, r100_32, r100_35, r100_36, r100_39, c126, hAt, f0, k2', kdC, kdM, rpC, rpM, q_rs, q_rn, Option.toList_some, Option.toList_none, List.cons_append, List.nil_append, true_and, and_true, eq_self, ↓reduceIte, not_true_eq_false, not_false_eq_true, Nat.reduceEqDiff, Nat.reduceLeDiff, Nat.reduceLT, Nat.reduceAdd, Nat.reduceMul, Nat.reduceSub, false_or, or_false, true_or, or_true, false_and, and_false, reduceCtorEq, q_n0, q_n1, q_em, q_em2, q_b0, q_b1, Classical.not_not]
        · exact m1 (d + 895) F
      · obtain ⟨T2, m1⟩ := m212 (p := 1) (h := h) rfl w hA (by omega)
        refine ⟨_, h, sA h 116 T2, fun F => ?_, fun F => m1 (d + 895) F, Inv_fr (fr116 T2) z⟩
        have k2' := fun F => c81 z.1 hA (d + 895) F
        have f0 : (nI 1 = nI 0 ∨ nI 1 = nI 1) = True := eq_true (Or.inr rfl)
        rw [if_neg (by omega)]
        simp (disch := omega) only [e100, r100_0, r100_1, r100_4, r100_7, r100_8, r100_11, r100_14, r100_15, r100_16, r100_17, r100_20, r100_21, r100_24, r100_25, r100_28, r100_31, r100_32, r100_35, r100_36, r100_39, c126, hAt, f0, k2', kdC, kdM, rpC, rpM, q_rs, q_rn, Option.toList_some, Option.toList_none, List.cons_append, List.nil_append, true_and, and_true, eq_self, ↓reduceIte, not_true_eq_false, not_false_eq_true, Nat.reduceEqDiff, Nat.reduceLeDiff, Nat.reduceLT, Nat.reduceAdd, Nat.reduceMul, Nat.reduceSub, false_or, or_false, true_or, or_true, false_and, and_false, reduceCtorEq, q_n0, q_n1, q_em, q_em2, q_b0, q_b1, Classical.not_not]
    · have hBf : (b = nI 0 ∨ b = nI 1) = False := eq_false hB
      have hBm : ¬ (nI 0 ≤ b ∧ b ≤ nI 1) := by
        rintro ⟨q1, q2⟩
        obtain ⟨j, hj, rfl⟩ := q_ix2 (by omega) q1 q2
        rcases (show j = 0 ∨ j = 1 by omega) with rfl | rfl
        · exact hB (Or.inl rfl)
        · exact hB (Or.inr rfl)
      have hAt : (a = nI 0 ∨ a = nI 1) = True := eq_true hA
      refine ⟨-1, h, h, fun F => ?_, fun F => ?_, Inv_fr (Fr.refl h) z⟩
      · simp (disch := omega) only [e100, r100_0, r100_1, r100_4, r100_7, r100_8, r100_11, r100_14, r100_15, r100_16, r100_17, r100_20, r100_21, r100_24, r100_25, r100_28, r100_31, r100_32, r100_35, r100_36, r100_39, c126, hAt, hBf, kdC, kdM, rpC, rpM, q_rs, q_rn, Option.toList_some, Option.toList_none, List.cons_append, List.nil_append, true_and, and_true, eq_self, ↓reduceIte, not_true_eq_false, not_false_eq_true, Nat.reduceEqDiff, Nat.reduceLeDiff, Nat.reduceLT, Nat.reduceAdd, Nat.reduceMul, Nat.reduceSub, false_or, or_false, true_or, or_true, false_and, and_false, reduceCtorEq, q_n0, q_n1, q_em, q_em2, q_b0, q_b1, Classical.not_not]
      · simp (disch := omega) only [e212, r212_0, r212_1, r212_4, r212_7, r212_8, r212_9, r212_10, r212_13, r212_16, r212_17, r212_18, r212_19, r212_21, r212_23, r212_26, r212_27, r212_30, r212_31, r212_32, r212_33, r212_36, r212_39, r212_40, r212_43, r212_44, r212_45, r212_46, r212_47, r212_48, r212_49, r212_51, r212_52, r212_54, r212_55, r212_59, r212_60, r212_63, r212_66, r212_67, r212_69, r212_70, r212_73, r212_76, r212_79, r212_80, r212_82, r212_83, r212_86, r212_88, r212_89, r212_91, r212_94, r212_95, r212_99, r212_102, r212_105, r212_109, r212_111, r212_114, r212_115, r212_118, r212_121, r212_123, r212_124, r212_126, r212_127, r212_128, r212_129, r212_130, r212_133, r212_136, r212_138, r212_139, r212_140, r212_141, r212_143, r212_144, r212_146, r212_147, r212_148, r212_149, r212_150, r212_153, r212_156, r212_159, r212_162, r212_163, r212_165, r212_166, r212_169, r212_172, r212_175, r212_178, r212_180, r212_182, r212_183, r212_185, r212_188, r212_191, r212_192, r212_194, r212_195, r212_199, r212_202, r212_205, r212_206, r212_207, r212_210, r212_212, r212_214, r212_217, r212_219, r212_220, r212_223, r212_226, r212_228, r212_229, r212_231, r212_232, r212_233, r212_234, r212_236, r212_239, r212_242, r212_244, c152, c143, hAt, hBm, kdC, kdM, rpC, rpM, q_rs, q_rn, Option.toList_some, Option.toList_none, List.cons_append, List.nil_append, true_and, and_true, eq_self, ↓reduceIte, not_true_eq_false, not_false_eq_true, Nat.reduceEqDiff, Nat.reduceLeDiff, Nat.reduceLT, Nat.reduceAdd, Nat.reduceMul, Nat.reduceSub, false_or, or_false, true_or, or_true, false_and, and_false, reduceCtorEq, q_n0, q_n1, q_em, q_em2, q_b0, q_b1, Classical.not_not]
  · have hAf : (a = nI 0 ∨ a = nI 1) = False := eq_false hA
    refine ⟨-1, h, h, fun F => ?_, fun F => ?_, Inv_fr (Fr.refl h) z⟩
    · simp (disch := omega) only [e100, r100_0, r100_1, r100_4, r100_7, r100_8, r100_11, r100_14, r100_15, r100_16, r100_17, r100_20, r100_21, r100_24, r100_25, r100_28, r100_31, r100_32, r100_35, r100_36, r100_39, c126, hAf, kdC, kdM, rpC, rpM, q_rs, q_rn, Option.toList_some, Option.toList_none, List.cons_append, List.nil_append, true_and, and_true, eq_self, ↓reduceIte, not_true_eq_false, not_false_eq_true, Nat.reduceEqDiff, Nat.reduceLeDiff, Nat.reduceLT, Nat.reduceAdd, Nat.reduceMul, Nat.reduceSub, false_or, or_false, true_or, or_true, false_and, and_false, reduceCtorEq, q_n0, q_n1, q_em, q_em2, q_b0, q_b1, Classical.not_not]
    · simp (disch := omega) only [e212, r212_0, r212_1, r212_4, r212_7, r212_8, r212_9, r212_10, r212_13, r212_16, r212_17, r212_18, r212_19, r212_21, r212_23, r212_26, r212_27, r212_30, r212_31, r212_32, r212_33, r212_36, r212_39, r212_40, r212_43, r212_44, r212_45, r212_46, r212_47, r212_48, r212_49, r212_51, r212_52, r212_54, r212_55, r212_59, r212_60, r212_63, r212_66, r212_67, r212_69, r212_70, r212_73, r212_76, r212_79, r212_80, r212_82, r212_83, r212_86, r212_88, r212_89, r212_91, r212_94, r212_95, r212_99, r212_102, r212_105, r212_109, r212_111, r212_114, r212_115, r212_118, r212_121, r212_123, r212_124, r212_126, r212_127, r212_128, r212_129, r212_130, r212_133, r212_136, r212_138, r212_139, r212_140, r212_141, r212_143, r212_144, r212_146, r212_147, r212_148, r212_149, r212_150, r212_153, r212_156, r212_159, r212_162, r212_163, r212_165, r212_166, r212_169, r212_172, r212_175, r212_178, r212_180, r212_182, r212_183, r212_185, r212_188, r212_191, r212_192, r212_194, r212_195, r212_199, r212_202, r212_205, r212_206, r212_207, r212_210, r212_212, r212_214, r212_217, r212_219, r212_220, r212_223, r212_226, r212_228, r212_229, r212_231, r212_232, r212_233, r212_234, r212_236, r212_239, r212_242, r212_244, c152, hAf, kdC, kdM, rpC, rpM, q_rs, q_rn, Option.toList_some, Option.toList_none, List.cons_append, List.nil_append, true_and, and_true, eq_self, ↓reduceIte, not_true_eq_false, not_false_eq_true, Nat.reduceEqDiff, Nat.reduceLeDiff, Nat.reduceLT, Nat.reduceAdd, Nat.reduceMul, Nat.reduceSub, false_or, or_false, true_or, or_true, false_and, and_false, reduceCtorEq, q_n0, q_n1, q_em, q_em2, q_b0, q_b1, Classical.not_not]
