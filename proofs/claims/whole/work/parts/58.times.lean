/-! the model's products; times -/
def Pm (A : Nat) (h h' : Hp) : Prop := FrS ms h h' ∧ ∀ a, a ≠ 101 → a ≠ A → gJ h' a = gJ h a
section PM
variable {h h' h'' : Hp} {A : Nat}
theorem Pm.trans (x : Pm A h h') (y : Pm A h' h'') : Pm A h h'' := ⟨x.1.trans y.1, fun a h1 h2 => (y.2 a h1 h2).trans (x.2 a h1 h2)⟩
theorem Am.pm (x : Am h h') : Pm A h h' := ⟨x.1, fun a h1 _ => x.2 a h1⟩
theorem Jm.pm (x : Jm A h h') : Pm A h h' := ⟨⟨⟨x.1.1, x.1.2.1, x.1.2.2.1⟩, fun a i _ => ⟨by rw [x.1.2.2.2.1], by rw [x.1.2.2.2.2]⟩⟩, fun a _ h2 => x.2 a h2⟩
theorem Pm.fr (x : Pm A h h') : Fr h h' := Am.fr (h := h) (h' := (hz h', hu h', hk h', gI h', gJ h, gP h')) ⟨x.1, fun _ _ => rfl⟩
theorem Pm.K (x : Pm A h h') : gI h' 103 = gI h 103 := x.fr.K
theorem NM_am {v : Nat} (hA : A ≠ 101) (x : Am h h') (z : NM h A v) : NM h' A v := by
  obtain ⟨f, h1, h2⟩ := z
  exact ⟨f, fun i hi => ⟨(h1 i hi).1, by rw [x.2 A hA]; exact (h1 i hi).2⟩, h2⟩
theorem NM_pm {C v : Nat} (hC : C ≠ 101) (hne : C ≠ A) (x : Pm A h h') (z : NM h C v) : NM h' C v := by
  obtain ⟨f, h1, h2⟩ := z
  exact ⟨f, fun i hi => ⟨(h1 i hi).1, by rw [x.2 C hC hne]; exact (h1 i hi).2⟩, h2⟩
theorem dv_one (B : Nat) : ∀ n, dv B (fun i => if i = 0 then 1 else 0) (n + 1) = 1
  | 0 => by show 0 + (if 0 = 0 then 1 else 0) * B ^ 0 = 1; simp
  | n + 1 => by
    show dv B (fun i => if i = 0 then 1 else 0) (n + 1) + (if n + 1 = 0 then 1 else 0) * B ^ (n + 1) = 1
    rw [dv_one B n, if_neg (by omega), Nat.zero_mul]
theorem ml207i (x : okA A) (v2 v3 v5 v6 : Value) : ∀ k i h0, i + k = 40 → Jm A h h0 → (∀ j, j < i → gJ h0 A j = lN (if j = 0 then 1 else 0)) → ∃ h', Jm A h h' ∧ NM h' A 1 ∧ ∀ d F, wp true d 207 3 [.ref 101, .ref A, v2, v3, .int (nI i), v5, v6] [] h0 F = wp true d 207 30 [.ref 101, .ref A, v2, v3, .int (nI 40), v5, v6] [] h' F
  | 0, i, h0, e, z, z1 => by
    obtain rfl : i = 40 := e
    refine ⟨h0, z, ⟨fun i => if i = 0 then 1 else 0, fun i hi => ⟨by show (if i = 0 then 1 else 0) < 100000000; split <;> omega, z1 i hi⟩, (dv_one _ 39).symm⟩, fun d F => ?_⟩
    rw [r207_3]
    simp (disch := omega) only [r207_5, r207_7, kdC, kdM, rpC, rpM, q_rs, q_rn, Option.toList_some, Option.toList_none, List.cons_append, List.nil_append, true_and, and_true, eq_self, ↓reduceIte, not_true_eq_false, not_false_eq_true, Nat.reduceEqDiff, Nat.reduceLeDiff, Nat.reduceLT, Nat.reduceAdd, Nat.reduceMul, Nat.reduceSub, false_or, or_false, true_or, or_true, false_and, and_false, reduceCtorEq, q_n0, q_n1, q_em, q_em2, q_b0, q_b1, Classical.not_not, nI_add, pk_mul, nI_clamp, q_vp, nI_eq, nI_leI, nI_ltI, q_sub, Nat.le_refl]
  | k + 1, i, h0, e, z, z1 => by
    have k1 := x.k
    obtain ⟨h', w1, w2, w3⟩ := ml207i x v2 v3 v5 v6 k (i + 1) (sJ h0 A i (lN (if i = 0 then 1 else 0))) (by omega) (z.sJ _ _) (by
      intro j hj
      by_cases e1 : j = i
      · subst e1; rw [q_js]
      · rw [q_jm e1]; exact z1 j (by omega))
    refine ⟨h', w1, w2, fun d F => ?_⟩
    rw [← w3, r207_3]
    by_cases e0 : i = 0
    · subst e0
      simp (disch := omega) only [r207_5, r207_7, r207_10, r207_10n, r207_11, r207_13, r207_15, r207_18, r207_19, r207_22, r207_23, r207_24, r207_27, k1, kdC, kdM, rpC, rpM, q_rs, q_rn, Option.toList_some, Option.toList_none, List.cons_append, List.nil_append, true_and, and_true, eq_self, ↓reduceIte, not_true_eq_false, not_false_eq_true, Nat.reduceEqDiff, Nat.reduceLeDiff, Nat.reduceLT, Nat.reduceAdd, Nat.reduceMul, Nat.reduceSub, false_or, or_false, true_or, or_true, false_and, and_false, reduceCtorEq, q_n0, q_n1, q_em, q_em2, q_b0, q_b1, Classical.not_not, nI_add, pk_mul, nI_clamp, q_vp, nI_eq, nI_leI, nI_ltI, q_sub]
    · simp (disch := omega) only [r207_5, r207_7, r207_10, r207_10n, r207_11, r207_13, r207_15, r207_18, r207_19, r207_22, r207_23, r207_24, r207_27, k1, kdC, kdM, rpC, rpM, q_rs, q_rn, Option.toList_some, Option.toList_none, List.cons_append, List.nil_append, true_and, and_true, eq_self, ↓reduceIte, not_true_eq_false, not_false_eq_true, Nat.reduceEqDiff, Nat.reduceLeDiff, Nat.reduceLT, Nat.reduceAdd, Nat.reduceMul, Nat.reduceSub, false_or, or_false, true_or, or_true, false_and, and_false, reduceCtorEq, q_n0, q_n1, q_em, q_em2, q_b0, q_b1, Classical.not_not, nI_add, pk_mul, nI_clamp, q_vp, nI_eq, nI_leI, nI_ltI, q_sub, e0, show ¬ 40 ≤ i by omega, show i < 40 by omega]
end PM
section PN
variable {h : Hp} {K : Nat → Int32} {T : Tk} {t A : Nat} {wh : Int32}
theorem ml207r (y : okA A) (hK : gI h 103 = K) (w : WF K) (ht : t < 10) (te : tEq K t T) {f : Nat} (hf : f < nf K) : ∀ k r v h0 (v6 : Value), r + k = nr K f → Pm A h h0 → NM h0 A v → v ≤ 100 ^ (6 * f + r) → ∃ h' w6, Pm A h h' ∧ NM h' A (q_lp (prR K T f) k r v) ∧ q_lp (prR K T f) k r v ≤ 100 ^ (6 * f + nr K f) ∧ ∀ d F, wp true (d + 69) 207 58 [.ref 101, .ref A, .int (nI t), .int wh, .int (nI f), .int (nI r), v6] [] h0 F = wp true (d + 69) 207 140 [.ref 101, .ref A, .int (nI t), .int wh, .int (nI f), .int (nI (nr K f)), w6] [] h' F
  | 0, r, v, h0, v6, e, x, hv, hb => by
    obtain rfl : r = nr K f := e
    have h1 := w.hnf
    have h2 := w.hnr hf
    have hK0 : gI h0 103 = K := x.K.trans hK
    refine ⟨h0, v6, x, hv, hb, fun d F => ?_⟩
    rw [r207_58]
    simp (disch := omega) only [r207_60, r207_61, r207_63, r207_64, r207_67, c155 _ h0 _ hK0 (show f < 24 by omega) (show 2 < 9 by omega), kdC, kdM, rpC, rpM, q_rs, q_rn, Option.toList_some, Option.toList_none, List.cons_append, List.nil_append, true_and, and_true, eq_self, ↓reduceIte, not_true_eq_false, not_false_eq_true, Nat.reduceEqDiff, Nat.reduceLeDiff, Nat.reduceLT, Nat.reduceAdd, Nat.reduceMul, Nat.reduceSub, false_or, or_false, true_or, or_true, false_and, and_false, reduceCtorEq, q_n0, q_n1, q_em, q_em2, q_b0, q_b1, Classical.not_not, nI_add, pk_mul, nI_clamp, q_vp, nI_eq, nI_leI, nI_ltI, q_sub, h2, Nat.le_refl]
  | k + 1, r, v, h0, v6, e, x, hv, hb => by
    have h1 := w.hnf
    have h2 := w.hnr hf
    have hK0 : gI h0 103 = K := x.K.trans hK
    have hf24 : f < 24 := by omega
    have hr6 : r < 6 := by omega
    have hA1 : A ≠ 101 := by unfold okA at y; omega
    have hpb := prR_bd (K := K) (T := T) (f := f) (r := r) hb
    have g2 := fun F d => c155 d h0 F hK0 hf24 (show 2 < 9 by omega)
    have g0 := fun F d => c155 d h0 F hK0 hf24 (show 0 < 9 by omega)
    have g1 := fun F d => c155 d h0 F hK0 hf24 (show 1 < 9 by omega)
    have gs := fun F d => c156 d h0 F hK0 hf24 hr6
    by_cases c : K (9 * f + (3 + r)) = -1
    · have hp : prR K T f r v = v := by unfold prR; rw [pif_t c]
      obtain ⟨h', w6, a1, a2, a3, a4⟩ := ml207r y hK w ht te hf k (r + 1) v h0 v6 (by omega) x hv (Nat.le_trans hb (Nat.pow_le_pow_right (by omega) (by omega)))
      show ∃ h' w6, Pm A h h' ∧ NM h' A (q_lp (prR K T f) k (r + 1) (prR K T f r v)) ∧ q_lp (prR K T f) k (r + 1) (prR K T f r v) ≤ _ ∧ _
      rw [hp]
      refine ⟨h', w6, a1, a2, a3, fun d F => ?_⟩
      refine Eq.trans ?_ (a4 d F)
      rw [r207_58]
      simp (disch := omega) only [r207_60, r207_61, r207_63, r207_64, r207_67, r207_70, r207_71, r207_73, r207_75, r207_78, r207_79, r207_82, r207_85, r207_86, r207_87, r207_88, r207_90, r207_91, r207_94, r207_95, r207_97, r207_98, r207_101, r207_103, r207_106, r207_108, r207_109, r207_109n, r207_110, r207_111, r207_113, r207_115, r207_118, r207_121, r207_123, r207_126, r207_128, r207_130, r207_131, r207_134, r207_137, g2, gs, kdC, kdM, rpC, rpM, q_rs, q_rn, Option.toList_some, Option.toList_none, List.cons_append, List.nil_append, true_and, and_true, eq_self, ↓reduceIte, not_true_eq_false, not_false_eq_true, Nat.reduceEqDiff, Nat.reduceLeDiff, Nat.reduceLT, Nat.reduceAdd, Nat.reduceMul, Nat.reduceSub, false_or, or_false, true_or, or_true, false_and, and_false, reduceCtorEq, q_n0, q_n1, q_em, q_em2, q_b0, q_b1, Classical.not_not, nI_add, pk_mul, nI_clamp, q_vp, nI_eq, nI_leI, nI_ltI, q_sub, h2, c, show ¬ nr K f ≤ r by omega]
    · have hp : prR K T f r v = fac K T f r * v := by unfold prR; rw [pif_f c]
      obtain ⟨j, j1, j2, j3, j4, j5, j6⟩ := fac_n K T f r
      obtain ⟨hA, x1, x2⟩ := m203 hK0 ht te (K (9 * f)) (K (9 * f + 1)) (nI r)
      have hKA : gI hA 103 = K := x1.fr.K.trans hK0
      have gsA := fun F d => c156 d hA F hKA hf24 hr6
      have hmb : fac K T f r * v < 10 ^ 310 := by
        have := p100 (e := 6 * f + r) (by omega)
        have h3 : fac K T f r * v ≤ 100 * 100 ^ (6 * f + r) := Nat.mul_le_mul (by omega) hb
        omega
      obtain ⟨hB, x3, x4, x5⟩ := m205 y (m := fac K T f r) ⟨j5, by omega⟩ (NM_am hA1 x1 hv) hmb
      have xB : Pm A h hB := (x.trans x1.pm).trans x4.pm
      rw [hp] at hpb
      obtain ⟨h', w6, a1, a2, a3, a4⟩ := ml207r y hK w ht te hf k (r + 1) (fac K T f r * v) hB (.int (nI j)) (by omega) xB x3 hpb
      show ∃ h' w6, Pm A h h' ∧ NM h' A (q_lp (prR K T f) k (r + 1) (prR K T f r v)) ∧ q_lp (prR K T f) k (r + 1) (prR K T f r v) ≤ _ ∧ _
      rw [hp]
      refine ⟨h', w6, a1, a2, a3, fun d F => ?_⟩
      have x2' := fun F => x2 d F
      rw [j3] at x2'
      refine Eq.trans ?_ (a4 d F)
      rw [r207_58]
      by_cases c2 : nI 0 < K (9 * f + (3 + r))
      · have hfj : fac K T f r = j := by rw [j4, pif_t c2]
        rw [hfj] at x5
        simp (disch := omega) only [r207_60, r207_61, r207_63, r207_64, r207_67, r207_70, r207_71, r207_73, r207_75, r207_78, r207_79, r207_82, r207_85, r207_86, r207_87, r207_88, r207_90, r207_91, r207_94, r207_95, r207_97, r207_98, r207_101, r207_103, r207_106, r207_108, r207_109, r207_109n, r207_110, r207_111, r207_113, r207_115, r207_118, r207_121, r207_123, r207_126, r207_128, r207_130, r207_131, r207_134, r207_137, g0, g1, g2, gs, gsA, x2', x5, kdC, kdM, rpC, rpM, q_rs, q_rn, Option.toList_some, Option.toList_none, List.cons_append, List.nil_append, true_and, and_true, eq_self, ↓reduceIte, not_true_eq_false, not_false_eq_true, Nat.reduceEqDiff, Nat.reduceLeDiff, Nat.reduceLT, Nat.reduceAdd, Nat.reduceMul, Nat.reduceSub, false_or, or_false, true_or, or_true, false_and, and_false, reduceCtorEq, q_n0, q_n1, q_em, q_em2, q_b0, q_b1, Classical.not_not, nI_add, pk_mul, nI_clamp, q_vp, nI_eq, nI_leI, nI_ltI, q_sub, h2, c, Int32.not_le.mpr c2, show ¬ nr K f ≤ r by omega, Nat.add_zero]
      · have hfj : fac K T f r = 100 - j := by rw [j4, pif_f c2]
        rw [hfj] at x5
        simp (disch := omega) only [r207_60, r207_61, r207_63, r207_64, r207_67, r207_70, r207_71, r207_73, r207_75, r207_78, r207_79, r207_82, r207_85, r207_86, r207_87, r207_88, r207_90, r207_91, r207_94, r207_95, r207_97, r207_98, r207_101, r207_103, r207_106, r207_108, r207_109, r207_109n, r207_110, r207_111, r207_113, r207_115, r207_118, r207_121, r207_123, r207_126, r207_128, r207_130, r207_131, r207_134, r207_137, g0, g1, g2, gs, gsA, x2', x5, kdC, kdM, rpC, rpM, q_rs, q_rn, Option.toList_some, Option.toList_none, List.cons_append, List.nil_append, true_and, and_true, eq_self, ↓reduceIte, not_true_eq_false, not_false_eq_true, Nat.reduceEqDiff, Nat.reduceLeDiff, Nat.reduceLT, Nat.reduceAdd, Nat.reduceMul, Nat.reduceSub, false_or, or_false, true_or, or_true, false_and, and_false, reduceCtorEq, q_n0, q_n1, q_em, q_em2, q_b0, q_b1, Classical.not_not, nI_add, pk_mul, nI_clamp, q_vp, nI_eq, nI_leI, nI_ltI, q_sub, h2, c, Int32.not_lt.mp c2, show ¬ nr K f ≤ r by omega, Nat.add_zero]
theorem ml207 (y : okA A) (hK : gI h 103 = K) (w : WF K) (ht : t < 10) (te : tEq K t T) (hw : wh = nI 0 ∨ wh = nI 1) : ∀ k f v h0 (v5 v6 : Value), f + k = nf K → Pm A h h0 → NM h0 A v → v ≤ 100 ^ (6 * f) → ∃ h', Pm A h h' ∧ NM h' A (q_lp (prF K T wh) k f v) ∧ ∀ d F, wp true (d + 69) 207 33 [.ref 101, .ref A, .int (nI t), .int wh, .int (nI f), v5, v6] [] h0 F = F none h'
  | 0, f, v, h0, v5, v6, e, x, hv, hb => by
    obtain rfl : f = nf K := e
    have h1 := w.hnf
    have hK0 : gI h0 103 = K := x.K.trans hK
    refine ⟨h0, x, hv, fun d F => ?_⟩
    rw [r207_33]
    simp (disch := omega) only [e207, r207_0, r207_1, r207_5, r207_7, r207_10, r207_10n, r207_11, r207_13, r207_15, r207_18, r207_19, r207_22, r207_23, r207_24, r207_27, r207_30, r207_31, r207_35, r207_36, r207_39, r207_42, r207_43, r207_45, r207_46, r207_49, r207_52, r207_55, r207_56, r207_60, r207_61, r207_63, r207_64, r207_67, r207_70, r207_71, r207_73, r207_75, r207_78, r207_79, r207_82, r207_85, r207_86, r207_87, r207_88, r207_90, r207_91, r207_94, r207_95, r207_97, r207_98, r207_101, r207_103, r207_106, r207_108, r207_109, r207_109n, r207_110, r207_111, r207_113, r207_115, r207_118, r207_121, r207_123, r207_126, r207_128, r207_130, r207_131, r207_134, r207_137, r207_140, r207_143, r207_146, c153 _ h0 _ hK0 w, kdC, kdM, rpC, rpM, q_rs, q_rn, Option.toList_some, Option.toList_none, List.cons_append, List.nil_append, true_and, and_true, eq_self, ↓reduceIte, not_true_eq_false, not_false_eq_true, Nat.reduceEqDiff, Nat.reduceLeDiff, Nat.reduceLT, Nat.reduceAdd, Nat.reduceMul, Nat.reduceSub, false_or, or_false, true_or, or_true, false_and, and_false, reduceCtorEq, q_n0, q_n1, q_em, q_em2, q_b0, q_b1, Classical.not_not, nI_add, pk_mul, nI_clamp, q_vp, nI_eq, nI_leI, nI_ltI, q_sub, Nat.le_refl]
  | k + 1, f, v, h0, v5, v6, e, x, hv, hb => by
    have h1 := w.hnf
    have hf : f < nf K := by omega
    have h2 := w.hnr hf
    have hK0 : gI h0 103 = K := x.K.trans hK
    show ∃ h', Pm A h h' ∧ NM h' A (q_lp (prF K T wh) k (f + 1) (prF K T wh f v)) ∧ _
    by_cases c : isOf K wh f
    · obtain ⟨h1', w6, b1, b2, b3, b4⟩ := ml207r (wh := wh) y hK w ht te hf (nr K f) 0 v h0 v6 (by omega) x hv (by rw [Nat.add_zero]; exact hb)
      have hp : prF K T wh f v = q_lp (prR K T f) (nr K f) 0 v := by unfold prF; rw [pif_t c]
      rw [hp]
      obtain ⟨h', a1, a2, a4⟩ := ml207 y hK w ht te hw k (f + 1) _ h1' (.int (nI (nr K f))) w6 (by omega) b1 b2 (Nat.le_trans b3 (Nat.pow_le_pow_right (by omega) (by omega)))
      refine ⟨h', a1, a2, fun d F => ?_⟩
      refine Eq.trans ?_ (a4 d F)
      rw [r207_33]
      simp (disch := omega) only [r207_35, r207_36, r207_39, r207_42, r207_43, r207_45, r207_46, r207_49, r207_52, r207_55, r207_56, c153 _ h0 _ hK0 w, m160 _ h0 _ hK0 w hf hw, kdC, kdM, rpC, rpM, q_rs, q_rn, Option.toList_some, Option.toList_none, List.cons_append, List.nil_append, true_and, and_true, eq_self, ↓reduceIte, not_true_eq_false, not_false_eq_true, Nat.reduceEqDiff, Nat.reduceLeDiff, Nat.reduceLT, Nat.reduceAdd, Nat.reduceMul, Nat.reduceSub, false_or, or_false, true_or, or_true, false_and, and_false, reduceCtorEq, q_n0, q_n1, q_em, q_em2, q_b0, q_b1, Classical.not_not, nI_add, pk_mul, nI_clamp, q_vp, nI_eq, nI_leI, nI_ltI, q_sub, c, show ¬ nf K ≤ f by omega]
      refine Eq.trans (b4 d F) ?_
      simp (disch := omega) only [r207_140, r207_143, nI_add, pk_mul, nI_clamp, q_vp, nI_eq, nI_leI, nI_ltI, q_sub]
    · have hp : prF K T wh f v = v := by unfold prF; rw [pif_f c]
      rw [hp]
      obtain ⟨h', a1, a2, a4⟩ := ml207 y hK w ht te hw k (f + 1) v h0 v5 v6 (by omega) x hv (Nat.le_trans hb (Nat.pow_le_pow_right (by omega) (by omega)))
      refine ⟨h', a1, a2, fun d F => ?_⟩
      refine Eq.trans ?_ (a4 d F)
      rw [r207_33]
      simp (disch := omega) only [r207_35, r207_36, r207_39, r207_42, r207_43, r207_45, r207_46, r207_49, r207_52, r207_140, r207_143, c153 _ h0 _ hK0 w, m160 _ h0 _ hK0 w hf hw, kdC, kdM, rpC, rpM, q_rs, q_rn, Option.toList_some, Option.toList_none, List.cons_append, List.nil_append, true_and, and_true, eq_self, ↓reduceIte, not_true_eq_false, not_false_eq_true, Nat.reduceEqDiff, Nat.reduceLeDiff, Nat.reduceLT, Nat.reduceAdd, Nat.reduceMul, Nat.reduceSub, false_or, or_false, true_or, or_true, false_and, and_false, reduceCtorEq, q_n0, q_n1, q_em, q_em2, q_b0, q_b1, Classical.not_not, nI_add, pk_mul, nI_clamp, q_vp, nI_eq, nI_leI, nI_ltI, q_sub, c, show ¬ nf K ≤ f by omega]
theorem m207 (y : okA A) (hK : gI h 103 = K) (w : WF K) (ht : t < 10) (te : tEq K t T) (hw : wh = nI 0 ∨ wh = nI 1) : ∃ h', Pm A h h' ∧ NM h' A (prd K T wh) ∧ ∀ d F, cwp true (d + 69) 207 [.ref 101, .ref A, .int (nI t), .int wh] h F = F none h' := by
  obtain ⟨h1, x1, x2, x3⟩ := ml207i y (.int (nI t)) (.int wh) jn jn 40 0 h (by omega) (Jm.refl h) (fun j hj => by omega)
  obtain ⟨h', a1, a2, a4⟩ := ml207 (wh := wh) y hK w ht te hw (nf K) 0 1 h1 jn jn (by omega) x1.pm x2 (by decide)
  refine ⟨h', a1, a2, fun d F => ?_⟩
  refine Eq.trans ?_ (a4 d F)
  simp (disch := omega) only [r207_0, r207_1, e207]
  refine Eq.trans (x3 _ F) ?_
  simp (disch := omega) only [r207_30, r207_31]
end PN
