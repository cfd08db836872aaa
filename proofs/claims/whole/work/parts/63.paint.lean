/-! the model's pictures; picture -/
def MP (K : Nat → Int32) (T : Tk) (h : Hp) (z : PiS) : Prop := gI h 101 29 = nI z.2 ∧ (∀ i, i < z.2 → gI h 117 i = z.1 i) ∧ ∀ i, i < z.2 → gJ h 118 (z.1 i).toNatClampNeg = (kfV K T (z.1 i).toNatClampNeg).toInt64
theorem i64_leq (u v : Int32) : (u.toInt64 ≤ v.toInt64) = (u ≤ v) := by
  apply propext
  rw [Int64.le_iff_toInt_le, Int32.le_iff_toInt_le, Int32.toInt_toInt64, Int32.toInt_toInt64]
section PA
variable {K : Nat → Int32} {T : Tk}
theorem ml226i (h : Hp) {f s : Nat} (v1 v2 : Value) (hs : s < 24) (hf : f < 24) (h29 : gI h 101 29 = nI s) (hkf : gJ h 118 f = (kfV K T f).toInt64) : ∀ a O, a ≤ s → (∀ i, i < a → ∃ j, j < 24 ∧ O i = nI j ∧ gJ h 118 j = (kfV K T j).toInt64) → ∃ w4, ∀ d F, wp true d 226 71 [.ref 101, v1, v2, .int (nI f), .int (nI a)] [] (sA h 117 O) F = wp true d 226 140 [.ref 101, v1, v2, .int (nI f), w4] [] (sI (sA h 117 (tin (kfV K T) f a O)) 101 29 (nI (s + 1))) F
  | 0, O, ha, hO => by
    have g29 : ∀ O, gI (sA h 117 O) 101 29 = nI s := fun O => by rw [q_gan (by omega)]; exact h29
    refine ⟨.int (nI 0), fun d F => ?_⟩
    rw [r226_71]
    simp (disch := omega) only [r226_73, r226_76, r226_77, r226_80, r226_81, r226_84, r226_86, r226_87, r226_88, r226_89, r226_90, r226_91, r226_94, r226_95, r226_96, r226_97, r226_100, r226_101, r226_104, r226_106, r226_107, r226_110, r226_112, r226_113, r226_114, r226_115, r226_116, r226_119, r226_122, r226_123, r226_126, r226_128, r226_129, r226_130, r226_131, r226_132, r226_135, r226_136, r226_137, kdC, kdM, rpC, rpM, q_rs, q_rn, Option.toList_some, Option.toList_none, List.cons_append, List.nil_append, true_and, and_true, eq_self, ↓reduceIte, not_true_eq_false, not_false_eq_true, Nat.reduceEqDiff, Nat.reduceLeDiff, Nat.reduceLT, Nat.reduceAdd, Nat.reduceMul, Nat.reduceSub, false_or, or_false, true_or, or_true, false_and, and_false, reduceCtorEq, q_n0, q_n1, q_em, q_em2, q_b0, q_b1, Classical.not_not, nI_add, pk_mul, nI_clamp, q_vp, nI_eq, nI_leI, nI_ltI, q_sub, q_sIs, g29, Nat.le_refl, tin]
  | a + 1, O, ha, hO => by
    have g29 : ∀ O, gI (sA h 117 O) 101 29 = nI s := fun O => by rw [q_gan (by omega)]; exact h29
    have g117 : ∀ O, gI (sA h 117 O) 117 = O := fun O => q_ga _ _ _
    have gJ118 : ∀ O, gJ (sA h 117 O) = gJ h := fun O => rfl
    obtain ⟨j, hj, ej, kj⟩ := hO a (by omega)
    have hcl : (O a).toNatClampNeg = j := by rw [ej, nI_clamp (by omega)]
    by_cases c : kfV K T f < kfV K T j
    · have ht : tin (kfV K T) f (a + 1) O = tin (kfV K T) f a (upd O (a + 1) (O a)) := pif_t (by rw [hcl]; exact c)
      rw [ht]
      obtain ⟨w4, ih⟩ := ml226i h v1 v2 hs hf h29 hkf a (upd O (a + 1) (O a)) (by omega) (fun i hi => by obtain ⟨j', h1, h2, h3⟩ := hO i (by omega); exact ⟨j', h1, by rw [pk_un (by omega)]; exact h2, h3⟩)
      refine ⟨w4, fun d F => ?_⟩
      refine Eq.trans ?_ (ih d F)
      rw [ej, r226_71]
      simp (disch := omega) only [r226_73, r226_76, r226_77, r226_80, r226_81, r226_84, r226_86, r226_87, r226_88, r226_89, r226_90, r226_91, r226_94, r226_95, r226_96, r226_97, r226_100, r226_101, r226_104, r226_106, r226_107, r226_110, r226_112, r226_113, r226_114, r226_115, r226_116, r226_119, kdC, kdM, rpC, rpM, q_rs, q_rn, Option.toList_some, Option.toList_none, List.cons_append, List.nil_append, true_and, and_true, eq_self, ↓reduceIte, not_true_eq_false, not_false_eq_true, Nat.reduceEqDiff, Nat.reduceLeDiff, Nat.reduceLT, Nat.reduceAdd, Nat.reduceMul, Nat.reduceSub, false_or, or_false, true_or, or_true, false_and, and_false, reduceCtorEq, q_n0, q_n1, q_em, q_em2, q_b0, q_b1, Classical.not_not, nI_add, pk_mul, nI_clamp, q_vp, nI_eq, nI_leI, nI_ltI, q_sub, q_sIs, g117, gJ118, ej, kj, hkf, hj, hf, l_le, i64_leq, pk_m1, Nat.add_sub_cancel, Int32.not_le.mpr c, show ¬ a + 1 ≤ 0 by omega, show a < 24 by omega, show a + 1 < 24 by omega]
    · have ht : tin (kfV K T) f (a + 1) O = upd O (a + 1) (nI f) := pif_f (by rw [hcl]; exact c)
      rw [ht]
      refine ⟨.int (nI (a + 1)), fun d F => ?_⟩
      rw [r226_71]
      simp (disch := omega) only [r226_73, r226_76, r226_77, r226_80, r226_81, r226_84, r226_86, r226_87, r226_88, r226_89, r226_90, r226_91, r226_94, r226_95, r226_96, r226_97, r226_100, r226_101, r226_104, r226_106, r226_107, r226_110, r226_112, r226_113, r226_114, r226_115, r226_116, r226_119, r226_122, r226_123, r226_126, r226_128, r226_129, r226_130, r226_131, r226_132, r226_135, r226_136, r226_137, kdC, kdM, rpC, rpM, q_rs, q_rn, Option.toList_some, Option.toList_none, List.cons_append, List.nil_append, true_and, and_true, eq_self, ↓reduceIte, not_true_eq_false, not_false_eq_true, Nat.reduceEqDiff, Nat.reduceLeDiff, Nat.reduceLT, Nat.reduceAdd, Nat.reduceMul, Nat.reduceSub, false_or, or_false, true_or, or_true, false_and, and_false, reduceCtorEq, q_n0, q_n1, q_em, q_em2, q_b0, q_b1, Classical.not_not, nI_add, pk_mul, nI_clamp, q_vp, nI_eq, nI_leI, nI_ltI, q_sub, q_sIs, g29, g117, gJ118, ej, kj, hkf, hj, hf, l_le, i64_leq, Nat.add_sub_cancel, Int32.not_lt.mp c, show ¬ a + 1 ≤ 0 by omega, show a < 24 by omega, show a + 1 < 24 by omega]
variable {h : Hp} {t : Nat} {wh : Int32}
theorem isOf_m (w : WF K) (hw : wh = nI 0 ∨ wh = nI 1) {f : Nat} (hf : f < nf K) (c : isOf K wh f) : mws K f = wst K f := by
  have h1 := wst_rg w hf
  have h2 : ¬ wst K f < nI 0 := by
    unfold rg at h1
    unfold isOf at c
    rcases hw with rfl | rfl
    · rw [if_pos rfl, ← Int32.toInt_inj, q_m1] at c
      rw [Int32.lt_iff_toInt_lt, q_z0]; omega
    · rw [if_neg q_01, Int32.lt_iff_toInt_lt, q_z0] at c
      rw [Int32.lt_iff_toInt_lt, q_z0]; omega
  rw [mws_eq w hf, if_neg h2]
theorem ml226 (hK : gI h 103 = K) (w : WF K) (ht : t < 10) (te : tEq K t T) (hw : wh = nI 0 ∨ wh = nI 1) : ∀ k f p h0 (v4 : Value), f + k = nf K → Fr h h0 → MP K T h0 p → okP f p → ∃ h', Fr h h' ∧ MP K T h' (q_lp (pic1 K T wh) k f p) ∧ ∀ d F, wp true (d + 69) 226 7 [.ref 101, .int (nI t), .int wh, .int (nI f), v4] [] h0 F = F none h'
  | 0, f, p, h0, v4, e, x, mp, ok => by
    obtain rfl : f = nf K := e
    have h1 := w.hnf
    have hK0 : gI h0 103 = K := x.K.trans hK
    refine ⟨h0, x, mp, fun d F => ?_⟩
    rw [r226_7]
    simp (disch := omega) only [e226, r226_0, r226_1, r226_2, r226_5, r226_6, r226_8, r226_9, r226_12, r226_15, r226_16, r226_17, r226_18, r226_21, r226_24, r226_27, r226_28, r226_29, r226_30, r226_31, r226_34, r226_35, r226_36, r226_37, r226_40, r226_41, r226_42, r226_43, r226_46, r226_49, r226_50, r226_51, r226_52, r226_55, r226_56, r226_59, r226_60, r226_61, r226_64, r226_65, r226_66, r226_69, r226_73, r226_76, r226_77, r226_80, r226_81, r226_84, r226_86, r226_87, r226_88, r226_89, r226_90, r226_91, r226_94, r226_95, r226_96, r226_97, r226_100, r226_101, r226_104, r226_106, r226_107, r226_110, r226_112, r226_113, r226_114, r226_115, r226_116, r226_119, r226_122, r226_123, r226_126, r226_128, r226_129, r226_130, r226_131, r226_132, r226_135, r226_136, r226_137, r226_140, r226_143, r226_146, c153 _ h0 _ hK0 w, kdC, kdM, rpC, rpM, q_rs, q_rn, Option.toList_some, Option.toList_none, List.cons_append, List.nil_append, true_and, and_true, eq_self, ↓reduceIte, not_true_eq_false, not_false_eq_true, Nat.reduceEqDiff, Nat.reduceLeDiff, Nat.reduceLT, Nat.reduceAdd, Nat.reduceMul, Nat.reduceSub, false_or, or_false, true_or, or_true, false_and, and_false, reduceCtorEq, q_n0, q_n1, q_em, q_em2, q_b0, q_b1, Classical.not_not, nI_add, pk_mul, nI_clamp, q_vp, nI_eq, nI_leI, nI_ltI, q_sub, Nat.le_refl]
  | k + 1, f, p, h0, v4, e, x, mp, ok => by
    have h1 := w.hnf
    have hf : f < nf K := by omega
    have hf24 : f < 24 := by omega
    have hK0 : gI h0 103 = K := x.K.trans hK
    have hok := ok.1
    rw [show q_lp (pic1 K T wh) (k + 1) f p = q_lp (pic1 K T wh) k (f + 1) (pic1 K T wh f p) from rfl]
    by_cases c : isOf K wh f
    · have hp : pic1 K T wh f p = (tin (kfV K T) f p.2 p.1, p.2 + 1) := by unfold pic1; rw [pif_t c]
      have hmw := isOf_m w hw hf c
      have hm := tEq_m te (hd := 2) (by omega) (env_m h0 (K (9 * f)) (K (9 * f + 1)) (nI 0) (wst K f))
      have hA := env_a h0 (K (9 * f)) (K (9 * f + 1)) (nI 0) (wst K f)
      have h201 := fun F d => m201 d h0 F (K (9 * f)) (K (9 * f + 1)) (nI 0) (wst K f)
      generalize sI (sI (sI (sI (sA h0 112 (clF (gI h0 112) 12)) 112 0 (K (9 * f))) 112 1 (K (9 * f + 1))) 112 2 (nI 0)) 112 3 (wst K f) = h2 at *
      have hK2 : gI h2 103 = K := hA.fr.K.trans hK0
      obtain ⟨h3, x1, x2, x3, x4, x5⟩ := m200 hK2 ht te.1 (hd := 2) (by omega) hm
      have hA3 : Am h0 h3 := hA.trans x1
      have hkf : gJ h3 101 21 = (kfV K T f).toInt64 := by
        rw [x3]
        unfold kfV
        cases tv T 2 (envF (K (9 * f)) (K (9 * f + 1)) (nI 0) (wst K f)) with
        | none => exact (nI_l (by omega)).symm
        | some y => rfl
      obtain ⟨m1, m2, m3⟩ := mp
      have g29 : gI (sJ h3 118 f (kfV K T f).toInt64) 101 29 = nI p.2 := by
        rw [q_gIJ]
        have : gI h3 101 29 = gI h0 101 29 := hA3.1.g (a := 101) (i := 29) rfl
        rw [this]; exact m1
      have g118 : ∀ j, j < 24 → (j = f ∨ ∃ i, i < p.2 ∧ p.1 i = nI j) → gJ (sJ h3 118 f (kfV K T f).toInt64) 118 j = (kfV K T j).toInt64 := by
        intro j hj hc
        by_cases e1 : j = f
        · subst e1; rw [q_js]
        · rw [q_jm e1, hA3.2 118 (by omega)]
          rcases hc with hc | ⟨i, hi, ei⟩
          · exact absurd hc e1
          · have := m3 i hi
            rw [ei, nI_clamp (by omega)] at this
            exact this
      have g117 : ∀ i, i < p.2 → gI (sJ h3 118 f (kfV K T f).toInt64) 117 i = p.1 i := fun i hi => by
        rw [q_gIJ, hA3.n (by omega) (by omega)]; exact m2 i hi
      obtain ⟨w4, hl⟩ := ml226i (K := K) (T := T) (sJ h3 118 f (kfV K T f).toInt64) (.int (nI t)) (.int wh) (show p.2 < 24 by omega) hf24 g29 (g118 f hf24 (Or.inl rfl)) p.2 (gI (sJ h3 118 f (kfV K T f).toInt64) 117) (Nat.le_refl _) (fun i hi => by
        obtain ⟨j, j1, j2⟩ := ok.2 i hi
        exact ⟨j, by omega, by rw [g117 i hi]; exact j2, g118 j (by omega) (Or.inr ⟨i, hi, j2⟩)⟩)
      rw [q_sAs] at hl
      have hcg := tin_cg (kfV K T) f p.2 (gI (sJ h3 118 f (kfV K T f).toInt64) 117) p.1 g117
      have hF5 : Fr h (sI (sA (sJ h3 118 f (kfV K T f).toInt64) 117 (tin (kfV K T) f p.2 (gI (sJ h3 118 f (kfV K T f).toInt64) 117))) 101 29 (nI (p.2 + 1))) := (((x.trans hA3.fr).sJ _).sA _ (fun _ => rfl)).sI _ rfl
      have hok2 := tin_ok (mi := kfV K T) (x := f) (n := f + 1) (s := p.2) (O := p.1) (by omega) (fun i hi => by obtain ⟨j, h1, h2⟩ := ok.2 i hi; exact ⟨j, by omega, h2⟩)
      have hMP : MP K T (sI (sA (sJ h3 118 f (kfV K T f).toInt64) 117 (tin (kfV K T) f p.2 (gI (sJ h3 118 f (kfV K T f).toInt64) 117))) 101 29 (nI (p.2 + 1))) (tin (kfV K T) f p.2 p.1, p.2 + 1) := by
        refine ⟨q_gs _ _ _ _, fun i hi => ?_, fun i hi => ?_⟩
        · rw [q_gn (by omega), q_ga]
          exact hcg i (by have : i < p.2 + 1 := hi; omega)
        · show gJ (sJ h3 118 f (kfV K T f).toInt64) 118 (tin (kfV K T) f p.2 p.1 i).toNatClampNeg = (kfV K T (tin (kfV K T) f p.2 p.1 i).toNatClampNeg).toInt64
          have hi' : i < p.2 + 1 := hi
          obtain ⟨q0, r0, r1, r2, r3, r4, r5, r6⟩ := tin_sp (kfV K T) f p.2 p.1
          by_cases c1 : i < q0
          · obtain ⟨j, j1, j2⟩ := ok.2 i (by omega)
            rw [r1 i c1, j2, nI_clamp (by omega)]
            exact g118 j (by omega) (Or.inr ⟨i, by omega, j2⟩)
          · by_cases c2 : i = q0
            · rw [c2, r2, nI_clamp (by omega)]
              exact g118 f hf24 (Or.inl rfl)
            · obtain ⟨k', rfl⟩ : ∃ k', i = k' + 1 := ⟨i - 1, by omega⟩
              obtain ⟨j, j1, j2⟩ := ok.2 k' (by omega)
              rw [r3 k' (by omega) (by omega), j2, nI_clamp (by omega)]
              exact g118 j (by omega) (Or.inr ⟨k', by omega, j2⟩)
      have x5' := x5
      have e29 : gI (sJ h3 118 f (kfV K T f).toInt64) 101 29 = nI p.2 := g29
      obtain ⟨h', g1, g2, g4⟩ := ml226 hK w ht te hw k (f + 1) (pic1 K T wh f p) _ w4 (by omega) hF5 (by rw [hp]; exact hMP) (pic1_ok ok)
      refine ⟨h', g1, g2, fun d F => ?_⟩
      have x5d := fun F => x5 (d + 1) F
      have hl' := hl (d + 69) F
      refine Eq.trans ?_ (g4 d F)
      rw [r226_7]
      simp (disch := omega) only [r226_8, r226_9, r226_12, r226_15, r226_16, r226_17, r226_18, r226_21, r226_24, r226_27, r226_28, r226_29, r226_30, r226_31, r226_34, r226_35, r226_36, r226_37, r226_40, r226_41, r226_42, r226_43, r226_46, r226_49, r226_50, r226_51, r226_52, r226_55, r226_56, r226_59, r226_60, r226_61, r226_64, r226_65, r226_66, r226_69, c153 _ h0 _ hK0 w, m160 _ h0 _ hK0 w hf hw, m157 _ h0 _ hK0 w hf, c155 _ h0 _ hK0 hf24 (show 0 < 9 by omega), c155 _ h0 _ hK0 hf24 (show 1 < 9 by omega), hmw, h201, x5d, hkf, e29, hf24, kdC, kdM, rpC, rpM, q_rs, q_rn, Option.toList_some, Option.toList_none, List.cons_append, List.nil_append, true_and, and_true, eq_self, ↓reduceIte, not_true_eq_false, not_false_eq_true, Nat.reduceEqDiff, Nat.reduceLeDiff, Nat.reduceLT, Nat.reduceAdd, Nat.reduceMul, Nat.reduceSub, false_or, or_false, true_or, or_true, false_and, and_false, reduceCtorEq, q_n0, q_n1, q_em, q_em2, q_b0, q_b1, Classical.not_not, nI_add, pk_mul, nI_clamp, q_vp, nI_eq, nI_leI, nI_ltI, q_sub, c, Nat.add_zero, show ¬ nf K ≤ f by omega]
      refine Eq.trans hl' ?_
      simp (disch := omega) only [r226_140, r226_143, nI_add, pk_mul, nI_clamp, q_vp, nI_eq, nI_leI, nI_ltI, q_sub]
    · have hp : pic1 K T wh f p = p := by unfold pic1; rw [pif_f c]
      obtain ⟨h', g1, g2, g4⟩ := ml226 hK w ht te hw k (f + 1) (pic1 K T wh f p) h0 v4 (by omega) x (by rw [hp]; exact mp) (pic1_ok ok)
      refine ⟨h', g1, g2, fun d F => ?_⟩
      refine Eq.trans ?_ (g4 d F)
      rw [r226_7]
      simp (disch := omega) only [r226_8, r226_9, r226_12, r226_15, r226_16, r226_17, r226_18, r226_21, r226_24, r226_140, r226_143, c153 _ h0 _ hK0 w, m160 _ h0 _ hK0 w hf hw, kdC, kdM, rpC, rpM, q_rs, q_rn, Option.toList_some, Option.toList_none, List.cons_append, List.nil_append, true_and, and_true, eq_self, ↓reduceIte, not_true_eq_false, not_false_eq_true, Nat.reduceEqDiff, Nat.reduceLeDiff, Nat.reduceLT, Nat.reduceAdd, Nat.reduceMul, Nat.reduceSub, false_or, or_false, true_or, or_true, false_and, and_false, reduceCtorEq, q_n0, q_n1, q_em, q_em2, q_b0, q_b1, Classical.not_not, nI_add, pk_mul, nI_clamp, q_vp, nI_eq, nI_leI, nI_ltI, q_sub, c, show ¬ nf K ≤ f by omega]
end PA
section PB
variable {h : Hp} {K : Nat → Int32} {T : Tk} {t : Nat} {wh : Int32}
theorem m226 (hK : gI h 103 = K) (w : WF K) (ht : t < 10) (te : tEq K t T) (hw : wh = nI 0 ∨ wh = nI 1) : ∃ h', Fr h h' ∧ MP K T h' (pic K T wh) ∧ ∀ d F, cwp true (d + 69) 226 [.ref 101, .int (nI t), .int wh] h F = F none h' := by
  obtain ⟨h', g1, g2, g4⟩ := ml226 (T := T) hK w ht te hw (nf K) 0 (fun _ => nI 0, 0) (sI h 101 29 (nI 0)) jn (by omega) ((Fr.refl h).sI _ rfl) ⟨q_gs _ _ _ _, fun i hi => (by cases hi), fun i hi => (by cases hi)⟩ ⟨Nat.le_refl _, fun i hi => (by cases hi)⟩
  refine ⟨h', g1, g2, fun d F => ?_⟩
  refine Eq.trans ?_ (g4 d F)
  simp (disch := omega) only [r226_0, r226_1, r226_2, r226_5, r226_6, e226, kdC, kdM, rpC, rpM, q_rs, q_rn, Option.toList_some, Option.toList_none, List.cons_append, List.nil_append, true_and, and_true, eq_self, ↓reduceIte, not_true_eq_false, not_false_eq_true, Nat.reduceEqDiff, Nat.reduceLeDiff, Nat.reduceLT, Nat.reduceAdd, Nat.reduceMul, Nat.reduceSub, false_or, or_false, true_or, or_true, false_and, and_false, reduceCtorEq, q_n0, q_n1, q_em, q_em2, q_b0, q_b1, Classical.not_not]
theorem pic_ok (K : Nat → Int32) (T : Tk) (wh : Int32) : okP (nf K) (pic K T wh) := q_inv (J := fun f z => okP f z) (fun f z _ hz => pic1_ok hz) ⟨Nat.le_refl _, fun i hi => (by cases hi)⟩
end PB
theorem p_picture {n : Nat} {h : Hp} (z : Inv n h) (a b c : Int32) : PRI n h 108 227 [.int a, .int b, .int c] := by
  intro d
  have w := z.1.1
  have q := z.1.2.1
  have hn := w.hnx
  have hnf := w.hnf
  by_cases hA : nI 0 ≤ a ∧ a < nI (nx (gI h 103))
  · obtain ⟨t, ht, rfl⟩ := q_ix (by omega) hA.1 hA.2
    obtain ⟨s, T, y1, y2, y3⟩ := z.1.2.2.1 t ht
    have h60 := fun F d => c60 h w q ht y1 d F
    by_cases hB : b = nI 0 ∨ b = nI 1
    · obtain ⟨h1, x1, x2, x3, x4⟩ := c33 z.1 y3 y2 b
      have hK := x1.K
      obtain ⟨h2, u1, u2, u4⟩ := m226 (T := T) hK w (show t < 10 by omega) y3 hB
      have ok := pic_ok (gI h 103) T b
      have x4' := fun F => x4 (d + 895) F
      have u4' := fun F => u4 (d + 830) F
      generalize pic (gI h 103) T b = p at *
      have hp := ok.1
      by_cases hC : nI 0 ≤ c ∧ c < nI p.2
      · obtain ⟨j, hj, rfl⟩ := q_ix (by omega) hC.1 hC.2
        have e1 := x2.2.1 j hj
        have e2 := u2.2.1 j hj
        refine ⟨p.1 j, h1, h2, fun F => ?_, fun F => ?_, Inv_fr (x1.trans u1) z⟩
        · simp (disch := omega) only [e108, r108_0, r108_1, r108_4, r108_5, r108_8, r108_8n, r108_10, r108_10n, r108_12, r108_12n, r108_15, r108_16, r108_19, r108_22, r108_23, r108_24, r108_25, r108_28, r108_28n, r108_30, r108_31, r108_34, r108_35, r108_36, r108_37, r108_40, r108_43, r108_44, r108_45, r108_48, r108_51, r108_52, r108_55, r108_58, r108_59, r108_60, r108_63, r108_64, h60, c126, hB, x4', c125, x2.1, e1, kdC, kdM, rpC, rpM, q_rs, q_rn, Option.toList_some, Option.toList_none, List.cons_append, List.nil_append, true_and, and_true, eq_self, ↓reduceIte, not_true_eq_false, not_false_eq_true, Nat.reduceEqDiff, Nat.reduceLeDiff, Nat.reduceLT, Nat.reduceAdd, Nat.reduceMul, Nat.reduceSub, false_or, or_false, true_or, or_true, false_and, and_false, reduceCtorEq, q_n0, q_n1, q_em, q_em2, q_b0, q_b1, Classical.not_not, nI_add, pk_mul, nI_clamp, q_vp, nI_eq, nI_leI, nI_ltI, q_sub, Nat.zero_le, show j ≤ p.2 - 1 by omega, show j < 24 by omega]
        · simp (disch := omega) only [e227, r227_0, r227_1, r227_2, r227_5, r227_8, r227_9, r227_12, r227_15, r227_16, r227_17, r227_18, r227_19, r227_20, r227_23, r227_24, r227_25, r227_26, r227_29, r227_30, r227_31, r227_34, r227_37, r227_38, r227_41, r227_42, r227_43, r227_46, r227_47, c150 _ _ _ hK w, c152, hA, hB, u4', c143, u2.1, e2, kdC, kdM, rpC, rpM, q_rs, q_rn, Option.toList_some, Option.toList_none, List.cons_append, List.nil_append, true_and, and_true, eq_self, ↓reduceIte, not_true_eq_false, not_false_eq_true, Nat.reduceEqDiff, Nat.reduceLeDiff, Nat.reduceLT, Nat.reduceAdd, Nat.reduceMul, Nat.reduceSub, false_or, or_false, true_or, or_true, false_and, and_false, reduceCtorEq, q_n0, q_n1, q_em, q_em2, q_b0, q_b1, Classical.not_not, nI_add, pk_mul, nI_clamp, q_vp, nI_eq, nI_leI, nI_ltI, q_sub, Nat.zero_le, show j ≤ p.2 - 1 by omega, show j < 24 by omega]
      · refine ⟨-1, h1, h2, fun F => ?_, fun F => ?_, Inv_fr (x1.trans u1) z⟩
        · simp (disch := omega) only [e108, r108_0, r108_1, r108_4, r108_5, r108_8, r108_8n, r108_10, r108_10n, r108_12, r108_12n, r108_15, r108_16, r108_19, r108_22, r108_23, r108_24, r108_25, r108_28, r108_28n, r108_30, r108_31, r108_34, r108_35, r108_36, r108_37, r108_40, r108_43, r108_44, r108_45, r108_48, r108_51, r108_52, r108_55, r108_58, r108_59, r108_60, r108_63, r108_64, h60, c126, hB, x4', c125, x2.1, kdC, kdM, rpC, rpM, q_rs, q_rn, Option.toList_some, Option.toList_none, List.cons_append, List.nil_append, true_and, and_true, eq_self, ↓reduceIte, not_true_eq_false, not_false_eq_true, Nat.reduceEqDiff, Nat.reduceLeDiff, Nat.reduceLT, Nat.reduceAdd, Nat.reduceMul, Nat.reduceSub, false_or, or_false, true_or, or_true, false_and, and_false, reduceCtorEq, q_n0, q_n1, q_em, q_em2, q_b0, q_b1, Classical.not_not, q_lep, hC]
        · simp (disch := omega) only [e227, r227_0, r227_1, r227_2, r227_5, r227_8, r227_9, r227_12, r227_15, r227_16, r227_17, r227_18, r227_19, r227_20, r227_23, r227_24, r227_25, r227_26, r227_29, r227_30, r227_31, r227_34, r227_37, r227_38, r227_41, r227_42, r227_43, r227_46, r227_47, c150 _ _ _ hK w, c152, hA, hB, u4', c143, u2.1, kdC, kdM, rpC, rpM, q_rs, q_rn, Option.toList_some, Option.toList_none, List.cons_append, List.nil_append, true_and, and_true, eq_self, ↓reduceIte, not_true_eq_false, not_false_eq_true, Nat.reduceEqDiff, Nat.reduceLeDiff, Nat.reduceLT, Nat.reduceAdd, Nat.reduceMul, Nat.reduceSub, false_or, or_false, true_or, or_true, false_and, and_false, reduceCtorEq, q_n0, q_n1, q_em, q_em2, q_b0, q_b1, Classical.not_not, q_lep, hC]
    · refine ⟨-1, h, h, fun F => ?_, fun F => ?_, Inv_fr (Fr.refl h) z⟩
      · simp (disch := omega) only [e108, r108_0, r108_1, r108_4, r108_5, r108_8, r108_8n, r108_10, r108_10n, r108_12, r108_12n, r108_15, r108_16, r108_19, r108_22, r108_23, r108_24, r108_25, r108_28, r108_28n, r108_30, r108_31, r108_34, r108_35, r108_36, r108_37, r108_40, r108_43, r108_44, r108_45, r108_48, r108_51, r108_52, r108_55, r108_58, r108_59, r108_60, r108_63, r108_64, h60, c126, hB, kdC, kdM, rpC, rpM, q_rs, q_rn, Option.toList_some, Option.toList_none, List.cons_append, List.nil_append, true_and, and_true, eq_self, ↓reduceIte, not_true_eq_false, not_false_eq_true, Nat.reduceEqDiff, Nat.reduceLeDiff, Nat.reduceLT, Nat.reduceAdd, Nat.reduceMul, Nat.reduceSub, false_or, or_false, true_or, or_true, false_and, and_false, reduceCtorEq, q_n0, q_n1, q_em, q_em2, q_b0, q_b1, Classical.not_not]
      · simp (disch := omega) only [e227, r227_0, r227_1, r227_2, r227_5, r227_8, r227_9, r227_12, r227_15, r227_16, r227_17, r227_18, r227_19, r227_20, r227_23, r227_24, r227_25, r227_26, r227_29, r227_30, r227_31, r227_34, r227_37, r227_38, r227_41, r227_42, r227_43, r227_46, r227_47, c150 _ _ _ rfl w, c152, hA, hB, kdC, kdM, rpC, rpM, q_rs, q_rn, Option.toList_some, Option.toList_none, List.cons_append, List.nil_append, true_and, and_true, eq_self, ↓reduceIte, not_true_eq_false, not_false_eq_true, Nat.reduceEqDiff, Nat.reduceLeDiff, Nat.reduceLT, Nat.reduceAdd, Nat.reduceMul, Nat.reduceSub, false_or, or_false, true_or, or_true, false_and, and_false, reduceCtorEq, q_n0, q_n1, q_em, q_em2, q_b0, q_b1, Classical.not_not]
  · have h60 := fun F d => c60n h w q hA d F
    refine ⟨-1, h, h, fun F => ?_, fun F => ?_, Inv_fr (Fr.refl h) z⟩
    · simp (disch := omega) only [e108, r108_0, r108_1, r108_4, r108_5, r108_8, r108_8n, r108_10, r108_10n, r108_12, r108_12n, r108_15, r108_16, r108_19, r108_22, r108_23, r108_24, r108_25, r108_28, r108_28n, r108_30, r108_31, r108_34, r108_35, r108_36, r108_37, r108_40, r108_43, r108_44, r108_45, r108_48, r108_51, r108_52, r108_55, r108_58, r108_59, r108_60, r108_63, r108_64, h60, kdC, kdM, rpC, rpM, q_rs, q_rn, Option.toList_some, Option.toList_none, List.cons_append, List.nil_append, true_and, and_true, eq_self, ↓reduceIte, not_true_eq_false, not_false_eq_true, Nat.reduceEqDiff, Nat.reduceLeDiff, Nat.reduceLT, Nat.reduceAdd, Nat.reduceMul, Nat.reduceSub, false_or, or_false, true_or, or_true, false_and, and_false, reduceCtorEq, q_n0, q_n1, q_em, q_em2, q_b0, q_b1, Classical.not_not]
    · simp (disch := omega) only [e227, r227_0, r227_1, r227_2, r227_5, r227_8, r227_9, r227_12, r227_15, r227_16, r227_17, r227_18, r227_19, r227_20, r227_23, r227_24, r227_25, r227_26, r227_29, r227_30, r227_31, r227_34, r227_37, r227_38, r227_41, r227_42, r227_43, r227_46, r227_47, c150 _ _ _ rfl w, hA, kdC, kdM, rpC, rpM, q_rs, q_rn, Option.toList_some, Option.toList_none, List.cons_append, List.nil_append, true_and, and_true, eq_self, ↓reduceIte, not_true_eq_false, not_false_eq_true, Nat.reduceEqDiff, Nat.reduceLeDiff, Nat.reduceLT, Nat.reduceAdd, Nat.reduceMul, Nat.reduceSub, false_or, or_false, true_or, or_true, false_and, and_false, reduceCtorEq, q_n0, q_n1, q_em, q_em2, q_b0, q_b1, Classical.not_not]
