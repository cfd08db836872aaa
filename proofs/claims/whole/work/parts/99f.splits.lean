/-! splits, whole (the model) -/
section SQ2
variable {h : Hp} {B : Nat → Int32} {n : Nat}
theorem WDS_sp {h' : Hp} (x : FrS spS h h') (z : WDS h) : WDS h' := fun i hi => by rw [x.g (a := 106) (i := i) rfl]; exact z i hi
theorem T_sp {h' : Hp} (x : FrS spS h h') (z : ∀ i, i < 400 → gI h 107 i = B i) : ∀ i, i < 400 → gI h' 107 i = B i := fun i hi => by rw [x.g (a := 107) (i := i) rfl]; exact z i hi
/-- the first j tokens are there -/
def TKS (h : Hp) (B : Nat → Int32) (n j : Nat) : Prop := ∀ t, t < j → gI h 109 t = mcJ B n t ∧ gI h 110 t = mvJ B n t ∧ gI h 111 t = nI (tpl B n t)
theorem ml173 (hW : WDS h) (hT : ∀ i, i < 400 → gI h 107 i = B i) (hn : n ≤ 400) : ∀ k i j h0 (v3 v4 v5 : Value), n - i ≤ k → i ≤ n → scn B n (fun x => x = nI 32) i = tpl B n j → (∀ t, t < j → tpl B n t < n) → FrS spS h h0 → gI h0 101 13 = nI j → TKS h0 B n j → ∃ h' m, FrS spS h h' ∧ m ≤ n ∧ n ≤ tpl B n m ∧ (∀ t, t < m → tpl B n t < n) ∧ gI h' 101 13 = nI m ∧ TKS h' B n (m + 1) ∧ ∀ d F, wp true (d + 1) 173 7 [.ref 101, .int (nI n), .int (nI i), v3, v4, v5] [] h0 F = F none h' := by
  intro k
  have fin : ∀ (j : Nat) (h0 : Hp) (v3 v4 v5 : Value), tpl B n j = n → (∀ t, t < j → tpl B n t < n) → FrS spS h h0 → gI h0 101 13 = nI j → TKS h0 B n j → ∃ h' m, FrS spS h h' ∧ m ≤ n ∧ n ≤ tpl B n m ∧ (∀ t, t < m → tpl B n t < n) ∧ gI h' 101 13 = nI m ∧ TKS h' B n (m + 1) ∧ ∀ d F, wp true (d + 1) 173 7 [.ref 101, .int (nI n), .int (nI n), v3, v4, v5] [] h0 F = F none h' := by
    intro j h0 v3 v4 v5 et hlt x g13 tk
    have hj : j ≤ n := by
      cases j with
      | zero => omega
      | succ j =>
        have h1 := hlt j (by omega)
        have h2 := tpl_ge B n j h1
        omega
    refine ⟨sI (sI (sI h0 111 j (nI n)) 109 j (nI 0)) 110 j (nI 0), j, ((x.sI _ rfl).sI _ rfl).sI _ rfl, hj, by omega, hlt, by rw [q_gn (by omega), q_gn (by omega), q_gn (by omega)]; exact g13, fun t ht => ?_, fun d F => ?_⟩
    · by_cases e : t = j
      · subst e
        refine ⟨?_, ?_, ?_⟩
        · rw [q_gn (by omega), q_gs]; unfold mcJ; rw [pif_t (by omega)]
        · rw [q_gs]; unfold mvJ; rw [pif_t (by omega)]
        · rw [q_gn (by omega), q_gn (by omega), q_gs, et]
      · obtain ⟨t1, t2, t3⟩ := tk t (by omega)
        refine ⟨?_, ?_, ?_⟩
        · rw [q_gn (by omega), q_gm e, q_gn (by omega)]; exact t1
        · rw [q_gm e, q_gn (by omega), q_gn (by omega)]; exact t2
        · rw [q_gn (by omega), q_gn (by omega), q_gm e]; exact t3
    · have g13a : gI (sI h0 111 j (nI n)) 101 13 = nI j := by rw [q_gn (by omega)]; exact g13
      have g13b : gI (sI (sI h0 111 j (nI n)) 109 j (nI 0)) 101 13 = nI j := by rw [q_gn (by omega)]; exact g13a
      rw [r173_7]
      simp (disch := omega) only [r173_8, r173_9, r173_263, r173_264, r173_267, r173_268, r173_271, r173_272, r173_273, r173_274, r173_277, r173_278, r173_281, r173_282, r173_283, r173_284, r173_287, r173_288, r173_291, r173_292, r173_293, g13, g13a, g13b, kdC, kdM, rpC, rpM, q_rs, q_rn, Option.toList_some, Option.toList_none, List.cons_append, List.nil_append, true_and, and_true, eq_self, ↓reduceIte, not_true_eq_false, not_false_eq_true, Nat.reduceEqDiff, Nat.reduceLeDiff, Nat.reduceLT, Nat.reduceAdd, Nat.reduceMul, Nat.reduceSub, false_or, or_false, true_or, or_true, false_and, and_false, reduceCtorEq, q_n0, q_n1, q_em, q_em2, q_b0, q_b1, Classical.not_not, nI_add, pk_mul, nI_clamp, q_vp, nI_eq, nI_leI, nI_ltI, q_sub, Nat.le_refl, show j < 401 by omega]
  induction k with
  | zero =>
    intro i j h0 v3 v4 v5 hk hi es hlt x g13 tk
    obtain rfl : i = n := by omega
    rw [scn_n B i (by omega)] at es
    exact fin j h0 v3 v4 v5 es.symm hlt x g13 tk
  | succ k ih =>
    intro i j h0 v3 v4 v5 hk hi es hlt x g13 tk
    by_cases ein : i = n
    · subst ein
      rw [scn_n B i (by omega)] at es
      exact fin j h0 v3 v4 v5 es.symm hlt x g13 tk
    · have hin : i < n := by omega
      have hr := T_sp x hT i (by omega)
      by_cases c : B i = nI 32
      · obtain ⟨h', m, a1, a2, a3, a4, a5, a6, a7⟩ := ih (i + 1) j h0 (.int (nI 32)) v4 v5 (by omega) (by omega) (by rw [← es, scn_y B n hin c]) hlt x g13 tk
        refine ⟨h', m, a1, a2, a3, a4, a5, a6, fun d F => ?_⟩
        refine Eq.trans ?_ (a7 d F)
        rw [r173_7]
        simp (disch := omega) only [r173_8, r173_9, r173_12, r173_13, r173_16, r173_17, r173_18, r173_19, r173_20, r173_22, r173_25, r173_28, kd107, hr, c, kdC, kdM, rpC, rpM, q_rs, q_rn, Option.toList_some, Option.toList_none, List.cons_append, List.nil_append, true_and, and_true, eq_self, ↓reduceIte, not_true_eq_false, not_false_eq_true, Nat.reduceEqDiff, Nat.reduceLeDiff, Nat.reduceLT, Nat.reduceAdd, Nat.reduceMul, Nat.reduceSub, false_or, or_false, true_or, or_true, false_and, and_false, reduceCtorEq, q_n0, q_n1, q_em, q_em2, q_b0, q_b1, Classical.not_not, nI_add, pk_mul, nI_clamp, q_vp, nI_eq, nI_leI, nI_ltI, q_sub, show ¬ n ≤ i by omega, show i < 400 by omega]
      · rw [scn_n B n (fun u => c u.2)] at es
        have hij : j ≤ i := by have := tpl_ge B n j (by omega); omega
        have hlt2 : ∀ t, t < j + 1 → tpl B n t < n := by
          intro t ht
          by_cases et : t = j
          · rw [et]; omega
          · exact hlt t (by omega)
        have hps := tps_s B n j
        rw [← es] at hps
        unfold tkE at hps
        rw [pif_f (by omega)] at hps
        have hpl := tps_le B n (j + 1)
        have h70 := fun (g : Hp) x F d => m170 (h := g) x d F
        have h71 := fun (g : Hp) x F d => m171 (h := g) x d F
        -- a token is kept: what follows
        have fol : ∀ (g : Hp) (v3 v4 v5 : Value), FrS spS h g → gI g 101 13 = nI j → (∀ t, t ≠ j → gI g 109 t = gI h0 109 t ∧ gI g 110 t = gI h0 110 t ∧ gI g 111 t = gI h0 111 t) → gI g 109 j = mcJ B n j → gI g 110 j = mvJ B n j → gI g 111 j = nI i → ∃ h' m, FrS spS h h' ∧ m ≤ n ∧ n ≤ tpl B n m ∧ (∀ t, t < m → tpl B n t < n) ∧ gI h' 101 13 = nI m ∧ TKS h' B n (m + 1) ∧ ∀ d F, wp true (d + 1) 173 247 [.ref 101, .int (nI n), .int (nI i), v3, .int (nI (tps B n (j + 1))), v5] [] g F = F none h' := by
          intro g v3 v4 v5 y k13 kt k9 k10 k11
          have hlo : i < tps B n (j + 1) := by have := tps_lt B n (j := j) (by omega); omega
          obtain ⟨h', m, a1, a2, a3, a4, a5, a6, a7⟩ := ih (tps B n (j + 1)) (j + 1) (sI g 101 13 (nI (j + 1))) v3 (.int (nI (tps B n (j + 1)))) v5 (by omega) hpl rfl hlt2 (y.sI _ rfl) (q_gs _ _ _ _) (by
            intro t ht
            rw [q_gn (by omega), q_gn (by omega), q_gn (by omega)]
            by_cases et : t = j
            · rw [et]; exact ⟨k9, k10, by rw [← es]; exact k11⟩
            · rw [(kt t et).1, (kt t et).2.1, (kt t et).2.2]
              exact tk t (by omega))
          refine ⟨h', m, a1, a2, a3, a4, a5, a6, fun d F => ?_⟩
          refine Eq.trans ?_ (a7 d F)
          simp (disch := omega) only [r173_247, r173_248, r173_249, r173_252, r173_253, r173_254, r173_257, r173_259, r173_260, k13, kdC, kdM, rpC, rpM, q_rs, q_rn, Option.toList_some, Option.toList_none, List.cons_append, List.nil_append, true_and, and_true, eq_self, ↓reduceIte, not_true_eq_false, not_false_eq_true, Nat.reduceEqDiff, Nat.reduceLeDiff, Nat.reduceLT, Nat.reduceAdd, Nat.reduceMul, Nat.reduceSub, false_or, or_false, true_or, or_true, false_and, and_false, reduceCtorEq, q_n0, q_n1, q_em, q_em2, q_b0, q_b1, Classical.not_not, nI_add, pk_mul, nI_clamp, q_vp, nI_eq, nI_leI, nI_ltI, q_sub]
        -- the heap behind the three stores
        have sto : ∀ cd : Int32, FrS spS h (sI (sI (sI h0 111 j (nI i)) 110 j (nI 0)) 109 j cd) ∧ gI (sI (sI (sI h0 111 j (nI i)) 110 j (nI 0)) 109 j cd) 101 13 = nI j ∧ (∀ t, t ≠ j → gI (sI (sI (sI h0 111 j (nI i)) 110 j (nI 0)) 109 j cd) 109 t = gI h0 109 t ∧ gI (sI (sI (sI h0 111 j (nI i)) 110 j (nI 0)) 109 j cd) 110 t = gI h0 110 t ∧ gI (sI (sI (sI h0 111 j (nI i)) 110 j (nI 0)) 109 j cd) 111 t = gI h0 111 t) ∧ gI (sI (sI (sI h0 111 j (nI i)) 110 j (nI 0)) 109 j cd) 109 j = cd ∧ gI (sI (sI (sI h0 111 j (nI i)) 110 j (nI 0)) 109 j cd) 110 j = nI 0 ∧ gI (sI (sI (sI h0 111 j (nI i)) 110 j (nI 0)) 109 j cd) 111 j = nI i := by
          intro cd
          refine ⟨((x.sI _ rfl).sI _ rfl).sI _ rfl, ?_, fun t ht => ⟨?_, ?_, ?_⟩, ?_, ?_, ?_⟩
          · rw [q_gn (by omega), q_gn (by omega), q_gn (by omega)]; exact g13
          · rw [q_gm ht, q_gn (by omega), q_gn (by omega)]
          · rw [q_gn (by omega), q_gm ht, q_gn (by omega)]
          · rw [q_gn (by omega), q_gn (by omega), q_gm ht]
          · rw [q_gs]
          · rw [q_gn (by omega), q_gs]
          · rw [q_gn (by omega), q_gn (by omega), q_gs]
        have g13a : gI (sI h0 111 j (nI i)) 101 13 = nI j := by rw [q_gn (by omega)]; exact g13
        have g13b : gI (sI (sI h0 111 j (nI i)) 110 j (nI 0)) 101 13 = nI j := by rw [q_gn (by omega)]; exact g13a
        have x2 : FrS spS h (sI (sI h0 111 j (nI i)) 110 j (nI 0)) := (x.sI _ rfl).sI _ rfl
        have hnl : ¬ n ≤ tpl B n j := by omega
        by_cases c1 : smP (B i)
        · rw [pif_t c1] at hps
          have c2 := sm_dg c1
          have h1 := fun F d => m172 (B := B) (a := i) (b := tps B n (j + 1)) (WDS_sp x2 hW) (T_sp x2 hT) (by have := tps_lt B n (j := j) (by omega); omega) (by omega) d F
          obtain ⟨s1, s2, s3, s4, s5, s6⟩ := sto (nI (wm (kwd B i (tps B n (j + 1)))))
          obtain ⟨h', m, a1, a2, a3, a4, a5, a6, a7⟩ := fol _ (.int (B i)) (.int (nI (tps B n (j + 1)))) (.int (nI i)) s1 s2 s3 (by rw [s4]; unfold mcJ; rw [pif_f hnl, ← es, pif_t c1]) (by rw [s5]; unfold mvJ; rw [pif_f hnl, ← es, pif_f c2]) s6
          refine ⟨h', m, a1, a2, a3, a4, a5, a6, fun d F => ?_⟩
          refine Eq.trans ?_ (a7 d F)
          have hsc : scn B n smP (i + 1) = tps B n (j + 1) := by rw [hps, scn_y B n hin c1]
          have hl := ml173a (h := h0) (B := B) (T_sp x hT) hn (.int (nI i)) (.int (B i)) v5 d F (n - (i + 1)) (i + 1) (by omega)
          rw [hsc] at hl
          rw [r173_7]
          simp (disch := omega) only [r173_8, r173_9, r173_12, r173_13, r173_16, r173_17, r173_18, r173_19, r173_20, r173_22, r173_25, r173_28, r173_31, r173_32, r173_33, r173_34, r173_36, r173_37, r173_40, kd107, hr, c, h70, q_bt c1, kdC, kdM, rpC, rpM, q_rs, q_rn, Option.toList_some, Option.toList_none, List.cons_append, List.nil_append, true_and, and_true, eq_self, ↓reduceIte, not_true_eq_false, not_false_eq_true, Nat.reduceEqDiff, Nat.reduceLeDiff, Nat.reduceLT, Nat.reduceAdd, Nat.reduceMul, Nat.reduceSub, false_or, or_false, true_or, or_true, false_and, and_false, reduceCtorEq, q_n0, q_n1, q_em, q_em2, q_b0, q_b1, Classical.not_not, nI_add, pk_mul, nI_clamp, q_vp, nI_eq, nI_leI, nI_ltI, q_sub, show ¬ n ≤ i by omega, show i < 400 by omega]
          refine Eq.trans hl ?_
          simp (disch := omega) only [r173_68, r173_69, r173_72, r173_100, r173_101, r173_104, r173_105, r173_108, r173_109, r173_110, r173_111, r173_114, r173_115, r173_118, r173_119, r173_120, r173_121, r173_124, r173_125, r173_128, r173_129, r173_132, r173_135, r173_136, r173_137, r173_139, r173_142, r173_145, r173_146, r173_149, r173_152, r173_154, r173_157, r173_159, r173_160, r173_163, r173_164, r173_165, r173_166, r173_167, h70, h71, q_bt c1, q_bf c2, g13, g13a, g13b, h1, kdC, kdM, rpC, rpM, q_rs, q_rn, Option.toList_some, Option.toList_none, List.cons_append, List.nil_append, true_and, and_true, eq_self, ↓reduceIte, not_true_eq_false, not_false_eq_true, Nat.reduceEqDiff, Nat.reduceLeDiff, Nat.reduceLT, Nat.reduceAdd, Nat.reduceMul, Nat.reduceSub, false_or, or_false, true_or, or_true, false_and, and_false, reduceCtorEq, q_n0, q_n1, q_em, q_em2, q_b0, q_b1, Classical.not_not, nI_add, pk_mul, nI_clamp, q_vp, nI_eq, nI_leI, nI_ltI, q_sub, show j < 401 by omega]
          rw [r173_169]
          have hlo : i < tps B n (j + 1) := by have := tps_lt B n (j := j) (by omega); omega
          simp (disch := omega) only [r173_171, r173_173, r173_176, r173_177, r173_180, h71, q_bf c2, kdC, kdM, rpC, rpM, q_rs, q_rn, Option.toList_some, Option.toList_none, List.cons_append, List.nil_append, true_and, and_true, eq_self, ↓reduceIte, not_true_eq_false, not_false_eq_true, Nat.reduceEqDiff, Nat.reduceLeDiff, Nat.reduceLT, Nat.reduceAdd, Nat.reduceMul, Nat.reduceSub, false_or, or_false, true_or, or_true, false_and, and_false, reduceCtorEq, q_n0, q_n1, q_em, q_em2, q_b0, q_b1, Classical.not_not, nI_add, pk_mul, nI_clamp, q_vp, nI_eq, nI_leI, nI_ltI, q_sub, show ¬ tps B n (j + 1) ≤ i by omega]
        · rw [pif_f c1] at hps
          by_cases c2 : dgP (B i)
          · rw [pif_t c2] at hps
            obtain ⟨s1, s2, s3, s4, s5, s6⟩ := sto (nI 50)
            have hdd : ∀ t, i ≤ t → t < tps B n (j + 1) → dgP (B t) := by
              intro t h1 h2
              rw [hps] at h2
              exact scn_in (n := n) (n - i) i rfl t h1 h2
            obtain ⟨g, v5', b1, b2, b3, b4, b5, b6, b7⟩ := ml173v (h := sI (sI (sI h0 111 j (nI i)) 110 j (nI 0)) 109 j (nI 50)) (B := B) (a := i) (e := tps B n (j + 1)) (j := j) (T_sp s1 hT) (by omega) (by omega) hdd s2 c2 (.int (nI n)) (.int (nI i)) (tps B n (j + 1) - i) i _ (by have := tps_lt B n (j := j) (by omega); omega) (Nat.le_refl _) (FrS.refl _) s2 rfl rfl (fun t _ => rfl) (by rw [s5, Nat.sub_self]; rfl)
            obtain ⟨h', m, a1, a2, a3, a4, a5, a6, a7⟩ := fol g (.int (B i)) (.int (nI (tps B n (j + 1)))) v5' (s1.trans b1) b2 (fun t ht => ⟨by rw [b3]; exact (s3 t ht).1, by rw [b5 t ht]; exact (s3 t ht).2.1, by rw [b4]; exact (s3 t ht).2.2⟩) (by rw [b3, s4]; unfold mcJ; rw [pif_f hnl, ← es, pif_f c1, pif_t c2]) (by rw [b6]; unfold mvJ tnm; rw [pif_f hnl, ← es, pif_t c2]) (by rw [b4]; exact s6)
            refine ⟨h', m, a1, a2, a3, a4, a5, a6, fun d F => ?_⟩
            refine Eq.trans ?_ (a7 d F)
            have hsc : scn B n dgP (i + 1) = tps B n (j + 1) := by rw [hps, scn_y B n hin c2]
            have hl := ml173b (h := h0) (B := B) (T_sp x hT) hn (.int (nI i)) (.int (B i)) v5 d F (n - (i + 1)) (i + 1) (by omega)
            rw [hsc] at hl
            rw [r173_7]
            simp (disch := omega) only [r173_8, r173_9, r173_12, r173_13, r173_16, r173_17, r173_18, r173_19, r173_20, r173_22, r173_25, r173_28, r173_31, r173_32, r173_33, r173_34, r173_36, r173_37, r173_40, r173_68, r173_69, r173_72, kd107, hr, c, h70, h71, q_bf c1, q_bt c2, kdC, kdM, rpC, rpM, q_rs, q_rn, Option.toList_some, Option.toList_none, List.cons_append, List.nil_append, true_and, and_true, eq_self, ↓reduceIte, not_true_eq_false, not_false_eq_true, Nat.reduceEqDiff, Nat.reduceLeDiff, Nat.reduceLT, Nat.reduceAdd, Nat.reduceMul, Nat.reduceSub, false_or, or_false, true_or, or_true, false_and, and_false, reduceCtorEq, q_n0, q_n1, q_em, q_em2, q_b0, q_b1, Classical.not_not, nI_add, pk_mul, nI_clamp, q_vp, nI_eq, nI_leI, nI_ltI, q_sub, show ¬ n ≤ i by omega, show i < 400 by omega]
            refine Eq.trans hl ?_
            simp (disch := omega) only [r173_100, r173_101, r173_104, r173_105, r173_108, r173_109, r173_110, r173_111, r173_114, r173_115, r173_118, r173_119, r173_120, r173_121, r173_124, r173_125, r173_128, r173_129, r173_132, r173_135, r173_136, r173_137, r173_139, r173_142, r173_145, r173_146, r173_149, r173_152, r173_154, r173_157, r173_159, r173_160, r173_163, r173_164, r173_165, r173_166, r173_167, h70, h71, q_bf c1, q_bt c2, g13, g13a, g13b, kdC, kdM, rpC, rpM, q_rs, q_rn, Option.toList_some, Option.toList_none, List.cons_append, List.nil_append, true_and, and_true, eq_self, ↓reduceIte, not_true_eq_false, not_false_eq_true, Nat.reduceEqDiff, Nat.reduceLeDiff, Nat.reduceLT, Nat.reduceAdd, Nat.reduceMul, Nat.reduceSub, false_or, or_false, true_or, or_true, false_and, and_false, reduceCtorEq, q_n0, q_n1, q_em, q_em2, q_b0, q_b1, Classical.not_not, nI_add, pk_mul, nI_clamp, q_vp, nI_eq, nI_leI, nI_ltI, q_sub, show j < 401 by omega]
            exact b7 d F
          · rw [pif_f c2] at hps
            obtain ⟨s1, s2, s3, s4, s5, s6⟩ := sto (nI 100 + (B i &&& nI 255))
            obtain ⟨h', m, a1, a2, a3, a4, a5, a6, a7⟩ := fol _ (.int (B i)) (.int (nI (tps B n (j + 1)))) (.int (nI i)) s1 s2 s3 (by rw [s4]; unfold mcJ; rw [pif_f hnl, ← es, pif_f c1, pif_f c2]) (by rw [s5]; unfold mvJ; rw [pif_f hnl, ← es, pif_f c2]) s6
            refine ⟨h', m, a1, a2, a3, a4, a5, a6, fun d F => ?_⟩
            refine Eq.trans ?_ (a7 d F)
            rw [r173_7, hps]
            simp (disch := omega) only [r173_8, r173_9, r173_12, r173_13, r173_16, r173_17, r173_18, r173_19, r173_20, r173_22, r173_25, r173_28, r173_31, r173_32, r173_33, r173_34, r173_36, r173_37, r173_40, r173_68, r173_69, r173_72, r173_100, r173_101, r173_104, r173_105, r173_108, r173_109, r173_110, r173_111, r173_114, r173_115, r173_118, r173_119, r173_120, r173_121, r173_124, r173_125, r173_128, r173_129, r173_132, r173_135, r173_136, r173_137, r173_139, r173_142, r173_145, r173_146, r173_149, r173_152, r173_154, r173_157, r173_159, r173_160, r173_163, r173_164, r173_165, r173_166, r173_167, kd107, hr, c, h70, h71, q_bf c1, q_bf c2, g13, g13a, g13b, kdC, kdM, rpC, rpM, q_rs, q_rn, Option.toList_some, Option.toList_none, List.cons_append, List.nil_append, true_and, and_true, eq_self, ↓reduceIte, not_true_eq_false, not_false_eq_true, Nat.reduceEqDiff, Nat.reduceLeDiff, Nat.reduceLT, Nat.reduceAdd, Nat.reduceMul, Nat.reduceSub, false_or, or_false, true_or, or_true, false_and, and_false, reduceCtorEq, q_n0, q_n1, q_em, q_em2, q_b0, q_b1, Classical.not_not, nI_add, pk_mul, nI_clamp, q_vp, nI_eq, nI_leI, nI_ltI, q_sub, show ¬ n ≤ i by omega, show i < 400 by omega, show j < 401 by omega]
            rw [r173_169]
            simp (disch := omega) only [r173_171, r173_173, r173_176, r173_177, r173_180, h71, q_bf c2, kdC, kdM, rpC, rpM, q_rs, q_rn, Option.toList_some, Option.toList_none, List.cons_append, List.nil_append, true_and, and_true, eq_self, ↓reduceIte, not_true_eq_false, not_false_eq_true, Nat.reduceEqDiff, Nat.reduceLeDiff, Nat.reduceLT, Nat.reduceAdd, Nat.reduceMul, Nat.reduceSub, false_or, or_false, true_or, or_true, false_and, and_false, reduceCtorEq, q_n0, q_n1, q_em, q_em2, q_b0, q_b1, Classical.not_not, nI_add, pk_mul, nI_clamp, q_vp, nI_eq, nI_leI, nI_ltI, q_sub, show ¬ i + 1 ≤ i by omega]
theorem m173 (hW : WDS h) (hT : ∀ i, i < 400 → gI h 107 i = B i) (hn : n ≤ 400) : ∃ h' m, FrS spS h h' ∧ m ≤ n ∧ n ≤ tpl B n m ∧ (∀ t, t < m → tpl B n t < n) ∧ gI h' 101 13 = nI m ∧ TKS h' B n (m + 1) ∧ ∀ d F, cwp true (d + 1) 173 [.ref 101, .int (nI n)] h F = F none h' := by
  obtain ⟨h', m, a1, a2, a3, a4, a5, a6, a7⟩ := ml173 (h := h) (B := B) hW hT hn n 0 0 (sI h 101 13 (nI 0)) jn jn jn (by omega) (by omega) rfl (fun t ht => by omega) ((FrS.refl h).sI _ rfl) (q_gs _ _ _ _) (fun t ht => by omega)
  refine ⟨h', m, a1, a2, a3, a4, a5, a6, fun d F => ?_⟩
  refine Eq.trans ?_ (a7 d F)
  simp (disch := omega) only [r173_0, r173_1, r173_2, r173_5, r173_6, e173, kdC, kdM, rpC, rpM, q_rs, q_rn, Option.toList_some, Option.toList_none, List.cons_append, List.nil_append, true_and, and_true, eq_self, ↓reduceIte, not_true_eq_false, not_false_eq_true, Nat.reduceEqDiff, Nat.reduceLeDiff, Nat.reduceLT, Nat.reduceAdd, Nat.reduceMul, Nat.reduceSub, false_or, or_false, true_or, or_true, false_and, and_false, reduceCtorEq, q_n0, q_n1, q_em, q_em2, q_b0, q_b1, Classical.not_not]
end SQ2
