/-! says: the model; the pair -/
def mxi (u : Nat) (G : Nat → Nat → Nat) (m s0 k s : Nat) : Nat := if m < k ∨ (k = m ∧ s0 ≤ s) then gad u G k s else G k s
def mxk (u : Nat) (G : Nat → Nat → Nat) (m k s : Nat) : Nat := if m < k then gad u G k s else G k s
def TM (T : Nat → Int32) (G : Nat → Nat → Nat) : Prop := ∀ k s, k ≤ 24 → s < 3841 → T (3841 * k + s) = nI (G k s)
theorem ixm {k k' s s' : Nat} (h1 : s < 3841) (h2 : s' < 3841) (e : 3841 * k + s = 3841 * k' + s') : k = k' ∧ s = s' := by omega
section MS
variable {h : Hp} {K : Nat → Int32} {wh : Int32}
theorem kd116 (h : Hp) : kdm true h 116 = (20, 96025) := rfl
theorem fr116 (T : Nat → Int32) : Fr h (sA h 116 T) := (Fr.refl h).sA (a := 116) T (fun _ => rfl)
theorem K116 (T : Nat → Int32) : gI (sA h 116 T) 103 = gI h 103 := q_gan (by omega)
/-- rows added from the last place down -/
theorem ml212s {u m n : Nat} {G : Nat → Nat → Nat} (hu : u ≤ 160) (hm : 1 ≤ m) (hn : m ≤ 24) (v1 v2 v3 v4 v5 v6 : Value) : ∀ j T, j ≤ 3841 → TM T (mxi u G m j) → ∃ T' v9, TM T' (mxi u G m 0) ∧ ∀ d F, wp true d 212 107 [.ref 101, v1, v2, v3, v4, v5, v6, .int (nI u), .int (nI m), .int (nI j - nI 1)] [] (sA h 116 T) F = wp true d 212 156 [.ref 101, v1, v2, v3, v4, v5, v6, .int (nI u), .int (nI m), v9] [] (sA h 116 T') F
  | 0, T, hj, i1 => by
    refine ⟨T, .int (nI 0 - nI 1), i1, fun d F => ?_⟩
    have hlt : nI 0 - nI 1 < nI u := by
      rw [Int32.lt_iff_toInt_lt, show (nI 0 - nI 1 : Int32).toInt = -1 by decide, nI_toInt (by omega)]
      omega
    rw [r212_107]
    simp (disch := omega) only [r212_109, r212_111, hlt, kdC, kdM, rpC, rpM, q_rs, q_rn, Option.toList_some, Option.toList_none, List.cons_append, List.nil_append, true_and, and_true, eq_self, ↓reduceIte, not_true_eq_false, not_false_eq_true, Nat.reduceEqDiff, Nat.reduceLeDiff, Nat.reduceLT, Nat.reduceAdd, Nat.reduceMul, Nat.reduceSub, false_or, or_false, true_or, or_true, false_and, and_false, reduceCtorEq, q_n0, q_n1, q_em, q_em2, q_b0, q_b1, Classical.not_not]
  | s + 1, T, hj, i1 => by
    have e0 : nI (s + 1) - nI 1 = nI s := by rw [q_sub (by omega)]; rfl
    rw [e0]
    by_cases c : s < u
    · refine ⟨T, .int (nI s), fun k s' hk hs' => ?_, fun d F => ?_⟩
      · rw [i1 k s' hk hs']
        congr 1
        unfold mxi
        by_cases c1 : m < k ∨ (k = m ∧ s + 1 ≤ s')
        · rw [if_pos c1, if_pos (by omega)]
        · rw [if_neg c1]
          by_cases c2 : m < k ∨ (k = m ∧ 0 ≤ s')
          · rw [if_pos c2]
            unfold gad
            rw [if_neg (by omega), Nat.add_zero]
          · rw [if_neg c2]
      · rw [r212_107]
        simp (disch := omega) only [r212_109, r212_111, kdC, kdM, rpC, rpM, q_rs, q_rn, Option.toList_some, Option.toList_none, List.cons_append, List.nil_append, true_and, and_true, eq_self, ↓reduceIte, not_true_eq_false, not_false_eq_true, Nat.reduceEqDiff, Nat.reduceLeDiff, Nat.reduceLT, Nat.reduceAdd, Nat.reduceMul, Nat.reduceSub, false_or, or_false, true_or, or_true, false_and, and_false, reduceCtorEq, q_n0, q_n1, q_em, q_em2, q_b0, q_b1, Classical.not_not, nI_add, pk_mul, nI_clamp, q_vp, nI_eq, nI_leI, nI_ltI, q_sub, c]
    · have r1 := i1 m s hn (by omega)
      have r2 := i1 (m - 1) (s - u) (by omega) (by omega)
      rw [show mxi u G m (s + 1) m s = G m s by unfold mxi; rw [if_neg (by omega)]] at r1
      rw [show mxi u G m (s + 1) (m - 1) (s - u) = G (m - 1) (s - u) by unfold mxi; rw [if_neg (by omega)]] at r2
      obtain ⟨T', v9, a1, a2⟩ := ml212s (n := n) hu hm hn v1 v2 v3 v4 v5 v6 s (upd T (3841 * m + s) (nI (G m s + G (m - 1) (s - u)))) (by omega) (by
        intro k s' hk hs'
        unfold upd
        by_cases e1 : 3841 * k + s' = 3841 * m + s
        · obtain ⟨rfl, rfl⟩ := ixm hs' (by omega) e1
          rw [if_pos rfl]
          unfold mxi gad
          rw [if_pos (by omega), if_pos (by omega)]
        · rw [if_neg e1, i1 k s' hk hs']
          congr 1
          unfold mxi
          by_cases c1 : m < k ∨ (k = m ∧ s + 1 ≤ s')
          · rw [if_pos c1, if_pos (by omega)]
          · rw [if_neg c1, if_neg (by omega)])
      refine ⟨T', v9, a1, fun d F => ?_⟩
      refine Eq.trans ?_ (a2 d F)
      have e3 : nI s + (-1) = nI s - nI 1 := by
        cases s with
        | zero => decide
        | succ t => rw [q_dec, q_sub (by omega)]; rfl
      have e4 : 3841 * (m - 1) + s - u = 3841 * (m - 1) + (s - u) := by omega
      rw [r212_107]
      simp (disch := omega) only [r212_109, r212_111, r212_114, r212_115, r212_118, r212_121, r212_123, r212_124, r212_126, r212_127, r212_128, r212_129, r212_130, r212_133, r212_136, r212_138, r212_139, r212_140, r212_141, r212_143, r212_144, r212_146, r212_147, r212_148, r212_149, r212_150, r212_153, kd116, q_ga, r1, e4, r2, q_sIs, e3, kdC, kdM, rpC, rpM, q_rs, q_rn, Option.toList_some, Option.toList_none, List.cons_append, List.nil_append, true_and, and_true, eq_self, ↓reduceIte, not_true_eq_false, not_false_eq_true, Nat.reduceEqDiff, Nat.reduceLeDiff, Nat.reduceLT, Nat.reduceAdd, Nat.reduceMul, Nat.reduceSub, false_or, or_false, true_or, or_true, false_and, and_false, reduceCtorEq, q_n0, q_n1, q_em, q_em2, q_b0, q_b1, Classical.not_not, nI_add, pk_mul, nI_clamp, q_vp, nI_eq, nI_leI, nI_ltI, q_sub, c, show 3841 * m + s < 96025 by omega, show 3841 * (m - 1) + (s - u) < 96025 by omega]
theorem ml212k {u n : Nat} {G : Nat → Nat → Nat} (hu : u ≤ 160) (hG : ∀ k s, n < k → gad u G k s = G k s) (v1 v2 v3 v4 v5 v6 : Value) : ∀ m T (v9 : Value), m ≤ 24 → m ≤ n → TM T (mxk u G m) → ∃ T' v8 v9', TM T' (gad u G) ∧ ∀ d F, wp true d 212 97 [.ref 101, v1, v2, v3, v4, v5, v6, .int (nI u), .int (nI m), v9] [] (sA h 116 T) F = wp true d 212 162 [.ref 101, v1, v2, v3, v4, v5, v6, .int (nI u), v8, v9'] [] (sA h 116 T') F
  | 0, T, v9, hm, hn, i1 => by
    refine ⟨T, .int (nI 0), v9, fun k s hk hs => ?_, fun d F => ?_⟩
    · rw [i1 k s hk hs]
      congr 1
      unfold mxk
      by_cases c : 0 < k
      · rw [if_pos c]
      · rw [if_neg c]
        unfold gad
        rw [if_neg (by omega), Nat.add_zero]
    · rw [r212_97]
      simp (disch := omega) only [r212_99, kdC, kdM, rpC, rpM, q_rs, q_rn, Option.toList_some, Option.toList_none, List.cons_append, List.nil_append, true_and, and_true, eq_self, ↓reduceIte, not_true_eq_false, not_false_eq_true, Nat.reduceEqDiff, Nat.reduceLeDiff, Nat.reduceLT, Nat.reduceAdd, Nat.reduceMul, Nat.reduceSub, false_or, or_false, true_or, or_true, false_and, and_false, reduceCtorEq, q_n0, q_n1, q_em, q_em2, q_b0, q_b1, Classical.not_not, nI_add, pk_mul, nI_clamp, q_vp, nI_eq, nI_leI, nI_ltI, q_sub, Nat.le_refl]
  | m + 1, T, v9, hm, hn, i1 => by
    obtain ⟨T1, w9, b1, b2⟩ := ml212s (h := h) (n := n) (G := G) hu (m := m + 1) (by omega) hm v1 v2 v3 v4 v5 v6 3841 T (Nat.le_refl _) (fun k s hk hs => by
      rw [i1 k s hk hs]
      congr 1
      unfold mxi mxk
      by_cases c : m + 1 < k
      · rw [if_pos c, if_pos (Or.inl c)]
      · rw [if_neg c, if_neg (by omega)])
    obtain ⟨T', v8, v9', a1, a2⟩ := ml212k hu hG v1 v2 v3 v4 v5 v6 m T1 w9 (by omega) (by omega) (fun k s hk hs => by
      rw [b1 k s hk hs]
      congr 1
      unfold mxi mxk
      by_cases c : m < k
      · rw [if_pos c, if_pos (by omega)]
      · rw [if_neg c, if_neg (by omega)])
    refine ⟨T', v8, v9', a1, fun d F => ?_⟩
    refine Eq.trans ?_ (a2 d F)
    have e0 : nI 3841 - nI 1 = nI 3840 := by decide
    rw [e0] at b2
    rw [r212_97]
    simp (disch := omega) only [r212_99, r212_102, r212_105, kdC, kdM, rpC, rpM, q_rs, q_rn, Option.toList_some, Option.toList_none, List.cons_append, List.nil_append, true_and, and_true, eq_self, ↓reduceIte, not_true_eq_false, not_false_eq_true, Nat.reduceEqDiff, Nat.reduceLeDiff, Nat.reduceLT, Nat.reduceAdd, Nat.reduceMul, Nat.reduceSub, false_or, or_false, true_or, or_true, false_and, and_false, reduceCtorEq, q_n0, q_n1, q_em, q_em2, q_b0, q_b1, Classical.not_not, nI_add, pk_mul, nI_clamp, q_vp, nI_eq, nI_leI, nI_ltI, q_sub, show ¬ m + 1 ≤ 0 by omega]
    refine Eq.trans (b2 d F) ?_
    simp (disch := omega) only [r212_156, r212_159, q_dec, kdC, kdM, rpC, rpM, q_rs, q_rn, Option.toList_some, Option.toList_none, List.cons_append, List.nil_append, true_and, and_true, eq_self, ↓reduceIte, not_true_eq_false, not_false_eq_true, Nat.reduceEqDiff, Nat.reduceLeDiff, Nat.reduceLT, Nat.reduceAdd, Nat.reduceMul, Nat.reduceSub, false_or, or_false, true_or, or_true, false_and, and_false, reduceCtorEq, q_n0, q_n1, q_em, q_em2, q_b0, q_b1, Classical.not_not]
theorem ml212f (hK : gI h 103 = K) (w : WF K) (hw : wh = nI 0 ∨ wh = nI 1) (v2 : Value) : ∀ k f T (v7 v8 v9 : Value), f + k = nf K → TM T (tb (isOf K wh) (fun i => (wN K i : Int)) f) → ∃ T' v7' v8' v9', TM T' (tb (isOf K wh) (fun i => (wN K i : Int)) (nf K)) ∧ ∀ d F, wp true (d + 5) 212 57 [.ref 101, .int wh, v2, .int (nI (cntT (isOf K wh) f)), .int (nI (cntT (fun f => wh < wst K f) f)), .int (nI (snN (fun f => wh < wst K f) (wN K) f)), .int (nI f), v7, v8, v9] [] (sA h 116 T) F = wp true (d + 5) 212 191 [.ref 101, .int wh, v2, .int (nI (cntT (isOf K wh) (nf K))), .int (nI (cntT (fun f => wh < wst K f) (nf K))), .int (nI (snN (fun f => wh < wst K f) (wN K) (nf K))), .int (nI (nf K)), v7', v8', v9'] [] (sA h 116 T') F
  | 0, f, T, v7, v8, v9, e, i1 => by
    obtain rfl : f = nf K := e
    have h1 := w.hnf
    have hK1 := (K116 (h := h) T).trans hK
    refine ⟨T, v7, v8, v9, i1, fun d F => ?_⟩
    rw [r212_57]
    simp (disch := omega) only [r212_59, r212_60, r212_63, c153 _ _ _ hK1 w, kdC, kdM, rpC, rpM, q_rs, q_rn, Option.toList_some, Option.toList_none, List.cons_append, List.nil_append, true_and, and_true, eq_self, ↓reduceIte, not_true_eq_false, not_false_eq_true, Nat.reduceEqDiff, Nat.reduceLeDiff, Nat.reduceLT, Nat.reduceAdd, Nat.reduceMul, Nat.reduceSub, false_or, or_false, true_or, or_true, false_and, and_false, reduceCtorEq, q_n0, q_n1, q_em, q_em2, q_b0, q_b1, Classical.not_not, nI_add, pk_mul, nI_clamp, q_vp, nI_eq, nI_leI, nI_ltI, q_sub, Nat.le_refl]
  | k + 1, f, T, v7, v8, v9, e, i1 => by
    have h1 := w.hnf
    have hf : f < nf K := by omega
    have hK1 := (K116 (h := h) T).trans hK
    have h160 := fun F d => m160 d (sA h 116 T) F hK1 w hf hw
    have h155 := fun F d => c155 d (sA h 116 T) F hK1 (show f < 24 by omega) (show 0 < 9 by omega)
    obtain ⟨e1, e2⟩ := cw_K w hf
    have e3 : K (9 * f + 0) - (-40) = nI (wN K f) := by
      rw [Nat.add_zero, e1, show (-40 : Int32) = cw 0 by decide, cw_sub (by omega)]; rfl
    by_cases c : isOf K wh f
    · have hcn := cnt_le (isOf K wh) f
      obtain ⟨T1, w8, w9, b1, b2⟩ := ml212k (h := h) (u := wN K f) (n := cntT (isOf K wh) f + 1) (G := tb (isOf K wh) (fun i => (wN K i : Int)) f) e2 (fun k s hk => by
        unfold gad
        by_cases q : 1 ≤ k ∧ wN K f ≤ s
        · rw [if_pos q, tb_big (k := k - 1) (fun i hi hp => w_bd (wh := wh) w i (by omega) hp) (by omega), Nat.add_zero]
        · rw [if_neg q, Nat.add_zero]) (.int wh) v2 (.int (nI (cntT (isOf K wh) f + 1))) (.int (nI (cntT (fun f => wh < wst K f) f))) (.int (nI (snN (fun f => wh < wst K f) (wN K) f))) (.int (nI f)) (cntT (isOf K wh) f + 1) T v9 (by omega) (Nat.le_refl _) (fun k s hk hs => by
        rw [i1 k s hk hs]
        congr 1
        unfold mxk
        by_cases q : cntT (isOf K wh) f + 1 < k
        · rw [if_pos q]
          unfold gad
          by_cases q2 : 1 ≤ k ∧ wN K f ≤ s
          · rw [if_pos q2, tb_big (k := k - 1) (fun i hi hp => w_bd (wh := wh) w i (by omega) hp) (by omega), Nat.add_zero]
          · rw [if_neg q2, Nat.add_zero]
        · rw [if_neg q])
      have hK2 := (K116 (h := h) T1).trans hK
      have h161 := fun F d => m161 d (sA h 116 T1) F hK2 w hf hw
      obtain ⟨T', v7', v8', v9', a1, a2⟩ := ml212f hK w hw v2 k (f + 1) T1 (.int (nI (wN K f))) w8 w9 (by omega) (fun k s hk hs => by
        rw [b1 k s hk hs]
        congr 1
        unfold gad
        rw [tb_y (u := wN K f) (fun i hi hp => w_bd (wh := wh) w i (by omega) hp) c rfl])
      refine ⟨T', v7', v8', v9', a1, fun d F => ?_⟩
      refine Eq.trans ?_ (a2 d F)
      rw [cnt_s, cnt_s, show snN (fun f => wh < wst K f) (wN K) (f + 1) = snN (fun f => wh < wst K f) (wN K) f + pif (wh < wst K f) (wN K f) 0 from rfl]
      rw [pif_t c, r212_57]
      have b2' := fun F => b2 (d + 5) F
      simp (disch := omega) only [r212_59, r212_60, r212_63, r212_66, r212_67, r212_69, r212_70, r212_73, r212_76, r212_79, r212_80, r212_82, r212_83, r212_86, r212_88, r212_89, r212_91, r212_94, r212_95, c153 _ _ _ hK1 w, h160, h155, e3, q_bt c, kdC, kdM, rpC, rpM, q_rs, q_rn, Option.toList_some, Option.toList_none, List.cons_append, List.nil_append, true_and, and_true, eq_self, ↓reduceIte, not_true_eq_false, not_false_eq_true, Nat.reduceEqDiff, Nat.reduceLeDiff, Nat.reduceLT, Nat.reduceAdd, Nat.reduceMul, Nat.reduceSub, false_or, or_false, true_or, or_true, false_and, and_false, reduceCtorEq, q_n0, q_n1, q_em, q_em2, q_b0, q_b1, Classical.not_not, nI_add, pk_mul, nI_clamp, q_vp, nI_eq, nI_leI, nI_ltI, q_sub, show ¬ nf K ≤ f by omega]
      refine Eq.trans (b2 (d + 5) F) ?_
      by_cases cb : wh < wst K f
      · rw [pif_t cb, pif_t cb]
        simp (disch := omega) only [r212_162, r212_163, r212_165, r212_166, r212_169, r212_172, r212_175, r212_178, r212_180, r212_182, r212_183, r212_185, r212_188, h161, q_bt cb, kdC, kdM, rpC, rpM, q_rs, q_rn, Option.toList_some, Option.toList_none, List.cons_append, List.nil_append, true_and, and_true, eq_self, ↓reduceIte, not_true_eq_false, not_false_eq_true, Nat.reduceEqDiff, Nat.reduceLeDiff, Nat.reduceLT, Nat.reduceAdd, Nat.reduceMul, Nat.reduceSub, false_or, or_false, true_or, or_true, false_and, and_false, reduceCtorEq, q_n0, q_n1, q_em, q_em2, q_b0, q_b1, Classical.not_not, nI_add, pk_mul, nI_clamp, q_vp, nI_eq, nI_leI, nI_ltI, q_sub]
      · rw [pif_f cb, pif_f cb]
        simp (disch := omega) only [r212_162, r212_163, r212_165, r212_166, r212_169, r212_172, r212_175, r212_178, r212_180, r212_182, r212_183, r212_185, r212_188, h161, q_bf cb, kdC, kdM, rpC, rpM, q_rs, q_rn, Option.toList_some, Option.toList_none, List.cons_append, List.nil_append, true_and, and_true, eq_self, ↓reduceIte, not_true_eq_false, not_false_eq_true, Nat.reduceEqDiff, Nat.reduceLeDiff, Nat.reduceLT, Nat.reduceAdd, Nat.reduceMul, Nat.reduceSub, false_or, or_false, true_or, or_true, false_and, and_false, reduceCtorEq, q_n0, q_n1, q_em, q_em2, q_b0, q_b1, Classical.not_not, nI_add, pk_mul, nI_clamp, q_vp, nI_eq, nI_leI, nI_ltI, q_sub, Nat.add_zero]
    · have cb : ¬ wh < wst K f := fun u => c (of_bad hw u)
      obtain ⟨T', v7', v8', v9', a1, a2⟩ := ml212f hK w hw v2 k (f + 1) T v7 v8 v9 (by omega) (fun k s hk hs => by rw [i1 k s hk hs, tb_n c])
      refine ⟨T', v7', v8', v9', a1, fun d F => ?_⟩
      refine Eq.trans ?_ (a2 d F)
      rw [cnt_s, cnt_s, show snN (fun f => wh < wst K f) (wN K) (f + 1) = snN (fun f => wh < wst K f) (wN K) f + pif (wh < wst K f) (wN K f) 0 from rfl]
      rw [pif_f c, pif_f cb, pif_f cb, r212_57]
      simp (disch := omega) only [r212_59, r212_60, r212_63, r212_66, r212_67, r212_69, r212_70, r212_73, r212_76, r212_79, r212_80, r212_82, r212_83, r212_86, r212_88, r212_89, r212_91, r212_94, r212_95, r212_99, r212_102, r212_105, r212_109, r212_111, r212_114, r212_115, r212_118, r212_121, r212_123, r212_124, r212_126, r212_127, r212_128, r212_129, r212_130, r212_133, r212_136, r212_138, r212_139, r212_140, r212_141, r212_143, r212_144, r212_146, r212_147, r212_148, r212_149, r212_150, r212_153, r212_156, r212_159, r212_162, r212_163, r212_165, r212_166, r212_169, r212_172, r212_175, r212_178, r212_180, r212_182, r212_183, r212_185, r212_188, r212_97, r212_107, c153 _ _ _ hK1 w, h160, q_bf c, kdC, kdM, rpC, rpM, q_rs, q_rn, Option.toList_some, Option.toList_none, List.cons_append, List.nil_append, true_and, and_true, eq_self, ↓reduceIte, not_true_eq_false, not_false_eq_true, Nat.reduceEqDiff, Nat.reduceLeDiff, Nat.reduceLT, Nat.reduceAdd, Nat.reduceMul, Nat.reduceSub, false_or, or_false, true_or, or_true, false_and, and_false, reduceCtorEq, q_n0, q_n1, q_em, q_em2, q_b0, q_b1, Classical.not_not, nI_add, pk_mul, nI_clamp, q_vp, nI_eq, nI_leI, nI_ltI, q_sub, Nat.add_zero, show ¬ nf K ≤ f by omega]
/-- what is added up at the end -/
def tkS1 (p : Nat) (S : Nat) (g : Nat → Nat) (s : Nat) : Nat := if p = 1 ∨ s ≤ S then g s else 0
theorem ml212e {b S p : Nat} {T : Nat → Int32} {G : Nat → Nat → Nat} (hb : b ≤ 24) (hS : S ≤ 3840) (hp : p ≤ 1) (i1 : TM T G) (v1 v3 v8 v9 : Value) (d : Nat) (F : Po) : ∀ k s, s + k = 3841 → wp true d 212 197 [.ref 101, v1, .int (nI p), v3, .int (nI b), .int (nI S), .int (nI (sumN (tkS1 p S (G b)) s)), .int (nI s), v8, v9] [] (sA h 116 T) F = F (some (.int (nI (sumN (tkS1 p S (G b)) 3841)))) (sA h 116 T)
  | 0, s, e => by
    obtain rfl : s = 3841 := e
    rw [r212_197]
    simp (disch := omega) only [e212, r212_0, r212_1, r212_4, r212_7, r212_8, r212_9, r212_10, r212_13, r212_16, r212_17, r212_18, r212_19, r212_21, r212_23, r212_26, r212_27, r212_30, r212_31, r212_32, r212_33, r212_36, r212_39, r212_40, r212_43, r212_44, r212_45, r212_46, r212_47, r212_48, r212_49, r212_51, r212_52, r212_54, r212_55, r212_59, r212_60, r212_63, r212_66, r212_67, r212_69, r212_70, r212_73, r212_76, r212_79, r212_80, r212_82, r212_83, r212_86, r212_88, r212_89, r212_91, r212_94, r212_95, r212_99, r212_102, r212_105, r212_109, r212_111, r212_114, r212_115, r212_118, r212_121, r212_123, r212_124, r212_126, r212_127, r212_128, r212_129, r212_130, r212_133, r212_136, r212_138, r212_139, r212_140, r212_141, r212_143, r212_144, r212_146, r212_147, r212_148, r212_149, r212_150, r212_153, r212_156, r212_159, r212_162, r212_163, r212_165, r212_166, r212_169, r212_172, r212_175, r212_178, r212_180, r212_182, r212_183, r212_185, r212_188, r212_191, r212_192, r212_194, r212_195, r212_199, r212_202, r212_205, r212_206, r212_207, r212_210, r212_212, r212_214, r212_217, r212_219, r212_220, r212_223, r212_226, r212_228, r212_229, r212_231, r212_232, r212_233, r212_234, r212_236, r212_239, r212_242, r212_244, kdC, kdM, rpC, rpM, q_rs, q_rn, Option.toList_some, Option.toList_none, List.cons_append, List.nil_append, true_and, and_true, eq_self, ↓reduceIte, not_true_eq_false, not_false_eq_true, Nat.reduceEqDiff, Nat.reduceLeDiff, Nat.reduceLT, Nat.reduceAdd, Nat.reduceMul, Nat.reduceSub, false_or, or_false, true_or, or_true, false_and, and_false, reduceCtorEq, q_n0, q_n1, q_em, q_em2, q_b0, q_b1, Classical.not_not, nI_add, pk_mul, nI_clamp, q_vp, nI_eq, nI_leI, nI_ltI, q_sub, Nat.le_refl]
  | k + 1, s, e => by
    refine Eq.trans ?_ (ml212e hb hS hp i1 v1 v3 v8 v9 d F k (s + 1) (by omega))
    have r1 := i1 b s hb (by omega)
    rw [show sumN (tkS1 p S (G b)) (s + 1) = sumN (tkS1 p S (G b)) s + tkS1 p S (G b) s from rfl, r212_197]
    rcases (show p = 0 ∨ p = 1 by omega) with rfl | rfl
    · by_cases c : s ≤ S
      · rw [show tkS1 0 S (G b) s = G b s by unfold tkS1; rw [if_pos (Or.inr c)]]
        simp (disch := omega) only [r212_199, r212_202, r212_205, r212_206, r212_207, r212_210, r212_212, r212_214, r212_217, r212_219, r212_220, r212_223, r212_226, r212_228, r212_229, r212_231, r212_232, r212_233, r212_234, r212_236, r212_239, kd116, q_ga, r1, kdC, kdM, rpC, rpM, q_rs, q_rn, Option.toList_some, Option.toList_none, List.cons_append, List.nil_append, true_and, and_true, eq_self, ↓reduceIte, not_true_eq_false, not_false_eq_true, Nat.reduceEqDiff, Nat.reduceLeDiff, Nat.reduceLT, Nat.reduceAdd, Nat.reduceMul, Nat.reduceSub, false_or, or_false, true_or, or_true, false_and, and_false, reduceCtorEq, q_n0, q_n1, q_em, q_em2, q_b0, q_b1, Classical.not_not, nI_add, pk_mul, nI_clamp, q_vp, nI_eq, nI_leI, nI_ltI, q_sub, show ¬ 3841 ≤ s by omega, show ¬ S < s by omega, show 3841 * b + s < 96025 by omega]
      · rw [show tkS1 0 S (G b) s = 0 by unfold tkS1; rw [if_neg (by omega)]]
        simp (disch := omega) only [r212_199, r212_202, r212_205, r212_206, r212_207, r212_210, r212_212, r212_214, r212_217, r212_219, r212_220, r212_223, r212_226, r212_228, r212_229, r212_231, r212_232, r212_233, r212_234, r212_236, r212_239, kdC, kdM, rpC, rpM, q_rs, q_rn, Option.toList_some, Option.toList_none, List.cons_append, List.nil_append, true_and, and_true, eq_self, ↓reduceIte, not_true_eq_false, not_false_eq_true, Nat.reduceEqDiff, Nat.reduceLeDiff, Nat.reduceLT, Nat.reduceAdd, Nat.reduceMul, Nat.reduceSub, false_or, or_false, true_or, or_true, false_and, and_false, reduceCtorEq, q_n0, q_n1, q_em, q_em2, q_b0, q_b1, Classical.not_not, nI_add, pk_mul, nI_clamp, q_vp, nI_eq, nI_leI, nI_ltI, q_sub, show ¬ 3841 ≤ s by omega, show S < s by omega, Nat.add_zero]
    · rw [show tkS1 1 S (G b) s = G b s by unfold tkS1; rw [if_pos (Or.inl rfl)]]
      simp (disch := omega) only [r212_199, r212_202, r212_205, r212_206, r212_207, r212_210, r212_212, r212_214, r212_217, r212_219, r212_220, r212_223, r212_226, r212_228, r212_229, r212_231, r212_232, r212_233, r212_234, r212_236, r212_239, kd116, q_ga, r1, kdC, kdM, rpC, rpM, q_rs, q_rn, Option.toList_some, Option.toList_none, List.cons_append, List.nil_append, true_and, and_true, eq_self, ↓reduceIte, not_true_eq_false, not_false_eq_true, Nat.reduceEqDiff, Nat.reduceLeDiff, Nat.reduceLT, Nat.reduceAdd, Nat.reduceMul, Nat.reduceSub, false_or, or_false, true_or, or_true, false_and, and_false, reduceCtorEq, q_n0, q_n1, q_em, q_em2, q_b0, q_b1, Classical.not_not, nI_add, pk_mul, nI_clamp, q_vp, nI_eq, nI_leI, nI_ltI, q_sub, show ¬ 3841 ≤ s by omega, show 3841 * b + s < 96025 by omega]
theorem tk_0 {S : Nat} (g : Nat → Nat) : ∀ n, n ≤ S + 1 → sumN (tkS1 0 S g) n = sumN g n
  | 0, _ => rfl
  | n + 1, hn => by
    show sumN (tkS1 0 S g) n + tkS1 0 S g n = sumN g n + g n
    rw [tk_0 g n (by omega), show tkS1 0 S g n = g n by unfold tkS1; rw [if_pos (Or.inr (by omega))]]
theorem tk_0b {S : Nat} (g : Nat → Nat) : ∀ k, sumN (tkS1 0 S g) (S + 1 + k) = sumN g (S + 1)
  | 0 => tk_0 g _ (Nat.le_refl _)
  | k + 1 => by
    show sumN (tkS1 0 S g) (S + 1 + k) + tkS1 0 S g (S + 1 + k) = _
    rw [tk_0b g k, show tkS1 0 S g (S + 1 + k) = 0 by unfold tkS1; rw [if_neg (by omega)], Nat.add_zero]
theorem tk_1 {S : Nat} (g : Nat → Nat) : ∀ n, sumN (tkS1 1 S g) n = sumN g n
  | 0 => rfl
  | n + 1 => by
    show sumN (tkS1 1 S g) n + tkS1 1 S g n = sumN g n + g n
    rw [tk_1 g n, show tkS1 1 S g n = g n by unfold tkS1; rw [if_pos (Or.inl rfl)]]
theorem ml212z (v1 v2 v4 v5 v6 v7 v8 v9 : Value) : ∀ k i T, i + k = 96025 → (∀ j, j < i → T j = nI 0) → ∃ T', (∀ j, j < 96025 → T' j = nI 0) ∧ ∀ d F, wp true d 212 20 [.ref 101, v1, v2, .int (nI i), v4, v5, v6, v7, v8, v9] [] (sA h 116 T) F = wp true d 212 39 [.ref 101, v1, v2, .int (nI 96025), v4, v5, v6, v7, v8, v9] [] (sA h 116 T') F := by
  intro k
  induction k with
  | zero =>
    intro i T e i1
    obtain rfl : i = 96025 := e
    refine ⟨T, i1, fun d F => ?_⟩
    rw [r212_20]
    simp (disch := omega) only [r212_21, r212_23, kdC, kdM, rpC, rpM, q_rs, q_rn, Option.toList_some, Option.toList_none, List.cons_append, List.nil_append, true_and, and_true, eq_self, ↓reduceIte, not_true_eq_false, not_false_eq_true, Nat.reduceEqDiff, Nat.reduceLeDiff, Nat.reduceLT, Nat.reduceAdd, Nat.reduceMul, Nat.reduceSub, false_or, or_false, true_or, or_true, false_and, and_false, reduceCtorEq, q_n0, q_n1, q_em, q_em2, q_b0, q_b1, Classical.not_not, nI_add, pk_mul, nI_clamp, q_vp, nI_eq, nI_leI, nI_ltI, q_sub, Nat.le_refl]
  | succ k ih =>
    intro i T e i1
    obtain ⟨T', a1, a2⟩ := ih (i + 1) (upd T i (nI 0)) (by omega) (by
      intro j hj
      unfold upd
      by_cases ej : j = i
      · rw [if_pos ej]
      · rw [if_neg ej]; exact i1 j (by omega))
    refine ⟨T', a1, fun d F => ?_⟩
    refine Eq.trans ?_ (a2 d F)
    rw [r212_20]
    simp (disch := omega) only [r212_21, r212_23, r212_26, r212_27, r212_30, r212_31, r212_32, r212_33, r212_36, kd116, q_sIs, kdC, kdM, rpC, rpM, q_rs, q_rn, Option.toList_some, Option.toList_none, List.cons_append, List.nil_append, true_and, and_true, eq_self, ↓reduceIte, not_true_eq_false, not_false_eq_true, Nat.reduceEqDiff, Nat.reduceLeDiff, Nat.reduceLT, Nat.reduceAdd, Nat.reduceMul, Nat.reduceSub, false_or, or_false, true_or, or_true, false_and, and_false, reduceCtorEq, q_n0, q_n1, q_em, q_em2, q_b0, q_b1, Classical.not_not, nI_add, pk_mul, nI_clamp, q_vp, nI_eq, nI_leI, nI_ltI, q_sub, show ¬ 96025 ≤ i by omega, show i < 96025 by omega]
theorem m212 (hK : gI h 103 = K) (w : WF K) (hw : wh = nI 0 ∨ wh = nI 1) {p : Nat} (hp : p ≤ 1) : ∃ T, ∀ d F, cwp true (d + 5) 212 [.ref 101, .int wh, .int (nI p)] h F = F (some (.int (nI (if p = 0 then saysC K wh else chN (cntT (isOf K wh) (nf K)) (cntT (fun f => wh < wst K f) (nf K)))))) (sA h 116 T) := by
  have hnf := w.hnf
  have hN := cnt_le (isOf K wh) (nf K)
  have hle := bd_le (K := K) hw (nf K)
  have hS := sn_le (Q := fun f => wh < wst K f) (g := wN K) (nf K) (fun f hf => (cw_K w hf).2)
  obtain ⟨T0, a1, a2⟩ := ml212z (h := h) (.int wh) (.int (nI p)) jn jn jn jn jn jn 96025 0 (gI h 116) (by omega) (fun j hj => by omega)
  obtain ⟨T1, v7, v8, v9, b1, b2⟩ := ml212f (h := h) (wh := wh) hK w hw (.int (nI p)) (nf K) 0 (upd T0 0 (nI 1)) jn jn jn (by omega) (fun k s hk hs => by
    rw [tb_0]
    unfold upd
    by_cases e : k = 0 ∧ s = 0
    · rw [if_pos e, if_pos (by omega)]
    · rw [if_neg e, if_neg (by omega), a1 _ (by omega)])
  refine ⟨T1, fun d F => ?_⟩
  have e1 := ml212e (h := h) (b := cntT (fun f => wh < wst K f) (nf K)) (S := snN (fun f => wh < wst K f) (wN K) (nf K)) (by omega) (by omega) hp b1 (.int wh) (.int (nI (cntT (isOf K wh) (nf K)))) v8 v9 (d + 5) F 3841 0 (by omega)
  have hres : sumN (tkS1 p (snN (fun f => wh < wst K f) (wN K) (nf K)) (tb (isOf K wh) (fun i => (wN K i : Int)) (nf K) (cntT (fun f => wh < wst K f) (nf K)))) 3841 = (if p = 0 then saysC K wh else chN (cntT (isOf K wh) (nf K)) (cntT (fun f => wh < wst K f) (nf K))) := by
    rcases (show p = 0 ∨ p = 1 by omega) with rfl | rfl
    · rw [if_pos rfl]
      have h1 := tk_0b (S := snN (fun f => wh < wst K f) (wN K) (nf K)) (tb (isOf K wh) (fun i => (wN K i : Int)) (nf K) (cntT (fun f => wh < wst K f) (nf K))) (3841 - (snN (fun f => wh < wst K f) (wN K) (nf K) + 1))
      rw [show snN (fun f => wh < wst K f) (wN K) (nf K) + 1 + (3841 - (snN (fun f => wh < wst K f) (wN K) (nf K) + 1)) = 3841 by omega] at h1
      rw [h1, tb_sum]
      unfold saysC
      refine zN_bd (nf K) _ _ (w_bd w) (fun k s h1 h2 h3 h4 => ?_)
      by_cases c : k = (cntT (fun f => wh < wst K f) (nf K) : Int) ∧ s < (snN (fun f => wh < wst K f) (wN K) (nf K) : Int) + 1
      · rw [if_pos c, if_pos (by omega)]
      · rw [if_neg c, if_neg (by omega)]
    · rw [if_neg (by omega), tk_1, tb_sum, ← zN_ch (P := isOf K wh) (w := fun i => (wN K i : Int))]
      refine zN_bd (nf K) _ _ (w_bd w) (fun k s h1 h2 h3 h4 => ?_)
      by_cases c : k = (cntT (fun f => wh < wst K f) (nf K) : Int)
      · rw [if_pos c, if_pos (by omega)]
      · rw [if_neg c, if_neg (fun u => c u.1)]
  rw [hres] at e1
  have a3 := a2 (d + 5) F
  rw [q_sAs] at a3
  have hws : (wh = nI 0 ∨ wh = nI 1) = True := eq_true hw
  have hpc : (nI 0 ≤ nI p ∧ nI p ≤ nI 1) = True := by
    apply eq_true
    simp (disch := omega) only [nI_leI]
    omega
  simp (disch := omega) only [r212_0, r212_1, r212_4, r212_7, r212_8, r212_9, r212_10, r212_13, r212_16, r212_17, r212_18, r212_19, e212, c152, c143, hws, hpc, kdC, kdM, rpC, rpM, q_rs, q_rn, Option.toList_some, Option.toList_none, List.cons_append, List.nil_append, true_and, and_true, eq_self, ↓reduceIte, not_true_eq_false, not_false_eq_true, Nat.reduceEqDiff, Nat.reduceLeDiff, Nat.reduceLT, Nat.reduceAdd, Nat.reduceMul, Nat.reduceSub, false_or, or_false, true_or, or_true, false_and, and_false, reduceCtorEq, q_n0, q_n1, q_em, q_em2, q_b0, q_b1, Classical.not_not]
  refine Eq.trans a3 ?_
  simp (disch := omega) only [r212_39, r212_40, r212_43, r212_44, r212_45, r212_46, r212_47, r212_48, r212_49, r212_51, r212_52, r212_54, r212_55, kd116, q_sIs, kdC, kdM, rpC, rpM, q_rs, q_rn, Option.toList_some, Option.toList_none, List.cons_append, List.nil_append, true_and, and_true, eq_self, ↓reduceIte, not_true_eq_false, not_false_eq_true, Nat.reduceEqDiff, Nat.reduceLeDiff, Nat.reduceLT, Nat.reduceAdd, Nat.reduceMul, Nat.reduceSub, false_or, or_false, true_or, or_true, false_and, and_false, reduceCtorEq, q_n0, q_n1, q_em, q_em2, q_b0, q_b1, Classical.not_not, nI_add, pk_mul, nI_clamp, q_vp, nI_eq, nI_leI, nI_ltI, q_sub]
  refine Eq.trans (b2 d F) ?_
  simp (disch := omega) only [r212_191, r212_192, r212_194, r212_195]
  exact e1
end MS
