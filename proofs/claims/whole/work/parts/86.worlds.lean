/-! worlds drawn -/
def nxd (x : Nat) : Nat := (x * 1103 + 12345) % 1000003
noncomputable def whX (K : Nat → Int32) (σ : Nat → Nat) (x : Nat) : Nat → Nat
  | 0 => x
  | i + 1 => pif (isSent K (σ i)) (nxd (whX K σ x i)) (whX K σ x i)
noncomputable def whD (K : Nat → Int32) (T : Tk) (σ : Nat → Nat) (x t : Nat) : Nat → Int32 × Int32
  | 0 => (K (244 + 5 * t + 3), nI 0)
  | i + 1 => pif (isSent K (σ i) ∧ ¬ nI (nxd (whX K σ x i) % 100) < K 218) (shw K T (σ i) t (whD K T σ x t i)) (whD K T σ x t i)
theorem nxd_lt (x : Nat) : nxd x < 1000003 := Nat.mod_lt _ (by omega)
theorem whX_lt {K : Nat → Int32} {σ : Nat → Nat} {x : Nat} (hx : x < 1000003) : ∀ i, whX K σ x i < 1000003
  | 0 => hx
  | i + 1 => by
    unfold whX
    by_cases c : isSent K (σ i)
    · rw [pif_t c]; exact nxd_lt _
    · rw [pif_f c]; exact whX_lt hx i
section WD
variable {h : Hp} {K : Nat → Int32} {T Ts : Tk} {t' ts a b m x : Nat} {wf σ : Nat → Nat}
theorem whD_o (w : WF K) {t : Nat} (ht : t < nt K) : ∀ i, dpO (whD K T σ x t i)
  | 0 => ⟨(w.2.2.2.2.1 t ht).2.2.2.1, show rg (nI 0) 0 1 from ⟨by decide, by decide⟩⟩
  | i + 1 => by
    unfold whD
    by_cases c : isSent K (σ i) ∧ ¬ nI (nxd (whX K σ x i) % 100) < K 218
    · rw [pif_t c]; exact shw_o (whD_o w ht i)
    · rw [pif_f c]; exact whD_o w ht i
theorem cl77b (z : STS h 0 K) (hP : gP h 88 3 = some a) (te : tEq K t' T) (ta : tAt h a T) (hW : WH h m wf K) (hσ : isTurn K σ) (h23 : ∀ i, i < ns K → gI h 23 i = nI (σ i)) (hx : x < 1000003) (v1 v2 v3 v5 : Value) : ∀ k i h0 (v7 : Value), i + k = ns K → FrS tkS h h0 → (∀ j, j < m → DP h0 0 (wf j) = whD K T σ x (wf j) i) → (∀ i, i < 4 → gI h0 81 i = nI 0) → ∃ h' v7', FrS tkS h h' ∧ (∀ j, j < m → DP h' 0 (wf j) = whD K T σ x (wf j) (ns K)) ∧ (∀ i, i < 4 → gI h' 81 i = nI 0) ∧ ∀ d F, wp true (d + 5) 77 21 [.ref 88, v1, v2, v3, .int (nI (whX K σ x i)), v5, .int (nI i), v7] [] h0 F = wp true (d + 5) 77 102 [.ref 88, v1, v2, v3, .int (nI (whX K σ x (ns K))), v5, .int (nI (ns K)), v7'] [] h' F
  | 0, i, h0, v7, e, y, i1, hw => by
    obtain rfl : i = ns K := e
    have w := z.1
    have h1 := w.hns
    have q := (STS_fr (Tk_fr y) (Or.inl rfl) z).2.1
    refine ⟨h0, v7, y, i1, hw, fun d F => ?_⟩
    rw [r77_21]
    simp (disch := omega) only [r77_23, r77_24, r77_27, r77_30, q.hns, h1, kdC, kdM, rpC, rpM, q_rs, q_rn, Option.toList_some, Option.toList_none, List.cons_append, List.nil_append, true_and, and_true, eq_self, ↓reduceIte, not_true_eq_false, not_false_eq_true, Nat.reduceEqDiff, Nat.reduceLeDiff, Nat.reduceLT, Nat.reduceAdd, Nat.reduceMul, Nat.reduceSub, false_or, or_false, true_or, or_true, false_and, and_false, reduceCtorEq, q_n0, q_n1, q_em, q_em2, q_b0, q_b1, Classical.not_not, nI_add, pk_mul, nI_clamp, q_vp, nI_eq, nI_leI, nI_ltI, q_sub, Nat.le_refl]
  | k + 1, i, h0, v7, e, y, i1, hw => by
    have w := z.1
    have h1 := w.hns
    have hi : i < ns K := by omega
    have hs := hσ.1 i hi
    have hs12 : σ i < 12 := by omega
    have z0 := STS_fr (Tk_fr y) (Or.inl rfl) z
    have q := z0.2.1
    have g23 : gI h0 23 i = nI (σ i) := by rw [y.g (a := 23) (i := i) rfl]; exact h23 i hi
    have hxl := whX_lt (K := K) (σ := σ) hx i
    have e218 : gI h0 24 2 = K 218 := q.t (by omega)
    have hmod : whX K σ x i * 1103 + 12345 - (whX K σ x i * 1103 + 12345) / 1000003 * 1000003 = nxd (whX K σ x i) := by
      unfold nxd
      have := Nat.div_add_mod (whX K σ x i * 1103 + 12345) 1000003
      omega
    have hmod2 : ∀ n, n - n / 100 * 100 = n % 100 := fun n => by omega
    have hnl := nxd_lt (whX K σ x i)
    by_cases c1 : isSent K (σ i)
    · have c1' : K (304 + 6 * σ i + 5) = nI 1 := c1
      have hX : whX K σ x (i + 1) = nxd (whX K σ x i) := by
        show pif (isSent K (σ i)) _ _ = _
        rw [pif_t c1]
      by_cases c2 : nI (nxd (whX K σ x i) % 100) < K 218
      · obtain ⟨h', v7', a1, a2, a3, a4⟩ := cl77b z hP te ta hW hσ h23 hx v1 v2 v3 v5 k (i + 1) h0 (.int (nI (σ i))) (by omega) y (by
          intro j hj
          rw [i1 j hj]
          show _ = pif (isSent K (σ i) ∧ ¬ nI (nxd (whX K σ x i) % 100) < K 218) _ _
          rw [pif_f (fun u => u.2 c2)]) hw
        refine ⟨h', v7', a1, a2, a3, fun d F => ?_⟩
        refine Eq.trans ?_ (a4 d F)
        rw [hX, r77_21]
        generalize hX0 : whX K σ x i = X at *
        simp (disch := omega) only [r77_23, r77_24, r77_27, r77_30, r77_33, r77_34, r77_37, r77_40, r77_42, r77_43, r77_45, r77_46, r77_49, r77_52, r77_54, r77_55, r77_56, r77_59, r77_61, r77_64, r77_65, r77_68, r77_69, r77_71, r77_72, r77_74, r77_76, r77_78, r77_79, r77_80, r77_83, r77_84, r77_85, r77_88, r77_89, r77_91, r77_92, r77_93, r77_96, r77_99, q.hns, h1, g23, q.s5, c1', e218, kdC, kdM, rpC, rpM, q_rs, q_rn, Option.toList_some, Option.toList_none, List.cons_append, List.nil_append, true_and, and_true, eq_self, ↓reduceIte, not_true_eq_false, not_false_eq_true, Nat.reduceEqDiff, Nat.reduceLeDiff, Nat.reduceLT, Nat.reduceAdd, Nat.reduceMul, Nat.reduceSub, false_or, or_false, true_or, or_true, false_and, and_false, reduceCtorEq, q_n0, q_n1, q_em, q_em2, q_b0, q_b1, Classical.not_not, nI_add, pk_mul, nI_clamp, q_vp, nI_eq, nI_leI, nI_ltI, q_sub, pk_div, hmod, hmod2, c2, hs12, show ¬ ns K ≤ i by omega, show i < 12 by omega]
      · obtain ⟨h2, b1, b2, b3, b4, b5, b6⟩ := c66 (T := T) (s := σ i) (fr := 0) (to' := 0) z0 (by rw [y.p (a := 88) (i := 3) rfl]; exact hP) te (tAt_fr (Tk_fr y) ta) hs (WH_tk y hW) (by omega) (by omega) hw
        obtain ⟨h', v7', a1, a2, a3, a4⟩ := cl77b z hP te ta hW hσ h23 hx v1 v2 v3 v5 k (i + 1) h2 (.int (nI (σ i))) (by omega) (y.trans b1) (by
          intro j hj
          rw [b2 j hj, i1 j hj]
          show _ = pif (isSent K (σ i) ∧ ¬ nI (nxd (whX K σ x i) % 100) < K 218) _ _
          rw [pif_t ⟨c1, c2⟩]) b5
        refine ⟨h', v7', a1, a2, a3, fun d F => ?_⟩
        have b6' := fun F => b6 d F
        refine Eq.trans ?_ (a4 d F)
        rw [hX, r77_21]
        generalize hX0 : whX K σ x i = X at *
        simp (disch := omega) only [r77_23, r77_24, r77_27, r77_30, r77_33, r77_34, r77_37, r77_40, r77_42, r77_43, r77_45, r77_46, r77_49, r77_52, r77_54, r77_55, r77_56, r77_59, r77_61, r77_64, r77_65, r77_68, r77_69, r77_71, r77_72, r77_74, r77_76, r77_78, r77_79, r77_80, r77_83, r77_84, r77_85, r77_88, r77_89, r77_91, r77_92, r77_93, r77_96, r77_99, q.hns, h1, g23, q.s5, c1', e218, b6', kdC, kdM, rpC, rpM, q_rs, q_rn, Option.toList_some, Option.toList_none, List.cons_append, List.nil_append, true_and, and_true, eq_self, ↓reduceIte, not_true_eq_false, not_false_eq_true, Nat.reduceEqDiff, Nat.reduceLeDiff, Nat.reduceLT, Nat.reduceAdd, Nat.reduceMul, Nat.reduceSub, false_or, or_false, true_or, or_true, false_and, and_false, reduceCtorEq, q_n0, q_n1, q_em, q_em2, q_b0, q_b1, Classical.not_not, nI_add, pk_mul, nI_clamp, q_vp, nI_eq, nI_leI, nI_ltI, q_sub, pk_div, hmod, hmod2, c2, hs12, show ¬ ns K ≤ i by omega, show i < 12 by omega]
    · have c1' : ¬ K (304 + 6 * σ i + 5) = nI 1 := c1
      have hX : whX K σ x (i + 1) = whX K σ x i := by
        show pif (isSent K (σ i)) _ _ = _
        rw [pif_f c1]
      obtain ⟨h', v7', a1, a2, a3, a4⟩ := cl77b z hP te ta hW hσ h23 hx v1 v2 v3 v5 k (i + 1) h0 (.int (nI (σ i))) (by omega) y (by
        intro j hj
        rw [i1 j hj]
        show _ = pif (isSent K (σ i) ∧ ¬ nI (nxd (whX K σ x i) % 100) < K 218) _ _
        rw [pif_f (fun u => c1 u.1)]) hw
      refine ⟨h', v7', a1, a2, a3, fun d F => ?_⟩
      refine Eq.trans ?_ (a4 d F)
      rw [hX, r77_21]
      simp (disch := omega) only [r77_23, r77_24, r77_27, r77_30, r77_33, r77_34, r77_37, r77_40, r77_42, r77_43, r77_45, r77_46, r77_49, r77_52, r77_54, r77_55, r77_56, r77_59, r77_61, r77_64, r77_65, r77_68, r77_69, r77_71, r77_72, r77_74, r77_76, r77_78, r77_79, r77_80, r77_83, r77_84, r77_85, r77_88, r77_89, r77_91, r77_92, r77_93, r77_96, r77_99, q.hns, h1, g23, q.s5, c1', kdC, kdM, rpC, rpM, q_rs, q_rn, Option.toList_some, Option.toList_none, List.cons_append, List.nil_append, true_and, and_true, eq_self, ↓reduceIte, not_true_eq_false, not_false_eq_true, Nat.reduceEqDiff, Nat.reduceLeDiff, Nat.reduceLT, Nat.reduceAdd, Nat.reduceMul, Nat.reduceSub, false_or, or_false, true_or, or_true, false_and, and_false, reduceCtorEq, q_n0, q_n1, q_em, q_em2, q_b0, q_b1, Classical.not_not, nI_add, pk_mul, nI_clamp, q_vp, nI_eq, nI_leI, nI_ltI, q_sub, hs12, show ¬ ns K ≤ i by omega, show i < 12 by omega]
/-- how many stop it in a world -/
noncomputable def whC (K : Nat → Int32) (T Ts : Tk) (σ : Nat → Nat) (x : Nat) : Nat := cntT (fun t => isStp K Ts t (whD K T σ x t (ns K))) (nt K)
/-- worlds that are stopped, of n -/
noncomputable def whN (K : Nat → Int32) (T Ts : Tk) (σ : Nat → Nat) : Nat → Nat → Nat
  | 0, _ => 0
  | n + 1, x => pif (nI (whC K T Ts σ x) < K 217) 0 1 + whN K T Ts σ n (whX K σ x (ns K))
theorem cl77 (z : STS h 0 K) (hP : gP h 88 3 = some a) (te : tEq K t' T) (ta : tAt h a T) (hQ : gP h 88 4 = some b) (te2 : tEq K ts Ts) (ta2 : tAt h b Ts) (fo : foI K (nI 1) (nt K) m wf) (hW : WH h m wf K) (hσ : isTurn K σ) (h23 : ∀ i, i < ns K → gI h 23 i = nI (σ i)) {n : Nat} (hn : n ≤ 60) (v2 : Value) : ∀ k i x c h0 (v6 v7 : Value), i + k = n → x < 1000003 → c ≤ i → FrS tkS h h0 → (∀ i, i < 4 → gI h0 81 i = nI 0) → ∃ h', FrS tkS h h' ∧ ∀ d F, wp true (d + 6) 77 8 [.ref 88, .int (nI n), v2, .int (nI c), .int (nI x), .int (nI i), v6, v7] [] h0 F = F (some (.int (nI (c + whN K T Ts σ k x)))) h'
  | 0, i, x, c, h0, v6, v7, e, hx, hc, y, hw => by
    obtain rfl : i = n := e
    refine ⟨h0, y, fun d F => ?_⟩
    rw [r77_8]
    simp (disch := omega) only [e77, r77_0, r77_1, r77_2, r77_3, r77_5, r77_6, r77_10, r77_11, r77_14, r77_15, r77_18, r77_19, r77_23, r77_24, r77_27, r77_30, r77_33, r77_34, r77_37, r77_40, r77_42, r77_43, r77_45, r77_46, r77_49, r77_52, r77_54, r77_55, r77_56, r77_59, r77_61, r77_64, r77_65, r77_68, r77_69, r77_71, r77_72, r77_74, r77_76, r77_78, r77_79, r77_80, r77_83, r77_84, r77_85, r77_88, r77_89, r77_91, r77_92, r77_93, r77_96, r77_99, r77_102, r77_103, r77_104, r77_105, r77_108, r77_109, r77_112, r77_113, r77_114, r77_117, r77_118, r77_121, r77_122, r77_125, r77_126, r77_127, r77_130, r77_133, r77_134, kdC, kdM, rpC, rpM, q_rs, q_rn, Option.toList_some, Option.toList_none, List.cons_append, List.nil_append, true_and, and_true, eq_self, ↓reduceIte, not_true_eq_false, not_false_eq_true, Nat.reduceEqDiff, Nat.reduceLeDiff, Nat.reduceLT, Nat.reduceAdd, Nat.reduceMul, Nat.reduceSub, false_or, or_false, true_or, or_true, false_and, and_false, reduceCtorEq, q_n0, q_n1, q_em, q_em2, q_b0, q_b1, Classical.not_not, nI_add, pk_mul, nI_clamp, q_vp, nI_eq, nI_leI, nI_ltI, q_sub, Nat.le_refl]
    rfl
  | k + 1, i, x, c, h0, v6, v7, e, hx, hc, y, hw => by
    have w := z.1
    have hnt := w.hnt
    have z0 := STS_fr (Tk_fr y) (Or.inl rfl) z
    obtain ⟨h1, b1, b2, b3, b4, b5⟩ := c64 z0 (WH_tk y hW)
    have y1 := y.trans b1
    have z1 := STS_fr (Tk_fr y1) (Or.inl rfl) z
    obtain ⟨h2, v7', e1, e2, e3, e4⟩ := cl77b (T := T) (x := x) z1 (by rw [y1.p (a := 88) (i := 3) rfl]; exact hP) te (tAt_fr (Tk_fr y1) ta) (WH_tk y1 hW) hσ (fun i hi => by rw [y1.g (a := 23) (i := i) rfl]; exact h23 i hi) hx (.int (nI n)) v2 (.int (nI c)) (.int (nI i)) (ns K) 0 h1 v7 (by omega) (FrS.refl h1) b2 (fun i hi => by rw [b4]; exact hw i hi)
    have y2 := y1.trans e1
    have z2 := STS_fr (Tk_fr y2) (Or.inl rfl) z
    obtain ⟨h3, f1, f2, f3, f4, f5, f6⟩ := c71 (T := Ts) (r := 0) z2 (by rw [y2.p (a := 88) (i := 4) rfl]; exact hQ) te2 (tAt_fr (Tk_fr y2) ta2) (WH_tk y2 hW) (by omega) e3
    have hcnt : cntT (fun i => isStp K Ts (wf i) (DP h2 0 (wf i))) m = whC K T Ts σ x := by
      have h1 : cntT (fun i => isStp K Ts (wf i) (DP h2 0 (wf i))) m = cntT (fun i => isStp K Ts (wf i) (whD K T σ x (wf i) (ns K))) m := cnt_cg m (fun i hi => by
        show isStp K Ts (wf i) (DP h2 0 (wf i)) ↔ _
        rw [e2 i hi])
      rw [h1, fo.2.2.2.2 (fun t => isStp K Ts t (whD K T σ x t (ns K)))]
      exact cnt_cg (nt K) (fun t ht => ⟨fun u => u.2, fun u => ⟨Or.inr (stp_vote w ht u), u⟩⟩)
    rw [hcnt] at f6
    have y3 := y2.trans f1
    have q3 := (STS_fr (Tk_fr y3) (Or.inl rfl) z).2.1
    have e217 : gI h3 24 1 = K 217 := q3.t (by omega)
    have hC : whC K T Ts σ x ≤ 12 := by have := cnt_le (fun t => isStp K Ts t (whD K T σ x t (ns K))) (nt K); unfold whC; omega
    have f6' := fun d F => f6 d F
    have hst : ∀ (v6 : Value) d F, wp true (d + 6) 77 8 [.ref 88, .int (nI n), v2, .int (nI c), .int (nI x), .int (nI i), v6, v7] [] h0 F = wp true (d + 6) 77 102 [.ref 88, .int (nI n), v2, .int (nI c), .int (nI (whX K σ x (ns K))), .int (nI i), .int (nI (ns K)), v7'] [] h2 F := by
      intro v6 d F
      refine Eq.trans ?_ (e4 (d + 1) F)
      rw [r77_8]
      simp (disch := omega) only [r77_10, r77_11, r77_14, r77_15, r77_18, r77_19, b5, kdC, kdM, rpC, rpM, q_rs, q_rn, Option.toList_some, Option.toList_none, List.cons_append, List.nil_append, true_and, and_true, eq_self, ↓reduceIte, not_true_eq_false, not_false_eq_true, Nat.reduceEqDiff, Nat.reduceLeDiff, Nat.reduceLT, Nat.reduceAdd, Nat.reduceMul, Nat.reduceSub, false_or, or_false, true_or, or_true, false_and, and_false, reduceCtorEq, q_n0, q_n1, q_em, q_em2, q_b0, q_b1, Classical.not_not, nI_add, pk_mul, nI_clamp, q_vp, nI_eq, nI_leI, nI_ltI, q_sub, show ¬ n ≤ i by omega]
      rfl
    by_cases cc : nI (whC K T Ts σ x) < K 217
    · obtain ⟨h', a1, a2⟩ := cl77 z hP te ta hQ te2 ta2 fo hW hσ h23 hn v2 k (i + 1) (whX K σ x (ns K)) c h3 (.int (nI (ns K))) v7' (by omega) (whX_lt hx _) (by omega) y3 f5
      refine ⟨h', a1, fun d F => ?_⟩
      rw [hst]
      show _ = F (some (.int (nI (c + (pif (nI (whC K T Ts σ x) < K 217) 0 1 + whN K T Ts σ k (whX K σ x (ns K))))))) h'
      rw [pif_t cc, Nat.zero_add]
      refine Eq.trans ?_ (a2 d F)
      have f7 := fun F => f6' (d + 1) F
      simp (disch := omega) only [r77_102, r77_103, r77_104, r77_105, r77_108, r77_109, r77_112, r77_113, r77_114, r77_117, r77_118, r77_121, r77_122, r77_125, r77_126, r77_127, r77_130, f7, c127_0, c127_1, e217, cc, kdC, kdM, rpC, rpM, q_rs, q_rn, Option.toList_some, Option.toList_none, List.cons_append, List.nil_append, true_and, and_true, eq_self, ↓reduceIte, not_true_eq_false, not_false_eq_true, Nat.reduceEqDiff, Nat.reduceLeDiff, Nat.reduceLT, Nat.reduceAdd, Nat.reduceMul, Nat.reduceSub, false_or, or_false, true_or, or_true, false_and, and_false, reduceCtorEq, q_n0, q_n1, q_em, q_em2, q_b0, q_b1, Classical.not_not, nI_add, pk_mul, nI_clamp, q_vp, nI_eq, nI_leI, nI_ltI, q_sub, Nat.add_zero]
    · obtain ⟨h', a1, a2⟩ := cl77 z hP te ta hQ te2 ta2 fo hW hσ h23 hn v2 k (i + 1) (whX K σ x (ns K)) (c + 1) h3 (.int (nI (ns K))) v7' (by omega) (whX_lt hx _) (by omega) y3 f5
      refine ⟨h', a1, fun d F => ?_⟩
      rw [hst]
      show _ = F (some (.int (nI (c + (pif (nI (whC K T Ts σ x) < K 217) 0 1 + whN K T Ts σ k (whX K σ x (ns K))))))) h'
      rw [pif_f cc, show c + (1 + whN K T Ts σ k (whX K σ x (ns K))) = c + 1 + whN K T Ts σ k (whX K σ x (ns K)) by omega]
      refine Eq.trans ?_ (a2 d F)
      have f7 := fun F => f6' (d + 1) F
      simp (disch := omega) only [r77_102, r77_103, r77_104, r77_105, r77_108, r77_109, r77_112, r77_113, r77_114, r77_117, r77_118, r77_121, r77_122, r77_125, r77_126, r77_127, r77_130, f7, c127_0, c127_1, e217, cc, kdC, kdM, rpC, rpM, q_rs, q_rn, Option.toList_some, Option.toList_none, List.cons_append, List.nil_append, true_and, and_true, eq_self, ↓reduceIte, not_true_eq_false, not_false_eq_true, Nat.reduceEqDiff, Nat.reduceLeDiff, Nat.reduceLT, Nat.reduceAdd, Nat.reduceMul, Nat.reduceSub, false_or, or_false, true_or, or_true, false_and, and_false, reduceCtorEq, q_n0, q_n1, q_em, q_em2, q_b0, q_b1, Classical.not_not, nI_add, pk_mul, nI_clamp, q_vp, nI_eq, nI_leI, nI_ltI, q_sub]
end WD
