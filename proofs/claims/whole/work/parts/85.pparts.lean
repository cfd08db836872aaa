/-! parts, ask -/
theorem Td_td {h h' : Hp} (x : FrS tkS h h') : FrS tdS h h' := Tk_td x
/-- a talk opened by voters alone: what both find for each sheet -/
theorem oth_both {h : Hp} {n : Nat} (z : Inv n h) {t1 t2 : Nat} (ht1 : t1 < nx (gI h 103)) (ht2 : t2 < nx (gI h 103)) : ∃ (O : Nat → Nat) (h2 : Hp) (G : Hp → Prop), (∀ s, O s ≤ 12) ∧ Fr h h2 ∧ G h2 ∧ (∀ g, G g → Fr h g) ∧ (∀ g, G g → ∀ s, s < ns (gI h 103) → ∃ g', G g' ∧ ∀ d F, cwp true (d + 6) 73 [.ref 88, .int (nI s)] g F = F (some (.int (nI (O s)))) g') ∧ (∃ h1, (∀ d F, cwp true (d + 3) 136 [.ref 1, .int (nI t1), .int (nI t2), .int (nI 1)] h F = F (some (.int (nI 1))) h1) ∧ ∀ d F, cwp true (d + 6) 72 [.ref 88] h1 F = F none h2) ∧ ∀ g, gI g 103 = gI h 103 → ∀ s, s < ns (gI h 103) → ∃ g', FrS mwS g g' ∧ ∀ d F, cwp true (d + 70) 254 [.ref 101, .int (nI t1), .int (nI t2), .int (nI s)] g F = F (some (.int (nI (O s)))) g' := by
  have w := z.1.1
  have hn := w.hnx
  have hns := w.hns
  obtain ⟨s1, T1, p1, p2, p3⟩ := z.1.2.2.1 t1 ht1
  obtain ⟨s2, T2, r1, r2, r3⟩ := z.1.2.2.1 t2 ht2
  obtain ⟨σ, hσ, hu⟩ := z.1.2.2.2
  obtain ⟨h1, m, wf, x1, x2, x3, x4, x5, x6, x7⟩ := c136 z (v := nI 1) (Or.inr rfl) ht1 ht2 p1 r1
  have z1 := STS_fr x1 (Or.inl rfl) z.1
  obtain ⟨h2, y1, y2, y3, y4⟩ := c72 (Tm := T1) (Ts := T2) z1 x2 p3 (tAt_fr x1 p2) x3 r3 (tAt_fr x1 r2) x5 hσ (fun i hi => by rw [x1.g (a := 23) (i := i) rfl]; exact hu i hi) (fun i hi => x6 i (by omega))
  refine ⟨fun s => onesN 12 (stB (fun t => isStp (gI h 103) T2 t (mdD (gI h 103) T1 σ (sbt (gI h 103) (ns (gI h 103))) t (ns (gI h 103)))) (nt (gI h 103)) ^^^ stB (fun t => isStp (gI h 103) T2 t (mdD (gI h 103) T1 σ (sbt (gI h 103) (ns (gI h 103)) ||| 2 ^ s) t (ns (gI h 103)))) (nt (gI h 103))), h2, fun g => FrS tkS h2 g ∧ ∀ i, i < 4 → gI g 81 i = nI 0, fun s => ?_, x1.trans (Td_fr y1), ⟨FrS.refl h2, y2⟩, fun g hg => (x1.trans (Td_fr y1)).trans (Tk_fr hg.1), ?_, ⟨h1, x7, y4⟩, ?_⟩
  · show onesN 12 _ ≤ 12
    rw [ones_cnt]; exact cnt_le _ _
  · rintro g ⟨g1, g2⟩ s hs
    have f1 := (x1.trans (Td_fr y1)).trans (Tk_fr g1)
    have f2 : FrS tdS h1 g := y1.trans (Tk_td g1)
    obtain ⟨g', c1, c2, c3⟩ := c73 (Tm := T1) (Ts := T2) (h := g) (STS_fr f1 (Or.inl rfl) z.1) (by rw [f2.p (a := 88) (i := 3) rfl]; exact x2) p3 (tAt_fr f1 p2) (by rw [f2.p (a := 88) (i := 4) rfl]; exact x3) r3 (tAt_fr f1 r2) (WH_td f2 x5) hσ (fun i hi => by rw [f1.g (a := 23) (i := i) rfl]; exact hu i hi) g2 (fun t => isStp (gI h 103) T2 t (hdD (gI h 103) T1 σ (-1) t (ns (gI h 103)))) (fun j hj => by rw [g1.g (a := 92) (i := wf j) rfl]; exact y3 j hj) (nI s)
    refine ⟨g', ⟨g1.trans c1, c2⟩, fun d F => ?_⟩
    have hcnt : cntT (fun i => ¬ (isStp (gI h 103) T2 (wf i) (hdD (gI h 103) T1 σ (nI s) (wf i) (ns (gI h 103))) ↔ isStp (gI h 103) T2 (wf i) (hdD (gI h 103) T1 σ (-1) (wf i) (ns (gI h 103))))) m = onesN 12 (stB (fun t => isStp (gI h 103) T2 t (mdD (gI h 103) T1 σ (sbt (gI h 103) (ns (gI h 103))) t (ns (gI h 103)))) (nt (gI h 103)) ^^^ stB (fun t => isStp (gI h 103) T2 t (mdD (gI h 103) T1 σ (sbt (gI h 103) (ns (gI h 103)) ||| 2 ^ s) t (ns (gI h 103)))) (nt (gI h 103))) := by
      rw [← oth_cnt (Ts := T2) w x4 (fun t => mdD (gI h 103) T1 σ (sbt (gI h 103) (ns (gI h 103))) t (ns (gI h 103))) (fun t => mdD (gI h 103) T1 σ (sbt (gI h 103) (ns (gI h 103)) ||| 2 ^ s) t (ns (gI h 103)))]
      refine cnt_cg m (fun i hi => ?_)
      show (¬ (isStp (gI h 103) T2 (wf i) (hdD (gI h 103) T1 σ (nI s) (wf i) (ns (gI h 103))) ↔ isStp (gI h 103) T2 (wf i) (hdD (gI h 103) T1 σ (-1) (wf i) (ns (gI h 103))))) ↔ _
      rw [hd_one hσ hs hns.2 _ _ (Nat.le_refl _), hd_md hσ hns.2 _ _ (Nat.le_refl _)]
    rw [hcnt] at c3
    exact c3 d F
  · intro g hg s hs
    exact m254 (tm := t1) (ts := t2) hg w (by omega) p3 (by omega) r3 hσ hs
theorem p_parts {n : Nat} {h : Hp} (z : Inv n h) (a b c : Int32) : PRI n h 118 256 [.int a, .int b, .int c] := by
  intro d
  have w := z.1.1
  have q := z.1.2.1
  have hn := w.hnx
  have hns := w.hns
  have h25 := fun F d => cc25 d h F w q c
  by_cases hC : nI 0 ≤ c ∧ c < nI (ns (gI h 103))
  · obtain ⟨s, hs, rfl⟩ := q_ix (by omega) hC.1 hC.2
    have hs12 : s < 12 := by omega
    have m5 := fun (g : Hp) (hg : gI g 103 = gI h 103) F d => (m255 hg w (nI s) d F).2 s rfl hs
    rcases sent01 w hs with e5 | e5
    · by_cases hAB : (nI 0 ≤ a ∧ a < nI (nx (gI h 103))) ∧ (nI 0 ≤ b ∧ b < nI (nx (gI h 103)))
      · obtain ⟨hA, hB⟩ := hAB
        obtain ⟨t1, ht1, rfl⟩ := q_ix (by omega) hA.1 hA.2
        obtain ⟨t2, ht2, rfl⟩ := q_ix (by omega) hB.1 hB.2
        obtain ⟨O, h2, G, o1, o2, o3, o4, o5, ⟨h1, o6, o7⟩, o8⟩ := oth_both z ht1 ht2
        obtain ⟨g1, k1, k2⟩ := o5 h2 o3 s hs
        have f1 := o4 g1 k1
        obtain ⟨g2, k3, k4⟩ := o8 g1 f1.K s hs
        refine ⟨nI (O s), g1, g2, fun F => ?_, fun F => ?_, Inv_fr (f1.trans (Mw_fr k3)) z⟩
        · have o6' := fun F => o6 (d + 896) F
          have o7' := fun F => o7 (d + 893) F
          have k2' := fun F => k2 (d + 893) F
          simp (disch := omega) only [e118, r118_0, r118_1, r118_4, r118_7, r118_8, r118_11, r118_14, r118_15, r118_18, r118_21, r118_24, r118_25, r118_26, r118_27, r118_30, r118_31, r118_32, r118_33, r118_34, r118_37, r118_40, r118_41, r118_42, r118_43, r118_46, r118_49, r118_50, r118_53, r118_54, r118_57, h25, hC, q.s5 hs12, e5, o6', o7', k2', kdC, kdM, rpC, rpM, q_rs, q_rn, Option.toList_some, Option.toList_none, List.cons_append, List.nil_append, true_and, and_true, eq_self, ↓reduceIte, not_true_eq_false, not_false_eq_true, Nat.reduceEqDiff, Nat.reduceLeDiff, Nat.reduceLT, Nat.reduceAdd, Nat.reduceMul, Nat.reduceSub, false_or, or_false, true_or, or_true, false_and, and_false, reduceCtorEq, q_n0, q_n1, q_em, q_em2, q_b0, q_b1, Classical.not_not, nI_add, pk_mul, nI_clamp, q_vp, nI_eq, nI_leI, nI_ltI, q_sub, hs12]
        · have k4' := fun F => k4 (d + 829) F
          have m5' := fun F d => m5 g1 f1.K F d
          rw [q_bt e5] at m5'
          simp (disch := omega) only [e256, r256_0, r256_1, r256_2, r256_5, r256_8, r256_9, r256_10, r256_13, r256_16, r256_17, r256_18, r256_21, r256_24, r256_25, r256_26, r256_27, r256_28, r256_31, r256_34, r256_35, c150 _ _ _ f1.K w, hA, hB, m5', k4', kdC, kdM, rpC, rpM, q_rs, q_rn, Option.toList_some, Option.toList_none, List.cons_append, List.nil_append, true_and, and_true, eq_self, ↓reduceIte, not_true_eq_false, not_false_eq_true, Nat.reduceEqDiff, Nat.reduceLeDiff, Nat.reduceLT, Nat.reduceAdd, Nat.reduceMul, Nat.reduceSub, false_or, or_false, true_or, or_true, false_and, and_false, reduceCtorEq, q_n0, q_n1, q_em, q_em2, q_b0, q_b1, Classical.not_not]
      · have hno := fun F => c136n z (v := nI 1) hAB (d + 896) F
        refine ⟨-1, h, h, fun F => ?_, fun F => ?_, Inv_fr (Fr.refl h) z⟩
        · simp (disch := omega) only [e118, r118_0, r118_1, r118_4, r118_7, r118_8, r118_11, r118_14, r118_15, r118_18, r118_21, r118_24, r118_25, r118_26, r118_27, r118_30, r118_31, r118_32, r118_33, r118_34, r118_37, r118_40, r118_41, r118_42, r118_43, r118_46, r118_49, r118_50, r118_53, r118_54, r118_57, h25, hC, q.s5 hs12, e5, hno, kdC, kdM, rpC, rpM, q_rs, q_rn, Option.toList_some, Option.toList_none, List.cons_append, List.nil_append, true_and, and_true, eq_self, ↓reduceIte, not_true_eq_false, not_false_eq_true, Nat.reduceEqDiff, Nat.reduceLeDiff, Nat.reduceLT, Nat.reduceAdd, Nat.reduceMul, Nat.reduceSub, false_or, or_false, true_or, or_true, false_and, and_false, reduceCtorEq, q_n0, q_n1, q_em, q_em2, q_b0, q_b1, Classical.not_not, nI_add, pk_mul, nI_clamp, q_vp, nI_eq, nI_leI, nI_ltI, q_sub, hs12]
        · by_cases hA : nI 0 ≤ a ∧ a < nI (nx (gI h 103))
          · have hB : ¬ (nI 0 ≤ b ∧ b < nI (nx (gI h 103))) := fun u => hAB ⟨hA, u⟩
            simp (disch := omega) only [e256, r256_0, r256_1, r256_2, r256_5, r256_8, r256_9, r256_10, r256_13, r256_16, r256_17, r256_18, r256_21, r256_24, r256_25, r256_26, r256_27, r256_28, r256_31, r256_34, r256_35, c150 _ _ _ rfl w, hA, hB, kdC, kdM, rpC, rpM, q_rs, q_rn, Option.toList_some, Option.toList_none, List.cons_append, List.nil_append, true_and, and_true, eq_self, ↓reduceIte, not_true_eq_false, not_false_eq_true, Nat.reduceEqDiff, Nat.reduceLeDiff, Nat.reduceLT, Nat.reduceAdd, Nat.reduceMul, Nat.reduceSub, false_or, or_false, true_or, or_true, false_and, and_false, reduceCtorEq, q_n0, q_n1, q_em, q_em2, q_b0, q_b1, Classical.not_not]
          · simp (disch := omega) only [e256, r256_0, r256_1, r256_2, r256_5, r256_8, r256_9, r256_10, r256_13, r256_16, r256_17, r256_18, r256_21, r256_24, r256_25, r256_26, r256_27, r256_28, r256_31, r256_34, r256_35, c150 _ _ _ rfl w, hA, kdC, kdM, rpC, rpM, q_rs, q_rn, Option.toList_some, Option.toList_none, List.cons_append, List.nil_append, true_and, and_true, eq_self, ↓reduceIte, not_true_eq_false, not_false_eq_true, Nat.reduceEqDiff, Nat.reduceLeDiff, Nat.reduceLT, Nat.reduceAdd, Nat.reduceMul, Nat.reduceSub, false_or, or_false, true_or, or_true, false_and, and_false, reduceCtorEq, q_n0, q_n1, q_em, q_em2, q_b0, q_b1, Classical.not_not]
    · have e5' : ¬ gI h 103 (304 + 6 * s + 5) = nI 0 := by rw [e5]; exact q_01
      refine ⟨-1, h, h, fun F => ?_, fun F => ?_, Inv_fr (Fr.refl h) z⟩
      · simp (disch := omega) only [e118, r118_0, r118_1, r118_4, r118_7, r118_8, r118_11, r118_14, r118_15, r118_18, r118_21, r118_24, r118_25, r118_26, r118_27, r118_30, r118_31, r118_32, r118_33, r118_34, r118_37, r118_40, r118_41, r118_42, r118_43, r118_46, r118_49, r118_50, r118_53, r118_54, r118_57, h25, hC, q.s5 hs12, e5, kdC, kdM, rpC, rpM, q_rs, q_rn, Option.toList_some, Option.toList_none, List.cons_append, List.nil_append, true_and, and_true, eq_self, ↓reduceIte, not_true_eq_false, not_false_eq_true, Nat.reduceEqDiff, Nat.reduceLeDiff, Nat.reduceLT, Nat.reduceAdd, Nat.reduceMul, Nat.reduceSub, false_or, or_false, true_or, or_true, false_and, and_false, reduceCtorEq, q_n0, q_n1, q_em, q_em2, q_b0, q_b1, Classical.not_not, nI_add, pk_mul, nI_clamp, q_vp, nI_eq, nI_leI, nI_ltI, q_sub, hs12]
      · have m5' := fun F d => m5 h rfl F d
        rw [q_bf e5'] at m5'
        by_cases hA : nI 0 ≤ a ∧ a < nI (nx (gI h 103)) <;> by_cases hB : nI 0 ≤ b ∧ b < nI (nx (gI h 103)) <;>
        simp (disch := omega) only [e256, r256_0, r256_1, r256_2, r256_5, r256_8, r256_9, r256_10, r256_13, r256_16, r256_17, r256_18, r256_21, r256_24, r256_25, r256_26, r256_27, r256_28, r256_31, r256_34, r256_35, c150 _ _ _ rfl w, hA, hB, m5', kdC, kdM, rpC, rpM, q_rs, q_rn, Option.toList_some, Option.toList_none, List.cons_append, List.nil_append, true_and, and_true, eq_self, ↓reduceIte, not_true_eq_false, not_false_eq_true, Nat.reduceEqDiff, Nat.reduceLeDiff, Nat.reduceLT, Nat.reduceAdd, Nat.reduceMul, Nat.reduceSub, false_or, or_false, true_or, or_true, false_and, and_false, reduceCtorEq, q_n0, q_n1, q_em, q_em2, q_b0, q_b1, Classical.not_not]
  · have m5 := fun F d => (m255 (h := h) rfl w c d F).1 hC
    refine ⟨-1, h, h, fun F => ?_, fun F => ?_, Inv_fr (Fr.refl h) z⟩
    · simp (disch := omega) only [e118, r118_0, r118_1, r118_4, r118_7, r118_8, r118_11, r118_14, r118_15, r118_18, r118_21, r118_24, r118_25, r118_26, r118_27, r118_30, r118_31, r118_32, r118_33, r118_34, r118_37, r118_40, r118_41, r118_42, r118_43, r118_46, r118_49, r118_50, r118_53, r118_54, r118_57, h25, hC, kdC, kdM, rpC, rpM, q_rs, q_rn, Option.toList_some, Option.toList_none, List.cons_append, List.nil_append, true_and, and_true, eq_self, ↓reduceIte, not_true_eq_false, not_false_eq_true, Nat.reduceEqDiff, Nat.reduceLeDiff, Nat.reduceLT, Nat.reduceAdd, Nat.reduceMul, Nat.reduceSub, false_or, or_false, true_or, or_true, false_and, and_false, reduceCtorEq, q_n0, q_n1, q_em, q_em2, q_b0, q_b1, Classical.not_not, nI_add, pk_mul, nI_clamp, q_vp, nI_eq, nI_leI, nI_ltI, q_sub]
    · by_cases hA : nI 0 ≤ a ∧ a < nI (nx (gI h 103)) <;> by_cases hB : nI 0 ≤ b ∧ b < nI (nx (gI h 103)) <;>
      simp (disch := omega) only [e256, r256_0, r256_1, r256_2, r256_5, r256_8, r256_9, r256_10, r256_13, r256_16, r256_17, r256_18, r256_21, r256_24, r256_25, r256_26, r256_27, r256_28, r256_31, r256_34, r256_35, c150 _ _ _ rfl w, hA, hB, m5, kdC, kdM, rpC, rpM, q_rs, q_rn, Option.toList_some, Option.toList_none, List.cons_append, List.nil_append, true_and, and_true, eq_self, ↓reduceIte, not_true_eq_false, not_false_eq_true, Nat.reduceEqDiff, Nat.reduceLeDiff, Nat.reduceLT, Nat.reduceAdd, Nat.reduceMul, Nat.reduceSub, false_or, or_false, true_or, or_true, false_and, and_false, reduceCtorEq, q_n0, q_n1, q_em, q_em2, q_b0, q_b1, Classical.not_not]
/-- the first with most -/
noncomputable def asF (K : Nat → Int32) (O : Nat → Nat) (s : Nat) (x : Option (Nat × Nat)) : Option (Nat × Nat) := pif (K (304 + 6 * s + 5) = nI 0 ∧ ∀ y, x = some y → y.2 < O s) (some (s, O s)) x
def as1 (x : Option (Nat × Nat)) : Int32 := match x with
  | none => -1
  | some y => nI y.1
def as2 (x : Option (Nat × Nat)) : Int32 := match x with
  | none => nI 0
  | some y => nI y.2
theorem as_ok {K : Nat → Int32} {O : Nat → Nat} (hO : ∀ s, O s ≤ 12) {s : Nat} {x : Option (Nat × Nat)} (hx : ∀ y, x = some y → y.1 < 12 ∧ y.2 ≤ 12) (hs : s < 12) : ∀ y, asF K O s x = some y → y.1 < 12 ∧ y.2 ≤ 12 := by
  intro y
  unfold asF
  by_cases c : K (304 + 6 * s + 5) = nI 0 ∧ ∀ y, x = some y → y.2 < O s
  · rw [pif_t c]; intro e; cases e; exact ⟨hs, hO s⟩
  · rw [pif_f c]; exact hx y
theorem cl119 {h : Hp} {n : Nat} (z : Inv n h) {O : Nat → Nat} {G : Hp → Prop} (hO : ∀ s, O s ≤ 12) (hG : ∀ g, G g → Fr h g) (hc : ∀ g, G g → ∀ s, s < ns (gI h 103) → ∃ g', G g' ∧ ∀ d F, cwp true (d + 6) 73 [.ref 88, .int (nI s)] g F = F (some (.int (nI (O s)))) g') (v1 v2 : Value) : ∀ k s x g (v6 : Value), s + k = ns (gI h 103) → G g → (∀ y, x = some y → y.1 < 12 ∧ y.2 ≤ 12) → ∃ g', G g' ∧ ∀ d F, wp true (d + 7) 119 27 [.ref 1, v1, v2, .int (as1 x), .int (as2 x), .int (nI s), v6] [] g F = F (some (.int (as1 (q_lp (asF (gI h 103) O) k s x)))) g'
  | 0, s, x, g, v6, e, hg, hx => by
    obtain rfl : s = ns (gI h 103) := e
    have w := z.1.1
    have hns := w.hns
    have q := (STS_fr (hG g hg) (Or.inl rfl) z.1).2.1
    refine ⟨g, hg, fun d F => ?_⟩
    rw [r119_27]
    simp (disch := omega) only [e119, r119_0, r119_1, r119_2, r119_3, r119_4, r119_7, r119_10, r119_11, r119_12, r119_13, r119_16, r119_19, r119_20, r119_21, r119_22, r119_24, r119_25, r119_29, r119_30, r119_33, r119_36, r119_39, r119_42, r119_43, r119_46, r119_49, r119_52, r119_54, r119_55, r119_58, r119_59, r119_62, r119_64, r119_67, r119_69, r119_70, r119_71, r119_74, r119_76, r119_78, r119_81, r119_83, r119_84, r119_86, r119_88, r119_91, r119_94, r119_95, q.hns, hns, kdC, kdM, rpC, rpM, q_rs, q_rn, Option.toList_some, Option.toList_none, List.cons_append, List.nil_append, true_and, and_true, eq_self, ↓reduceIte, not_true_eq_false, not_false_eq_true, Nat.reduceEqDiff, Nat.reduceLeDiff, Nat.reduceLT, Nat.reduceAdd, Nat.reduceMul, Nat.reduceSub, false_or, or_false, true_or, or_true, false_and, and_false, reduceCtorEq, q_n0, q_n1, q_em, q_em2, q_b0, q_b1, Classical.not_not, nI_add, pk_mul, nI_clamp, q_vp, nI_eq, nI_leI, nI_ltI, q_sub, Nat.le_refl]
    rfl
  | k + 1, s, x, g, v6, e, hg, hx => by
    have w := z.1.1
    have hns := w.hns
    have q := (STS_fr (hG g hg) (Or.inl rfl) z.1).2.1
    have hs12 : s < 12 := by omega
    have hOs := hO s
    have hx2 := as_ok (K := gI h 103) hO hx hs12
    rcases sent01 w (show s < ns (gI h 103) by omega) with e5 | e5
    · obtain ⟨g1, k1, k2⟩ := hc g hg s (by omega)
      obtain ⟨g', a1, a2⟩ := cl119 z hO hG hc v1 v2 k (s + 1) (asF (gI h 103) O s x) g1 (.int (nI (O s))) (by omega) k1 hx2
      refine ⟨g', a1, fun d F => ?_⟩
      have k2' := fun F => k2 d F
      rw [show q_lp (asF (gI h 103) O) (k + 1) s x = q_lp (asF (gI h 103) O) k (s + 1) (asF (gI h 103) O s x) from rfl]
      refine Eq.trans ?_ (a2 d F)
      rw [r119_27]
      cases x with
      | none =>
        have ha : asF (gI h 103) O s none = some (s, O s) := by unfold asF; rw [pif_t ⟨e5, fun y ey => by cases ey⟩]
        rw [ha]
        simp (disch := omega) only [e119, r119_0, r119_1, r119_2, r119_3, r119_4, r119_7, r119_10, r119_11, r119_12, r119_13, r119_16, r119_19, r119_20, r119_21, r119_22, r119_24, r119_25, r119_29, r119_30, r119_33, r119_36, r119_39, r119_42, r119_43, r119_46, r119_49, r119_52, r119_54, r119_55, r119_58, r119_59, r119_62, r119_64, r119_67, r119_69, r119_70, r119_71, r119_74, r119_76, r119_78, r119_81, r119_83, r119_84, r119_86, r119_88, r119_91, r119_94, r119_95, as1, as2, q.hns, hns, q.s5, e5, k2', kdC, kdM, rpC, rpM, q_rs, q_rn, Option.toList_some, Option.toList_none, List.cons_append, List.nil_append, true_and, and_true, eq_self, ↓reduceIte, not_true_eq_false, not_false_eq_true, Nat.reduceEqDiff, Nat.reduceLeDiff, Nat.reduceLT, Nat.reduceAdd, Nat.reduceMul, Nat.reduceSub, false_or, or_false, true_or, or_true, false_and, and_false, reduceCtorEq, q_n0, q_n1, q_em, q_em2, q_b0, q_b1, Classical.not_not, nI_add, pk_mul, nI_clamp, q_vp, nI_eq, nI_leI, nI_ltI, q_sub, hs12, show ¬ ns (gI h 103) ≤ s by omega]
      | some y =>
        obtain ⟨y1, y2⟩ := hx y rfl
        by_cases c : y.2 < O s
        · have ha : asF (gI h 103) O s (some y) = some (s, O s) := by unfold asF; rw [pif_t ⟨e5, fun y' ey => by cases ey; exact c⟩]
          rw [ha]
          simp (disch := omega) only [e119, r119_0, r119_1, r119_2, r119_3, r119_4, r119_7, r119_10, r119_11, r119_12, r119_13, r119_16, r119_19, r119_20, r119_21, r119_22, r119_24, r119_25, r119_29, r119_30, r119_33, r119_36, r119_39, r119_42, r119_43, r119_46, r119_49, r119_52, r119_54, r119_55, r119_58, r119_59, r119_62, r119_64, r119_67, r119_69, r119_70, r119_71, r119_74, r119_76, r119_78, r119_81, r119_83, r119_84, r119_86, r119_88, r119_91, r119_94, r119_95, as1, as2, q.hns, hns, q.s5, e5, k2', q_nm, kdC, kdM, rpC, rpM, q_rs, q_rn, Option.toList_some, Option.toList_none, List.cons_append, List.nil_append, true_and, and_true, eq_self, ↓reduceIte, not_true_eq_false, not_false_eq_true, Nat.reduceEqDiff, Nat.reduceLeDiff, Nat.reduceLT, Nat.reduceAdd, Nat.reduceMul, Nat.reduceSub, false_or, or_false, true_or, or_true, false_and, and_false, reduceCtorEq, q_n0, q_n1, q_em, q_em2, q_b0, q_b1, Classical.not_not, nI_add, pk_mul, nI_clamp, q_vp, nI_eq, nI_leI, nI_ltI, q_sub, hs12, show ¬ ns (gI h 103) ≤ s by omega, show ¬ O s ≤ y.2 by omega]
        · have ha : asF (gI h 103) O s (some y) = some y := by unfold asF; rw [pif_f (fun u => c (u.2 y rfl))]
          rw [ha]
          simp (disch := omega) only [e119, r119_0, r119_1, r119_2, r119_3, r119_4, r119_7, r119_10, r119_11, r119_12, r119_13, r119_16, r119_19, r119_20, r119_21, r119_22, r119_24, r119_25, r119_29, r119_30, r119_33, r119_36, r119_39, r119_42, r119_43, r119_46, r119_49, r119_52, r119_54, r119_55, r119_58, r119_59, r119_62, r119_64, r119_67, r119_69, r119_70, r119_71, r119_74, r119_76, r119_78, r119_81, r119_83, r119_84, r119_86, r119_88, r119_91, r119_94, r119_95, as1, as2, q.hns, hns, q.s5, e5, k2', q_nm, kdC, kdM, rpC, rpM, q_rs, q_rn, Option.toList_some, Option.toList_none, List.cons_append, List.nil_append, true_and, and_true, eq_self, ↓reduceIte, not_true_eq_false, not_false_eq_true, Nat.reduceEqDiff, Nat.reduceLeDiff, Nat.reduceLT, Nat.reduceAdd, Nat.reduceMul, Nat.reduceSub, false_or, or_false, true_or, or_true, false_and, and_false, reduceCtorEq, q_n0, q_n1, q_em, q_em2, q_b0, q_b1, Classical.not_not, nI_add, pk_mul, nI_clamp, q_vp, nI_eq, nI_leI, nI_ltI, q_sub, hs12, show ¬ ns (gI h 103) ≤ s by omega, show O s ≤ y.2 by omega]
    · have e5' : ¬ gI h 103 (304 + 6 * s + 5) = nI 0 := by rw [e5]; exact q_01
      have ha : asF (gI h 103) O s x = x := by unfold asF; rw [pif_f (fun u => e5' u.1)]
      obtain ⟨g', a1, a2⟩ := cl119 z hO hG hc v1 v2 k (s + 1) (asF (gI h 103) O s x) g v6 (by omega) hg hx2
      refine ⟨g', a1, fun d F => ?_⟩
      rw [show q_lp (asF (gI h 103) O) (k + 1) s x = q_lp (asF (gI h 103) O) k (s + 1) (asF (gI h 103) O s x) from rfl]
      refine Eq.trans ?_ (a2 d F)
      rw [r119_27, ha]
      simp (disch := omega) only [e119, r119_0, r119_1, r119_2, r119_3, r119_4, r119_7, r119_10, r119_11, r119_12, r119_13, r119_16, r119_19, r119_20, r119_21, r119_22, r119_24, r119_25, r119_29, r119_30, r119_33, r119_36, r119_39, r119_42, r119_43, r119_46, r119_49, r119_52, r119_54, r119_55, r119_58, r119_59, r119_62, r119_64, r119_67, r119_69, r119_70, r119_71, r119_74, r119_76, r119_78, r119_81, r119_83, r119_84, r119_86, r119_88, r119_91, r119_94, r119_95, q.hns, hns, q.s5, e5, kdC, kdM, rpC, rpM, q_rs, q_rn, Option.toList_some, Option.toList_none, List.cons_append, List.nil_append, true_and, and_true, eq_self, ↓reduceIte, not_true_eq_false, not_false_eq_true, Nat.reduceEqDiff, Nat.reduceLeDiff, Nat.reduceLT, Nat.reduceAdd, Nat.reduceMul, Nat.reduceSub, false_or, or_false, true_or, or_true, false_and, and_false, reduceCtorEq, q_n0, q_n1, q_em, q_em2, q_b0, q_b1, Classical.not_not, nI_add, pk_mul, nI_clamp, q_vp, nI_eq, nI_leI, nI_ltI, q_sub, hs12, show ¬ ns (gI h 103) ≤ s by omega]
theorem ml257 {h : Hp} {K : Nat → Int32} (w : WF K) {O : Nat → Nat} {t1 t2 : Nat} (hO : ∀ s, O s ≤ 12) (hc : ∀ g, gI g 103 = K → ∀ s, s < ns K → ∃ g', FrS mwS g g' ∧ ∀ d F, cwp true (d + 70) 254 [.ref 101, .int (nI t1), .int (nI t2), .int (nI s)] g F = F (some (.int (nI (O s)))) g') : ∀ k s x g (v6 : Value), s + k = ns K → FrS mwS h g → gI g 103 = K → (∀ y, x = some y → y.1 < 12 ∧ y.2 ≤ 12) → ∃ g', FrS mwS h g' ∧ ∀ d F, wp true (d + 71) 257 26 [.ref 101, .int (nI t1), .int (nI t2), .int (as1 x), .int (as2 x), .int (nI s), v6] [] g F = F (some (.int (as1 (q_lp (asF K O) k s x)))) g'
  | 0, s, x, g, v6, e, hf, hg, hx => by
    obtain rfl : s = ns K := e
    have hns := w.hns
    refine ⟨g, hf, fun d F => ?_⟩
    rw [r257_26]
    simp (disch := omega) only [e257, r257_0, r257_1, r257_2, r257_5, r257_8, r257_9, r257_10, r257_13, r257_16, r257_17, r257_18, r257_19, r257_20, r257_21, r257_23, r257_24, r257_28, r257_29, r257_32, r257_35, r257_36, r257_38, r257_41, r257_44, r257_47, r257_48, r257_49, r257_50, r257_52, r257_55, r257_57, r257_58, r257_59, r257_62, r257_64, r257_66, r257_69, r257_72, r257_74, r257_75, r257_77, r257_79, r257_82, r257_85, r257_86, m233 _ g _ hg w, kdC, kdM, rpC, rpM, q_rs, q_rn, Option.toList_some, Option.toList_none, List.cons_append, List.nil_append, true_and, and_true, eq_self, ↓reduceIte, not_true_eq_false, not_false_eq_true, Nat.reduceEqDiff, Nat.reduceLeDiff, Nat.reduceLT, Nat.reduceAdd, Nat.reduceMul, Nat.reduceSub, false_or, or_false, true_or, or_true, false_and, and_false, reduceCtorEq, q_n0, q_n1, q_em, q_em2, q_b0, q_b1, Classical.not_not, nI_add, pk_mul, nI_clamp, q_vp, nI_eq, nI_leI, nI_ltI, q_sub, Nat.le_refl]
    rfl
  | k + 1, s, x, g, v6, e, hf, hg, hx => by
    have hns := w.hns
    have hs12 : s < 12 := by omega
    have hOs := hO s
    have hx2 := as_ok (K := K) hO hx hs12
    have m5 := fun F d => (m255 hg w (nI s) d F).2 s rfl (show s < ns K by omega)
    rcases sent01 w (show s < ns K by omega) with e5 | e5
    · rw [q_bt e5] at m5
      obtain ⟨g1, k1, k2⟩ := hc g hg s (by omega)
      obtain ⟨g', a1, a2⟩ := ml257 w hO hc k (s + 1) (asF K O s x) g1 (.int (nI (O s))) (by omega) (hf.trans k1) ((Mw_fr k1).K.trans hg) hx2
      refine ⟨g', a1, fun d F => ?_⟩
      have k2' := fun F => k2 d F
      rw [show q_lp (asF K O) (k + 1) s x = q_lp (asF K O) k (s + 1) (asF K O s x) from rfl]
      refine Eq.trans ?_ (a2 d F)
      rw [r257_26]
      cases x with
      | none =>
        have ha : asF K O s none = some (s, O s) := by unfold asF; rw [pif_t ⟨e5, fun y ey => by cases ey⟩]
        rw [ha]
        simp (disch := omega) only [e257, r257_0, r257_1, r257_2, r257_5, r257_8, r257_9, r257_10, r257_13, r257_16, r257_17, r257_18, r257_19, r257_20, r257_21, r257_23, r257_24, r257_28, r257_29, r257_32, r257_35, r257_36, r257_38, r257_41, r257_44, r257_47, r257_48, r257_49, r257_50, r257_52, r257_55, r257_57, r257_58, r257_59, r257_62, r257_64, r257_66, r257_69, r257_72, r257_74, r257_75, r257_77, r257_79, r257_82, r257_85, r257_86, as1, as2, m233 _ g _ hg w, m5, k2', kdC, kdM, rpC, rpM, q_rs, q_rn, Option.toList_some, Option.toList_none, List.cons_append, List.nil_append, true_and, and_true, eq_self, ↓reduceIte, not_true_eq_false, not_false_eq_true, Nat.reduceEqDiff, Nat.reduceLeDiff, Nat.reduceLT, Nat.reduceAdd, Nat.reduceMul, Nat.reduceSub, false_or, or_false, true_or, or_true, false_and, and_false, reduceCtorEq, q_n0, q_n1, q_em, q_em2, q_b0, q_b1, Classical.not_not, nI_add, pk_mul, nI_clamp, q_vp, nI_eq, nI_leI, nI_ltI, q_sub, show ¬ ns K ≤ s by omega]
      | some y =>
        obtain ⟨y1, y2⟩ := hx y rfl
        by_cases c : y.2 < O s
        · have ha : asF K O s (some y) = some (s, O s) := by unfold asF; rw [pif_t ⟨e5, fun y' ey => by cases ey; exact c⟩]
          rw [ha]
          simp (disch := omega) only [e257, r257_0, r257_1, r257_2, r257_5, r257_8, r257_9, r257_10, r257_13, r257_16, r257_17, r257_18, r257_19, r257_20, r257_21, r257_23, r257_24, r257_28, r257_29, r257_32, r257_35, r257_36, r257_38, r257_41, r257_44, r257_47, r257_48, r257_49, r257_50, r257_52, r257_55, r257_57, r257_58, r257_59, r257_62, r257_64, r257_66, r257_69, r257_72, r257_74, r257_75, r257_77, r257_79, r257_82, r257_85, r257_86, as1, as2, m233 _ g _ hg w, m5, k2', q_nm, kdC, kdM, rpC, rpM, q_rs, q_rn, Option.toList_some, Option.toList_none, List.cons_append, List.nil_append, true_and, and_true, eq_self, ↓reduceIte, not_true_eq_false, not_false_eq_true, Nat.reduceEqDiff, Nat.reduceLeDiff, Nat.reduceLT, Nat.reduceAdd, Nat.reduceMul, Nat.reduceSub, false_or, or_false, true_or, or_true, false_and, and_false, reduceCtorEq, q_n0, q_n1, q_em, q_em2, q_b0, q_b1, Classical.not_not, nI_add, pk_mul, nI_clamp, q_vp, nI_eq, nI_leI, nI_ltI, q_sub, show ¬ ns K ≤ s by omega, show y.2 < O s by omega]
        · have ha : asF K O s (some y) = some y := by unfold asF; rw [pif_f (fun u => c (u.2 y rfl))]
          rw [ha]
          simp (disch := omega) only [e257, r257_0, r257_1, r257_2, r257_5, r257_8, r257_9, r257_10, r257_13, r257_16, r257_17, r257_18, r257_19, r257_20, r257_21, r257_23, r257_24, r257_28, r257_29, r257_32, r257_35, r257_36, r257_38, r257_41, r257_44, r257_47, r257_48, r257_49, r257_50, r257_52, r257_55, r257_57, r257_58, r257_59, r257_62, r257_64, r257_66, r257_69, r257_72, r257_74, r257_75, r257_77, r257_79, r257_82, r257_85, r257_86, as1, as2, m233 _ g _ hg w, m5, k2', q_nm, kdC, kdM, rpC, rpM, q_rs, q_rn, Option.toList_some, Option.toList_none, List.cons_append, List.nil_append, true_and, and_true, eq_self, ↓reduceIte, not_true_eq_false, not_false_eq_true, Nat.reduceEqDiff, Nat.reduceLeDiff, Nat.reduceLT, Nat.reduceAdd, Nat.reduceMul, Nat.reduceSub, false_or, or_false, true_or, or_true, false_and, and_false, reduceCtorEq, q_n0, q_n1, q_em, q_em2, q_b0, q_b1, Classical.not_not, nI_add, pk_mul, nI_clamp, q_vp, nI_eq, nI_leI, nI_ltI, q_sub, show ¬ ns K ≤ s by omega, show ¬ y.2 < O s by omega]
    · have e5' : ¬ K (304 + 6 * s + 5) = nI 0 := by rw [e5]; exact q_01
      rw [q_bf e5'] at m5
      have ha : asF K O s x = x := by unfold asF; rw [pif_f (fun u => e5' u.1)]
      obtain ⟨g', a1, a2⟩ := ml257 w hO hc k (s + 1) (asF K O s x) g v6 (by omega) hf hg hx2
      refine ⟨g', a1, fun d F => ?_⟩
      rw [show q_lp (asF K O) (k + 1) s x = q_lp (asF K O) k (s + 1) (asF K O s x) from rfl]
      refine Eq.trans ?_ (a2 d F)
      rw [r257_26, ha]
      simp (disch := omega) only [e257, r257_0, r257_1, r257_2, r257_5, r257_8, r257_9, r257_10, r257_13, r257_16, r257_17, r257_18, r257_19, r257_20, r257_21, r257_23, r257_24, r257_28, r257_29, r257_32, r257_35, r257_36, r257_38, r257_41, r257_44, r257_47, r257_48, r257_49, r257_50, r257_52, r257_55, r257_57, r257_58, r257_59, r257_62, r257_64, r257_66, r257_69, r257_72, r257_74, r257_75, r257_77, r257_79, r257_82, r257_85, r257_86, m233 _ g _ hg w, m5, kdC, kdM, rpC, rpM, q_rs, q_rn, Option.toList_some, Option.toList_none, List.cons_append, List.nil_append, true_and, and_true, eq_self, ↓reduceIte, not_true_eq_false, not_false_eq_true, Nat.reduceEqDiff, Nat.reduceLeDiff, Nat.reduceLT, Nat.reduceAdd, Nat.reduceMul, Nat.reduceSub, false_or, or_false, true_or, or_true, false_and, and_false, reduceCtorEq, q_n0, q_n1, q_em, q_em2, q_b0, q_b1, Classical.not_not, nI_add, pk_mul, nI_clamp, q_vp, nI_eq, nI_leI, nI_ltI, q_sub, show ¬ ns K ≤ s by omega]
theorem p_ask {n : Nat} {h : Hp} (z : Inv n h) (a b : Int32) : PRI n h 119 257 [.int a, .int b] := by
  intro d
  have w := z.1.1
  have hn := w.hnx
  by_cases hAB : (nI 0 ≤ a ∧ a < nI (nx (gI h 103))) ∧ (nI 0 ≤ b ∧ b < nI (nx (gI h 103)))
  · obtain ⟨hA, hB⟩ := hAB
    obtain ⟨t1, ht1, rfl⟩ := q_ix (by omega) hA.1 hA.2
    obtain ⟨t2, ht2, rfl⟩ := q_ix (by omega) hB.1 hB.2
    obtain ⟨O, h2, G, o1, o2, o3, o4, o5, ⟨h1, o6, o7⟩, o8⟩ := oth_both z ht1 ht2
    obtain ⟨g1, k1, k2⟩ := cl119 z o1 o4 o5 (.int (nI t1)) (.int (nI t2)) (ns (gI h 103)) 0 none h2 jn (by omega) o3 (fun y ey => by cases ey)
    have f1 := o4 g1 k1
    obtain ⟨g2, k3, k4⟩ := ml257 (h := g1) w o1 o8 (ns (gI h 103)) 0 none g1 jn (by omega) (FrS.refl g1) f1.K (fun y ey => by cases ey)
    refine ⟨as1 (q_lp (asF (gI h 103) O) (ns (gI h 103)) 0 none), g1, g2, fun F => ?_, fun F => ?_, Inv_fr (f1.trans (Mw_fr k3)) z⟩
    · have o6' := fun F => o6 (d + 896) F
      have o7' := fun F => o7 (d + 893) F
      refine Eq.trans ?_ (k2 (d + 893) F)
      simp (disch := omega) only [r119_0, r119_1, r119_2, r119_3, r119_4, r119_7, r119_10, r119_11, r119_12, r119_13, r119_16, r119_19, r119_20, r119_21, r119_22, r119_24, r119_25, e119, o6', o7', kdC, kdM, rpC, rpM, q_rs, q_rn, Option.toList_some, Option.toList_none, List.cons_append, List.nil_append, true_and, and_true, eq_self, ↓reduceIte, not_true_eq_false, not_false_eq_true, Nat.reduceEqDiff, Nat.reduceLeDiff, Nat.reduceLT, Nat.reduceAdd, Nat.reduceMul, Nat.reduceSub, false_or, or_false, true_or, or_true, false_and, and_false, reduceCtorEq, q_n0, q_n1, q_em, q_em2, q_b0, q_b1, Classical.not_not]
      rfl
    · refine Eq.trans ?_ (k4 (d + 829) F)
      simp (disch := omega) only [r257_0, r257_1, r257_2, r257_5, r257_8, r257_9, r257_10, r257_13, r257_16, r257_17, r257_18, r257_19, r257_20, r257_21, r257_23, r257_24, e257, c150 _ _ _ f1.K w, hA, hB, kdC, kdM, rpC, rpM, q_rs, q_rn, Option.toList_some, Option.toList_none, List.cons_append, List.nil_append, true_and, and_true, eq_self, ↓reduceIte, not_true_eq_false, not_false_eq_true, Nat.reduceEqDiff, Nat.reduceLeDiff, Nat.reduceLT, Nat.reduceAdd, Nat.reduceMul, Nat.reduceSub, false_or, or_false, true_or, or_true, false_and, and_false, reduceCtorEq, q_n0, q_n1, q_em, q_em2, q_b0, q_b1, Classical.not_not]
      rfl
  · have hno := fun F => c136n z (v := nI 1) hAB (d + 896) F
    refine ⟨-1, h, h, fun F => ?_, fun F => ?_, Inv_fr (Fr.refl h) z⟩
    · simp (disch := omega) only [e119, r119_0, r119_1, r119_2, r119_3, r119_4, r119_7, r119_10, r119_11, r119_12, r119_13, r119_16, r119_19, r119_20, r119_21, r119_22, r119_24, r119_25, r119_29, r119_30, r119_33, r119_36, r119_39, r119_42, r119_43, r119_46, r119_49, r119_52, r119_54, r119_55, r119_58, r119_59, r119_62, r119_64, r119_67, r119_69, r119_70, r119_71, r119_74, r119_76, r119_78, r119_81, r119_83, r119_84, r119_86, r119_88, r119_91, r119_94, r119_95, hno, kdC, kdM, rpC, rpM, q_rs, q_rn, Option.toList_some, Option.toList_none, List.cons_append, List.nil_append, true_and, and_true, eq_self, ↓reduceIte, not_true_eq_false, not_false_eq_true, Nat.reduceEqDiff, Nat.reduceLeDiff, Nat.reduceLT, Nat.reduceAdd, Nat.reduceMul, Nat.reduceSub, false_or, or_false, true_or, or_true, false_and, and_false, reduceCtorEq, q_n0, q_n1, q_em, q_em2, q_b0, q_b1, Classical.not_not]
    · by_cases hA : nI 0 ≤ a ∧ a < nI (nx (gI h 103))
      · have hB : ¬ (nI 0 ≤ b ∧ b < nI (nx (gI h 103))) := fun u => hAB ⟨hA, u⟩
        simp (disch := omega) only [e257, r257_0, r257_1, r257_2, r257_5, r257_8, r257_9, r257_10, r257_13, r257_16, r257_17, r257_18, r257_19, r257_20, r257_21, r257_23, r257_24, r257_28, r257_29, r257_32, r257_35, r257_36, r257_38, r257_41, r257_44, r257_47, r257_48, r257_49, r257_50, r257_52, r257_55, r257_57, r257_58, r257_59, r257_62, r257_64, r257_66, r257_69, r257_72, r257_74, r257_75, r257_77, r257_79, r257_82, r257_85, r257_86, c150 _ _ _ rfl w, hA, hB, kdC, kdM, rpC, rpM, q_rs, q_rn, Option.toList_some, Option.toList_none, List.cons_append, List.nil_append, true_and, and_true, eq_self, ↓reduceIte, not_true_eq_false, not_false_eq_true, Nat.reduceEqDiff, Nat.reduceLeDiff, Nat.reduceLT, Nat.reduceAdd, Nat.reduceMul, Nat.reduceSub, false_or, or_false, true_or, or_true, false_and, and_false, reduceCtorEq, q_n0, q_n1, q_em, q_em2, q_b0, q_b1, Classical.not_not]
      · simp (disch := omega) only [e257, r257_0, r257_1, r257_2, r257_5, r257_8, r257_9, r257_10, r257_13, r257_16, r257_17, r257_18, r257_19, r257_20, r257_21, r257_23, r257_24, r257_28, r257_29, r257_32, r257_35, r257_36, r257_38, r257_41, r257_44, r257_47, r257_48, r257_49, r257_50, r257_52, r257_55, r257_57, r257_58, r257_59, r257_62, r257_64, r257_66, r257_69, r257_72, r257_74, r257_75, r257_77, r257_79, r257_82, r257_85, r257_86, c150 _ _ _ rfl w, hA, kdC, kdM, rpC, rpM, q_rs, q_rn, Option.toList_some, Option.toList_none, List.cons_append, List.nil_append, true_and, and_true, eq_self, ↓reduceIte, not_true_eq_false, not_false_eq_true, Nat.reduceEqDiff, Nat.reduceLeDiff, Nat.reduceLT, Nat.reduceAdd, Nat.reduceMul, Nat.reduceSub, false_or, or_false, true_or, or_true, false_and, and_false, reduceCtorEq, q_n0, q_n1, q_em, q_em2, q_b0, q_b1, Classical.not_not]
