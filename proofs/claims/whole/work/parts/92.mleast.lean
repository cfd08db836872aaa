/-! leastSet (the model); least, more -/
section ML
variable {h : Hp} {K : Nat → Int32} {Tm Ts : Tk} {tm ts : Nat} {σ : Nat → Nat}
theorem m247 (hK : gI h 103 = K) (w : WF K) (htm : tm < 10) (te : tEq K tm Tm) (hts : ts < 10) (te2 : tEq K ts Ts) (hσ : isTurn K σ) {M : Nat} (hM : M < 2 ^ ns K) : ∃ h', FrS mwS h h' ∧ ∀ d F, cwp true (d + 70) 247 [.ref 101, .int (nI tm), .int (nI ts), .int (nI (sbt K (ns K) ||| M)), .int (nI 0)] h F = F (some (.int (bz (isStd K Tm Ts (seqM K σ M))))) h' := by
  have hns := w.hns
  have hP : 2 ^ ns K ≤ 2 ^ 12 := Nat.pow_le_pow_right (by omega) hns.2
  have hor : sbt K (ns K) ||| M < 2 ^ ns K := Nat.or_lt_two_pow (sbt_lt K (ns K)) hM
  obtain ⟨g, a1, a2, a3, a4, a5⟩ := m246 (Tm := Tm) (Ts := Ts) (tm := tm) (ts := ts) (M := sbt K (ns K) ||| M) hK w htm te hts te2 hσ (by omega)
  have hKg : gI g 103 = K := (Mw_fr a1).K.trans hK
  have t1 := fun F d => c149 d g F hKg (show 1 < 4 by omega)
  refine ⟨g, a1, fun d F => ?_⟩
  have a5' := fun F => a5 d F
  have hi := std_i (Tm := Tm) (Ts := Ts) w hσ M
  unfold sqC at hi
  by_cases c : nI (cntT (fun t => isStp K Ts t (mdD K Tm σ (sbt K (ns K) ||| M) t (ns K))) (nt K)) < K 217
  · rw [q_bf (fun u => hi.mp u c)]
    simp (disch := omega) only [e247, r247_0, r247_1, r247_2, r247_3, r247_4, r247_6, r247_9, r247_10, r247_11, r247_14, r247_17, r247_18, r247_21, r247_22, a5', t1, c, kdC, kdM, rpC, rpM, q_rs, q_rn, Option.toList_some, Option.toList_none, List.cons_append, List.nil_append, true_and, and_true, eq_self, ↓reduceIte, not_true_eq_false, not_false_eq_true, Nat.reduceEqDiff, Nat.reduceLeDiff, Nat.reduceLT, Nat.reduceAdd, Nat.reduceMul, Nat.reduceSub, false_or, or_false, true_or, or_true, false_and, and_false, reduceCtorEq, q_n0, q_n1, q_em, q_em2, q_b0, q_b1, Classical.not_not]
  · rw [q_bt (hi.mpr c)]
    simp (disch := omega) only [e247, r247_0, r247_1, r247_2, r247_3, r247_4, r247_6, r247_9, r247_10, r247_11, r247_14, r247_17, r247_18, r247_21, r247_22, a5', t1, c, kdC, kdM, rpC, rpM, q_rs, q_rn, Option.toList_some, Option.toList_none, List.cons_append, List.nil_append, true_and, and_true, eq_self, ↓reduceIte, not_true_eq_false, not_false_eq_true, Nat.reduceEqDiff, Nat.reduceLeDiff, Nat.reduceLT, Nat.reduceAdd, Nat.reduceMul, Nat.reduceSub, false_or, or_false, true_or, or_true, false_and, and_false, reduceCtorEq, q_n0, q_n1, q_em, q_em2, q_b0, q_b1, Classical.not_not]
def lsP (K : Nat → Int32) (σ : Nat → Nat) (Tm Ts : Tk) (n : Nat) (best : Option Nat) : Prop := match best with
  | none => ∀ M, M < n → ¬ isCho K σ Tm Ts M
  | some B => isCho K σ Tm Ts B ∧ B < n ∧ ∀ M, M < n → isCho K σ Tm Ts M → M = B ∨ beats (ns K) B M
theorem lsP_no {n : Nat} {best : Option Nat} (x : lsP K σ Tm Ts n best) (hn : ¬ isCho K σ Tm Ts n) : lsP K σ Tm Ts (n + 1) best := by
  cases best with
  | none =>
    intro M hM
    by_cases e : M = n
    · rw [e]; exact hn
    · exact x M (by omega)
  | some B =>
    refine ⟨x.1, by have := x.2.1; omega, fun M hM hc => ?_⟩
    by_cases e : M = n
    · rw [e] at hc; exact absurd hc hn
    · exact x.2.2 M (by omega) hc
theorem lsP_be {n B : Nat} (x : lsP K σ Tm Ts n (some B)) (hb : beats (ns K) B n) : lsP K σ Tm Ts (n + 1) (some B) := by
  refine ⟨x.1, by have := x.2.1; omega, fun M hM hc => ?_⟩
  by_cases e : M = n
  · rw [e]; exact Or.inr hb
  · exact x.2.2 M (by omega) hc
theorem lsP_yes {n : Nat} {best : Option Nat} (x : lsP K σ Tm Ts n best) (hn : isCho K σ Tm Ts n) (hb : ∀ B, best = some B → beats (ns K) n B) : lsP K σ Tm Ts (n + 1) (some n) := by
  refine ⟨hn, by omega, fun M hM hc => ?_⟩
  by_cases e : M = n
  · exact Or.inl e
  · right
    cases best with
    | none => exact absurd hc (x M (by omega))
    | some B =>
      rcases x.2.2 M (by omega) hc with q | q
      · rw [q]; exact hb B rfl
      · exact beats_tr hn.1 x.1.1 (hb B rfl) q
theorem and_no {M : Nat} (hns : ns K ≤ 12) : M &&& sbt K (ns K) = 0 ↔ ∀ s, s < ns K → M.testBit s = true → ¬ isSent K s := by
  constructor
  · intro e s hs hb hse
    have := congrArg (fun z => z.testBit s) e
    simp only [Nat.testBit_and, Nat.zero_testBit, hb, (sbt_bit K (ns K) s).mpr ⟨hs, hse⟩] at this
    cases this
  · intro hh
    apply Nat.eq_of_testBit_eq
    intro s
    rw [Nat.testBit_and, Nat.zero_testBit]
    cases q1 : M.testBit s with
    | false => rfl
    | true =>
      cases q2 : (sbt K (ns K)).testBit s with
      | false => rfl
      | true =>
        obtain ⟨h1, h2⟩ := (sbt_bit K (ns K) s).mp q2
        exact absurd h2 (hh s h1 q1)
theorem ml251 (hK : gI h 103 = K) (w : WF K) (htm : tm < 10) (te : tEq K tm Tm) (hts : ts < 10) (te2 : tEq K ts Ts) (hσ : isTurn K σ) : ∀ k i best h0 (v6 v7 : Value), i + k = 2 ^ ns K → FrS mwS h h0 → lsP K σ Tm Ts i best → ∃ h' best', FrS mwS h h' ∧ isLst K σ Tm Ts best' ∧ ∀ d F, wp true (d + 71) 251 11 [.ref 101, .int (nI tm), .int (nI ts), .int (nI (sbt K (ns K))), .int (lsI best), .int (nI i), v6, v7] [] h0 F = F (some (.int (lsI best'))) h' := by
  intro k
  have hns := w.hns
  have hP : 2 ^ ns K ≤ 2 ^ 12 := Nat.pow_le_pow_right (by omega) hns.2
  have hS := sbt_lt K (ns K)
  have sh : nI 1 <<< (nI (ns K) &&& 31) = nI (2 ^ ns K) := by rw [n_shl (by omega) (by omega), Nat.one_mul]
  induction k with
  | zero =>
    intro i best h0 v6 v7 e x hls
    obtain rfl : i = 2 ^ ns K := e
    have hK0 : gI h0 103 = K := (Mw_fr x).K.trans hK
    refine ⟨h0, best, x, ?_, fun d F => ?_⟩
    · cases best with
      | none => exact fun M hM => hls M hM.1 hM
      | some B => exact ⟨hls.1, fun M hM => hls.2.2 M hM.1 hM⟩
    · rw [r251_11]
      simp (disch := omega) only [e251, r251_0, r251_1, r251_4, r251_5, r251_6, r251_8, r251_9, r251_13, r251_14, r251_15, r251_18, r251_19, r251_22, r251_24, r251_25, r251_26, r251_29, r251_31, r251_32, r251_35, r251_37, r251_40, r251_42, r251_45, r251_48, r251_51, r251_53, r251_54, r251_57, r251_58, r251_61, r251_63, r251_65, r251_66, r251_68, r251_70, r251_71, r251_74, r251_76, r251_79, r251_81, r251_84, r251_87, r251_89, r251_91, r251_92, r251_93, r251_95, r251_96, r251_99, r251_100, r251_103, r251_104, r251_106, r251_108, r251_111, r251_112, r251_113, r251_114, r251_115, r251_117, r251_118, r251_119, r251_122, r251_125, r251_127, r251_129, r251_132, r251_135, r251_137, m233 _ h0 _ hK0 w, sh, kdC, kdM, rpC, rpM, q_rs, q_rn, Option.toList_some, Option.toList_none, List.cons_append, List.nil_append, true_and, and_true, eq_self, ↓reduceIte, not_true_eq_false, not_false_eq_true, Nat.reduceEqDiff, Nat.reduceLeDiff, Nat.reduceLT, Nat.reduceAdd, Nat.reduceMul, Nat.reduceSub, false_or, or_false, true_or, or_true, false_and, and_false, reduceCtorEq, q_n0, q_n1, q_em, q_em2, q_b0, q_b1, Classical.not_not, nI_add, pk_mul, nI_clamp, q_vp, nI_eq, nI_leI, nI_ltI, q_sub, Nat.le_refl]
  | succ k ih =>
    intro i best h0 v6 v7 e x hls
    have hi : i < 2 ^ ns K := by omega
    have hK0 : gI h0 103 = K := (Mw_fr x).K.trans hK
    have hand : i &&& sbt K (ns K) ≤ i := Nat.and_le_left
    have o12 := ones_n hns.2 hi
    have hol : onesN 12 i ≤ 12 := by rw [ones_cnt]; exact cnt_le _ _
    by_cases cA : i &&& sbt K (ns K) = 0
    · have hun := (and_no hns.2).mp cA
      obtain ⟨g, g1, g2⟩ := m247 (Tm := Tm) (Ts := Ts) (tm := tm) (ts := ts) (M := i) hK0 w htm te hts te2 hσ hi
      have hcho : isCho K σ Tm Ts i ↔ isStd K Tm Ts (seqM K σ i) := ⟨fun u => u.2.2, fun u => ⟨hi, hun, u⟩⟩
      have n1 : nI (i &&& sbt K (ns K)) = nI 0 := by rw [cA]
      cases best with
      | none =>
        by_cases cs : isStd K Tm Ts (seqM K σ i)
        · rw [q_bt cs] at g2
          obtain ⟨h', best', a1, a2, a3⟩ := ih (i + 1) (some i) g (.int (nI 0)) (.int (nI 1)) (by omega) (x.trans g1) (lsP_yes hls (hcho.mpr cs) (fun B u => by cases u))
          refine ⟨h', best', a1, a2, fun d F => ?_⟩
          refine Eq.trans ?_ (a3 d F)
          have g2' := fun F => g2 d F
          rw [r251_11, lsI_n]
          simp (disch := omega) only [e251, r251_0, r251_1, r251_4, r251_5, r251_6, r251_8, r251_9, r251_13, r251_14, r251_15, r251_18, r251_19, r251_22, r251_24, r251_25, r251_26, r251_29, r251_31, r251_32, r251_35, r251_37, r251_40, r251_42, r251_45, r251_48, r251_51, r251_53, r251_54, r251_57, r251_58, r251_61, r251_63, r251_65, r251_66, r251_68, r251_70, r251_71, r251_74, r251_76, r251_79, r251_81, r251_84, r251_87, r251_89, r251_91, r251_92, r251_93, r251_95, r251_96, r251_99, r251_100, r251_103, r251_104, r251_106, r251_108, r251_111, r251_112, r251_113, r251_114, r251_115, r251_117, r251_118, r251_119, r251_122, r251_125, r251_127, r251_129, r251_132, r251_135, r251_137, m233 _ h0 _ hK0 w, sh, n_and, n_or, n1, g2', lsI_s, kdC, kdM, rpC, rpM, q_rs, q_rn, Option.toList_some, Option.toList_none, List.cons_append, List.nil_append, true_and, and_true, eq_self, ↓reduceIte, not_true_eq_false, not_false_eq_true, Nat.reduceEqDiff, Nat.reduceLeDiff, Nat.reduceLT, Nat.reduceAdd, Nat.reduceMul, Nat.reduceSub, false_or, or_false, true_or, or_true, false_and, and_false, reduceCtorEq, q_n0, q_n1, q_em, q_em2, q_b0, q_b1, Classical.not_not, nI_add, pk_mul, nI_clamp, q_vp, nI_eq, nI_leI, nI_ltI, q_sub, show ¬ 2 ^ ns K ≤ i by omega]
        · rw [q_bf cs] at g2
          obtain ⟨h', best', a1, a2, a3⟩ := ih (i + 1) none g (.int (nI 0)) (.int (nI 1)) (by omega) (x.trans g1) (lsP_no hls (fun u => cs (hcho.mp u)))
          refine ⟨h', best', a1, a2, fun d F => ?_⟩
          refine Eq.trans ?_ (a3 d F)
          have g2' := fun F => g2 d F
          rw [r251_11, lsI_n]
          simp (disch := omega) only [e251, r251_0, r251_1, r251_4, r251_5, r251_6, r251_8, r251_9, r251_13, r251_14, r251_15, r251_18, r251_19, r251_22, r251_24, r251_25, r251_26, r251_29, r251_31, r251_32, r251_35, r251_37, r251_40, r251_42, r251_45, r251_48, r251_51, r251_53, r251_54, r251_57, r251_58, r251_61, r251_63, r251_65, r251_66, r251_68, r251_70, r251_71, r251_74, r251_76, r251_79, r251_81, r251_84, r251_87, r251_89, r251_91, r251_92, r251_93, r251_95, r251_96, r251_99, r251_100, r251_103, r251_104, r251_106, r251_108, r251_111, r251_112, r251_113, r251_114, r251_115, r251_117, r251_118, r251_119, r251_122, r251_125, r251_127, r251_129, r251_132, r251_135, r251_137, m233 _ h0 _ hK0 w, sh, n_and, n_or, n1, g2', kdC, kdM, rpC, rpM, q_rs, q_rn, Option.toList_some, Option.toList_none, List.cons_append, List.nil_append, true_and, and_true, eq_self, ↓reduceIte, not_true_eq_false, not_false_eq_true, Nat.reduceEqDiff, Nat.reduceLeDiff, Nat.reduceLT, Nat.reduceAdd, Nat.reduceMul, Nat.reduceSub, false_or, or_false, true_or, or_true, false_and, and_false, reduceCtorEq, q_n0, q_n1, q_em, q_em2, q_b0, q_b1, Classical.not_not, nI_add, pk_mul, nI_clamp, q_vp, nI_eq, nI_leI, nI_ltI, q_sub, show ¬ 2 ^ ns K ≤ i by omega]
      | some B =>
        have hB : B < 2 ^ ns K := by have := hls.2.1; omega
        have oB := ones_n hns.2 hB
        have hoB : onesN 12 B ≤ 12 := by rw [ones_cnt]; exact cnt_le _ _
        have hm1 := fun F d => m250 d h0 F (M := i) (by omega)
        have hm2 := fun F d => m250 d h0 F (M := B) (by omega)
        have hlx := ltx_i (a := i) (b := B) (by omega) (by omega)
        by_cases c1 : onesN 12 B < onesN 12 i
        · obtain ⟨h', best', a1, a2, a3⟩ := ih (i + 1) (some B) h0 v6 v7 (by omega) x (lsP_be hls (by rw [beats_i hB]; left; omega))
          refine ⟨h', best', a1, a2, fun d F => ?_⟩
          refine Eq.trans ?_ (a3 d F)
          rw [r251_11, lsI_s]
          simp (disch := omega) only [e251, r251_0, r251_1, r251_4, r251_5, r251_6, r251_8, r251_9, r251_13, r251_14, r251_15, r251_18, r251_19, r251_22, r251_24, r251_25, r251_26, r251_29, r251_31, r251_32, r251_35, r251_37, r251_40, r251_42, r251_45, r251_48, r251_51, r251_53, r251_54, r251_57, r251_58, r251_61, r251_63, r251_65, r251_66, r251_68, r251_70, r251_71, r251_74, r251_76, r251_79, r251_81, r251_84, r251_87, r251_89, r251_91, r251_92, r251_93, r251_95, r251_96, r251_99, r251_100, r251_103, r251_104, r251_106, r251_108, r251_111, r251_112, r251_113, r251_114, r251_115, r251_117, r251_118, r251_119, r251_122, r251_125, r251_127, r251_129, r251_132, r251_135, r251_137, m233 _ h0 _ hK0 w, sh, n_and, n1, q_nm, hm1, hm2, kdC, kdM, rpC, rpM, q_rs, q_rn, Option.toList_some, Option.toList_none, List.cons_append, List.nil_append, true_and, and_true, eq_self, ↓reduceIte, not_true_eq_false, not_false_eq_true, Nat.reduceEqDiff, Nat.reduceLeDiff, Nat.reduceLT, Nat.reduceAdd, Nat.reduceMul, Nat.reduceSub, false_or, or_false, true_or, or_true, false_and, and_false, reduceCtorEq, q_n0, q_n1, q_em, q_em2, q_b0, q_b1, Classical.not_not, nI_add, pk_mul, nI_clamp, q_vp, nI_eq, nI_leI, nI_ltI, q_sub, show ¬ 2 ^ ns K ≤ i by omega, show ¬ onesN 12 i ≤ onesN 12 B by omega]
        · by_cases c2 : onesN 12 i < onesN 12 B
          · have hbt : beats (ns K) i B := by rw [beats_i hi]; left; omega
            by_cases cs : isStd K Tm Ts (seqM K σ i)
            · rw [q_bt cs] at g2
              obtain ⟨h', best', a1, a2, a3⟩ := ih (i + 1) (some i) g (.int (nI (i ^^^ B))) (.int (nI 1)) (by omega) (x.trans g1) (lsP_yes hls (hcho.mpr cs) (fun B' u => by cases u; exact hbt))
              refine ⟨h', best', a1, a2, fun d F => ?_⟩
              refine Eq.trans ?_ (a3 d F)
              have g2' := fun F => g2 d F
              rw [r251_11, lsI_s]
              simp (disch := omega) only [e251, r251_0, r251_1, r251_4, r251_5, r251_6, r251_8, r251_9, r251_13, r251_14, r251_15, r251_18, r251_19, r251_22, r251_24, r251_25, r251_26, r251_29, r251_31, r251_32, r251_35, r251_37, r251_40, r251_42, r251_45, r251_48, r251_51, r251_53, r251_54, r251_57, r251_58, r251_61, r251_63, r251_65, r251_66, r251_68, r251_70, r251_71, r251_74, r251_76, r251_79, r251_81, r251_84, r251_87, r251_89, r251_91, r251_92, r251_93, r251_95, r251_96, r251_99, r251_100, r251_103, r251_104, r251_106, r251_108, r251_111, r251_112, r251_113, r251_114, r251_115, r251_117, r251_118, r251_119, r251_122, r251_125, r251_127, r251_129, r251_132, r251_135, r251_137, m233 _ h0 _ hK0 w, sh, n_and, n_or, n_xor, n1, q_nm, hm1, hm2, g2', lsI_s, kdC, kdM, rpC, rpM, q_rs, q_rn, Option.toList_some, Option.toList_none, List.cons_append, List.nil_append, true_and, and_true, eq_self, ↓reduceIte, not_true_eq_false, not_false_eq_true, Nat.reduceEqDiff, Nat.reduceLeDiff, Nat.reduceLT, Nat.reduceAdd, Nat.reduceMul, Nat.reduceSub, false_or, or_false, true_or, or_true, false_and, and_false, reduceCtorEq, q_n0, q_n1, q_em, q_em2, q_b0, q_b1, Classical.not_not, nI_add, pk_mul, nI_clamp, q_vp, nI_eq, nI_leI, nI_ltI, q_sub, show ¬ 2 ^ ns K ≤ i by omega, show onesN 12 i ≤ onesN 12 B by omega, c2]
            · rw [q_bf cs] at g2
              obtain ⟨h', best', a1, a2, a3⟩ := ih (i + 1) (some B) g (.int (nI (i ^^^ B))) (.int (nI 1)) (by omega) (x.trans g1) (lsP_no hls (fun u => cs (hcho.mp u)))
              refine ⟨h', best', a1, a2, fun d F => ?_⟩
              refine Eq.trans ?_ (a3 d F)
              have g2' := fun F => g2 d F
              rw [r251_11, lsI_s]
              simp (disch := omega) only [e251, r251_0, r251_1, r251_4, r251_5, r251_6, r251_8, r251_9, r251_13, r251_14, r251_15, r251_18, r251_19, r251_22, r251_24, r251_25, r251_26, r251_29, r251_31, r251_32, r251_35, r251_37, r251_40, r251_42, r251_45, r251_48, r251_51, r251_53, r251_54, r251_57, r251_58, r251_61, r251_63, r251_65, r251_66, r251_68, r251_70, r251_71, r251_74, r251_76, r251_79, r251_81, r251_84, r251_87, r251_89, r251_91, r251_92, r251_93, r251_95, r251_96, r251_99, r251_100, r251_103, r251_104, r251_106, r251_108, r251_111, r251_112, r251_113, r251_114, r251_115, r251_117, r251_118, r251_119, r251_122, r251_125, r251_127, r251_129, r251_132, r251_135, r251_137, m233 _ h0 _ hK0 w, sh, n_and, n_or, n_xor, n1, q_nm, hm1, hm2, g2', kdC, kdM, rpC, rpM, q_rs, q_rn, Option.toList_some, Option.toList_none, List.cons_append, List.nil_append, true_and, and_true, eq_self, ↓reduceIte, not_true_eq_false, not_false_eq_true, Nat.reduceEqDiff, Nat.reduceLeDiff, Nat.reduceLT, Nat.reduceAdd, Nat.reduceMul, Nat.reduceSub, false_or, or_false, true_or, or_true, false_and, and_false, reduceCtorEq, q_n0, q_n1, q_em, q_em2, q_b0, q_b1, Classical.not_not, nI_add, pk_mul, nI_clamp, q_vp, nI_eq, nI_leI, nI_ltI, q_sub, show ¬ 2 ^ ns K ≤ i by omega, show onesN 12 i ≤ onesN 12 B by omega, c2]
          · by_cases c3 : ltx i B
            · have hbt : beats (ns K) i B := by rw [beats_i hi]; right; exact ⟨by omega, c3⟩
              have c3' : ¬ nI (i ^^^ B) &&& -(nI (i ^^^ B)) &&& nI i = nI 0 := fun u => hlx.mp u c3
              by_cases cs : isStd K Tm Ts (seqM K σ i)
              · rw [q_bt cs] at g2
                obtain ⟨h', best', a1, a2, a3⟩ := ih (i + 1) (some i) g (.int (nI (i ^^^ B))) (.int (nI 1)) (by omega) (x.trans g1) (lsP_yes hls (hcho.mpr cs) (fun B' u => by cases u; exact hbt))
                refine ⟨h', best', a1, a2, fun d F => ?_⟩
                refine Eq.trans ?_ (a3 d F)
                have g2' := fun F => g2 d F
                rw [r251_11, lsI_s]
                simp (disch := omega) only [e251, r251_0, r251_1, r251_4, r251_5, r251_6, r251_8, r251_9, r251_13, r251_14, r251_15, r251_18, r251_19, r251_22, r251_24, r251_25, r251_26, r251_29, r251_31, r251_32, r251_35, r251_37, r251_40, r251_42, r251_45, r251_48, r251_51, r251_53, r251_54, r251_57, r251_58, r251_61, r251_63, r251_65, r251_66, r251_68, r251_70, r251_71, r251_74, r251_76, r251_79, r251_81, r251_84, r251_87, r251_89, r251_91, r251_92, r251_93, r251_95, r251_96, r251_99, r251_100, r251_103, r251_104, r251_106, r251_108, r251_111, r251_112, r251_113, r251_114, r251_115, r251_117, r251_118, r251_119, r251_122, r251_125, r251_127, r251_129, r251_132, r251_135, r251_137, m233 _ h0 _ hK0 w, sh, n_and i, n_or, n_xor, n1, q_nm, hm1, hm2, g2', lsI_s, c3', kdC, kdM, rpC, rpM, q_rs, q_rn, Option.toList_some, Option.toList_none, List.cons_append, List.nil_append, true_and, and_true, eq_self, ↓reduceIte, not_true_eq_false, not_false_eq_true, Nat.reduceEqDiff, Nat.reduceLeDiff, Nat.reduceLT, Nat.reduceAdd, Nat.reduceMul, Nat.reduceSub, false_or, or_false, true_or, or_true, false_and, and_false, reduceCtorEq, q_n0, q_n1, q_em, q_em2, q_b0, q_b1, Classical.not_not, nI_add, pk_mul, nI_clamp, q_vp, nI_eq, nI_leI, nI_ltI, q_sub, show ¬ 2 ^ ns K ≤ i by omega, show onesN 12 i ≤ onesN 12 B by omega, c2]
              · rw [q_bf cs] at g2
                obtain ⟨h', best', a1, a2, a3⟩ := ih (i + 1) (some B) g (.int (nI (i ^^^ B))) (.int (nI 1)) (by omega) (x.trans g1) (lsP_no hls (fun u => cs (hcho.mp u)))
                refine ⟨h', best', a1, a2, fun d F => ?_⟩
                refine Eq.trans ?_ (a3 d F)
                have g2' := fun F => g2 d F
                rw [r251_11, lsI_s]
                simp (disch := omega) only [e251, r251_0, r251_1, r251_4, r251_5, r251_6, r251_8, r251_9, r251_13, r251_14, r251_15, r251_18, r251_19, r251_22, r251_24, r251_25, r251_26, r251_29, r251_31, r251_32, r251_35, r251_37, r251_40, r251_42, r251_45, r251_48, r251_51, r251_53, r251_54, r251_57, r251_58, r251_61, r251_63, r251_65, r251_66, r251_68, r251_70, r251_71, r251_74, r251_76, r251_79, r251_81, r251_84, r251_87, r251_89, r251_91, r251_92, r251_93, r251_95, r251_96, r251_99, r251_100, r251_103, r251_104, r251_106, r251_108, r251_111, r251_112, r251_113, r251_114, r251_115, r251_117, r251_118, r251_119, r251_122, r251_125, r251_127, r251_129, r251_132, r251_135, r251_137, m233 _ h0 _ hK0 w, sh, n_and i, n_or, n_xor, n1, q_nm, hm1, hm2, g2', c3', kdC, kdM, rpC, rpM, q_rs, q_rn, Option.toList_some, Option.toList_none, List.cons_append, List.nil_append, true_and, and_true, eq_self, ↓reduceIte, not_true_eq_false, not_false_eq_true, Nat.reduceEqDiff, Nat.reduceLeDiff, Nat.reduceLT, Nat.reduceAdd, Nat.reduceMul, Nat.reduceSub, false_or, or_false, true_or, or_true, false_and, and_false, reduceCtorEq, q_n0, q_n1, q_em, q_em2, q_b0, q_b1, Classical.not_not, nI_add, pk_mul, nI_clamp, q_vp, nI_eq, nI_leI, nI_ltI, q_sub, show ¬ 2 ^ ns K ≤ i by omega, show onesN 12 i ≤ onesN 12 B by omega, c2]
            · have c3' := hlx.mpr c3
              have hne : B ≠ i := by have := hls.2.1; omega
              have hbt : beats (ns K) B i := by
                rw [beats_i hB]
                right
                refine ⟨by omega, ?_⟩
                rcases ltx_tot (a := B) (b := i) (by omega) (by omega) hne with q | q
                · exact q
                · exact absurd q c3
              obtain ⟨h', best', a1, a2, a3⟩ := ih (i + 1) (some B) h0 (.int (nI (i ^^^ B))) (.int (nI 0)) (by omega) x (lsP_be hls hbt)
              refine ⟨h', best', a1, a2, fun d F => ?_⟩
              refine Eq.trans ?_ (a3 d F)
              rw [r251_11, lsI_s]
              simp (disch := omega) only [e251, r251_0, r251_1, r251_4, r251_5, r251_6, r251_8, r251_9, r251_13, r251_14, r251_15, r251_18, r251_19, r251_22, r251_24, r251_25, r251_26, r251_29, r251_31, r251_32, r251_35, r251_37, r251_40, r251_42, r251_45, r251_48, r251_51, r251_53, r251_54, r251_57, r251_58, r251_61, r251_63, r251_65, r251_66, r251_68, r251_70, r251_71, r251_74, r251_76, r251_79, r251_81, r251_84, r251_87, r251_89, r251_91, r251_92, r251_93, r251_95, r251_96, r251_99, r251_100, r251_103, r251_104, r251_106, r251_108, r251_111, r251_112, r251_113, r251_114, r251_115, r251_117, r251_118, r251_119, r251_122, r251_125, r251_127, r251_129, r251_132, r251_135, r251_137, m233 _ h0 _ hK0 w, sh, n_and i, n_xor, n1, q_nm, hm1, hm2, c3', kdC, kdM, rpC, rpM, q_rs, q_rn, Option.toList_some, Option.toList_none, List.cons_append, List.nil_append, true_and, and_true, eq_self, ↓reduceIte, not_true_eq_false, not_false_eq_true, Nat.reduceEqDiff, Nat.reduceLeDiff, Nat.reduceLT, Nat.reduceAdd, Nat.reduceMul, Nat.reduceSub, false_or, or_false, true_or, or_true, false_and, and_false, reduceCtorEq, q_n0, q_n1, q_em, q_em2, q_b0, q_b1, Classical.not_not, nI_add, pk_mul, nI_clamp, q_vp, nI_eq, nI_leI, nI_ltI, q_sub, show ¬ 2 ^ ns K ≤ i by omega, show onesN 12 i ≤ onesN 12 B by omega, c2]
    · have hno : ¬ isCho K σ Tm Ts i := fun u => cA ((and_no hns.2).mpr u.2.1)
      obtain ⟨h', best', a1, a2, a3⟩ := ih (i + 1) best h0 v6 v7 (by omega) x (lsP_no hls hno)
      refine ⟨h', best', a1, a2, fun d F => ?_⟩
      refine Eq.trans ?_ (a3 d F)
      have cA' : ¬ nI (i &&& sbt K (ns K)) = nI 0 := by rw [nI_eq (by omega) (by omega)]; exact cA
      rw [r251_11]
      simp (disch := omega) only [e251, r251_0, r251_1, r251_4, r251_5, r251_6, r251_8, r251_9, r251_13, r251_14, r251_15, r251_18, r251_19, r251_22, r251_24, r251_25, r251_26, r251_29, r251_31, r251_32, r251_35, r251_37, r251_40, r251_42, r251_45, r251_48, r251_51, r251_53, r251_54, r251_57, r251_58, r251_61, r251_63, r251_65, r251_66, r251_68, r251_70, r251_71, r251_74, r251_76, r251_79, r251_81, r251_84, r251_87, r251_89, r251_91, r251_92, r251_93, r251_95, r251_96, r251_99, r251_100, r251_103, r251_104, r251_106, r251_108, r251_111, r251_112, r251_113, r251_114, r251_115, r251_117, r251_118, r251_119, r251_122, r251_125, r251_127, r251_129, r251_132, r251_135, r251_137, m233 _ h0 _ hK0 w, sh, n_and, cA', kdC, kdM, rpC, rpM, q_rs, q_rn, Option.toList_some, Option.toList_none, List.cons_append, List.nil_append, true_and, and_true, eq_self, ↓reduceIte, not_true_eq_false, not_false_eq_true, Nat.reduceEqDiff, Nat.reduceLeDiff, Nat.reduceLT, Nat.reduceAdd, Nat.reduceMul, Nat.reduceSub, false_or, or_false, true_or, or_true, false_and, and_false, reduceCtorEq, q_n0, q_n1, q_em, q_em2, q_b0, q_b1, Classical.not_not, nI_add, pk_mul, nI_clamp, q_vp, nI_eq, nI_leI, nI_ltI, q_sub, show ¬ 2 ^ ns K ≤ i by omega]
theorem m251 (hK : gI h 103 = K) (w : WF K) (htm : tm < 10) (te : tEq K tm Tm) (hts : ts < 10) (te2 : tEq K ts Ts) (hσ : isTurn K σ) : ∃ h' best', FrS mwS h h' ∧ isLst K σ Tm Ts best' ∧ ∀ d F, cwp true (d + 71) 251 [.ref 101, .int (nI tm), .int (nI ts)] h F = F (some (.int (lsI best'))) h' := by
  obtain ⟨h', best', a1, a2, a3⟩ := ml251 (Tm := Tm) (Ts := Ts) (tm := tm) (ts := ts) hK w htm te hts te2 hσ (2 ^ ns K) 0 none h jn jn (by omega) (FrS.refl h) (fun M hM => by omega)
  refine ⟨h', best', a1, a2, fun d F => ?_⟩
  refine Eq.trans ?_ (a3 d F)
  simp (disch := omega) only [r251_0, r251_1, r251_4, r251_5, r251_6, r251_8, r251_9, e251, m241 _ h _ hK w, kdC, kdM, rpC, rpM, q_rs, q_rn, Option.toList_some, Option.toList_none, List.cons_append, List.nil_append, true_and, and_true, eq_self, ↓reduceIte, not_true_eq_false, not_false_eq_true, Nat.reduceEqDiff, Nat.reduceLeDiff, Nat.reduceLT, Nat.reduceAdd, Nat.reduceMul, Nat.reduceSub, false_or, or_false, true_or, or_true, false_and, and_false, reduceCtorEq, q_n0, q_n1, q_em, q_em2, q_b0, q_b1, Classical.not_not]
  rfl
end ML
