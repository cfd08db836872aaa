/-! the model: shows whole; the next sheet of a set -/
section AF
variable {h : Hp} {K : Nat → Int32} {T : Tk} {tm s : Nat}
theorem m244 (hK : gI h 103 = K) (w : WF K) (htm : tm < 10) (te : tEq K tm T) (hs : s < ns K) (hO : ∀ u, u < nt K → dpO (MD h u)) : ∃ h', FrS mtS h h' ∧ (∀ u, u < nt K → MD h' u = shw K T s u (MD h u)) ∧ gI h' 101 33 = q_lp (fpW K s (fun t => t)) (nt K) 0 (gI h 101 33) ∧ ∀ d F, cwp true (d + 68) 244 [.ref 101, .int (nI s), .int (nI tm)] h F = F none h' := by
  obtain ⟨h', a1, a2, a3, a4⟩ := ml244 hK w htm te hs hO (nt K) 0 h (by omega) (FrS.refl h) (fun u hu => by omega) (fun u _ _ => rfl)
  refine ⟨h', a1, a2, a3, fun d F => ?_⟩
  refine Eq.trans ?_ (a4 d F)
  simp (disch := omega) only [r244_0, r244_1, e244]
/-- a sheet of the set behind the last one -/
def caS (K : Nat → Int32) (M : Nat) (l : Option Nat) (s : Nat) : Prop := M.testBit s = true ∧ ∀ j, l = some j → ltS K j s
noncomputable def afB (K : Nat → Int32) (M : Nat) (l : Option Nat) (s : Nat) (b : Option Nat) : Option Nat := pif (caS K M l s ∧ ∀ j, b = some j → K (304 + 6 * s + 1) < K (304 + 6 * j + 1)) (some s) b
theorem afB_in {M : Nat} {l b : Option Nat} {n s : Nat} (hb : inO n b) (hs : s < n) : inO n (afB K M l s b) := by
  unfold afB
  by_cases c : caS K M l s ∧ ∀ j, b = some j → K (304 + 6 * s + 1) < K (304 + 6 * j + 1)
  · rw [pif_t c]; intro j ej; cases ej; exact hs
  · rw [pif_f c]; exact hb
theorem ml245 (hK : gI h 103 = K) (w : WF K) {M : Nat} (hM : M < 4096) {l : Option Nat} (hl : inO (ns K) l) : ∀ k s b (v5 : Value), s + k = ns K → inO (ns K) b → ∀ d F, wp true (d + 1) 245 5 [.ref 101, .int (nI M), .int (on l), .int (on b), .int (nI s), v5] [] h F = F (some (.int (on (q_lp (afB K M l) k s b)))) h
  | 0, s, b, v5, e, hb, d, F => by
    obtain rfl : s = ns K := e
    have h1 := w.hns
    rw [r245_5]
    simp (disch := omega) only [e245, r245_0, r245_1, r245_2, r245_3, r245_7, r245_8, r245_11, r245_14, r245_15, r245_17, r245_18, r245_19, r245_20, r245_21, r245_24, r245_25, r245_26, r245_29, r245_30, r245_32, r245_33, r245_36, r245_37, r245_38, r245_39, r245_42, r245_45, r245_46, r245_48, r245_49, r245_52, r245_53, r245_54, r245_55, r245_58, r245_61, r245_63, r245_64, r245_67, r245_68, r245_71, r245_72, r245_74, r245_76, r245_79, r245_80, r245_81, r245_84, r245_85, r245_87, r245_88, r245_91, r245_92, r245_93, r245_94, r245_97, r245_100, r245_102, r245_103, r245_106, r245_109, r245_110, m233 _ h _ hK w, kdC, kdM, rpC, rpM, q_rs, q_rn, Option.toList_some, Option.toList_none, List.cons_append, List.nil_append, true_and, and_true, eq_self, ↓reduceIte, not_true_eq_false, not_false_eq_true, Nat.reduceEqDiff, Nat.reduceLeDiff, Nat.reduceLT, Nat.reduceAdd, Nat.reduceMul, Nat.reduceSub, false_or, or_false, true_or, or_true, false_and, and_false, reduceCtorEq, q_n0, q_n1, q_em, q_em2, q_b0, q_b1, Classical.not_not, nI_add, pk_mul, nI_clamp, q_vp, nI_eq, nI_leI, nI_ltI, q_sub, Nat.le_refl]
    rfl
  | k + 1, s, b, v5, e, hb, d, F => by
    have h1 := w.hns
    have hs : s < ns K := by omega
    have hs12 : s < 12 := by omega
    have gS := fun F d => m235 d h F hK hs12 (show 1 < 6 by omega)
    have hbit := n_bit (M := M) (s := s) (by omega) (by omega)
    rw [show q_lp (afB K M l) (k + 1) s b = q_lp (afB K M l) k (s + 1) (afB K M l s b) from rfl]
    have ih := fun v5 => ml245 hK w hM hl k (s + 1) (afB K M l s b) v5 (by omega) (afB_in hb hs) d F
    -- whether it is one
    have S1 : wp true (d + 1) 245 5 [.ref 101, .int (nI M), .int (on l), .int (on b), .int (nI s), v5] [] h F = wp true (d + 1) 245 74 [.ref 101, .int (nI M), .int (on l), .int (on b), .int (nI s), .int (bz (caS K M l s))] [] h F := by
      rw [r245_5]
      by_cases cb : M.testBit s = true
      · have hb1 : nI M >>> (nI s &&& 31) &&& nI 1 = nI 1 := by rw [hbit, cb]; rfl
        cases l with
        | none =>
          have hc : caS K M none s := ⟨cb, fun j ej => by cases ej⟩
          rw [q_bt hc]
          simp (disch := omega) only [r245_7, r245_8, r245_11, r245_14, r245_15, r245_17, r245_18, r245_19, r245_20, r245_21, r245_24, r245_25, r245_26, r245_29, r245_30, r245_32, r245_33, r245_36, r245_37, r245_38, r245_39, r245_42, r245_45, r245_46, r245_48, r245_49, r245_52, r245_53, r245_54, r245_55, r245_58, r245_61, r245_63, r245_64, r245_67, r245_68, r245_71, r245_72, m233 _ h _ hK w, hb1, on_n, kdC, kdM, rpC, rpM, q_rs, q_rn, Option.toList_some, Option.toList_none, List.cons_append, List.nil_append, true_and, and_true, eq_self, ↓reduceIte, not_true_eq_false, not_false_eq_true, Nat.reduceEqDiff, Nat.reduceLeDiff, Nat.reduceLT, Nat.reduceAdd, Nat.reduceMul, Nat.reduceSub, false_or, or_false, true_or, or_true, false_and, and_false, reduceCtorEq, q_n0, q_n1, q_em, q_em2, q_b0, q_b1, Classical.not_not, nI_add, pk_mul, nI_clamp, q_vp, nI_eq, nI_leI, nI_ltI, q_sub, show ¬ ns K ≤ s by omega]
        | some j =>
          have hj := hl j rfl
          have gJ := fun F d => m235 d h F hK (show j < 12 by omega) (show 1 < 6 by omega)
          by_cases c1 : K (304 + 6 * j + 1) < K (304 + 6 * s + 1)
          · have hc : caS K M (some j) s := ⟨cb, fun j' ej => by cases ej; exact Or.inl c1⟩
            rw [q_bt hc]
            simp (disch := omega) only [r245_7, r245_8, r245_11, r245_14, r245_15, r245_17, r245_18, r245_19, r245_20, r245_21, r245_24, r245_25, r245_26, r245_29, r245_30, r245_32, r245_33, r245_36, r245_37, r245_38, r245_39, r245_42, r245_45, r245_46, r245_48, r245_49, r245_52, r245_53, r245_54, r245_55, r245_58, r245_61, r245_63, r245_64, r245_67, r245_68, r245_71, r245_72, m233 _ h _ hK w, hb1, gS, gJ, c1, on_s, q_nm, kdC, kdM, rpC, rpM, q_rs, q_rn, Option.toList_some, Option.toList_none, List.cons_append, List.nil_append, true_and, and_true, eq_self, ↓reduceIte, not_true_eq_false, not_false_eq_true, Nat.reduceEqDiff, Nat.reduceLeDiff, Nat.reduceLT, Nat.reduceAdd, Nat.reduceMul, Nat.reduceSub, false_or, or_false, true_or, or_true, false_and, and_false, reduceCtorEq, q_n0, q_n1, q_em, q_em2, q_b0, q_b1, Classical.not_not, nI_add, pk_mul, nI_clamp, q_vp, nI_eq, nI_leI, nI_ltI, q_sub, show ¬ ns K ≤ s by omega]
          · by_cases c2 : K (304 + 6 * s + 1) = K (304 + 6 * j + 1)
            · by_cases c3 : j < s
              · have hc : caS K M (some j) s := ⟨cb, fun j' ej => by cases ej; exact Or.inr ⟨c2.symm, c3⟩⟩
                rw [q_bt hc]
                simp (disch := omega) only [r245_7, r245_8, r245_11, r245_14, r245_15, r245_17, r245_18, r245_19, r245_20, r245_21, r245_24, r245_25, r245_26, r245_29, r245_30, r245_32, r245_33, r245_36, r245_37, r245_38, r245_39, r245_42, r245_45, r245_46, r245_48, r245_49, r245_52, r245_53, r245_54, r245_55, r245_58, r245_61, r245_63, r245_64, r245_67, r245_68, r245_71, r245_72, m233 _ h _ hK w, hb1, gS, gJ, c1, c2, on_s, q_nm, Int32.lt_irrefl, kdC, kdM, rpC, rpM, q_rs, q_rn, Option.toList_some, Option.toList_none, List.cons_append, List.nil_append, true_and, and_true, eq_self, ↓reduceIte, not_true_eq_false, not_false_eq_true, Nat.reduceEqDiff, Nat.reduceLeDiff, Nat.reduceLT, Nat.reduceAdd, Nat.reduceMul, Nat.reduceSub, false_or, or_false, true_or, or_true, false_and, and_false, reduceCtorEq, q_n0, q_n1, q_em, q_em2, q_b0, q_b1, Classical.not_not, nI_add, pk_mul, nI_clamp, q_vp, nI_eq, nI_leI, nI_ltI, q_sub, show ¬ ns K ≤ s by omega, show ¬ s ≤ j by omega]
              · have hc : ¬ caS K M (some j) s := fun z => by
                  rcases z.2 j rfl with q | q
                  · exact c1 q
                  · exact c3 q.2
                rw [q_bf hc]
                simp (disch := omega) only [r245_7, r245_8, r245_11, r245_14, r245_15, r245_17, r245_18, r245_19, r245_20, r245_21, r245_24, r245_25, r245_26, r245_29, r245_30, r245_32, r245_33, r245_36, r245_37, r245_38, r245_39, r245_42, r245_45, r245_46, r245_48, r245_49, r245_52, r245_53, r245_54, r245_55, r245_58, r245_61, r245_63, r245_64, r245_67, r245_68, r245_71, r245_72, m233 _ h _ hK w, hb1, gS, gJ, c1, c2, on_s, q_nm, Int32.lt_irrefl, kdC, kdM, rpC, rpM, q_rs, q_rn, Option.toList_some, Option.toList_none, List.cons_append, List.nil_append, true_and, and_true, eq_self, ↓reduceIte, not_true_eq_false, not_false_eq_true, Nat.reduceEqDiff, Nat.reduceLeDiff, Nat.reduceLT, Nat.reduceAdd, Nat.reduceMul, Nat.reduceSub, false_or, or_false, true_or, or_true, false_and, and_false, reduceCtorEq, q_n0, q_n1, q_em, q_em2, q_b0, q_b1, Classical.not_not, nI_add, pk_mul, nI_clamp, q_vp, nI_eq, nI_leI, nI_ltI, q_sub, show ¬ ns K ≤ s by omega, show s ≤ j by omega]
            · have hc : ¬ caS K M (some j) s := fun z => by
                rcases z.2 j rfl with q | q
                · exact c1 q
                · exact c2 q.1.symm
              rw [q_bf hc]
              simp (disch := omega) only [r245_7, r245_8, r245_11, r245_14, r245_15, r245_17, r245_18, r245_19, r245_20, r245_21, r245_24, r245_25, r245_26, r245_29, r245_30, r245_32, r245_33, r245_36, r245_37, r245_38, r245_39, r245_42, r245_45, r245_46, r245_48, r245_49, r245_52, r245_53, r245_54, r245_55, r245_58, r245_61, r245_63, r245_64, r245_67, r245_68, r245_71, r245_72, m233 _ h _ hK w, hb1, gS, gJ, c1, c2, on_s, q_nm, kdC, kdM, rpC, rpM, q_rs, q_rn, Option.toList_some, Option.toList_none, List.cons_append, List.nil_append, true_and, and_true, eq_self, ↓reduceIte, not_true_eq_false, not_false_eq_true, Nat.reduceEqDiff, Nat.reduceLeDiff, Nat.reduceLT, Nat.reduceAdd, Nat.reduceMul, Nat.reduceSub, false_or, or_false, true_or, or_true, false_and, and_false, reduceCtorEq, q_n0, q_n1, q_em, q_em2, q_b0, q_b1, Classical.not_not, nI_add, pk_mul, nI_clamp, q_vp, nI_eq, nI_leI, nI_ltI, q_sub, show ¬ ns K ≤ s by omega]
      · have hb0 : nI M >>> (nI s &&& 31) &&& nI 1 = nI 0 := by
          rw [hbit]
          cases q : M.testBit s with
          | true => exact absurd q cb
          | false => rfl
        have hc : ¬ caS K M l s := fun z => cb z.1
        rw [q_bf hc]
        simp (disch := omega) only [r245_7, r245_8, r245_11, r245_14, r245_15, r245_17, r245_18, r245_19, r245_20, r245_21, r245_24, r245_25, r245_26, r245_29, r245_30, r245_32, r245_33, r245_36, r245_37, r245_38, r245_39, r245_42, r245_45, r245_46, r245_48, r245_49, r245_52, r245_53, r245_54, r245_55, r245_58, r245_61, r245_63, r245_64, r245_67, r245_68, r245_71, r245_72, m233 _ h _ hK w, hb0, kdC, kdM, rpC, rpM, q_rs, q_rn, Option.toList_some, Option.toList_none, List.cons_append, List.nil_append, true_and, and_true, eq_self, ↓reduceIte, not_true_eq_false, not_false_eq_true, Nat.reduceEqDiff, Nat.reduceLeDiff, Nat.reduceLT, Nat.reduceAdd, Nat.reduceMul, Nat.reduceSub, false_or, or_false, true_or, or_true, false_and, and_false, reduceCtorEq, q_n0, q_n1, q_em, q_em2, q_b0, q_b1, Classical.not_not, nI_add, pk_mul, nI_clamp, q_vp, nI_eq, nI_leI, nI_ltI, q_sub, show ¬ ns K ≤ s by omega]
    rw [S1]
    by_cases c : caS K M l s
    · cases b with
      | none =>
        have hh : afB K M l s none = some s := by unfold afB; rw [pif_t ⟨c, fun j ej => by cases ej⟩]
        rw [hh] at ih ⊢
        refine Eq.trans ?_ (ih (.int (bz (caS K M l s))))
        simp (disch := omega) only [r245_74, r245_76, r245_79, r245_80, r245_81, r245_84, r245_85, r245_87, r245_88, r245_91, r245_92, r245_93, r245_94, r245_97, r245_100, r245_102, r245_103, r245_106, eq_true c, on_n, on_s, kdC, kdM, rpC, rpM, q_rs, q_rn, Option.toList_some, Option.toList_none, List.cons_append, List.nil_append, true_and, and_true, eq_self, ↓reduceIte, not_true_eq_false, not_false_eq_true, Nat.reduceEqDiff, Nat.reduceLeDiff, Nat.reduceLT, Nat.reduceAdd, Nat.reduceMul, Nat.reduceSub, false_or, or_false, true_or, or_true, false_and, and_false, reduceCtorEq, q_n0, q_n1, q_em, q_em2, q_b0, q_b1, Classical.not_not, nI_add, pk_mul, nI_clamp, q_vp, nI_eq, nI_leI, nI_ltI, q_sub]
      | some j =>
        have hj := hb j rfl
        have gJ := fun F d => m235 d h F hK (show j < 12 by omega) (show 1 < 6 by omega)
        by_cases c2 : K (304 + 6 * s + 1) < K (304 + 6 * j + 1)
        · have hh : afB K M l s (some j) = some s := by unfold afB; rw [pif_t ⟨c, fun j' ej => by cases ej; exact c2⟩]
          rw [hh] at ih ⊢
          refine Eq.trans ?_ (ih (.int (bz (caS K M l s))))
          simp (disch := omega) only [r245_74, r245_76, r245_79, r245_80, r245_81, r245_84, r245_85, r245_87, r245_88, r245_91, r245_92, r245_93, r245_94, r245_97, r245_100, r245_102, r245_103, r245_106, eq_true c, gS, gJ, Int32.not_le.mpr c2, on_s, q_nm, kdC, kdM, rpC, rpM, q_rs, q_rn, Option.toList_some, Option.toList_none, List.cons_append, List.nil_append, true_and, and_true, eq_self, ↓reduceIte, not_true_eq_false, not_false_eq_true, Nat.reduceEqDiff, Nat.reduceLeDiff, Nat.reduceLT, Nat.reduceAdd, Nat.reduceMul, Nat.reduceSub, false_or, or_false, true_or, or_true, false_and, and_false, reduceCtorEq, q_n0, q_n1, q_em, q_em2, q_b0, q_b1, Classical.not_not, nI_add, pk_mul, nI_clamp, q_vp, nI_eq, nI_leI, nI_ltI, q_sub]
        · have hh : afB K M l s (some j) = some j := by unfold afB; rw [pif_f (fun z => c2 (z.2 j rfl))]
          rw [hh] at ih ⊢
          refine Eq.trans ?_ (ih (.int (bz (caS K M l s))))
          simp (disch := omega) only [r245_74, r245_76, r245_79, r245_80, r245_81, r245_84, r245_85, r245_87, r245_88, r245_91, r245_92, r245_93, r245_94, r245_97, r245_100, r245_102, r245_103, r245_106, eq_true c, gS, gJ, Int32.not_lt.mp c2, on_s, q_nm, kdC, kdM, rpC, rpM, q_rs, q_rn, Option.toList_some, Option.toList_none, List.cons_append, List.nil_append, true_and, and_true, eq_self, ↓reduceIte, not_true_eq_false, not_false_eq_true, Nat.reduceEqDiff, Nat.reduceLeDiff, Nat.reduceLT, Nat.reduceAdd, Nat.reduceMul, Nat.reduceSub, false_or, or_false, true_or, or_true, false_and, and_false, reduceCtorEq, q_n0, q_n1, q_em, q_em2, q_b0, q_b1, Classical.not_not, nI_add, pk_mul, nI_clamp, q_vp, nI_eq, nI_leI, nI_ltI, q_sub]
    · have hh : afB K M l s b = b := by unfold afB; rw [pif_f (fun z => c z.1)]
      rw [hh] at ih ⊢
      refine Eq.trans ?_ (ih (.int (bz (caS K M l s))))
      simp (disch := omega) only [r245_74, r245_76, r245_79, r245_80, r245_81, r245_84, r245_85, r245_87, r245_88, r245_91, r245_92, r245_93, r245_94, r245_97, r245_100, r245_102, r245_103, r245_106, eq_false c, kdC, kdM, rpC, rpM, q_rs, q_rn, Option.toList_some, Option.toList_none, List.cons_append, List.nil_append, true_and, and_true, eq_self, ↓reduceIte, not_true_eq_false, not_false_eq_true, Nat.reduceEqDiff, Nat.reduceLeDiff, Nat.reduceLT, Nat.reduceAdd, Nat.reduceMul, Nat.reduceSub, false_or, or_false, true_or, or_true, false_and, and_false, reduceCtorEq, q_n0, q_n1, q_em, q_em2, q_b0, q_b1, Classical.not_not, nI_add, pk_mul, nI_clamp, q_vp, nI_eq, nI_leI, nI_ltI, q_sub]
theorem m245 (hK : gI h 103 = K) (w : WF K) {M : Nat} (hM : M < 4096) {l : Option Nat} (hl : inO (ns K) l) (d : Nat) (F : Po) : cwp true (d + 1) 245 [.ref 101, .int (nI M), .int (on l)] h F = F (some (.int (on (q_lp (afB K M l) (ns K) 0 none)))) h := by
  have hq := ml245 hK w hM hl (ns K) 0 none jn (by omega) (fun j ej => by cases ej) d F
  simp (disch := omega) only [r245_0, r245_1, r245_2, r245_3, e245]
  exact hq
end AF
