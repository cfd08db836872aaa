/-! the model's talk without haste -/
noncomputable def mdD (K : Nat → Int32) (T : Tk) (σ : Nat → Nat) (M t : Nat) : Nat → Int32 × Int32
  | 0 => (K (244 + 5 * t + 3), nI 0)
  | i + 1 => pif (M.testBit (σ i) = true) (shw K T (σ i) t (mdD K T σ M t i)) (mdD K T σ M t i)
noncomputable def mdF (K : Nat → Int32) (σ : Nat → Nat) (M : Nat) : Nat → Int32
  | 0 => -1
  | i + 1 => pif (M.testBit (σ i) = true) (q_lp (fpW K (σ i) (fun t => t)) (nt K) 0 (mdF K σ M i)) (mdF K σ M i)
section MT2
variable {h : Hp} {K : Nat → Int32} {T : Tk} {tm M : Nat} {σ : Nat → Nat}
theorem mdD_o (w : WF K) {t : Nat} (ht : t < nt K) : ∀ i, dpO (mdD K T σ M t i)
  | 0 => ⟨(w.2.2.2.2.1 t ht).2.2.2.1, show rg (nI 0) 0 1 from ⟨by decide, by decide⟩⟩
  | i + 1 => by
    unfold mdD
    by_cases c : M.testBit (σ i) = true
    · rw [pif_t c]; exact shw_o (mdD_o w ht i)
    · rw [pif_f c]; exact mdD_o w ht i
theorem mdD_s (t p : Nat) : ∀ k, (∀ j, p ≤ j → j < p + k → M.testBit (σ j) = false) → mdD K T σ M t (p + k) = mdD K T σ M t p ∧ mdF K σ M (p + k) = mdF K σ M p
  | 0, _ => ⟨rfl, rfl⟩
  | k + 1, hh => by
    obtain ⟨i1, i2⟩ := mdD_s t p k (fun j h1 h2 => hh j h1 (by omega))
    have hb : ¬ M.testBit (σ (p + k)) = true := by rw [hh (p + k) (by omega) (by omega)]; simp
    refine ⟨?_, ?_⟩
    · show pif (M.testBit (σ (p + k)) = true) _ _ = _
      rw [pif_f hb]; exact i1
    · show pif (M.testBit (σ (p + k)) = true) _ _ = _
      rw [pif_f hb]; exact i2
theorem ml246b (hK : gI h 103 = K) (w : WF K) (htm : tm < 10) (te : tEq K tm T) (hσ : isTurn K σ) (hM : M < 4096) (v2 v6 : Value) : ∀ n p l h0, ns K - p ≤ n → p ≤ ns K → atP K σ l p → FrS mtS h h0 → (∀ u, u < nt K → MD h0 u = mdD K T σ M u p) → gI h0 101 33 = mdF K σ M p → ∃ h', FrS mtS h h' ∧ (∀ u, u < nt K → MD h' u = mdD K T σ M u (ns K)) ∧ gI h' 101 33 = mdF K σ M (ns K) ∧ ∀ d F, wp true (d + 69) 246 53 [.ref 101, .int (nI tm), v2, .int (nI M), .int (nI 0), .int (on (q_lp (afB K M l) (ns K) 0 none)), v6] [] h0 F = wp true (d + 69) 246 97 [.ref 101, .int (nI tm), v2, .int (nI M), .int (nI 0), .int (-1), v6] [] h' F := by
  intro n
  induction n with
  | zero =>
    intro p l h0 hn hp hl x i1 i2
    obtain rfl : p = ns K := by omega
    rcases af_turn (M := M) hσ hl with ⟨q1, _⟩ | ⟨i, a1, a2, _⟩
    · refine ⟨h0, x, i1, i2, fun d F => ?_⟩
      rw [q1, r246_53]
      simp (disch := omega) only [r246_55, r246_56, on_n, kdC, kdM, rpC, rpM, q_rs, q_rn, Option.toList_some, Option.toList_none, List.cons_append, List.nil_append, true_and, and_true, eq_self, ↓reduceIte, not_true_eq_false, not_false_eq_true, Nat.reduceEqDiff, Nat.reduceLeDiff, Nat.reduceLT, Nat.reduceAdd, Nat.reduceMul, Nat.reduceSub, false_or, or_false, true_or, or_true, false_and, and_false, reduceCtorEq, q_n0, q_n1, q_em, q_em2, q_b0, q_b1, Classical.not_not]
    · omega
  | succ n ih =>
    intro p l h0 hn hp hl x i1 i2
    have h1 := w.hns
    have hK0 : gI h0 103 = K := (Mt_fr x).K.trans hK
    rcases af_turn (M := M) hσ hl with ⟨q1, q2⟩ | ⟨i, a1, a2, a3, a4, a5⟩
    · have hsk := fun u => mdD_s (K := K) (T := T) (σ := σ) (M := M) u p (ns K - p) (fun j b1 b2 => q2 j b1 (by omega))
      rw [show p + (ns K - p) = ns K by omega] at hsk
      refine ⟨h0, x, fun u hu => by rw [(hsk u).1]; exact i1 u hu, by rw [(hsk 0).2]; exact i2, fun d F => ?_⟩
      rw [q1, r246_53]
      simp (disch := omega) only [r246_55, r246_56, on_n, kdC, kdM, rpC, rpM, q_rs, q_rn, Option.toList_some, Option.toList_none, List.cons_append, List.nil_append, true_and, and_true, eq_self, ↓reduceIte, not_true_eq_false, not_false_eq_true, Nat.reduceEqDiff, Nat.reduceLeDiff, Nat.reduceLT, Nat.reduceAdd, Nat.reduceMul, Nat.reduceSub, false_or, or_false, true_or, or_true, false_and, and_false, reduceCtorEq, q_n0, q_n1, q_em, q_em2, q_b0, q_b1, Classical.not_not]
    · have hsk := fun u => mdD_s (K := K) (T := T) (σ := σ) (M := M) u p (i - p) (fun j b1 b2 => a5 j b1 (by omega))
      rw [show p + (i - p) = i by omega] at hsk
      have hs := hσ.1 i a2
      have i1' : ∀ u, u < nt K → MD h0 u = mdD K T σ M u i := fun u hu => by rw [(hsk u).1]; exact i1 u hu
      have i2' : gI h0 101 33 = mdF K σ M i := by rw [(hsk 0).2]; exact i2
      obtain ⟨g, b1, b2, b3, b4⟩ := m244 (T := T) hK0 w htm te hs (fun u hu => by rw [i1' u hu]; exact mdD_o w hu i)
      have hKg : gI g 103 = K := (Mt_fr b1).K.trans hK0
      have hl2 : atP K σ (some (σ i)) (i + 1) := Or.inr ⟨i, a2, rfl, rfl⟩
      obtain ⟨h', c1, c2, c3, c4⟩ := ih (i + 1) (some (σ i)) g (by omega) (by omega) hl2 (x.trans b1) (by
        intro u hu
        rw [b2 u hu, i1' u hu]
        show _ = pif (M.testBit (σ i) = true) _ _
        rw [pif_t a4]) (by
        rw [b3, i2']
        show _ = pif (M.testBit (σ i) = true) _ _
        rw [pif_t a4])
      refine ⟨h', c1, c2, c3, fun d F => ?_⟩
      have b4' := fun F => b4 d F
      have h245 := fun F d => m245 (h := g) hKg w hM (l := some (σ i)) (fun j ej => by cases ej; exact hs) d F
      rw [on_s] at h245
      refine Eq.trans ?_ (c4 d F)
      rw [a3, r246_53]
      simp (disch := omega) only [r246_55, r246_56, r246_59, r246_61, r246_64, r246_65, r246_67, r246_70, r246_71, r246_72, r246_75, r246_78, r246_79, r246_81, r246_82, r246_85, r246_86, r246_87, r246_89, r246_92, r246_94, b4', h245, on_s, q_nm, kdC, kdM, rpC, rpM, q_rs, q_rn, Option.toList_some, Option.toList_none, List.cons_append, List.nil_append, true_and, and_true, eq_self, ↓reduceIte, not_true_eq_false, not_false_eq_true, Nat.reduceEqDiff, Nat.reduceLeDiff, Nat.reduceLT, Nat.reduceAdd, Nat.reduceMul, Nat.reduceSub, false_or, or_false, true_or, or_true, false_and, and_false, reduceCtorEq, q_n0, q_n1, q_em, q_em2, q_b0, q_b1, Classical.not_not, nI_add, pk_mul, nI_clamp, q_vp, nI_eq, nI_leI, nI_ltI, q_sub]
end MT2
