/-! the model's talk, whole -/
def mwS (a i : Nat) : Bool := mtS a i || (Nat.beq a 101 && Nat.beq i 32)
theorem Mt_mw {h h' : Hp} (x : FrS mtS h h') : FrS mwS h h' := x.mono (fun a i e => (bor e).1)
theorem Mv_mw {h h' : Hp} (x : FrS mvS h h') : FrS mwS h h' := x.mono (fun a i e => by
  obtain ⟨e1, e2⟩ := bor e
  obtain ⟨e3, e4⟩ := bor e1
  unfold mvS
  rw [e3, e2]
  rfl)
theorem Mw_fr {h h' : Hp} (x : FrS mwS h h') : Fr h h' := x.mono (fun a i e => by
  unfold mwS mtS ms
  cases q1 : Nat.beq a 112 with
  | true => obtain rfl := Nat.eq_of_beq_eq_true q1; cases e
  | false =>
    cases q2 : Nat.beq a 119 with
    | true => obtain rfl := Nat.eq_of_beq_eq_true q2; cases e
    | false =>
      cases q3 : Nat.beq a 120 with
      | true => obtain rfl := Nat.eq_of_beq_eq_true q3; cases e
      | false =>
        cases q4 : Nat.beq a 101 with
        | false => rfl
        | true =>
          obtain rfl := Nat.eq_of_beq_eq_true q4
          have hs : scr 101 i = (Nat.ble 10 i || false) := rfl
          have hi : ¬ 10 ≤ i := by
            intro z
            rw [hs, Nat.ble_eq_true_of_le z] at e
            cases e
          cases q5 : Nat.ble 17 i with
          | true => have := Nat.le_of_ble_eq_true q5; omega
          | false =>
            cases q6 : Nat.beq i 33 with
            | true => have := Nat.eq_of_beq_eq_true q6; omega
            | false =>
              cases q7 : Nat.beq i 32 with
              | true => have := Nat.eq_of_beq_eq_true q7; omega
              | false => rfl)
section MG
variable {h : Hp} {K : Nat → Int32} {Tm Ts : Tk} {tm ts M : Nat} {σ : Nat → Nat}
theorem m246 (hK : gI h 103 = K) (w : WF K) (htm : tm < 10) (te : tEq K tm Tm) (hts : ts < 10) (te2 : tEq K ts Ts) (hσ : isTurn K σ) (hM : M < 4096) : ∃ h', FrS mwS h h' ∧ (∀ u, u < nt K → MD h' u = mdD K Tm σ M u (ns K)) ∧ gI h' 101 33 = mdF K σ M (ns K) ∧ gI h' 101 32 = nI (stB (fun t => isStp K Ts t (mdD K Tm σ M t (ns K))) (nt K)) ∧ ∀ d F, cwp true (d + 69) 246 [.ref 101, .int (nI tm), .int (nI ts), .int (nI M), .int (nI 0)] h F = F (some (.int (nI (cntT (fun t => isStp K Ts t (mdD K Tm σ M t (ns K))) (nt K))))) h' := by
  obtain ⟨g1, a1, a2, a3⟩ := ml246a hK w (.int (nI tm)) (.int (nI ts)) (.int (nI M)) (.int (nI 0)) jn (nt K) 0 h (by omega) (FrS.refl h) (fun u hu => by omega)
  have x1 : FrS mtS h (sI g1 101 33 (-1)) := a1.sI _ rfl
  have hK1 : gI (sI g1 101 33 (-1)) 103 = K := (Mt_fr x1).K.trans hK
  have md1 : ∀ u, MD (sI g1 101 33 (-1)) u = MD g1 u := fun u => by unfold MD; rw [q_gn (by omega), q_gn (by omega)]
  obtain ⟨g2, b1, b2, b3, b4⟩ := ml246b (T := Tm) (tm := tm) hK w htm te hσ hM (.int (nI ts)) jn (ns K) 0 none (sI g1 101 33 (-1)) (by omega) (by omega) (Or.inl ⟨rfl, rfl⟩) x1 (fun u hu => by rw [md1]; exact a2 u hu) (q_gs _ _ _ _)
  have x3 : FrS mwS h (sI g2 101 32 (nI 0)) := (Mt_mw b1).sI _ rfl
  have hK3 : gI (sI g2 101 32 (nI 0)) 103 = K := (Mw_fr x3).K.trans hK
  have md3 : ∀ u, MD (sI g2 101 32 (nI 0)) u = MD g2 u := fun u => by unfold MD; rw [q_gn (by omega), q_gn (by omega)]
  obtain ⟨g4, c1, c2, c3⟩ := ml246c (T := Ts) (ts := ts) hK3 w hts te2 (.int (nI tm)) (.int (nI M)) (.int (nI 0)) (nt K) 0 (sI g2 101 32 (nI 0)) (by omega) (FrS.refl _) (q_gs _ _ _ _)
  have hcn : ∀ n, n ≤ nt K → cntT (fun t => isStp K Ts t (MD (sI g2 101 32 (nI 0)) t)) n = cntT (fun t => isStp K Ts t (mdD K Tm σ M t (ns K))) n := fun n hn => cnt_cg n (fun t ht => by show isStp K Ts t (MD (sI g2 101 32 (nI 0)) t) ↔ isStp K Ts t (mdD K Tm σ M t (ns K)); rw [md3, b2 t (by omega)])
  have hsn : ∀ n, n ≤ nt K → stB (fun t => isStp K Ts t (MD (sI g2 101 32 (nI 0)) t)) n = stB (fun t => isStp K Ts t (mdD K Tm σ M t (ns K))) n := by
    intro n
    induction n with
    | zero => intro _; rfl
    | succ n ih =>
      intro hn
      show stB _ n ||| pif (isStp K Ts n (MD (sI g2 101 32 (nI 0)) n)) (2 ^ n) 0 = stB _ n ||| pif (isStp K Ts n (mdD K Tm σ M n (ns K))) (2 ^ n) 0
      rw [ih (by omega), md3, b2 n (by omega)]
  rw [hcn _ (Nat.le_refl _)] at c3
  rw [hsn _ (Nat.le_refl _)] at c2
  refine ⟨g4, x3.trans (Mv_mw c1), fun u hu => ?_, ?_, c2, fun d F => ?_⟩
  · have : MD g4 u = MD (sI g2 101 32 (nI 0)) u := by unfold MD; rw [Mv_n c1 (by omega) (by omega), Mv_n c1 (by omega) (by omega)]
    rw [this, md3]; exact b2 u hu
  · rw [c1.g (a := 101) (i := 33) rfl, q_gm (by omega)]; exact b3
  · have h245 := fun F d => m245 (h := sI g1 101 33 (-1)) hK1 w hM (l := none) (fun j ej => by cases ej) d F
    rw [on_n] at h245
    simp (disch := omega) only [r246_0, r246_1, e246]
    refine Eq.trans (a3 (d + 68) F) ?_
    simp (disch := omega) only [r246_40, r246_41, r246_42, r246_45, r246_46, r246_47, r246_48, r246_51, h245, kdC, kdM, rpC, rpM, q_rs, q_rn, Option.toList_some, Option.toList_none, List.cons_append, List.nil_append, true_and, and_true, eq_self, ↓reduceIte, not_true_eq_false, not_false_eq_true, Nat.reduceEqDiff, Nat.reduceLeDiff, Nat.reduceLT, Nat.reduceAdd, Nat.reduceMul, Nat.reduceSub, false_or, or_false, true_or, or_true, false_and, and_false, reduceCtorEq, q_n0, q_n1, q_em, q_em2, q_b0, q_b1, Classical.not_not]
    refine Eq.trans (b4 d F) ?_
    simp (disch := omega) only [r246_97, r246_98, r246_99, r246_102, r246_103, r246_105, r246_106, kdC, kdM, rpC, rpM, q_rs, q_rn, Option.toList_some, Option.toList_none, List.cons_append, List.nil_append, true_and, and_true, eq_self, ↓reduceIte, not_true_eq_false, not_false_eq_true, Nat.reduceEqDiff, Nat.reduceLeDiff, Nat.reduceLT, Nat.reduceAdd, Nat.reduceMul, Nat.reduceSub, false_or, or_false, true_or, or_true, false_and, and_false, reduceCtorEq, q_n0, q_n1, q_em, q_em2, q_b0, q_b1, Classical.not_not]
    exact c3 (d + 1) F
end MG
