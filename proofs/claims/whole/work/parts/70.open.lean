/-! talks: open, hold (the class) -/
theorem wk88_3 : wkm true 88 3 = true := rfl
theorem wk88_4 : wkm true 88 4 = true := rfl
section OPN
variable {h : Hp} {K : Nat → Int32}
/-- those who are followed, among the first n -/
def foP (K : Nat → Int32) (v : Int32) (t : Nat) : Prop := v = nI 0 ∨ K (244 + 5 * t + 4) = nI 1
def foI (K : Nat → Int32) (v : Int32) (n m : Nat) (wf : Nat → Nat) : Prop := m ≤ n ∧ (∀ i, i < m → wf i < n) ∧ (∀ i j, i < j → j < m → wf i < wf j) ∧ (∀ t, t < n → (foP K v t ↔ ∃ i, i < m ∧ wf i = t)) ∧ ∀ Q : Nat → Prop, cntT (fun i => Q (wf i)) m = cntT (fun t => foP K v t ∧ Q t) n
theorem foI_0 (K : Nat → Int32) (v : Int32) : foI K v 0 0 (fun _ => 0) := ⟨Nat.le_refl _, fun i hi => by omega, fun i j _ hj => by omega, fun t ht => by omega, fun Q => rfl⟩
theorem foI_y {v : Int32} {n m : Nat} {wf : Nat → Nat} (x : foI K v n m wf) (c : foP K v n) : foI K v (n + 1) (m + 1) (fun i => if i = m then n else wf i) := by
  obtain ⟨x1, x2, x3, x4, x5⟩ := x
  refine ⟨by omega, fun i hi => ?_, fun i j hij hj => ?_, fun t ht => ?_, fun Q => ?_⟩
  · show (if i = m then n else wf i) < n + 1
    split
    · omega
    · have := x2 i (by omega); omega
  · show (if i = m then n else wf i) < (if j = m then n else wf j)
    rw [if_neg (by omega)]
    split
    · exact x2 i (by omega)
    · exact x3 i j hij (by omega)
  · by_cases e : t = n
    · subst e
      exact ⟨fun _ => ⟨m, by omega, if_pos rfl⟩, fun _ => c⟩
    · rw [x4 t (by omega)]
      constructor
      · rintro ⟨i, hi, ei⟩
        exact ⟨i, by omega, by show (if i = m then n else wf i) = t; rw [if_neg (by omega)]; exact ei⟩
      · rintro ⟨i, hi, ei⟩
        have ei' : (if i = m then n else wf i) = t := ei
        by_cases e2 : i = m
        · rw [if_pos e2] at ei'; omega
        · rw [if_neg e2] at ei'; exact ⟨i, by omega, ei'⟩
  · rw [cnt_s, cnt_s, ← x5 Q]
    have h1 : cntT (fun i => Q (if i = m then n else wf i)) m = cntT (fun i => Q (wf i)) m := cnt_cg m (fun i hi => by show Q (if i = m then n else wf i) ↔ Q (wf i); rw [if_neg (by omega)])
    show cntT (fun i => Q (if i = m then n else wf i)) m + pif (Q (if m = m then n else wf m)) 1 0 = cntT (fun i => Q (wf i)) m + pif (foP K v n ∧ Q n) 1 0
    rw [h1, if_pos rfl]
    congr 1
    by_cases e : Q n
    · rw [pif_t e, pif_t ⟨c, e⟩]
    · rw [pif_f e, pif_f (fun y => e y.2)]
theorem foI_n {v : Int32} {n m : Nat} {wf : Nat → Nat} (x : foI K v n m wf) (c : ¬ foP K v n) : foI K v (n + 1) m wf := by
  obtain ⟨x1, x2, x3, x4, x5⟩ := x
  refine ⟨by omega, fun i hi => by have := x2 i hi; omega, x3, fun t ht => ?_, fun Q => ?_⟩
  · by_cases e : t = n
    · subst e
      exact ⟨fun y => absurd y c, fun ⟨i, hi, ei⟩ => by have := x2 i hi; omega⟩
    · exact x4 t (by omega)
  · rw [cnt_s, x5 Q, pif_f (fun y => c y.1), Nat.add_zero]
theorem cl63 (z : STS h 0 K) {v : Int32} (hv : v = nI 0 ∨ v = nI 1) (a b : Nat) : ∀ k t m wf h0, t + k = nt K → Fr h h0 → gP h0 88 3 = some a → gP h0 88 4 = some b → foI K v t m wf → gI h0 88 6 = nI m → (∀ i, i < m → gI h0 89 i = nI (wf i)) → ∃ h' m' wf', Fr h h' ∧ gP h' 88 3 = some a ∧ gP h' 88 4 = some b ∧ foI K v (nt K) m' wf' ∧ WH h' m' wf' K ∧ (∀ i, i < 12 → gI h' 81 i = nI 0) ∧ ∀ d F, wp true (d + 2) 63 18 [.ref 88, .ref a, .ref b, .int v, .int (nI t)] [] h0 F = F none h'
  | 0, t, m, wf, h0, e, x, p3, p4, fo, h6, h89 => by
    obtain rfl : t = nt K := e
    have w := z.1
    have h2 := w.hnt
    have q := (STS_fr x (Or.inl rfl) z).2.1
    obtain ⟨x1, x2, x3, x4, x5⟩ := fo
    refine ⟨clr h0, m, wf, x.trans (clr_fr h0), p3, p4, ⟨x1, x2, x3, x4, x5⟩, ⟨by rw [clr_n _ (by omega)]; exact h6, by omega, fun i hi => ⟨by rw [clr_n _ (by omega)]; exact h89 i hi, x2 i hi⟩, x3⟩, fun i hi => clr_g h0 hi, fun d F => ?_⟩
    rw [r63_18]
    simp (disch := omega) only [e63, r63_0, r63_1, r63_1n, r63_2, r63_2n, r63_5, r63_6, r63_6n, r63_7, r63_7n, r63_10, r63_11, r63_12, r63_15, r63_16, r63_20, r63_21, r63_24, r63_27, r63_30, r63_31, r63_34, r63_35, r63_38, r63_41, r63_43, r63_44, r63_45, r63_48, r63_49, r63_52, r63_53, r63_56, r63_58, r63_59, r63_60, r63_61, r63_64, r63_65, r63_66, r63_69, r63_72, r63_75, r63_76, r63_79, r63_82, c1, q.hnt, h2, kdC, kdM, rpC, rpM, q_rs, q_rn, Option.toList_some, Option.toList_none, List.cons_append, List.nil_append, true_and, and_true, eq_self, ↓reduceIte, not_true_eq_false, not_false_eq_true, Nat.reduceEqDiff, Nat.reduceLeDiff, Nat.reduceLT, Nat.reduceAdd, Nat.reduceMul, Nat.reduceSub, false_or, or_false, true_or, or_true, false_and, and_false, reduceCtorEq, q_n0, q_n1, q_em, q_em2, q_b0, q_b1, Classical.not_not, nI_add, pk_mul, nI_clamp, q_vp, nI_eq, nI_leI, nI_ltI, q_sub, Nat.le_refl]
  | k + 1, t, m, wf, h0, e, x, p3, p4, fo, h6, h89 => by
    have w := z.1
    have h2 := w.hnt
    have ht : t < nt K := by omega
    have ht12 : t < 12 := by omega
    have q := (STS_fr x (Or.inl rfl) z).2.1
    have fo1 := fo.1
    by_cases c : foP K v t
    · have fo2 := foI_y fo c
      obtain ⟨h', m', wf', a1, a2, a3, a4, a5, a6, a7⟩ := cl63 z hv a b k (t + 1) (m + 1) (fun i => if i = m then t else wf i) (sI (sI h0 89 m (nI t)) 88 6 (nI (m + 1))) (by omega) ((x.sI _ rfl).sI _ rfl) (by rw [q_gPI, q_gPI]; exact p3) (by rw [q_gPI, q_gPI]; exact p4) fo2 (q_gs _ _ _ _) (by
        intro i hi
        rw [q_gn (by omega), q_gi]
        show (if 89 = 89 ∧ i = m then nI t else gI h0 89 i) = nI (if i = m then t else wf i)
        by_cases e1 : i = m
        · rw [if_pos ⟨rfl, e1⟩, if_pos e1]
        · rw [if_neg (fun y => e1 y.2), if_neg e1]; exact h89 i (by omega))
      refine ⟨h', m', wf', a1, a2, a3, a4, a5, a6, fun d F => ?_⟩
      refine Eq.trans ?_ (a7 d F)
      have h6' : gI (sI h0 89 m (nI t)) 88 6 = nI m := by rw [q_gn (by omega)]; exact h6
      rw [r63_18]
      rcases hv with rfl | rfl
      · simp (disch := omega) only [r63_20, r63_21, r63_24, r63_27, r63_30, r63_31, r63_34, r63_35, r63_38, r63_41, r63_43, r63_44, r63_45, r63_48, r63_49, r63_52, r63_53, r63_56, r63_58, r63_59, r63_60, r63_61, r63_64, r63_65, r63_66, r63_69, r63_72, q.hnt, h2, h6, h6', kdC, kdM, rpC, rpM, q_rs, q_rn, Option.toList_some, Option.toList_none, List.cons_append, List.nil_append, true_and, and_true, eq_self, ↓reduceIte, not_true_eq_false, not_false_eq_true, Nat.reduceEqDiff, Nat.reduceLeDiff, Nat.reduceLT, Nat.reduceAdd, Nat.reduceMul, Nat.reduceSub, false_or, or_false, true_or, or_true, false_and, and_false, reduceCtorEq, q_n0, q_n1, q_em, q_em2, q_b0, q_b1, Classical.not_not, nI_add, pk_mul, nI_clamp, q_vp, nI_eq, nI_leI, nI_ltI, q_sub, show ¬ nt K ≤ t by omega, show m < 12 by omega]
      · have cv : K (244 + 5 * t + 4) = nI 1 := by
          rcases c with c | c
          · exact absurd c q_01
          · exact c
        simp (disch := omega) only [r63_20, r63_21, r63_24, r63_27, r63_30, r63_31, r63_34, r63_35, r63_38, r63_41, r63_43, r63_44, r63_45, r63_48, r63_49, r63_52, r63_53, r63_56, r63_58, r63_59, r63_60, r63_61, r63_64, r63_65, r63_66, r63_69, r63_72, q.hnt, h2, h6, h6', q.t4, cv, kdC, kdM, rpC, rpM, q_rs, q_rn, Option.toList_some, Option.toList_none, List.cons_append, List.nil_append, true_and, and_true, eq_self, ↓reduceIte, not_true_eq_false, not_false_eq_true, Nat.reduceEqDiff, Nat.reduceLeDiff, Nat.reduceLT, Nat.reduceAdd, Nat.reduceMul, Nat.reduceSub, false_or, or_false, true_or, or_true, false_and, and_false, reduceCtorEq, q_n0, q_n1, q_em, q_em2, q_b0, q_b1, Classical.not_not, nI_add, pk_mul, nI_clamp, q_vp, nI_eq, nI_leI, nI_ltI, q_sub, ht12, show ¬ nt K ≤ t by omega, show m < 12 by omega]
    · have fo2 := foI_n fo c
      obtain ⟨h', m', wf', a1, a2, a3, a4, a5, a6, a7⟩ := cl63 z hv a b k (t + 1) m wf h0 (by omega) x p3 p4 fo2 h6 h89
      refine ⟨h', m', wf', a1, a2, a3, a4, a5, a6, fun d F => ?_⟩
      refine Eq.trans ?_ (a7 d F)
      have hv1 : v = nI 1 := by
        rcases hv with rfl | hv
        · exact absurd (Or.inl rfl) c
        · exact hv
      have cv : ¬ K (244 + 5 * t + 4) = nI 1 := fun y => c (Or.inr y)
      subst hv1
      rw [r63_18]
      simp (disch := omega) only [r63_20, r63_21, r63_24, r63_27, r63_30, r63_31, r63_34, r63_35, r63_38, r63_41, r63_43, r63_44, r63_45, r63_48, r63_49, r63_52, r63_53, r63_56, r63_58, r63_59, r63_60, r63_61, r63_64, r63_65, r63_66, r63_69, r63_72, q.hnt, h2, q.t4, cv, kdC, kdM, rpC, rpM, q_rs, q_rn, Option.toList_some, Option.toList_none, List.cons_append, List.nil_append, true_and, and_true, eq_self, ↓reduceIte, not_true_eq_false, not_false_eq_true, Nat.reduceEqDiff, Nat.reduceLeDiff, Nat.reduceLT, Nat.reduceAdd, Nat.reduceMul, Nat.reduceSub, false_or, or_false, true_or, or_true, false_and, and_false, reduceCtorEq, q_n0, q_n1, q_em, q_em2, q_b0, q_b1, Classical.not_not, nI_add, pk_mul, nI_clamp, q_vp, nI_eq, nI_leI, nI_ltI, q_sub, ht12, show ¬ nt K ≤ t by omega]
theorem c63 (z : STS h 0 K) {v : Int32} (hv : v = nI 0 ∨ v = nI 1) (a b : Nat) : ∃ h' m wf, Fr h h' ∧ gP h' 88 3 = some a ∧ gP h' 88 4 = some b ∧ foI K v (nt K) m wf ∧ WH h' m wf K ∧ (∀ i, i < 12 → gI h' 81 i = nI 0) ∧ ∀ d F, cwp true (d + 2) 63 [.ref 88, .ref a, .ref b, .int v] h F = F none h' := by
  obtain ⟨h', m, wf, a1, a2, a3, a4, a5, a6, a7⟩ := cl63 z hv a b (nt K) 0 0 (fun _ => 0) (sI (sP (sP h 88 3 (some a)) 88 4 (some b)) 88 6 (nI 0)) (by omega) ((((Fr.refl h).sP _ rfl).sP _ rfl).sI _ rfl) (by rw [q_gPI, q_pm (by omega), q_ps]) (by rw [q_gPI, q_ps]) (foI_0 K v) (q_gs _ _ _ _) (fun i hi => by omega)
  refine ⟨h', m, wf, a1, a2, a3, a4, a5, a6, fun d F => ?_⟩
  refine Eq.trans ?_ (a7 d F)
  simp (disch := omega) only [r63_0, r63_1, r63_1n, r63_2, r63_2n, r63_5, r63_6, r63_6n, r63_7, r63_7n, r63_10, r63_11, r63_12, r63_15, r63_16, e63, wk88_3, wk88_4, kdC, kdM, rpC, rpM, q_rs, q_rn, Option.toList_some, Option.toList_none, List.cons_append, List.nil_append, true_and, and_true, eq_self, ↓reduceIte, not_true_eq_false, not_false_eq_true, Nat.reduceEqDiff, Nat.reduceLeDiff, Nat.reduceLT, Nat.reduceAdd, Nat.reduceMul, Nat.reduceSub, false_or, or_false, true_or, or_true, false_and, and_false, reduceCtorEq, q_n0, q_n1, q_em, q_em2, q_b0, q_b1, Classical.not_not]
end OPN
