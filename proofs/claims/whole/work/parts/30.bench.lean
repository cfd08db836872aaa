/-! the bench; turns -/
def on (o : Option Nat) : Int32 := match o with
  | none => -1
  | some j => nI j
theorem on_n : on none = -1 := rfl
theorem on_s (j : Nat) : on (some j) = nI j := rfl
theorem q_nm {j : Nat} (hj : j < 2147483648) : (nI j = -1) = False := by
  apply eq_false
  rw [← Int32.toInt_inj, nI_toInt hj, q_m1]
  omega
theorem q_mn {j : Nat} (hj : j < 2147483648) : (-1 = nI j) = False := by
  apply eq_false
  rw [← Int32.toInt_inj, nI_toInt hj, q_m1]
  omega
theorem q_sIs (h : Hp) (a i : Nat) (f : Nat → Int32) (v : Int32) : sI (sA h a f) a i v = sA h a (upd f i v) := by
  rw [q_sIA, q_ga, q_sAA]
theorem q_gsu (h : Hp) (a i : Nat) (v : Int32) : gI (sI h a i v) a = upd (gI h a) i v := by
  rw [q_sIA, q_ga]
/-- the first place where P holds, among k from i on -/
noncomputable def q_fd (P : Nat → Prop) : Nat → Nat → Nat
  | 0, i => i
  | k + 1, i => pif (P i) i (q_fd P k (i + 1))
theorem q_fd_le (P : Nat → Prop) : ∀ k i, i ≤ q_fd P k i ∧ q_fd P k i ≤ i + k
  | 0, i => ⟨Nat.le_refl i, Nat.le_refl i⟩
  | k + 1, i => by
    unfold q_fd
    by_cases h : P i
    · rw [pif_t h]; omega
    · rw [pif_f h]
      have := q_fd_le P k (i + 1)
      omega
section BE
variable (d : Nat) (h : Hp) (F : Po) {K : Nat → Int32}
noncomputable def pnt (K : Nat → Int32) (x : Int32) : Nat := q_fd (fun p => K (220 + 2 * p) = x) (np K) 0
theorem pnt_le (K : Nat → Int32) (x : Int32) : pnt K x ≤ np K := by
  have := (q_fd_le (fun p => K (220 + 2 * p) = x) (np K) 0).2
  unfold pnt
  omega
def puh (h : Hp) (n p : Nat) (x y : Int32) : Hp := sI (sI (sI h 9 p x) 10 p y) 8 2 (nI (if p = n then n + 1 else n))
theorem cl7 (w : WF K) (q : RS h 0 K) (x y : Int32) : ∀ k p, p + k = np K → wp true d 7 2 [.ref 8, .int x, .int y, .int (nI p)] [] h F = wp true d 7 26 [.ref 8, .int x, .int y, .int (nI (q_fd (fun p => K (220 + 2 * p) = x) k p))] [] h F
  | 0, p, e => by
    have h1 := w.hnp
    rw [r7_2]
    simp (disch := omega) only [r7_3, r7_4, r7_7, kdC, kdM, rpC, rpM, q_rs, q_rn, Option.toList_some, Option.toList_none, List.cons_append, List.nil_append, true_and, and_true, eq_self, ↓reduceIte, not_true_eq_false, not_false_eq_true, Nat.reduceEqDiff, Nat.reduceLeDiff, Nat.reduceLT, Nat.reduceAdd, Nat.reduceMul, Nat.reduceSub, false_or, or_false, true_or, or_true, false_and, and_false, reduceCtorEq, q_n0, q_n1, q_em, q_em2, q_b0, q_b1, Classical.not_not, nI_add, pk_mul, nI_clamp, q_vp, nI_eq, nI_leI, nI_ltI, q_sub, q.hnp, h1, show p = np K from e, Nat.le_refl, q_fd]
  | k + 1, p, e => by
    have h1 := w.hnp
    rw [r7_2]
    simp (disch := omega) only [r7_3, r7_4, r7_7, r7_10, r7_11, r7_14, r7_15, r7_16, r7_17, r7_20, r7_23, kdC, kdM, rpC, rpM, q_rs, q_rn, Option.toList_some, Option.toList_none, List.cons_append, List.nil_append, true_and, and_true, eq_self, ↓reduceIte, not_true_eq_false, not_false_eq_true, Nat.reduceEqDiff, Nat.reduceLeDiff, Nat.reduceLT, Nat.reduceAdd, Nat.reduceMul, Nat.reduceSub, false_or, or_false, true_or, or_true, false_and, and_false, reduceCtorEq, q_n0, q_n1, q_em, q_em2, q_b0, q_b1, Classical.not_not, nI_add, pk_mul, nI_clamp, q_vp, nI_eq, nI_leI, nI_ltI, q_sub, q.hnp, h1, show ¬ np K ≤ p by omega, show p < 12 by omega, q.bw]
    unfold q_fd
    by_cases e1 : K (220 + 2 * p) = x
    · simp only [e1, pif_t, ↓reduceIte]
    · rw [pif_f e1]
      simp only [e1, ↓reduceIte]
      exact cl7 w q x y k (p + 1) (by omega)
theorem cc7 (w : WF K) (q : RS h 0 K) (x y : Int32) : cwp true d 7 [.ref 8, .int x, .int y] h F = if pnt K x = 12 then F (some (.int (nI 0))) h else F (some (.int (nI 1))) (puh h (np K) (pnt K x) x y) := by
  have h1 := w.hnp
  have h2 := pnt_le K x
  simp only [r7_0, r7_1, e7]
  rw [cl7 d h F w q x y (np K) 0 (by omega)]
  show wp true d 7 26 [.ref 8, .int x, .int y, .int (nI (pnt K x))] [] h F = _
  by_cases e : pnt K x = 12
  · simp (disch := omega) only [r7_26, r7_27, r7_29, r7_32, r7_33, r7_34, r7_35, r7_38, r7_39, r7_40, r7_41, r7_42, r7_45, r7_46, r7_47, r7_48, r7_49, r7_50, r7_53, r7_54, r7_55, r7_56, r7_59, r7_62, r7_63, kdC, kdM, rpC, rpM, q_rs, q_rn, Option.toList_some, Option.toList_none, List.cons_append, List.nil_append, true_and, and_true, eq_self, ↓reduceIte, not_true_eq_false, not_false_eq_true, Nat.reduceEqDiff, Nat.reduceLeDiff, Nat.reduceLT, Nat.reduceAdd, Nat.reduceMul, Nat.reduceSub, false_or, or_false, true_or, or_true, false_and, and_false, reduceCtorEq, q_n0, q_n1, q_em, q_em2, q_b0, q_b1, Classical.not_not, nI_add, pk_mul, nI_clamp, q_vp, nI_eq, nI_leI, nI_ltI, q_sub, e]
  · simp (disch := omega) only [r7_26, r7_27, r7_29, r7_32, r7_33, r7_34, r7_35, r7_38, r7_39, r7_40, r7_41, r7_42, r7_45, r7_46, r7_47, r7_48, r7_49, r7_50, r7_53, r7_54, r7_55, r7_56, r7_59, r7_62, r7_63, kdC, kdM, rpC, rpM, q_rs, q_rn, Option.toList_some, Option.toList_none, List.cons_append, List.nil_append, true_and, and_true, eq_self, ↓reduceIte, not_true_eq_false, not_false_eq_true, Nat.reduceEqDiff, Nat.reduceLeDiff, Nat.reduceLT, Nat.reduceAdd, Nat.reduceMul, Nat.reduceSub, false_or, or_false, true_or, or_true, false_and, and_false, reduceCtorEq, q_n0, q_n1, q_em, q_em2, q_b0, q_b1, Classical.not_not, nI_add, pk_mul, nI_clamp, q_vp, nI_eq, nI_leI, nI_ltI, q_sub, q_gs, q_gn, q_gm, q_gIJ, q_gIP, q_gJI, q_gJA, q_gJP, q_gPI, q_gPA, q_gPJ, q_ga, q_gan, q_js, q_jn, q_jm, q_ps, q_pn, q_pm, e, show pnt K x < 12 by omega, q.hnp, h1, puh]
    by_cases e2 : pnt K x = np K
    · simp (disch := omega) only [e2, ↓reduceIte, kdC, kdM, rpC, rpM, q_rs, q_rn, Option.toList_some, Option.toList_none, List.cons_append, List.nil_append, true_and, and_true, eq_self, ↓reduceIte, not_true_eq_false, not_false_eq_true, Nat.reduceEqDiff, Nat.reduceLeDiff, Nat.reduceLT, Nat.reduceAdd, Nat.reduceMul, Nat.reduceSub, false_or, or_false, true_or, or_true, false_and, and_false, reduceCtorEq, q_n0, q_n1, q_em, q_em2, q_b0, q_b1, Classical.not_not, show np K < np K + 1 by omega, show ¬ np K = 12 by omega]
    · simp (disch := omega) only [e2, ↓reduceIte, kdC, kdM, rpC, rpM, q_rs, q_rn, Option.toList_some, Option.toList_none, List.cons_append, List.nil_append, true_and, and_true, eq_self, ↓reduceIte, not_true_eq_false, not_false_eq_true, Nat.reduceEqDiff, Nat.reduceLeDiff, Nat.reduceLT, Nat.reduceAdd, Nat.reduceMul, Nat.reduceSub, false_or, or_false, true_or, or_true, false_and, and_false, reduceCtorEq, q_n0, q_n1, q_em, q_em2, q_b0, q_b1, Classical.not_not, show ¬ np K < pnt K x + 1 by omega]
/-- the nearest point not above, not below -/
noncomputable def blo (K : Nat → Int32) (x : Int32) (p : Nat) (b : Option Nat) : Option Nat := pif (K (220 + 2 * p) ≤ x ∧ (b = none ∨ K (220 + 2 * (b.getD 0)) < K (220 + 2 * p))) (some p) b
noncomputable def bhi (K : Nat → Int32) (x : Int32) (p : Nat) (b : Option Nat) : Option Nat := pif (x ≤ K (220 + 2 * p) ∧ (b = none ∨ K (220 + 2 * p) < K (220 + 2 * (b.getD 0)))) (some p) b
noncomputable def lop (K : Nat → Int32) (x : Int32) : Option Nat := q_lp (blo K x) (np K) 0 none
noncomputable def hip (K : Nat → Int32) (x : Int32) : Option Nat := q_lp (bhi K x) (np K) 0 none
def inO (n : Nat) (b : Option Nat) : Prop := ∀ j, b = some j → j < n
theorem blo_in {x : Int32} {p n : Nat} {b : Option Nat} (hb : inO n b) (hp : p < n) : inO n (blo K x p b) := by
  unfold blo
  by_cases e : K (220 + 2 * p) ≤ x ∧ (b = none ∨ K (220 + 2 * (b.getD 0)) < K (220 + 2 * p))
  · rw [pif_t e]; intro j ej; cases ej; exact hp
  · rw [pif_f e]; exact hb
theorem bhi_in {x : Int32} {p n : Nat} {b : Option Nat} (hb : inO n b) (hp : p < n) : inO n (bhi K x p b) := by
  unfold bhi
  by_cases e : x ≤ K (220 + 2 * p) ∧ (b = none ∨ K (220 + 2 * p) < K (220 + 2 * (b.getD 0)))
  · rw [pif_t e]; intro j ej; cases ej; exact hp
  · rw [pif_f e]; exact hb
theorem lop_in (x : Int32) : inO (np K) (lop K x) := q_inv (J := fun _ b => inO (np K) b) (fun i s hi hs => blo_in hs hi) (fun j ej => by cases ej)
theorem hip_in (x : Int32) : inO (np K) (hip K x) := q_inv (J := fun _ b => inO (np K) b) (fun i s hi hs => bhi_in hs hi) (fun j ej => by cases ej)
theorem cl8 (w : WF K) (q : RS h 0 K) (x : Int32) : ∀ k p b a, p + k = np K → inO (np K) b → inO (np K) a → wp true d 8 7 [.ref 8, .int x, .int (on b), .int (on a), .int (nI p)] [] h F = wp true d 8 92 [.ref 8, .int x, .int (on (q_lp (blo K x) k p b)), .int (on (q_lp (bhi K x) k p a)), .int (nI (np K))] [] h F
  | 0, p, b, a, e, hb, ha => by
    have h1 := w.hnp
    rw [r8_7]
    simp (disch := omega) only [r8_9, r8_10, r8_13, kdC, kdM, rpC, rpM, q_rs, q_rn, Option.toList_some, Option.toList_none, List.cons_append, List.nil_append, true_and, and_true, eq_self, ↓reduceIte, not_true_eq_false, not_false_eq_true, Nat.reduceEqDiff, Nat.reduceLeDiff, Nat.reduceLT, Nat.reduceAdd, Nat.reduceMul, Nat.reduceSub, false_or, or_false, true_or, or_true, false_and, and_false, reduceCtorEq, q_n0, q_n1, q_em, q_em2, q_b0, q_b1, Classical.not_not, nI_add, pk_mul, nI_clamp, q_vp, nI_eq, nI_leI, nI_ltI, q_sub, q.hnp, h1, show p = np K from e, Nat.le_refl]
    rfl
  | k + 1, p, b, a, e, hb, ha => by
    have h1 := w.hnp
    refine Eq.trans ?_ (cl8 w q x k (p + 1) (blo K x p b) (bhi K x p a) (by omega) (blo_in hb (by omega)) (bhi_in ha (by omega)))
    have hp : p < 12 := by omega
    have hb' : wp true d 8 7 [.ref 8, .int x, .int (on b), .int (on a), .int (nI p)] [] h F = wp true d 8 51 [.ref 8, .int x, .int (on (blo K x p b)), .int (on a), .int (nI p)] [] h F := by
      rw [r8_7]
      simp (disch := omega) only [r8_9, r8_10, r8_13, r8_16, r8_17, r8_20, r8_22, r8_23, r8_24, kdC, kdM, rpC, rpM, q_rs, q_rn, Option.toList_some, Option.toList_none, List.cons_append, List.nil_append, true_and, and_true, eq_self, ↓reduceIte, not_true_eq_false, not_false_eq_true, Nat.reduceEqDiff, Nat.reduceLeDiff, Nat.reduceLT, Nat.reduceAdd, Nat.reduceMul, Nat.reduceSub, false_or, or_false, true_or, or_true, false_and, and_false, reduceCtorEq, q_n0, q_n1, q_em, q_em2, q_b0, q_b1, Classical.not_not, nI_add, pk_mul, nI_clamp, q_vp, nI_eq, nI_leI, nI_ltI, q_sub, q.hnp, h1, show ¬ np K ≤ p by omega, hp, q.bw]
      by_cases e1 : K (220 + 2 * p) ≤ x
      · simp only [Int32.not_lt.mpr e1, ↓reduceIte]
        cases b with
        | none => simp only [r8_27, r8_28, r8_29, r8_32, r8_33, r8_36, r8_38, r8_39, r8_40, r8_43, r8_44, r8_45, r8_48, r8_50, on_n, on_s, kdC, kdM, rpC, rpM, q_rs, q_rn, Option.toList_some, Option.toList_none, List.cons_append, List.nil_append, true_and, and_true, eq_self, ↓reduceIte, not_true_eq_false, not_false_eq_true, Nat.reduceEqDiff, Nat.reduceLeDiff, Nat.reduceLT, Nat.reduceAdd, Nat.reduceMul, Nat.reduceSub, false_or, or_false, true_or, or_true, false_and, and_false, reduceCtorEq, q_n0, q_n1, q_em, q_em2, q_b0, q_b1, Classical.not_not, blo, e1, pif_t]
        | some j =>
          have hj : j < np K := hb j rfl
          simp (disch := omega) only [r8_27, r8_28, r8_29, r8_32, r8_33, r8_36, r8_38, r8_39, r8_40, r8_43, r8_44, r8_45, r8_48, r8_50, on_n, on_s, kdC, kdM, rpC, rpM, q_rs, q_rn, Option.toList_some, Option.toList_none, List.cons_append, List.nil_append, true_and, and_true, eq_self, ↓reduceIte, not_true_eq_false, not_false_eq_true, Nat.reduceEqDiff, Nat.reduceLeDiff, Nat.reduceLT, Nat.reduceAdd, Nat.reduceMul, Nat.reduceSub, false_or, or_false, true_or, or_true, false_and, and_false, reduceCtorEq, q_n0, q_n1, q_em, q_em2, q_b0, q_b1, Classical.not_not, nI_add, pk_mul, nI_clamp, q_vp, nI_eq, nI_leI, nI_ltI, q_sub, q_nm, hp, show j < 12 by omega, q.bw]
          by_cases e2 : K (220 + 2 * j) < K (220 + 2 * p)
          · simp only [blo, e1, e2, Int32.not_le.mpr e2, kdC, kdM, rpC, rpM, q_rs, q_rn, Option.toList_some, Option.toList_none, List.cons_append, List.nil_append, true_and, and_true, eq_self, ↓reduceIte, not_true_eq_false, not_false_eq_true, Nat.reduceEqDiff, Nat.reduceLeDiff, Nat.reduceLT, Nat.reduceAdd, Nat.reduceMul, Nat.reduceSub, false_or, or_false, true_or, or_true, false_and, and_false, reduceCtorEq, q_n0, q_n1, q_em, q_em2, q_b0, q_b1, Classical.not_not, pif_t, Option.getD_some, on_s]
          · have e3 : ¬ (K (220 + 2 * p) ≤ x ∧ (some j = none ∨ K (220 + 2 * ((some j).getD 0)) < K (220 + 2 * p))) := by
              rintro ⟨_, z | z⟩
              · cases z
              · exact e2 z
            rw [show blo K x p (some j) = some j from pif_f e3]
            simp only [Int32.not_lt.mp e2, kdC, kdM, rpC, rpM, q_rs, q_rn, Option.toList_some, Option.toList_none, List.cons_append, List.nil_append, true_and, and_true, eq_self, ↓reduceIte, not_true_eq_false, not_false_eq_true, Nat.reduceEqDiff, Nat.reduceLeDiff, Nat.reduceLT, Nat.reduceAdd, Nat.reduceMul, Nat.reduceSub, false_or, or_false, true_or, or_true, false_and, and_false, reduceCtorEq, q_n0, q_n1, q_em, q_em2, q_b0, q_b1, Classical.not_not, on_s]
      · have e3 : ¬ (K (220 + 2 * p) ≤ x ∧ (b = none ∨ K (220 + 2 * (b.getD 0)) < K (220 + 2 * p))) := fun z => e1 z.1
        simp only [Int32.not_le.mp e1, ↓reduceIte, blo, pif_f e3]
    rw [hb']
    simp (disch := omega) only [r8_51, r8_52, r8_55, r8_57, r8_58, r8_59, kdC, kdM, rpC, rpM, q_rs, q_rn, Option.toList_some, Option.toList_none, List.cons_append, List.nil_append, true_and, and_true, eq_self, ↓reduceIte, not_true_eq_false, not_false_eq_true, Nat.reduceEqDiff, Nat.reduceLeDiff, Nat.reduceLT, Nat.reduceAdd, Nat.reduceMul, Nat.reduceSub, false_or, or_false, true_or, or_true, false_and, and_false, reduceCtorEq, q_n0, q_n1, q_em, q_em2, q_b0, q_b1, Classical.not_not, nI_add, pk_mul, nI_clamp, q_vp, nI_eq, nI_leI, nI_ltI, q_sub, hp, q.bw]
    by_cases e1 : x ≤ K (220 + 2 * p)
    · simp only [Int32.not_lt.mpr e1, ↓reduceIte]
      cases a with
      | none => simp only [r8_62, r8_63, r8_64, r8_67, r8_68, r8_71, r8_73, r8_74, r8_75, r8_78, r8_79, r8_80, r8_83, r8_85, r8_86, r8_89, on_n, on_s, kdC, kdM, rpC, rpM, q_rs, q_rn, Option.toList_some, Option.toList_none, List.cons_append, List.nil_append, true_and, and_true, eq_self, ↓reduceIte, not_true_eq_false, not_false_eq_true, Nat.reduceEqDiff, Nat.reduceLeDiff, Nat.reduceLT, Nat.reduceAdd, Nat.reduceMul, Nat.reduceSub, false_or, or_false, true_or, or_true, false_and, and_false, reduceCtorEq, q_n0, q_n1, q_em, q_em2, q_b0, q_b1, Classical.not_not, bhi, e1, pif_t, nI_add]
      | some j =>
        have hj : j < np K := ha j rfl
        simp (disch := omega) only [r8_62, r8_63, r8_64, r8_67, r8_68, r8_71, r8_73, r8_74, r8_75, r8_78, r8_79, r8_80, r8_83, r8_85, r8_86, r8_89, on_n, on_s, kdC, kdM, rpC, rpM, q_rs, q_rn, Option.toList_some, Option.toList_none, List.cons_append, List.nil_append, true_and, and_true, eq_self, ↓reduceIte, not_true_eq_false, not_false_eq_true, Nat.reduceEqDiff, Nat.reduceLeDiff, Nat.reduceLT, Nat.reduceAdd, Nat.reduceMul, Nat.reduceSub, false_or, or_false, true_or, or_true, false_and, and_false, reduceCtorEq, q_n0, q_n1, q_em, q_em2, q_b0, q_b1, Classical.not_not, nI_add, pk_mul, nI_clamp, q_vp, nI_eq, nI_leI, nI_ltI, q_sub, q_nm, hp, show j < 12 by omega, q.bw]
        by_cases e2 : K (220 + 2 * p) < K (220 + 2 * j)
        · simp only [bhi, e1, e2, Int32.not_le.mpr e2, kdC, kdM, rpC, rpM, q_rs, q_rn, Option.toList_some, Option.toList_none, List.cons_append, List.nil_append, true_and, and_true, eq_self, ↓reduceIte, not_true_eq_false, not_false_eq_true, Nat.reduceEqDiff, Nat.reduceLeDiff, Nat.reduceLT, Nat.reduceAdd, Nat.reduceMul, Nat.reduceSub, false_or, or_false, true_or, or_true, false_and, and_false, reduceCtorEq, q_n0, q_n1, q_em, q_em2, q_b0, q_b1, Classical.not_not, pif_t, Option.getD_some, on_s]
        · have e3 : ¬ (x ≤ K (220 + 2 * p) ∧ (some j = none ∨ K (220 + 2 * p) < K (220 + 2 * ((some j).getD 0)))) := by
            rintro ⟨_, z | z⟩
            · cases z
            · exact e2 z
          rw [show bhi K x p (some j) = some j from pif_f e3]
          simp only [Int32.not_lt.mp e2, kdC, kdM, rpC, rpM, q_rs, q_rn, Option.toList_some, Option.toList_none, List.cons_append, List.nil_append, true_and, and_true, eq_self, ↓reduceIte, not_true_eq_false, not_false_eq_true, Nat.reduceEqDiff, Nat.reduceLeDiff, Nat.reduceLT, Nat.reduceAdd, Nat.reduceMul, Nat.reduceSub, false_or, or_false, true_or, or_true, false_and, and_false, reduceCtorEq, q_n0, q_n1, q_em, q_em2, q_b0, q_b1, Classical.not_not, on_s]
    · have e3 : ¬ (x ≤ K (220 + 2 * p) ∧ (a = none ∨ K (220 + 2 * p) < K (220 + 2 * (a.getD 0)))) := fun z => e1 z.1
      simp only [r8_86, r8_89, Int32.not_le.mp e1, ↓reduceIte, bhi, pif_f e3, nI_add]
def mnI (x y : Int32) : Int32 := if y < x then y else x
def mxI (x y : Int32) : Int32 := if x < y then y else x
def bsh (h : Hp) (x y : Int32) : Hp := sI (sI h 8 3 (mnI x y)) 8 4 (mxI x y)
theorem cc8 (w : WF K) (q : RS h 0 K) (x : Int32) : cwp true d 8 [.ref 8, .int x] h F = match lop K x, hip K x with
    | some l, some u => F (some (.int (nI 1))) (bsh h (K (220 + 2 * l + 1)) (K (220 + 2 * u + 1)))
    | _, _ => F (some (.int (nI 0))) h := by
  have h1 := w.hnp
  simp only [r8_0, r8_1, r8_2, r8_3, r8_4, r8_5, e8]
  refine (cl8 d h F w q x (np K) 0 none none (by omega) (fun j ej => by cases ej) (fun j ej => by cases ej)).trans ?_
  show wp true d 8 92 [.ref 8, .int x, .int (on (lop K x)), .int (on (hip K x)), .int (nI (np K))] [] h F = _
  have hl := lop_in (K := K) x
  have hu := hip_in (K := K) x
  cases el : lop K x with
  | none => simp (disch := omega) only [r8_92, r8_93, r8_94, r8_97, r8_98, r8_99, r8_102, r8_103, r8_104, r8_105, r8_106, r8_109, r8_110, r8_111, r8_112, r8_115, r8_116, r8_117, r8_120, r8_123, r8_124, r8_125, r8_128, r8_129, r8_130, r8_131, r8_134, r8_135, r8_136, r8_139, r8_142, r8_143, on_n, on_s, kdC, kdM, rpC, rpM, q_rs, q_rn, Option.toList_some, Option.toList_none, List.cons_append, List.nil_append, true_and, and_true, eq_self, ↓reduceIte, not_true_eq_false, not_false_eq_true, Nat.reduceEqDiff, Nat.reduceLeDiff, Nat.reduceLT, Nat.reduceAdd, Nat.reduceMul, Nat.reduceSub, false_or, or_false, true_or, or_true, false_and, and_false, reduceCtorEq, q_n0, q_n1, q_em, q_em2, q_b0, q_b1, Classical.not_not]
  | some l =>
    rw [el] at hl
    have hl' := hl l rfl
    cases eu : hip K x with
    | none => simp (disch := omega) only [r8_92, r8_93, r8_94, r8_97, r8_98, r8_99, r8_102, r8_103, r8_104, r8_105, r8_106, r8_109, r8_110, r8_111, r8_112, r8_115, r8_116, r8_117, r8_120, r8_123, r8_124, r8_125, r8_128, r8_129, r8_130, r8_131, r8_134, r8_135, r8_136, r8_139, r8_142, r8_143, on_n, on_s, kdC, kdM, rpC, rpM, q_rs, q_rn, Option.toList_some, Option.toList_none, List.cons_append, List.nil_append, true_and, and_true, eq_self, ↓reduceIte, not_true_eq_false, not_false_eq_true, Nat.reduceEqDiff, Nat.reduceLeDiff, Nat.reduceLT, Nat.reduceAdd, Nat.reduceMul, Nat.reduceSub, false_or, or_false, true_or, or_true, false_and, and_false, reduceCtorEq, q_n0, q_n1, q_em, q_em2, q_b0, q_b1, Classical.not_not, q_nm]
    | some u =>
      rw [eu] at hu
      have hu' := hu u rfl
      simp (disch := omega) only [r8_92, r8_93, r8_94, r8_97, r8_98, r8_99, r8_102, r8_103, r8_104, r8_105, r8_106, r8_109, r8_110, r8_111, r8_112, r8_115, r8_116, r8_117, r8_120, r8_123, r8_124, r8_125, r8_128, r8_129, r8_130, r8_131, r8_134, r8_135, r8_136, r8_139, r8_142, r8_143, on_n, on_s, kdC, kdM, rpC, rpM, q_rs, q_rn, Option.toList_some, Option.toList_none, List.cons_append, List.nil_append, true_and, and_true, eq_self, ↓reduceIte, not_true_eq_false, not_false_eq_true, Nat.reduceEqDiff, Nat.reduceLeDiff, Nat.reduceLT, Nat.reduceAdd, Nat.reduceMul, Nat.reduceSub, false_or, or_false, true_or, or_true, false_and, and_false, reduceCtorEq, q_n0, q_n1, q_em, q_em2, q_b0, q_b1, Classical.not_not, nI_add, pk_mul, nI_clamp, q_vp, nI_eq, nI_leI, nI_ltI, q_sub, q_gs, q_gn, q_gm, q_gIJ, q_gIP, q_gJI, q_gJA, q_gJP, q_gPI, q_gPA, q_gPJ, q_ga, q_gan, q_js, q_jn, q_jm, q_ps, q_pn, q_pm, q_nm, show l < 12 by omega, show u < 12 by omega, q.bt, bsh, mnI, mxI]
/-- a sheet takes its turn -/
noncomputable def tin (mi : Nat → Int32) (x : Nat) : Nat → (Nat → Int32) → (Nat → Int32)
  | 0, T => upd T 0 (nI x)
  | a + 1, T => pif (mi x < mi (T a).toNatClampNeg) (tin mi x a (upd T (a + 1) (T a))) (upd T (a + 1) (nI x))
theorem cl24 {n : Nat} (hn : n < 12) : ∀ a (T : Nat → Int32), a ≤ n → (∀ i, i < a → ∃ j, j < 12 ∧ T i = nI j) → wp true d 24 2 [.ref 11, .int (nI n), .int (nI a)] [] (sA h 23 T) F = F none (sA h 23 (tin (gI h 18) n a T))
  | 0, T, ha, hT => by
    rw [r24_2]
    simp (disch := omega) only [e24, r24_0, r24_1, r24_3, r24_6, r24_7, r24_10, r24_11, r24_14, r24_15, r24_16, r24_17, r24_18, r24_19, r24_20, r24_23, r24_24, r24_25, r24_28, r24_29, r24_32, r24_33, r24_34, r24_37, r24_38, r24_39, r24_40, r24_41, r24_42, r24_45, r24_48, r24_49, r24_52, r24_53, r24_54, r24_55, kdC, kdM, rpC, rpM, q_rs, q_rn, Option.toList_some, Option.toList_none, List.cons_append, List.nil_append, true_and, and_true, eq_self, ↓reduceIte, not_true_eq_false, not_false_eq_true, Nat.reduceEqDiff, Nat.reduceLeDiff, Nat.reduceLT, Nat.reduceAdd, Nat.reduceMul, Nat.reduceSub, false_or, or_false, true_or, or_true, false_and, and_false, reduceCtorEq, q_n0, q_n1, q_em, q_em2, q_b0, q_b1, Classical.not_not, nI_add, pk_mul, nI_clamp, q_vp, nI_eq, nI_leI, nI_ltI, q_sub, q_gs, q_gn, q_gm, q_gIJ, q_gIP, q_gJI, q_gJA, q_gJP, q_gPI, q_gPA, q_gPJ, q_ga, q_gan, q_js, q_jn, q_jm, q_ps, q_pn, q_pm, Nat.le_refl, q_sIs]
    rfl
  | a + 1, T, ha, hT => by
    obtain ⟨j, hj, ej⟩ := hT a (by omega)
    rw [r24_2]
    simp (disch := omega) only [e24, r24_0, r24_1, r24_3, r24_6, r24_7, r24_10, r24_11, r24_14, r24_15, r24_16, r24_17, r24_18, r24_19, r24_20, r24_23, r24_24, r24_25, r24_28, r24_29, r24_32, r24_33, r24_34, r24_37, r24_38, r24_39, r24_40, r24_41, r24_42, r24_45, r24_48, r24_49, r24_52, r24_53, r24_54, r24_55, kdC, kdM, rpC, rpM, q_rs, q_rn, Option.toList_some, Option.toList_none, List.cons_append, List.nil_append, true_and, and_true, eq_self, ↓reduceIte, not_true_eq_false, not_false_eq_true, Nat.reduceEqDiff, Nat.reduceLeDiff, Nat.reduceLT, Nat.reduceAdd, Nat.reduceMul, Nat.reduceSub, false_or, or_false, true_or, or_true, false_and, and_false, reduceCtorEq, q_n0, q_n1, q_em, q_em2, q_b0, q_b1, Classical.not_not, nI_add, pk_mul, nI_clamp, q_vp, nI_eq, nI_leI, nI_ltI, q_sub, q_gs, q_gn, q_gm, q_gIJ, q_gIP, q_gJI, q_gJA, q_gJP, q_gPI, q_gPA, q_gPJ, q_ga, q_gan, q_js, q_jn, q_jm, q_ps, q_pn, q_pm, show ¬ a + 1 ≤ 0 by omega, Nat.add_sub_cancel, ej, hj, hn, q_sIs, show a < 12 by omega, show a + 1 < 12 by omega]
    show _ = F none (sA h 23 (pif (gI h 18 n < gI h 18 (T a).toNatClampNeg) (tin (gI h 18) n a (upd T (a + 1) (T a))) (upd T (a + 1) (nI n))))
    rw [ej, nI_clamp (by omega)]
    by_cases e : gI h 18 n < gI h 18 j
    · rw [pif_t e]
      simp only [Int32.not_le.mpr e, ↓reduceIte, pk_m1]
      refine cl24 hn a _ (by omega) ?_
      intro i hi
      obtain ⟨j', hj', ej'⟩ := hT i (by omega)
      exact ⟨j', hj', by rw [← ej']; exact if_neg (by omega)⟩
    · rw [pif_f e]
      simp only [Int32.not_lt.mp e, ↓reduceIte]
theorem cc24 {n : Nat} (hn : n < 12) (hT : ∀ i, i < n → ∃ j, j < 12 ∧ gI h 23 i = nI j) : cwp true d 24 [.ref 11, .int (nI n)] h F = F none (sA h 23 (tin (gI h 18) n n (gI h 23))) := by
  simp only [r24_0, r24_1, e24]
  have := cl24 d h F hn n (gI h 23) (Nat.le_refl n) hT
  rw [q_sAs] at this
  exact this
def fih (h : Hp) (n : Nat) (a b c e g : Int32) : Hp := sI (sI (sI (sI (sI (sI h 17 n a) 18 n b) 19 n c) 20 n e) 21 n g) 22 n (nI 0)
noncomputable def fil (h : Hp) (n : Nat) (a b c e g : Int32) : Hp := sI (sA (fih h n a b c e g) 23 (tin (upd (gI h 18) n b) n n (gI h 23))) 11 13 (nI (n + 1))
theorem cc23 {n : Nat} (hn : gI h 11 13 = nI n) (hb : n < 12) (hT : ∀ i, i < n → ∃ j, j < 12 ∧ gI h 23 i = nI j) (a b c e g : Int32) : cwp true (d + 1) 23 [.ref 11, .int a, .int b, .int c, .int e, .int g] h F = F (some (.int (nI n))) (fil h n a b c e g) := by
  have g18 : gI (fih h n a b c e g) 18 = upd (gI h 18) n b := by
    unfold fih
    simp (disch := omega) only [q_gsu, q_gn]
  have g23 : gI (fih h n a b c e g) 23 = gI h 23 := by
    unfold fih
    simp (disch := omega) only [q_gn]
  have hc : ∀ F, cwp true d 24 [.ref 11, .int (nI n)] (fih h n a b c e g) F = F none (sA (fih h n a b c e g) 23 (tin (upd (gI h 18) n b) n n (gI h 23))) := by
    intro F
    have := cc24 d (fih h n a b c e g) F hb (by rw [g23]; exact hT)
    rw [g18, g23] at this
    exact this
  simp only [fih] at hc
  simp (disch := omega) only [e23, r23_0, r23_1, r23_4, r23_6, r23_9, r23_10, r23_11, r23_12, r23_15, r23_16, r23_19, r23_20, r23_21, r23_22, r23_25, r23_26, r23_29, r23_30, r23_31, r23_32, r23_35, r23_36, r23_39, r23_40, r23_41, r23_42, r23_45, r23_46, r23_49, r23_51, r23_52, r23_53, r23_56, r23_57, r23_60, r23_62, r23_63, r23_64, r23_67, r23_68, r23_71, r23_72, r23_73, r23_74, r23_75, r23_78, r23_81, r23_82, r23_83, r23_86, r23_87, r23_88, r23_91, r23_92, r23_95, r23_96, r23_97, hc, kdC, kdM, rpC, rpM, q_rs, q_rn, Option.toList_some, Option.toList_none, List.cons_append, List.nil_append, true_and, and_true, eq_self, ↓reduceIte, not_true_eq_false, not_false_eq_true, Nat.reduceEqDiff, Nat.reduceLeDiff, Nat.reduceLT, Nat.reduceAdd, Nat.reduceMul, Nat.reduceSub, false_or, or_false, true_or, or_true, false_and, and_false, reduceCtorEq, q_n0, q_n1, q_em, q_em2, q_b0, q_b1, Classical.not_not, nI_add, pk_mul, nI_clamp, q_vp, nI_eq, nI_leI, nI_ltI, q_sub, q_gs, q_gn, q_gm, q_gIJ, q_gIP, q_gJI, q_gJA, q_gJP, q_gPI, q_gPA, q_gPJ, q_ga, q_gan, q_js, q_jn, q_jm, q_ps, q_pn, q_pm, hn, hb, show ¬ 12 ≤ n by omega, fil, fih, Nat.add_sub_cancel]
end BE
