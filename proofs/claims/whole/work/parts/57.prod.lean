/-! the products of chances -/
theorem FrS.mono {S S' : Nat → Nat → Bool} {h h' : Hp} (hs : ∀ a i, S' a i = false → S a i = false) (x : FrS S h h') : FrS S' h h' := ⟨x.1, fun a i e => x.2 a i (hs a i e)⟩
def pS (D a _i : Nat) : Bool := Nat.beq a 80 || (Nat.beq a 81 || (Nat.beq a 82 || (Nat.beq a D || Nat.beq a (D + 1))))
section PF
variable {h h' : Hp} {D : Nat}
theorem bor {a b : Bool} (h : (a || b) = false) : a = false ∧ b = false := by
  cases a <;> cases b <;> simp_all
theorem pS_a (x : FrS (fun a _ => Nat.beq a 80 || (Nat.beq a 81 || Nat.beq a 82)) h h') : FrS (pS D) h h' := x.mono (fun a i e => by
  obtain ⟨e1, e⟩ := bor e
  obtain ⟨e2, e⟩ := bor e
  obtain ⟨e3, e⟩ := bor e
  show (Nat.beq a 80 || (Nat.beq a 81 || Nat.beq a 82)) = false
  rw [e1, e2, e3]; rfl)
theorem pS_n (x : FrS (nS D) h h') : FrS (pS D) h h' := x.mono (fun a i e => by
  obtain ⟨e1, e⟩ := bor e
  obtain ⟨e2, e⟩ := bor e
  obtain ⟨e3, e⟩ := bor e
  exact e)
theorem pS_fr (y : okN D) (x : FrS (pS D) h h') : Fr h h' := x.mono (fun a i e => by
  have key : ∀ k, scr k i = true → Nat.beq a k = false := by
    intro k hk
    cases q : Nat.beq a k with
    | false => rfl
    | true =>
      obtain rfl := Nat.eq_of_beq_eq_true q
      rw [hk] at e; cases e
  unfold pS
  rcases y with rfl | rfl | rfl <;> (rw [key 80 rfl, key 81 rfl, key 82 rfl]; first | rw [key 94 rfl, key 95 rfl] | rw [key 96 rfl, key 97 rfl] | rw [key 98 rfl, key 99 rfl]) <;> rfl)
theorem NR_fr {E u : Nat} (y : okN D) (w : okN E) (hne : E ≠ D) (x : FrS (pS D) h h') (z : NR h E u) : NR h' E u := by
  have hf : ∀ a, a = E ∨ a = E + 1 → ∀ i, pS D a i = false := by
    intro a ha i
    have key : ∀ k, a ≠ k → Nat.beq a k = false := by
      intro k hk
      cases q : Nat.beq a k with
      | false => rfl
      | true => exact absurd (Nat.eq_of_beq_eq_true q) hk
    unfold okN at y w
    unfold pS
    rw [key 80 (by omega), key 81 (by omega), key 82 (by omega), key D (by omega), key (D + 1) (by omega)]
    rfl
  obtain ⟨s, f, a1, a2, a3, a4, a5, a6⟩ := z
  refine ⟨s, f, a1, a2, ?_, fun i hi => ⟨(a4 i hi).1, ?_⟩, a5, a6⟩
  · rw [x.g (hf E (Or.inl rfl) 1)]; exact a3
  · rw [x.g (hf (E + 1) (Or.inr rfl) i)]; exact (a4 i hi).2
end PF
theorem near_n (y : Int32) : ∃ j, 1 ≤ j ∧ j ≤ 99 ∧ q_near y (nI 1) (nI 99) = nI j := by
  have hr : rg (q_near y (nI 1) (nI 99)) 1 99 := by
    have h1 : (nI 1).toInt = 1 := by decide
    have h2 : (nI 99).toInt = 99 := by decide
    unfold rg q_near
    simp only [Int32.lt_iff_toInt_lt, apply_ite Int32.toInt, h1, h2]
    repeat' split
    all_goals omega
  have h3 := rg_n hr (by omega)
  exact ⟨_, by omega, by omega, rg_nI hr (by omega)⟩
theorem oddV_n (T : Tk) (w p r : Int32) : ∃ j, 1 ≤ j ∧ j ≤ 99 ∧ oddV T w p r = nI j := by
  unfold oddV
  cases tv T 0 (envF w p r (nI 0)) with
  | none => exact ⟨50, by omega, by omega, rfl⟩
  | some y => exact near_n y
/-- by how much a ring makes it less -/
noncomputable def fac (K : Nat → Int32) (T : Tk) (f r : Nat) : Nat := pif (nI 0 < K (9 * f + (3 + r))) (oddV T (K (9 * f)) (K (9 * f + 1)) (nI r)).toNatClampNeg (100 - (oddV T (K (9 * f)) (K (9 * f + 1)) (nI r)).toNatClampNeg)
noncomputable def prR (K : Nat → Int32) (T : Tk) (f r v : Nat) : Nat := pif (K (9 * f + (3 + r)) = -1) v (fac K T f r * v)
noncomputable def prF (K : Nat → Int32) (T : Tk) (wh : Int32) (f v : Nat) : Nat := pif (isOf K wh f) (q_lp (prR K T f) (nr K f) 0 v) v
noncomputable def prd (K : Nat → Int32) (T : Tk) (wh : Int32) : Nat := q_lp (prF K T wh) (nf K) 0 1
theorem fac_n (K : Nat → Int32) (T : Tk) (f r : Nat) : ∃ j, 1 ≤ j ∧ j ≤ 99 ∧ oddV T (K (9 * f)) (K (9 * f + 1)) (nI r) = nI j ∧ fac K T f r = (pif (nI 0 < K (9 * f + (3 + r))) j (100 - j)) ∧ 1 ≤ fac K T f r ∧ fac K T f r ≤ 99 := by
  obtain ⟨j, h1, h2, h3⟩ := oddV_n T (K (9 * f)) (K (9 * f + 1)) (nI r)
  have h4 : fac K T f r = (pif (nI 0 < K (9 * f + (3 + r))) j (100 - j)) := by
    unfold fac
    rw [h3, nI_clamp (by omega)]
  refine ⟨j, h1, h2, h3, h4, ?_⟩
  rw [h4]
  by_cases e : nI 0 < K (9 * f + (3 + r))
  · rw [pif_t e]; omega
  · rw [pif_f e]; omega
theorem prR_bd {K : Nat → Int32} {T : Tk} {f r v e : Nat} (hv : v ≤ 100 ^ e) : prR K T f r v ≤ 100 ^ (e + 1) := by
  obtain ⟨j, _, _, _, _, h5, h6⟩ := fac_n K T f r
  unfold prR
  by_cases q : K (9 * f + (3 + r)) = -1
  · rw [pif_t q]
    exact Nat.le_trans hv (Nat.pow_le_pow_right (by omega) (by omega))
  · rw [pif_f q, Nat.pow_succ, Nat.mul_comm (100 ^ e)]
    exact Nat.mul_le_mul (by omega) hv
theorem p100 {e : Nat} (he : e ≤ 150) : 100 * 100 ^ e < 10 ^ 310 := by
  have h1 : 100 ^ e ≤ 100 ^ 150 := Nat.pow_le_pow_right (by omega) he
  have h2 : (100 : Nat) * 100 ^ 150 < 10 ^ 310 := by decide
  have h3 := Nat.mul_le_mul_left 100 h1
  omega
section PC
variable {h : Hp} {K : Nat → Int32} {T : Tk} {t a D : Nat} {wh : Int32}
theorem cl138r (y : okN D) (z : STS h 0 K) (te : tEq K t T) (ta : tAt h a T) {f : Nat} (hf : f < nf K) : ∀ k r v h0 (v7 v8 : Value), r + k = nr K f → FrS (pS D) h h0 → NR h0 D v → v ≤ 100 ^ (6 * f + r) → ∃ h' w7 w8, FrS (pS D) h h' ∧ NR h' D (q_lp (prR K T f) k r v) ∧ q_lp (prR K T f) k r v ≤ 100 ^ (6 * f + nr K f) ∧ ∀ d F, wp true (d + 4) 138 43 [.ref 1, .ref a, .int wh, .ref D, .ref 3, .int (nI f), .int (nI r), v7, v8] [] h0 F = wp true (d + 4) 138 129 [.ref 1, .ref a, .int wh, .ref D, .ref 3, .int (nI f), .int (nI (nr K f)), w7, w8] [] h' F
  | 0, r, v, h0, v7, v8, e, x, hv, hb => by
    obtain rfl : r = nr K f := e
    have w := z.1
    have h1 := w.hnf
    have h2 := w.hnr hf
    have q := (STS_fr (pS_fr y x) (Or.inl rfl) z).2.1
    refine ⟨h0, v7, v8, x, hv, hb, fun d F => ?_⟩
    rw [r138_43]
    simp (disch := omega) only [r138_45, r138_45n, r138_47, r138_50, r138_52, r138_53, kdC, kdM, rpC, rpM, q_rs, q_rn, Option.toList_some, Option.toList_none, List.cons_append, List.nil_append, true_and, and_true, eq_self, ↓reduceIte, not_true_eq_false, not_false_eq_true, Nat.reduceEqDiff, Nat.reduceLeDiff, Nat.reduceLT, Nat.reduceAdd, Nat.reduceMul, Nat.reduceSub, false_or, or_false, true_or, or_true, false_and, and_false, reduceCtorEq, q_n0, q_n1, q_em, q_em2, q_b0, q_b1, Classical.not_not, nI_add, pk_mul, nI_clamp, q_vp, nI_eq, nI_leI, nI_ltI, q_sub, q.r, h2, Nat.le_refl, show f < 24 by omega]
  | k + 1, r, v, h0, v7, v8, e, x, hv, hb => by
    have w := z.1
    have h1 := w.hnf
    have h2 := w.hnr hf
    have q := (STS_fr (pS_fr y x) (Or.inl rfl) z).2.1
    have hpb := prR_bd (K := K) (T := T) (f := f) (r := r) hb
    by_cases c : K (9 * f + (3 + r)) = -1
    · have hp : prR K T f r v = v := by unfold prR; rw [pif_t c]
      obtain ⟨h', w7, w8, a1, a2, a3, a4⟩ := cl138r y z te ta hf k (r + 1) v h0 (.int (-1)) v8 (by omega) x hv (Nat.le_trans hb (Nat.pow_le_pow_right (by omega) (by omega)))
      show ∃ h' w7 w8, FrS (pS D) h h' ∧ NR h' D (q_lp (prR K T f) k (r + 1) (prR K T f r v)) ∧ q_lp (prR K T f) k (r + 1) (prR K T f r v) ≤ _ ∧ _
      rw [hp]
      refine ⟨h', w7, w8, a1, a2, a3, fun d F => ?_⟩
      rw [← a4, r138_43]
      simp (disch := omega) only [r138_45, r138_45n, r138_47, r138_50, r138_52, r138_53, r138_56, r138_56n, r138_58, r138_61, r138_63, r138_65, r138_66, r138_68, r138_69, r138_70, r138_72, r138_74, r138_75, r138_78, r138_79, r138_79n, r138_80, r138_80n, r138_82, r138_85, r138_87, r138_88, r138_88n, r138_90, r138_93, r138_95, r138_96, r138_98, r138_101, r138_103, r138_103n, r138_104, r138_104n, r138_105, r138_107, r138_110, r138_112, r138_115, r138_117, r138_119, r138_120, r138_123, r138_126, kdC, kdM, rpC, rpM, q_rs, q_rn, Option.toList_some, Option.toList_none, List.cons_append, List.nil_append, true_and, and_true, eq_self, ↓reduceIte, not_true_eq_false, not_false_eq_true, Nat.reduceEqDiff, Nat.reduceLeDiff, Nat.reduceLT, Nat.reduceAdd, Nat.reduceMul, Nat.reduceSub, false_or, or_false, true_or, or_true, false_and, and_false, reduceCtorEq, q_n0, q_n1, q_em, q_em2, q_b0, q_b1, Classical.not_not, nI_add, pk_mul, nI_clamp, q_vp, nI_eq, nI_leI, nI_ltI, q_sub, q.r, q.s, h2, c, show ¬ nr K f ≤ r by omega, show f < 24 by omega, show f * 6 + r < 144 by omega]
    · have hp : prR K T f r v = fac K T f r * v := by unfold prR; rw [pif_f c]
      obtain ⟨j, j1, j2, j3, j4, j5, j6⟩ := fac_n K T f r
      obtain ⟨hA, x1, x2⟩ := c137 te (tAt_fr (pS_fr y x) ta) (K (9 * f)) (K (9 * f + 1)) (nI r)
      have hvA : NR hA D v := by
        obtain ⟨s, g, b1, b2, b3, b4, b5, b6⟩ := hv
        have key : ∀ c i, c = D ∨ c = D + 1 → gI hA c i = gI h0 c i := fun c i hc => x1.g (by
          have kk : ∀ k, c ≠ k → Nat.beq c k = false := by
            intro k hk
            cases q : Nat.beq c k with
            | false => rfl
            | true => exact absurd (Nat.eq_of_beq_eq_true q) hk
          unfold okN at y
          show (Nat.beq c 80 || (Nat.beq c 81 || Nat.beq c 82)) = false
          rw [kk 80 (by omega), kk 81 (by omega), kk 82 (by omega)]
          rfl)
        exact ⟨s, g, b1, b2, by rw [key D 1 (Or.inl rfl)]; exact b3, fun i hi => ⟨(b4 i hi).1, by rw [key (D + 1) i (Or.inr rfl)]; exact (b4 i hi).2⟩, b5, b6⟩
      have hmb : fac K T f r * v < 10 ^ 310 := by
        have := p100 (e := 6 * f + r) (by omega)
        have h3 : fac K T f r * v ≤ 100 * 100 ^ (6 * f + r) := Nat.mul_le_mul (by omega) hb
        omega
      obtain ⟨hB, x3, x4, x5⟩ := c30 hA y y (m := fac K T f r) ⟨j5, by omega⟩ hvA hmb
      have xB : FrS (pS D) h hB := (x.trans (pS_a x1)).trans (pS_n x4)
      rw [hp] at hpb
      obtain ⟨h', w7, w8, a1, a2, a3, a4⟩ := cl138r y z te ta hf k (r + 1) (fac K T f r * v) hB (.int (K (9 * f + (3 + r)))) (.int (nI j)) (by omega) xB x3 hpb
      show ∃ h' w7 w8, FrS (pS D) h h' ∧ NR h' D (q_lp (prR K T f) k (r + 1) (prR K T f r v)) ∧ q_lp (prR K T f) k (r + 1) (prR K T f r v) ≤ _ ∧ _
      rw [hp]
      refine ⟨h', w7, w8, a1, a2, a3, fun d F => ?_⟩
      have x2' := fun F => x2 d F
      rw [j3] at x2'
      have kD := y.k.1
      rw [← a4, r138_43]
      by_cases c2 : nI 0 < K (9 * f + (3 + r))
      · have hfj : fac K T f r = j := by rw [j4, pif_t c2]
        rw [hfj] at x5
        simp (disch := omega) only [r138_45, r138_45n, r138_47, r138_50, r138_52, r138_53, r138_56, r138_56n, r138_58, r138_61, r138_63, r138_65, r138_66, r138_68, r138_69, r138_70, r138_72, r138_74, r138_75, r138_78, r138_79, r138_79n, r138_80, r138_80n, r138_82, r138_85, r138_87, r138_88, r138_88n, r138_90, r138_93, r138_95, r138_96, r138_98, r138_101, r138_103, r138_103n, r138_104, r138_104n, r138_105, r138_107, r138_110, r138_112, r138_115, r138_117, r138_119, r138_120, r138_123, r138_126, x2', x5, kD, kdC, kdM, rpC, rpM, q_rs, q_rn, Option.toList_some, Option.toList_none, List.cons_append, List.nil_append, true_and, and_true, eq_self, ↓reduceIte, not_true_eq_false, not_false_eq_true, Nat.reduceEqDiff, Nat.reduceLeDiff, Nat.reduceLT, Nat.reduceAdd, Nat.reduceMul, Nat.reduceSub, false_or, or_false, true_or, or_true, false_and, and_false, reduceCtorEq, q_n0, q_n1, q_em, q_em2, q_b0, q_b1, Classical.not_not, nI_add, pk_mul, nI_clamp, q_vp, nI_eq, nI_leI, nI_ltI, q_sub, q.r, q.s, q.w, q.p, h2, c, Int32.not_le.mpr c2, show ¬ nr K f ≤ r by omega, show f < 24 by omega, show f * 6 + r < 144 by omega]
      · have hfj : fac K T f r = 100 - j := by rw [j4, pif_f c2]
        rw [hfj] at x5
        simp (disch := omega) only [r138_45, r138_45n, r138_47, r138_50, r138_52, r138_53, r138_56, r138_56n, r138_58, r138_61, r138_63, r138_65, r138_66, r138_68, r138_69, r138_70, r138_72, r138_74, r138_75, r138_78, r138_79, r138_79n, r138_80, r138_80n, r138_82, r138_85, r138_87, r138_88, r138_88n, r138_90, r138_93, r138_95, r138_96, r138_98, r138_101, r138_103, r138_103n, r138_104, r138_104n, r138_105, r138_107, r138_110, r138_112, r138_115, r138_117, r138_119, r138_120, r138_123, r138_126, x2', x5, kD, kdC, kdM, rpC, rpM, q_rs, q_rn, Option.toList_some, Option.toList_none, List.cons_append, List.nil_append, true_and, and_true, eq_self, ↓reduceIte, not_true_eq_false, not_false_eq_true, Nat.reduceEqDiff, Nat.reduceLeDiff, Nat.reduceLT, Nat.reduceAdd, Nat.reduceMul, Nat.reduceSub, false_or, or_false, true_or, or_true, false_and, and_false, reduceCtorEq, q_n0, q_n1, q_em, q_em2, q_b0, q_b1, Classical.not_not, nI_add, pk_mul, nI_clamp, q_vp, nI_eq, nI_leI, nI_ltI, q_sub, q.r, q.s, q.w, q.p, h2, c, Int32.not_lt.mp c2, show ¬ nr K f ≤ r by omega, show f < 24 by omega, show f * 6 + r < 144 by omega]
theorem cl138 (y : okN D) (z : STS h 0 K) (te : tEq K t T) (ta : tAt h a T) : ∀ k f v h0 (v6 v7 v8 : Value), f + k = nf K → FrS (pS D) h h0 → NR h0 D v → v ≤ 100 ^ (6 * f) → ∃ h', FrS (pS D) h h' ∧ NR h' D (q_lp (prF K T wh) k f v) ∧ q_lp (prF K T wh) k f v ≤ 100 ^ 144 ∧ ∀ d F, wp true (d + 4) 138 16 [.ref 1, .ref a, .int wh, .ref D, .ref 3, .int (nI f), v6, v7, v8] [] h0 F = F none h'
  | 0, f, v, h0, v6, v7, v8, e, x, hv, hb => by
    obtain rfl : f = nf K := e
    have w := z.1
    have h1 := w.hnf
    have q := (STS_fr (pS_fr y x) (Or.inl rfl) z).2.1
    refine ⟨h0, x, hv, Nat.le_trans hb (Nat.pow_le_pow_right (by omega) (by omega)), fun d F => ?_⟩
    rw [r138_16]
    simp (disch := omega) only [e138, r138_0, r138_1, r138_4, r138_7, r138_7n, r138_9, r138_9n, r138_10, r138_13, r138_14, r138_18, r138_18n, r138_20, r138_23, r138_26, r138_26n, r138_28, r138_29, r138_31, r138_34, r138_37, r138_40, r138_41, r138_45, r138_45n, r138_47, r138_50, r138_52, r138_53, r138_56, r138_56n, r138_58, r138_61, r138_63, r138_65, r138_66, r138_68, r138_69, r138_70, r138_72, r138_74, r138_75, r138_78, r138_79, r138_79n, r138_80, r138_80n, r138_82, r138_85, r138_87, r138_88, r138_88n, r138_90, r138_93, r138_95, r138_96, r138_98, r138_101, r138_103, r138_103n, r138_104, r138_104n, r138_105, r138_107, r138_110, r138_112, r138_115, r138_117, r138_119, r138_120, r138_123, r138_126, r138_129, r138_132, r138_135, kdC, kdM, rpC, rpM, q_rs, q_rn, Option.toList_some, Option.toList_none, List.cons_append, List.nil_append, true_and, and_true, eq_self, ↓reduceIte, not_true_eq_false, not_false_eq_true, Nat.reduceEqDiff, Nat.reduceLeDiff, Nat.reduceLT, Nat.reduceAdd, Nat.reduceMul, Nat.reduceSub, false_or, or_false, true_or, or_true, false_and, and_false, reduceCtorEq, q_n0, q_n1, q_em, q_em2, q_b0, q_b1, Classical.not_not, nI_add, pk_mul, nI_clamp, q_vp, nI_eq, nI_leI, nI_ltI, q_sub, q.hnf, h1, Nat.le_refl]
  | k + 1, f, v, h0, v6, v7, v8, e, x, hv, hb => by
    have w := z.1
    have h1 := w.hnf
    have hf : f < nf K := by omega
    have h2 := w.hnr hf
    have q := (STS_fr (pS_fr y x) (Or.inl rfl) z).2.1
    show ∃ h', FrS (pS D) h h' ∧ NR h' D (q_lp (prF K T wh) k (f + 1) (prF K T wh f v)) ∧ q_lp (prF K T wh) k (f + 1) (prF K T wh f v) ≤ _ ∧ _
    by_cases c : isOf K wh f
    · obtain ⟨h1', w7, w8, b1, b2, b3, b4⟩ := cl138r (wh := wh) y z te ta hf (nr K f) 0 v h0 v7 v8 (by omega) x hv (by rw [Nat.add_zero]; exact hb)
      have hp : prF K T wh f v = q_lp (prR K T f) (nr K f) 0 v := by unfold prF; rw [pif_t c]
      rw [hp]
      obtain ⟨h', a1, a2, a3, a4⟩ := cl138 y z te ta k (f + 1) _ h1' (.int (nI (nr K f))) w7 w8 (by omega) b1 b2 (Nat.le_trans b3 (Nat.pow_le_pow_right (by omega) (by omega)))
      refine ⟨h', a1, a2, a3, fun d F => ?_⟩
      refine Eq.trans ?_ (a4 d F)
      rw [r138_16]
      simp (disch := omega) only [r138_18, r138_18n, r138_20, r138_23, r138_26, r138_26n, r138_28, r138_29, r138_31, r138_34, r138_37, r138_40, r138_41, cc16 _ h0 _ w q wh hf, kdC, kdM, rpC, rpM, q_rs, q_rn, Option.toList_some, Option.toList_none, List.cons_append, List.nil_append, true_and, and_true, eq_self, ↓reduceIte, not_true_eq_false, not_false_eq_true, Nat.reduceEqDiff, Nat.reduceLeDiff, Nat.reduceLT, Nat.reduceAdd, Nat.reduceMul, Nat.reduceSub, false_or, or_false, true_or, or_true, false_and, and_false, reduceCtorEq, q_n0, q_n1, q_em, q_em2, q_b0, q_b1, Classical.not_not, nI_add, pk_mul, nI_clamp, q_vp, nI_eq, nI_leI, nI_ltI, q_sub, q.hnf, h1, c, show ¬ nf K ≤ f by omega]
      refine Eq.trans (b4 d F) ?_
      simp (disch := omega) only [r138_129, r138_132, nI_add, pk_mul, nI_clamp, q_vp, nI_eq, nI_leI, nI_ltI, q_sub]
    · have hp : prF K T wh f v = v := by unfold prF; rw [pif_f c]
      rw [hp]
      obtain ⟨h', a1, a2, a3, a4⟩ := cl138 y z te ta k (f + 1) v h0 v6 v7 v8 (by omega) x hv (Nat.le_trans hb (Nat.pow_le_pow_right (by omega) (by omega)))
      refine ⟨h', a1, a2, a3, fun d F => ?_⟩
      refine Eq.trans ?_ (a4 d F)
      rw [r138_16]
      simp (disch := omega) only [r138_18, r138_18n, r138_20, r138_23, r138_26, r138_26n, r138_28, r138_29, r138_31, r138_34, r138_37, r138_129, r138_132, cc16 _ h0 _ w q wh hf, kdC, kdM, rpC, rpM, q_rs, q_rn, Option.toList_some, Option.toList_none, List.cons_append, List.nil_append, true_and, and_true, eq_self, ↓reduceIte, not_true_eq_false, not_false_eq_true, Nat.reduceEqDiff, Nat.reduceLeDiff, Nat.reduceLT, Nat.reduceAdd, Nat.reduceMul, Nat.reduceSub, false_or, or_false, true_or, or_true, false_and, and_false, reduceCtorEq, q_n0, q_n1, q_em, q_em2, q_b0, q_b1, Classical.not_not, nI_add, pk_mul, nI_clamp, q_vp, nI_eq, nI_leI, nI_ltI, q_sub, q.hnf, h1, c, show ¬ nf K ≤ f by omega]
theorem c138 (y : okN D) (z : STS h 0 K) (te : tEq K t T) (ta : tAt h a T) (wh : Int32) : ∃ h', FrS (pS D) h h' ∧ NR h' D (prd K T wh) ∧ prd K T wh ≤ 100 ^ 144 ∧ ∀ d F, cwp true (d + 4) 138 [.ref 1, .ref a, .int wh, .ref D] h F = F none h' := by
  obtain ⟨h1, x1, x2, x3⟩ := c29 h y
  obtain ⟨h', a1, a2, a3, a4⟩ := cl138 (wh := wh) y z te ta (nf K) 0 1 h1 jn jn jn (by omega) (pS_n x2) x1 (by decide)
  refine ⟨h', a1, a2, a3, fun d F => ?_⟩
  have kD := y.k.1
  refine Eq.trans ?_ (a4 d F)
  simp (disch := omega) only [r138_0, r138_1, r138_4, r138_7, r138_7n, r138_9, r138_9n, r138_10, r138_13, r138_14, e138, x3, kD, kdC, kdM, rpC, rpM, q_rs, q_rn, Option.toList_some, Option.toList_none, List.cons_append, List.nil_append, true_and, and_true, eq_self, ↓reduceIte, not_true_eq_false, not_false_eq_true, Nat.reduceEqDiff, Nat.reduceLeDiff, Nat.reduceLT, Nat.reduceAdd, Nat.reduceMul, Nat.reduceSub, false_or, or_false, true_or, or_true, false_and, and_false, reduceCtorEq, q_n0, q_n1, q_em, q_em2, q_b0, q_b1, Classical.not_not]
end PC
