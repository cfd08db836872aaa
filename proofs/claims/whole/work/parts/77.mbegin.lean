/-! the model's talk begins; how the votes are counted -/
section MB
variable {h : Hp} {K : Nat → Int32} {T : Tk} {ts : Nat}
theorem ml246a (hK : gI h 103 = K) (w : WF K) (v1 v2 v3 v4 v6 : Value) : ∀ k t h0, t + k = nt K → FrS mtS h h0 → (∀ u, u < t → MD h0 u = (K (244 + 5 * u + 3), nI 0)) → ∃ h', FrS mtS h h' ∧ (∀ u, u < nt K → MD h' u = (K (244 + 5 * u + 3), nI 0)) ∧ ∀ d F, wp true (d + 1) 246 3 [.ref 101, v1, v2, v3, v4, .int (nI t), v6] [] h0 F = wp true (d + 1) 246 40 [.ref 101, v1, v2, v3, v4, .int (nI (nt K)), v6] [] h' F
  | 0, t, h0, e, x, i1 => by
    obtain rfl : t = nt K := e
    have h2 := w.hnt
    have hK0 : gI h0 103 = K := (Mt_fr x).K.trans hK
    refine ⟨h0, x, i1, fun d F => ?_⟩
    rw [r246_3]
    simp (disch := omega) only [r246_5, r246_6, r246_9, m232 _ h0 _ hK0 w, kdC, kdM, rpC, rpM, q_rs, q_rn, Option.toList_some, Option.toList_none, List.cons_append, List.nil_append, true_and, and_true, eq_self, ↓reduceIte, not_true_eq_false, not_false_eq_true, Nat.reduceEqDiff, Nat.reduceLeDiff, Nat.reduceLT, Nat.reduceAdd, Nat.reduceMul, Nat.reduceSub, false_or, or_false, true_or, or_true, false_and, and_false, reduceCtorEq, q_n0, q_n1, q_em, q_em2, q_b0, q_b1, Classical.not_not, nI_add, pk_mul, nI_clamp, q_vp, nI_eq, nI_leI, nI_ltI, q_sub, Nat.le_refl]
  | k + 1, t, h0, e, x, i1 => by
    have h2 := w.hnt
    have ht12 : t < 12 := by omega
    have hK0 : gI h0 103 = K := (Mt_fr x).K.trans hK
    have t3 := fun F d => m234 d h0 F hK0 ht12 (show 3 < 5 by omega)
    obtain ⟨h', a1, a2, a3⟩ := ml246a hK w v1 v2 v3 v4 v6 k (t + 1) (sI (sI h0 119 t (K (244 + 5 * t + 3))) 120 t (nI 0)) (by omega) ((x.sI _ rfl).sI _ rfl) (by
      intro u hu
      by_cases eu : u = t
      · subst eu; unfold MD; rw [q_gn (by omega), q_gs, q_gs]
      · have := i1 u (by omega)
        unfold MD at *
        rw [q_gn (by omega), q_gm eu, q_gm eu, q_gn (by omega)]; exact this)
    refine ⟨h', a1, a2, fun d F => ?_⟩
    refine Eq.trans ?_ (a3 d F)
    rw [r246_3]
    simp (disch := omega) only [r246_5, r246_6, r246_9, r246_12, r246_13, r246_16, r246_18, r246_19, r246_21, r246_22, r246_25, r246_26, r246_27, r246_30, r246_32, r246_33, r246_34, r246_37, m232 _ h0 _ hK0 w, t3, kdC, kdM, rpC, rpM, q_rs, q_rn, Option.toList_some, Option.toList_none, List.cons_append, List.nil_append, true_and, and_true, eq_self, ↓reduceIte, not_true_eq_false, not_false_eq_true, Nat.reduceEqDiff, Nat.reduceLeDiff, Nat.reduceLT, Nat.reduceAdd, Nat.reduceMul, Nat.reduceSub, false_or, or_false, true_or, or_true, false_and, and_false, reduceCtorEq, q_n0, q_n1, q_em, q_em2, q_b0, q_b1, Classical.not_not, nI_add, pk_mul, nI_clamp, q_vp, nI_eq, nI_leI, nI_ltI, q_sub, ht12, show ¬ nt K ≤ t by omega]
/-- the set of those who stop it -/
noncomputable def stB (P : Nat → Prop) : Nat → Nat
  | 0 => 0
  | n + 1 => stB P n ||| pif (P n) (2 ^ n) 0
theorem stB_lt (P : Nat → Prop) : ∀ n, stB P n < 2 ^ n
  | 0 => by unfold stB; decide
  | n + 1 => by
    unfold stB
    have h1 := stB_lt P n
    apply Nat.or_lt_two_pow
    · rw [Nat.pow_succ]; omega
    · by_cases e : P n
      · rw [pif_t e, Nat.pow_succ]; have := Nat.two_pow_pos n; omega
      · rw [pif_f e]; exact Nat.two_pow_pos _
/-- asking each whether it is to be stopped: only words and what is told change -/
def mvS (a i : Nat) : Bool := ms a i || (Nat.beq a 101 && Nat.beq i 32)
theorem Am_mv {h h' : Hp} (x : Am h h') : FrS mvS h h' := x.1.mono (fun a i e => (bor e).1)
theorem Mv_n {h h' : Hp} (x : FrS mvS h h') {a : Nat} (h1 : a ≠ 101) (h2 : a ≠ 112) : gI h' a = gI h a := x.G (fun i => by
  unfold mvS ms
  cases e1 : Nat.beq a 112 with
  | true => exact absurd (Nat.eq_of_beq_eq_true e1) h2
  | false =>
    cases e2 : Nat.beq a 101 with
    | true => exact absurd (Nat.eq_of_beq_eq_true e2) h1
    | false => rfl)
theorem ml246c (hK : gI h 103 = K) (w : WF K) (hts : ts < 10) (te : tEq K ts T) (v1 v3 v4 : Value) : ∀ k t h0, t + k = nt K → FrS mvS h h0 → gI h0 101 32 = nI (stB (fun t => isStp K T t (MD h t)) t) → ∃ h', FrS mvS h h' ∧ gI h' 101 32 = nI (stB (fun t => isStp K T t (MD h t)) (nt K)) ∧ ∀ d F, wp true (d + 68) 246 108 [.ref 101, v1, .int (nI ts), v3, v4, .int (nI (cntT (fun t => isStp K T t (MD h t)) t)), .int (nI t)] [] h0 F = F (some (.int (nI (cntT (fun t => isStp K T t (MD h t)) (nt K))))) h'
  | 0, t, h0, e, x, i1 => by
    obtain rfl : t = nt K := e
    have h2 := w.hnt
    have hK0 : gI h0 103 = K := (Mv_n x (by omega) (by omega)).trans hK
    refine ⟨h0, x, i1, fun d F => ?_⟩
    rw [r246_108]
    simp (disch := omega) only [e246, r246_0, r246_1, r246_5, r246_6, r246_9, r246_12, r246_13, r246_16, r246_18, r246_19, r246_21, r246_22, r246_25, r246_26, r246_27, r246_30, r246_32, r246_33, r246_34, r246_37, r246_40, r246_41, r246_42, r246_45, r246_46, r246_47, r246_48, r246_51, r246_55, r246_56, r246_59, r246_61, r246_64, r246_65, r246_67, r246_70, r246_71, r246_72, r246_75, r246_78, r246_79, r246_81, r246_82, r246_85, r246_86, r246_87, r246_89, r246_92, r246_94, r246_97, r246_98, r246_99, r246_102, r246_103, r246_105, r246_106, r246_110, r246_111, r246_114, r246_117, r246_118, r246_120, r246_121, r246_124, r246_125, r246_126, r246_127, r246_130, r246_131, r246_134, r246_137, r246_138, r246_140, r246_141, r246_144, r246_147, r246_150, r246_151, r246_152, r246_155, r246_156, r246_158, r246_159, r246_160, r246_163, r246_166, r246_169, r246_172, r246_174, m232 _ h0 _ hK0 w, kdC, kdM, rpC, rpM, q_rs, q_rn, Option.toList_some, Option.toList_none, List.cons_append, List.nil_append, true_and, and_true, eq_self, ↓reduceIte, not_true_eq_false, not_false_eq_true, Nat.reduceEqDiff, Nat.reduceLeDiff, Nat.reduceLT, Nat.reduceAdd, Nat.reduceMul, Nat.reduceSub, false_or, or_false, true_or, or_true, false_and, and_false, reduceCtorEq, q_n0, q_n1, q_em, q_em2, q_b0, q_b1, Classical.not_not, nI_add, pk_mul, nI_clamp, q_vp, nI_eq, nI_leI, nI_ltI, q_sub, Nat.le_refl]
  | k + 1, t, h0, e, x, i1 => by
    have h2 := w.hnt
    have ht12 : t < 12 := by omega
    have hK0 : gI h0 103 = K := (Mv_n x (by omega) (by omega)).trans hK
    have hmd : (gI h0 119 t, gI h0 120 t) = MD h t := by unfold MD; rw [Mv_n x (by omega) (by omega), Mv_n x (by omega) (by omega)]
    have h243 := fun F d => m243n (h := h0) hK0 ht12 d F
    have hA := meT_a (h := h0) (K (244 + 5 * t)) (K (244 + 5 * t + 1)) (K (244 + 5 * t + 2)) (gI h0 119 t) (gI h0 120 t)
    have hE := meT_e (h := h0) (K := K) t (gI h0 119 t, gI h0 120 t)
    generalize meT h0 (K (244 + 5 * t)) (K (244 + 5 * t + 1)) (K (244 + 5 * t + 2)) (gI h0 119 t) (gI h0 120 t) = g3 at *
    rw [hmd] at hE
    obtain ⟨u, u1, u2⟩ := te.2.2.2 (gI g3 112)
    have h3 : tSay T 3 (gI g3 112) = tSay T 3 (envT K t (MD h t) (nI 0) (nI 0) (nI 0)) := vho_env hE _ _ _ _
    rw [h3] at u2
    obtain ⟨g5, x1, x2, x3, x4, x5⟩ := m200 (hA.fr.K.trans hK0) hts te.1 (hd := 3) (by omega) u1
    have hA5 : Am h0 g5 := hA.trans x1
    have hK5 : gI g5 103 = K := hA5.fr.K.trans hK0
    have n32 : gI g5 101 32 = nI (stB (fun t => isStp K T t (MD h t)) t) := by rw [hA5.1.g (a := 101) (i := 32) rfl]; exact i1
    have t4 := fun F d => m234 d g5 F hK5 ht12 (show 4 < 5 by omega)
    have hlt := stB_lt (fun t => isStp K T t (MD h t)) t
    have hp : 2 ^ t ≤ 2 ^ 12 := Nat.pow_le_pow_right (by omega) (by omega)
    have x5' := fun d F => x5 d F
    by_cases c : isStp K T t (MD h t)
    · have c1 : u.isSome = true := u2.mpr c.2
      have x4' : gI g5 101 22 = nI 1 := by rw [x4, c1]; rfl
      have hor : nI (stB (fun t => isStp K T t (MD h t)) t) ||| nI 1 <<< (nI t &&& 31) = nI (stB (fun t => isStp K T t (MD h t)) (t + 1)) := by
        show _ = nI (stB (fun t => isStp K T t (MD h t)) t ||| pif (isStp K T t (MD h t)) (2 ^ t) 0)
        rw [pif_t c, n_shl (by omega) (by omega), Nat.one_mul, n_or]
      obtain ⟨h', a1, a2, a3⟩ := ml246c hK w hts te v1 v3 v4 k (t + 1) (sI g5 101 32 (nI (stB (fun t => isStp K T t (MD h t)) (t + 1)))) (by omega) ((x.trans (Am_mv hA5)).sI _ rfl) (q_gs _ _ _ _)
      refine ⟨h', a1, a2, fun d F => ?_⟩
      refine Eq.trans ?_ (a3 d F)
      rw [cnt_s, pif_t c, r246_108]
      simp (disch := omega) only [r246_110, r246_111, r246_114, r246_117, r246_118, r246_120, r246_121, r246_124, r246_125, r246_126, r246_127, r246_130, r246_131, r246_134, r246_137, r246_138, r246_140, r246_141, r246_144, r246_147, r246_150, r246_151, r246_152, r246_155, r246_156, r246_158, r246_159, r246_160, r246_163, r246_166, r246_169, m232 _ h0 _ hK0 w, h243, x5', x4', t4, n32, hor, c.1, kdC, kdM, rpC, rpM, q_rs, q_rn, Option.toList_some, Option.toList_none, List.cons_append, List.nil_append, true_and, and_true, eq_self, ↓reduceIte, not_true_eq_false, not_false_eq_true, Nat.reduceEqDiff, Nat.reduceLeDiff, Nat.reduceLT, Nat.reduceAdd, Nat.reduceMul, Nat.reduceSub, false_or, or_false, true_or, or_true, false_and, and_false, reduceCtorEq, q_n0, q_n1, q_em, q_em2, q_b0, q_b1, Classical.not_not, nI_add, pk_mul, nI_clamp, q_vp, nI_eq, nI_leI, nI_ltI, q_sub, show ¬ nt K ≤ t by omega]
    · obtain ⟨h', a1, a2, a3⟩ := ml246c hK w hts te v1 v3 v4 k (t + 1) g5 (by omega) (x.trans (Am_mv hA5)) (by
        rw [n32]
        show _ = nI (stB (fun t => isStp K T t (MD h t)) t ||| pif (isStp K T t (MD h t)) (2 ^ t) 0)
        rw [pif_f c, Nat.or_zero])
      refine ⟨h', a1, a2, fun d F => ?_⟩
      refine Eq.trans ?_ (a3 d F)
      rw [cnt_s, pif_f c, r246_108]
      cases cu : u.isSome with
      | false =>
        have x4' : gI g5 101 22 = nI 0 := by rw [x4, cu]; rfl
        simp (disch := omega) only [r246_110, r246_111, r246_114, r246_117, r246_118, r246_120, r246_121, r246_124, r246_125, r246_126, r246_127, r246_130, r246_131, r246_134, r246_137, r246_138, r246_140, r246_141, r246_144, r246_147, r246_150, r246_151, r246_152, r246_155, r246_156, r246_158, r246_159, r246_160, r246_163, r246_166, r246_169, m232 _ h0 _ hK0 w, h243, x5', x4', kdC, kdM, rpC, rpM, q_rs, q_rn, Option.toList_some, Option.toList_none, List.cons_append, List.nil_append, true_and, and_true, eq_self, ↓reduceIte, not_true_eq_false, not_false_eq_true, Nat.reduceEqDiff, Nat.reduceLeDiff, Nat.reduceLT, Nat.reduceAdd, Nat.reduceMul, Nat.reduceSub, false_or, or_false, true_or, or_true, false_and, and_false, reduceCtorEq, q_n0, q_n1, q_em, q_em2, q_b0, q_b1, Classical.not_not, nI_add, pk_mul, nI_clamp, q_vp, nI_eq, nI_leI, nI_ltI, q_sub, Nat.add_zero, show ¬ nt K ≤ t by omega]
      | true =>
        have x4' : gI g5 101 22 = nI 1 := by rw [x4, cu]; rfl
        have cv : K (244 + 5 * t + 4) = nI 0 := Classical.byContradiction (fun z => c ⟨z, u2.mp cu⟩)
        simp (disch := omega) only [r246_110, r246_111, r246_114, r246_117, r246_118, r246_120, r246_121, r246_124, r246_125, r246_126, r246_127, r246_130, r246_131, r246_134, r246_137, r246_138, r246_140, r246_141, r246_144, r246_147, r246_150, r246_151, r246_152, r246_155, r246_156, r246_158, r246_159, r246_160, r246_163, r246_166, r246_169, m232 _ h0 _ hK0 w, h243, x5', x4', t4, cv, kdC, kdM, rpC, rpM, q_rs, q_rn, Option.toList_some, Option.toList_none, List.cons_append, List.nil_append, true_and, and_true, eq_self, ↓reduceIte, not_true_eq_false, not_false_eq_true, Nat.reduceEqDiff, Nat.reduceLeDiff, Nat.reduceLT, Nat.reduceAdd, Nat.reduceMul, Nat.reduceSub, false_or, or_false, true_or, or_true, false_and, and_false, reduceCtorEq, q_n0, q_n1, q_em, q_em2, q_b0, q_b1, Classical.not_not, nI_add, pk_mul, nI_clamp, q_vp, nI_eq, nI_leI, nI_ltI, q_sub, Nat.add_zero, show ¬ nt K ≤ t by omega]
end MB
