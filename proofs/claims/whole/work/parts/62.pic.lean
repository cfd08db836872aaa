/-! pictures -/
noncomputable def kfV (K : Nat → Int32) (T : Tk) (f : Nat) : Int32 := (tv T 2 (envF (K (9 * f)) (K (9 * f + 1)) (nI 0) (wst K f))).getD (nI 0)
abbrev PiS : Type := (Nat → Int32) × Nat
noncomputable def pic1 (K : Nat → Int32) (T : Tk) (wh : Int32) (f : Nat) (z : PiS) : PiS := pif (isOf K wh f) (tin (kfV K T) f z.2 z.1, z.2 + 1) z
noncomputable def pic (K : Nat → Int32) (T : Tk) (wh : Int32) : PiS := q_lp (pic1 K T wh) (nf K) 0 (fun _ => nI 0, 0)
def okP (n : Nat) (z : PiS) : Prop := z.2 ≤ n ∧ ∀ i, i < z.2 → ∃ j, j < n ∧ z.1 i = nI j
theorem tin_cg (mi : Nat → Int32) (x : Nat) : ∀ a (O O' : Nat → Int32), (∀ i, i < a → O i = O' i) → ∀ i, i ≤ a → tin mi x a O i = tin mi x a O' i
  | 0, O, O', hO, i, hi => by
    obtain rfl : i = 0 := by omega
    unfold tin
    rw [pk_us, pk_us]
  | a + 1, O, O', hO, i, hi => by
    unfold tin
    rw [hO a (by omega)]
    by_cases e : mi x < mi (O' a).toNatClampNeg
    · rw [pif_t e, pif_t e]
      by_cases e2 : i ≤ a
      · exact tin_cg mi x a _ _ (fun j hj => by rw [pk_un (by omega), pk_un (by omega)]; exact hO j (by omega)) i e2
      · obtain rfl : i = a + 1 := by omega
        obtain ⟨p, _, _, _, _, q4, _⟩ := tin_sp mi x a (upd O (a + 1) (O' a))
        obtain ⟨p', _, _, _, _, q4', _⟩ := tin_sp mi x a (upd O' (a + 1) (O' a))
        rw [q4 (a + 1) (by omega), q4' (a + 1) (by omega), pk_us, pk_us]
    · rw [pif_f e, pif_f e]
      unfold upd
      by_cases e2 : i = a + 1
      · rw [if_pos e2, if_pos e2]
      · rw [if_neg e2, if_neg e2]; exact hO i (by omega)
theorem tin_ok {mi : Nat → Int32} {x n s : Nat} {O : Nat → Int32} (hx : x < n) (hO : ∀ i, i < s → ∃ j, j < n ∧ O i = nI j) : ∀ i, i < s + 1 → ∃ j, j < n ∧ tin mi x s O i = nI j := by
  intro i hi
  obtain ⟨p, hp, q1, q2, q3, q4, _, _⟩ := tin_sp mi x s O
  by_cases c1 : i < p
  · obtain ⟨j, h1, h2⟩ := hO i (by omega)
    exact ⟨j, h1, by rw [q1 i c1]; exact h2⟩
  · by_cases c2 : i = p
    · exact ⟨x, hx, by rw [c2]; exact q2⟩
    · obtain ⟨k, rfl⟩ : ∃ k, i = k + 1 := ⟨i - 1, by omega⟩
      obtain ⟨j, h1, h2⟩ := hO k (by omega)
      exact ⟨j, h1, by rw [q3 k (by omega) (by omega)]; exact h2⟩
theorem pic1_ok {K : Nat → Int32} {T : Tk} {wh : Int32} {f : Nat} {z : PiS} (hz : okP f z) : okP (f + 1) (pic1 K T wh f z) := by
  unfold pic1
  by_cases c : isOf K wh f
  · rw [pif_t c]
    exact ⟨by show z.2 + 1 ≤ f + 1; have := hz.1; omega, tin_ok (by omega) (fun i hi => by obtain ⟨j, h1, h2⟩ := hz.2 i hi; exact ⟨j, by omega, h2⟩)⟩
  · rw [pif_f c]
    exact ⟨by have := hz.1; omega, fun i hi => by obtain ⟨j, h1, h2⟩ := hz.2 i hi; exact ⟨j, by omega, h2⟩⟩
/-- the class's picture -/
def CP (K : Nat → Int32) (T : Tk) (h : Hp) (z : PiS) : Prop := gI h 83 5 = nI z.2 ∧ (∀ i, i < z.2 → gI h 84 i = z.1 i) ∧ ∀ i, i < z.2 → gI h 85 i = kfV K T (z.1 i).toNatClampNeg
theorem pq_84 (h : Hp) (O Q : Nat → Int32) (i : Nat) (v : Int32) : sI (sA (sA h 84 O) 85 Q) 84 i v = sA (sA h 84 (upd O i v)) 85 Q := by
  rw [q_sIA, q_gan (by omega), q_ga, q_sAc (by omega), q_sAA]
section PD
variable {K : Nat → Int32} {T : Tk}
theorem cl34 (h : Hp) {f s : Nat} (hs : s < 24) (h5 : gI h 83 5 = nI s) : ∀ a O Q, a ≤ s → (∀ i, i < a → ∃ j, j < 24 ∧ O i = nI j) → (∀ i, i ≤ s → i ≠ a → Q i = kfV K T (O i).toNatClampNeg) → f < 24 → ∃ Q', (∀ i, i ≤ s → Q' i = kfV K T (tin (kfV K T) f a O i).toNatClampNeg) ∧ ∀ d F, wp true d 34 5 [.ref 83, .int (nI f), .int (kfV K T f), .int (nI a)] [] (sA (sA h 84 O) 85 Q) F = F none (sI (sA (sA h 84 (tin (kfV K T) f a O)) 85 Q') 83 5 (nI (s + 1)))
  | 0, O, Q, ha, hO, hQ, hf => by
    refine ⟨upd Q 0 (kfV K T f), fun i hi => ?_, fun d F => ?_⟩
    · unfold tin
      by_cases e : i = 0
      · subst e; rw [pk_us, pk_us, nI_clamp (by omega)]
      · rw [pk_un e, pk_un e]; exact hQ i hi e
    · have g5 : ∀ O Q, gI (sA (sA h 84 O) 85 Q) 83 5 = nI s := fun O Q => by rw [q_gan (by omega), q_gan (by omega)]; exact h5
      rw [r34_5]
      simp (disch := omega) only [e34, r34_0, r34_1, r34_4, r34_6, r34_9, r34_10, r34_13, r34_14, r34_15, r34_16, r34_17, r34_18, r34_21, r34_22, r34_25, r34_26, r34_27, r34_30, r34_31, r34_32, r34_33, r34_34, r34_35, r34_36, r34_39, r34_40, r34_41, r34_44, r34_45, r34_46, r34_47, r34_48, r34_49, r34_52, r34_55, r34_56, r34_59, r34_60, r34_61, r34_62, r34_63, r34_66, r34_67, r34_68, r34_69, r34_70, r34_71, r34_74, r34_75, r34_76, r34_79, kdC, kdM, rpC, rpM, q_rs, q_rn, Option.toList_some, Option.toList_none, List.cons_append, List.nil_append, true_and, and_true, eq_self, ↓reduceIte, not_true_eq_false, not_false_eq_true, Nat.reduceEqDiff, Nat.reduceLeDiff, Nat.reduceLT, Nat.reduceAdd, Nat.reduceMul, Nat.reduceSub, false_or, or_false, true_or, or_true, false_and, and_false, reduceCtorEq, q_n0, q_n1, q_em, q_em2, q_b0, q_b1, Classical.not_not, nI_add, pk_mul, nI_clamp, q_vp, nI_eq, nI_leI, nI_ltI, q_sub, q_sIs, pq_84, g5, Nat.le_refl, tin]
  | a + 1, O, Q, ha, hO, hQ, hf => by
    obtain ⟨j, hj, ej⟩ := hO a (by omega)
    have hqa := hQ a (by omega) (by omega)
    have g5 : ∀ O Q, gI (sA (sA h 84 O) 85 Q) 83 5 = nI s := fun O Q => by rw [q_gan (by omega), q_gan (by omega)]; exact h5
    have g84 : ∀ O Q, gI (sA (sA h 84 O) 85 Q) 84 = O := fun O Q => by rw [q_gan (by omega), q_ga]
    have g85 : ∀ O Q, gI (sA (sA h 84 O) 85 Q) 85 = Q := fun O Q => q_ga _ _ _
    by_cases c : kfV K T f < kfV K T (O a).toNatClampNeg
    · have ht : tin (kfV K T) f (a + 1) O = tin (kfV K T) f a (upd O (a + 1) (O a)) := pif_t c
      rw [ht]
      obtain ⟨Q', q1, q2⟩ := cl34 h hs h5 a (upd O (a + 1) (O a)) (upd Q (a + 1) (Q a)) (by omega) (fun i hi => by obtain ⟨j', h1, h2⟩ := hO i (by omega); exact ⟨j', h1, by rw [pk_un (by omega)]; exact h2⟩) (fun i hi hne => by
        by_cases e : i = a + 1
        · subst e; rw [pk_us, pk_us]; exact hqa
        · rw [pk_un e, pk_un e]; exact hQ i hi (by omega)) hf
      refine ⟨Q', q1, fun d F => ?_⟩
      refine Eq.trans ?_ (q2 d F)
      rw [← hqa] at c
      rw [r34_5]
      simp (disch := omega) only [e34, r34_0, r34_1, r34_4, r34_6, r34_9, r34_10, r34_13, r34_14, r34_15, r34_16, r34_17, r34_18, r34_21, r34_22, r34_25, r34_26, r34_27, r34_30, r34_31, r34_32, r34_33, r34_34, r34_35, r34_36, r34_39, r34_40, r34_41, r34_44, r34_45, r34_46, r34_47, r34_48, r34_49, r34_52, r34_55, r34_56, r34_59, r34_60, r34_61, r34_62, r34_63, r34_66, r34_67, r34_68, r34_69, r34_70, r34_71, r34_74, r34_75, r34_76, r34_79, kdC, kdM, rpC, rpM, q_rs, q_rn, Option.toList_some, Option.toList_none, List.cons_append, List.nil_append, true_and, and_true, eq_self, ↓reduceIte, not_true_eq_false, not_false_eq_true, Nat.reduceEqDiff, Nat.reduceLeDiff, Nat.reduceLT, Nat.reduceAdd, Nat.reduceMul, Nat.reduceSub, false_or, or_false, true_or, or_true, false_and, and_false, reduceCtorEq, q_n0, q_n1, q_em, q_em2, q_b0, q_b1, Classical.not_not, nI_add, pk_mul, nI_clamp, q_vp, nI_eq, nI_leI, nI_ltI, q_sub, q_sIs, pq_84, g84, g85, pk_m1, Nat.add_sub_cancel, Int32.not_le.mpr c, show ¬ a + 1 ≤ 0 by omega, show a < 24 by omega, show a + 1 < 24 by omega]
    · have ht : tin (kfV K T) f (a + 1) O = upd O (a + 1) (nI f) := pif_f c
      rw [ht]
      refine ⟨upd Q (a + 1) (kfV K T f), fun i hi => ?_, fun d F => ?_⟩
      · by_cases e : i = a + 1
        · subst e; rw [pk_us, pk_us, nI_clamp (by omega)]
        · rw [pk_un e, pk_un e]; exact hQ i hi e
      · rw [← hqa] at c
        rw [r34_5]
        simp (disch := omega) only [e34, r34_0, r34_1, r34_4, r34_6, r34_9, r34_10, r34_13, r34_14, r34_15, r34_16, r34_17, r34_18, r34_21, r34_22, r34_25, r34_26, r34_27, r34_30, r34_31, r34_32, r34_33, r34_34, r34_35, r34_36, r34_39, r34_40, r34_41, r34_44, r34_45, r34_46, r34_47, r34_48, r34_49, r34_52, r34_55, r34_56, r34_59, r34_60, r34_61, r34_62, r34_63, r34_66, r34_67, r34_68, r34_69, r34_70, r34_71, r34_74, r34_75, r34_76, r34_79, kdC, kdM, rpC, rpM, q_rs, q_rn, Option.toList_some, Option.toList_none, List.cons_append, List.nil_append, true_and, and_true, eq_self, ↓reduceIte, not_true_eq_false, not_false_eq_true, Nat.reduceEqDiff, Nat.reduceLeDiff, Nat.reduceLT, Nat.reduceAdd, Nat.reduceMul, Nat.reduceSub, false_or, or_false, true_or, or_true, false_and, and_false, reduceCtorEq, q_n0, q_n1, q_em, q_em2, q_b0, q_b1, Classical.not_not, nI_add, pk_mul, nI_clamp, q_vp, nI_eq, nI_leI, nI_ltI, q_sub, q_sIs, pq_84, g5, g84, g85, Nat.add_sub_cancel, Int32.not_lt.mp c, show ¬ a + 1 ≤ 0 by omega, show a < 24 by omega, show a + 1 < 24 by omega]
theorem c34 {h : Hp} {z : PiS} (cp : CP K T h z) {f : Nat} (hf : f < 24) (hs : z.2 < 24) (ok : ∀ i, i < z.2 → ∃ j, j < 24 ∧ z.1 i = nI j) : ∃ h', CP K T h' (tin (kfV K T) f z.2 z.1, z.2 + 1) ∧ FrS (fun a i => (Nat.beq a 83 && Nat.beq i 5) || (Nat.beq a 84 || Nat.beq a 85)) h h' ∧ ∀ d F, cwp true d 34 [.ref 83, .int (nI f), .int (kfV K T f)] h F = F none h' := by
  obtain ⟨c1, c2, c3⟩ := cp
  obtain ⟨Q', q1, q2⟩ := cl34 (K := K) (T := T) h hs c1 z.2 (gI h 84) (gI h 85) (Nat.le_refl _) (fun i hi => by rw [c2 i hi]; exact ok i hi) (fun i hi hne => by rw [c2 i (by omega)]; exact c3 i (by omega)) hf
  have hh : sA (sA h 84 (gI h 84)) 85 (gI h 85) = h := by rw [q_sAs, q_sAs]
  rw [hh] at q2
  have hcg := tin_cg (kfV K T) f z.2 (gI h 84) z.1 c2
  refine ⟨sI (sA (sA h 84 (tin (kfV K T) f z.2 (gI h 84))) 85 Q') 83 5 (nI (z.2 + 1)), ⟨q_gs _ _ _ _, fun i hi => ?_, fun i hi => ?_⟩, (((FrS.refl h).sA _ (fun _ => rfl)).sA _ (fun _ => rfl)).sI _ rfl, fun d F => ?_⟩
  · rw [q_gn (by omega), q_gan (by omega), q_ga]
    exact hcg i (by have : i < z.2 + 1 := hi; omega)
  · rw [q_gn (by omega), q_ga, q1 i (by have : i < z.2 + 1 := hi; omega), hcg i (by have : i < z.2 + 1 := hi; omega)]
  · refine Eq.trans ?_ (q2 d F)
    simp (disch := omega) only [r34_0, r34_1, r34_4, e34, c1, kdC, kdM, rpC, rpM, q_rs, q_rn, Option.toList_some, Option.toList_none, List.cons_append, List.nil_append, true_and, and_true, eq_self, ↓reduceIte, not_true_eq_false, not_false_eq_true, Nat.reduceEqDiff, Nat.reduceLeDiff, Nat.reduceLT, Nat.reduceAdd, Nat.reduceMul, Nat.reduceSub, false_or, or_false, true_or, or_true, false_and, and_false, reduceCtorEq, q_n0, q_n1, q_em, q_em2, q_b0, q_b1, Classical.not_not]
end PD
section PE
variable {h : Hp} {K : Nat → Int32} {T : Tk} {t a : Nat} {wh : Int32}
theorem FrI.fr {h h' : Hp} (x : FrS (fun a i => (Nat.beq a 83 && Nat.beq i 5) || (Nat.beq a 84 || Nat.beq a 85)) h h') : Fr h h' := x.mono (fun a i e => by
  have key : ∀ k, scr k i = true → Nat.beq a k = false := by
    intro k hk
    cases q : Nat.beq a k with
    | false => rfl
    | true =>
      obtain rfl := Nat.eq_of_beq_eq_true q
      rw [hk] at e; cases e
  show ((Nat.beq a 83 && Nat.beq i 5) || (Nat.beq a 84 || Nat.beq a 85)) = false
  rw [key 83 rfl, key 84 rfl, key 85 rfl]
  rfl)
theorem FrI.n {h h' : Hp} (x : FrS (fun a i => (Nat.beq a 83 && Nat.beq i 5) || (Nat.beq a 84 || Nat.beq a 85)) h h') : gI h' 81 = gI h 81 ∧ gI h' 83 4 = gI h 83 4 := ⟨x.G (a := 81) (fun _ => rfl), x.g (a := 83) (i := 4) rfl⟩
/-- the words that a picture doesn't set are 0 -/
def wz (h : Hp) : Prop := ∀ i, i < 12 → i ≠ 0 → i ≠ 1 → i ≠ 3 → gI h 81 i = nI 0
theorem CP_as {h h' : Hp} {z : PiS} (x : As h h') (cp : CP K T h z) : CP K T h' z := by
  obtain ⟨c1, c2, c3⟩ := cp
  refine ⟨?_, fun i hi => ?_, fun i hi => ?_⟩
  · rw [x.n (a := 83) (by omega) (by omega)]; exact c1
  · rw [x.n (a := 84) (by omega) (by omega)]; exact c2 i hi
  · rw [x.n (a := 85) (by omega) (by omega)]; exact c3 i hi
theorem cl33 (z : STS h 0 K) (te : tEq K t T) (ta : tAt h a T) : ∀ k f p h0, f + k = nf K → Fr h h0 → CP K T h0 p → okP f p → wz h0 → gI h0 83 4 = wh → ∃ h', Fr h h' ∧ CP K T h' (q_lp (pic1 K T wh) k f p) ∧ gI h' 83 4 = wh ∧ ∀ d F, wp true (d + 4) 33 19 [.ref 83, .ref a, .int wh, .int (nI f)] [] h0 F = F none h'
  | 0, f, p, h0, e, x, cp, ok, hw, h4 => by
    obtain rfl : f = nf K := e
    have w := z.1
    have h1 := w.hnf
    have q := (STS_fr x (Or.inl rfl) z).2.1
    refine ⟨h0, x, cp, h4, fun d F => ?_⟩
    rw [r33_19]
    simp (disch := omega) only [e33, r33_0, r33_1, r33_2, r33_5, r33_6, r33_7, r33_10, r33_11, r33_14, r33_17, r33_18, r33_20, r33_21, r33_24, r33_27, r33_30, r33_31, r33_34, r33_35, r33_38, r33_39, r33_42, r33_45, r33_46, r33_49, r33_52, r33_53, r33_54, r33_57, r33_60, r33_61, r33_62, r33_63, r33_64, r33_67, r33_70, r33_71, r33_72, r33_75, r33_78, r33_79, r33_80, r33_81, r33_82, r33_85, r33_88, r33_89, r33_90, r33_93, r33_94, r33_97, r33_98, r33_99, r33_100, r33_101, r33_104, r33_104n, r33_105, r33_106, r33_109, r33_112, r33_113, r33_116, r33_119, r33_122, r33_123, r33_126, r33_129, r33_132, kdC, kdM, rpC, rpM, q_rs, q_rn, Option.toList_some, Option.toList_none, List.cons_append, List.nil_append, true_and, and_true, eq_self, ↓reduceIte, not_true_eq_false, not_false_eq_true, Nat.reduceEqDiff, Nat.reduceLeDiff, Nat.reduceLT, Nat.reduceAdd, Nat.reduceMul, Nat.reduceSub, false_or, or_false, true_or, or_true, false_and, and_false, reduceCtorEq, q_n0, q_n1, q_em, q_em2, q_b0, q_b1, Classical.not_not, nI_add, pk_mul, nI_clamp, q_vp, nI_eq, nI_leI, nI_ltI, q_sub, q.hnf, h1, Nat.le_refl]
  | k + 1, f, p, h0, e, x, cp, ok, hw, h4 => by
    have w := z.1
    have h1 := w.hnf
    have hf : f < nf K := by omega
    have hf24 : f < 24 := by omega
    have q := (STS_fr x (Or.inl rfl) z).2.1
    rw [show q_lp (pic1 K T wh) (k + 1) f p = q_lp (pic1 K T wh) k (f + 1) (pic1 K T wh f p) from rfl]
    by_cases c : isOf K wh f
    · have hp : pic1 K T wh f p = (tin (kfV K T) f p.2 p.1, p.2 + 1) := by unfold pic1; rw [pif_t c]
      have x1 : Fr h0 (sI (sI (sI h0 81 0 (K (9 * f))) 81 1 (K (9 * f + 1))) 81 3 (wst K f)) := (((Fr.refl h0).sI _ rfl).sI _ rfl).sI _ rfl
      have q1 := (STS_fr (x.trans (((Fr.refl h0).sI (a := 81) (i := 0) (K (9 * f)) rfl).sI (a := 81) (i := 1) (K (9 * f + 1)) rfl)) (Or.inl rfl) z).2.1
      have henv : ∀ i, i < 12 → gI (sI (sI (sI h0 81 0 (K (9 * f))) 81 1 (K (9 * f + 1))) 81 3 (wst K f)) 81 i = envF (K (9 * f)) (K (9 * f + 1)) (nI 0) (wst K f) i := by
        intro i hi
        simp only [q_gi, true_and]
        unfold envF
        by_cases e0 : i = 0
        · subst e0; simp
        · by_cases e1 : i = 1
          · subst e1; simp
          · by_cases e3 : i = 3
            · subst e3; simp
            · rw [if_neg e3, if_neg e1, if_neg e0, hw i hi e0 e1 e3, if_neg e0, if_neg e1]
              split
              · rfl
              · first | rfl | rw [if_neg e3]
      have cp1 : CP K T (sI (sI (sI h0 81 0 (K (9 * f))) 81 1 (K (9 * f + 1))) 81 3 (wst K f)) p := by
        obtain ⟨c1, c2, c3⟩ := cp
        refine ⟨?_, fun i hi => ?_, fun i hi => ?_⟩
        · rw [q_gn (by omega), q_gn (by omega), q_gn (by omega)]; exact c1
        · rw [q_gn (by omega), q_gn (by omega), q_gn (by omega)]; exact c2 i hi
        · rw [q_gn (by omega), q_gn (by omega), q_gn (by omega)]; exact c3 i hi
      have ta1 := tAt_fr (x.trans x1) ta
      have hw1 : wz (sI (sI (sI h0 81 0 (K (9 * f))) 81 1 (K (9 * f + 1))) 81 3 (wst K f)) := by
        intro i h1 h2 h3 h4
        rw [q_gm h4, q_gm h3, q_gm h2]; exact hw i h1 h2 h3 h4
      have h41 : gI (sI (sI (sI h0 81 0 (K (9 * f))) 81 1 (K (9 * f + 1))) 81 3 (wst K f)) 83 4 = wh := by
        rw [q_gn (by omega), q_gn (by omega), q_gn (by omega)]; exact h4
      have h4a : gI (sI (sI h0 81 0 (K (9 * f))) 81 1 (K (9 * f + 1))) 83 4 = wh := by
        rw [q_gn (by omega), q_gn (by omega)]; exact h4
      have hB : ∀ d F, wp true (d + 4) 33 19 [.ref 83, .ref a, .int wh, .int (nI f)] [] h0 F = wp true (d + 4) 33 98 [.ref 83, .ref a, .int wh, .int (nI f)] [] (sI (sI (sI h0 81 0 (K (9 * f))) 81 1 (K (9 * f + 1))) 81 3 (wst K f)) F := by
        intro d F
        have q0 := (STS_fr (x.trans ((Fr.refl h0).sI (a := 81) (i := 0) (K (9 * f)) rfl)) (Or.inl rfl) z).2.1
        rw [r33_19]
        simp (disch := omega) only [r33_20, r33_21, r33_24, r33_27, r33_30, r33_31, r33_34, r33_35, r33_38, r33_39, r33_42, r33_45, r33_46, r33_49, r33_52, r33_53, r33_54, r33_57, r33_60, r33_61, r33_62, r33_63, r33_64, r33_67, r33_70, r33_71, r33_72, r33_75, r33_78, r33_79, r33_80, r33_81, r33_82, r33_85, r33_88, r33_89, r33_90, r33_93, r33_94, r33_97, cc16 _ h0 _ w q wh hf, cc13 _ _ _ w q1 hf, kdC, kdM, rpC, rpM, q_rs, q_rn, Option.toList_some, Option.toList_none, List.cons_append, List.nil_append, true_and, and_true, eq_self, ↓reduceIte, not_true_eq_false, not_false_eq_true, Nat.reduceEqDiff, Nat.reduceLeDiff, Nat.reduceLT, Nat.reduceAdd, Nat.reduceMul, Nat.reduceSub, false_or, or_false, true_or, or_true, false_and, and_false, reduceCtorEq, q_n0, q_n1, q_em, q_em2, q_b0, q_b1, Classical.not_not, nI_add, pk_mul, nI_clamp, q_vp, nI_eq, nI_leI, nI_ltI, q_sub, q.hnf, h1, q.w, q0.p, h4, c, hf24, show ¬ nf K ≤ f by omega]
      generalize sI (sI (sI h0 81 0 (K (9 * f))) 81 1 (K (9 * f + 1))) 81 3 (wst K f) = h2 at *
      obtain ⟨k1, k2⟩ := c2 h2 te.2.1 ta1 (hd := 2) (by omega) henv
      have hok : ∀ i, i < p.2 → ∃ j, j < 24 ∧ p.1 i = nI j := fun i hi => by obtain ⟨j, h1, h2⟩ := ok.2 i hi; exact ⟨j, by omega, h2⟩
      have hkey : ∃ h3, As h2 h3 ∧ ∀ d F, wp true (d + 4) 33 98 [.ref 83, .ref a, .int wh, .int (nI f)] [] h2 F = cwp true (d + 3) 34 [.ref 83, .int (nI f), .int (kfV K T f)] h3 (fun r h' => wp true (d + 4) 33 126 [.ref 83, .ref a, .int wh, .int (nI f)] (r.toList ++ []) h' F) := by
        cases es : tSay T 2 (envF (K (9 * f)) (K (9 * f + 1)) (nI 0) (wst K f)) with
        | none =>
          obtain ⟨h3, a1, a2⟩ := k1 es
          refine ⟨h3, a1, fun d F => ?_⟩
          have hk : kfV K T f = nI 0 := by unfold kfV tv; rw [es]; rfl
          rw [hk]
          simp (disch := omega) only [r33_98, r33_99, r33_100, r33_101, r33_104, r33_104n, r33_105, r33_106, r33_109, r33_112, r33_113, r33_116, r33_119, r33_122, r33_123, a2, kdC, kdM, rpC, rpM, q_rs, q_rn, Option.toList_some, Option.toList_none, List.cons_append, List.nil_append, true_and, and_true, eq_self, ↓reduceIte, not_true_eq_false, not_false_eq_true, Nat.reduceEqDiff, Nat.reduceLeDiff, Nat.reduceLT, Nat.reduceAdd, Nat.reduceMul, Nat.reduceSub, false_or, or_false, true_or, or_true, false_and, and_false, reduceCtorEq, q_n0, q_n1, q_em, q_em2, q_b0, q_b1, Classical.not_not]
        | some l =>
          obtain ⟨h3, a1, a3, a2⟩ := k2 l es
          obtain ⟨y, rfl⟩ : ∃ y, l = [y] := by
            obtain ⟨u, u1, u2⟩ := te.2.2.1 2 (envF (K (9 * f)) (K (9 * f + 1)) (nI 0) (wst K f)) (by omega)
            rcases u2 with ⟨_, u3⟩ | ⟨y, _, u3⟩
            · rw [es] at u3; cases u3
            · rw [es] at u3; cases u3; exact ⟨y, rfl⟩
          refine ⟨h3, a1, fun d F => ?_⟩
          have hk : kfV K T f = y := by unfold kfV tv; rw [es]; rfl
          have a4 := a3 y rfl
          rw [hk]
          simp (disch := omega) only [r33_98, r33_99, r33_100, r33_101, r33_104, r33_104n, r33_105, r33_106, r33_109, r33_112, r33_113, r33_116, r33_119, r33_122, r33_123, a2, a4, kdC, kdM, rpC, rpM, q_rs, q_rn, Option.toList_some, Option.toList_none, List.cons_append, List.nil_append, true_and, and_true, eq_self, ↓reduceIte, not_true_eq_false, not_false_eq_true, Nat.reduceEqDiff, Nat.reduceLeDiff, Nat.reduceLT, Nat.reduceAdd, Nat.reduceMul, Nat.reduceSub, false_or, or_false, true_or, or_true, false_and, and_false, reduceCtorEq, q_n0, q_n1, q_em, q_em2, q_b0, q_b1, Classical.not_not]
      obtain ⟨h3, b1, b2⟩ := hkey
      obtain ⟨h5, d1, d2, d3⟩ := c34 (CP_as b1 cp1) hf24 (by have := ok.1; omega) hok
      have n1 := FrI.n d2
      have hw5 : wz h5 := fun i e1 e2 e3 e4 => by rw [n1.1, b1.n (by omega) (by omega)]; exact hw1 i e1 e2 e3 e4
      have h45 : gI h5 83 4 = wh := by rw [n1.2, b1.n (by omega) (by omega)]; exact h41
      obtain ⟨h', g1, g2, g3, g4⟩ := cl33 z te ta k (f + 1) (pic1 K T wh f p) h5 (by omega) (((x.trans x1).trans b1.fr).trans (FrI.fr d2)) (by rw [hp]; exact d1) (pic1_ok ok) hw5 h45
      refine ⟨h', g1, g2, g3, fun d F => ?_⟩
      rw [hB, b2, d3]
      refine Eq.trans ?_ (g4 d F)
      simp (disch := omega) only [r33_126, r33_129, kdC, kdM, rpC, rpM, q_rs, q_rn, Option.toList_some, Option.toList_none, List.cons_append, List.nil_append, true_and, and_true, eq_self, ↓reduceIte, not_true_eq_false, not_false_eq_true, Nat.reduceEqDiff, Nat.reduceLeDiff, Nat.reduceLT, Nat.reduceAdd, Nat.reduceMul, Nat.reduceSub, false_or, or_false, true_or, or_true, false_and, and_false, reduceCtorEq, q_n0, q_n1, q_em, q_em2, q_b0, q_b1, Classical.not_not, nI_add, pk_mul, nI_clamp, q_vp, nI_eq, nI_leI, nI_ltI, q_sub]
    · have hp : pic1 K T wh f p = p := by unfold pic1; rw [pif_f c]
      obtain ⟨h', g1, g2, g3, g4⟩ := cl33 z te ta k (f + 1) (pic1 K T wh f p) h0 (by omega) x (by rw [hp]; exact cp) (pic1_ok ok) hw h4
      refine ⟨h', g1, g2, g3, fun d F => ?_⟩
      refine Eq.trans ?_ (g4 d F)
      rw [r33_19]
      simp (disch := omega) only [r33_20, r33_21, r33_24, r33_27, r33_30, r33_31, r33_34, r33_35, r33_38, r33_39, r33_42, r33_126, r33_129, cc16 _ h0 _ w q wh hf, kdC, kdM, rpC, rpM, q_rs, q_rn, Option.toList_some, Option.toList_none, List.cons_append, List.nil_append, true_and, and_true, eq_self, ↓reduceIte, not_true_eq_false, not_false_eq_true, Nat.reduceEqDiff, Nat.reduceLeDiff, Nat.reduceLT, Nat.reduceAdd, Nat.reduceMul, Nat.reduceSub, false_or, or_false, true_or, or_true, false_and, and_false, reduceCtorEq, q_n0, q_n1, q_em, q_em2, q_b0, q_b1, Classical.not_not, nI_add, pk_mul, nI_clamp, q_vp, nI_eq, nI_leI, nI_ltI, q_sub, q.hnf, h1, h4, c, show ¬ nf K ≤ f by omega]
theorem c33 (z : STS h 0 K) (te : tEq K t T) (ta : tAt h a T) (wh : Int32) : ∃ h', Fr h h' ∧ CP K T h' (pic K T wh) ∧ gI h' 83 4 = wh ∧ ∀ d F, cwp true (d + 4) 33 [.ref 83, .ref a, .int wh] h F = F none h' := by
  have x1 : Fr h (clr (sI (sI h 83 4 wh) 83 5 (nI 0))) := (((Fr.refl h).sI _ rfl).sI _ rfl).trans (clr_fr _)
  obtain ⟨h', g1, g2, g3, g4⟩ := cl33 (wh := wh) z te ta (nf K) 0 (fun _ => nI 0, 0) (clr (sI (sI h 83 4 wh) 83 5 (nI 0))) (by omega) x1 ⟨by rw [clr_n _ (by omega), q_gs], fun i hi => (by cases hi), fun i hi => (by cases hi)⟩ ⟨Nat.le_refl _, fun i hi => (by cases hi)⟩ (fun i hi _ _ _ => clr_g _ hi) (by rw [clr_n _ (by omega), q_gm (by omega), q_gs])
  refine ⟨h', g1, g2, g3, fun d F => ?_⟩
  refine Eq.trans ?_ (g4 d F)
  simp (disch := omega) only [r33_0, r33_1, r33_2, r33_5, r33_6, r33_7, r33_10, r33_11, r33_14, r33_17, r33_18, e33, c1, kdC, kdM, rpC, rpM, q_rs, q_rn, Option.toList_some, Option.toList_none, List.cons_append, List.nil_append, true_and, and_true, eq_self, ↓reduceIte, not_true_eq_false, not_false_eq_true, Nat.reduceEqDiff, Nat.reduceLeDiff, Nat.reduceLT, Nat.reduceAdd, Nat.reduceMul, Nat.reduceSub, false_or, or_false, true_or, or_true, false_and, and_false, reduceCtorEq, q_n0, q_n1, q_em, q_em2, q_b0, q_b1, Classical.not_not]
end PE
