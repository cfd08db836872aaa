/-! feed -/
def bt (x : Int32) (k : Nat) : Int32 := (x >>> (nI (24 - 8 * k) &&& 31)).toInt8.toInt32
theorem vp_b (x : Int32) : vp_nar .byte x = x.toInt8.toInt32 := rfl
theorem bt_b (x : Int32) (k : Nat) : (bt x k).toInt8.toInt32 = bt x k := by unfold bt; simp
theorem q_sII (h : Hp) (a i : Nat) (v w : Int32) : sI (sI h a i v) a i w = sI h a i w := by
  rw [q_sIA (sI h a i v), q_gsu, q_sIA h a i v, q_sAA, q_sIA h a i w]
  congr 1
  funext j
  unfold upd
  split
  · rfl
  · rfl
theorem q_76 (h : Hp) (i j : Nat) (v w : Int32) : sI (sI h 76 i v) 77 j w = sI (sI h 77 j w) 76 i v := q_sIc (by omega)
def apd (h : Hp) (m : Nat) (x : Int32) : Hp := sI (sA h 77 (fun i => if m ≤ i ∧ i < m + 4 then bt x (i - m) else gI h 77 i)) 76 1 (nI (m + 4))
theorem apd_eq (h : Hp) (m : Nat) (x : Int32) : sI (sI (sI (sI h 77 m (bt x 0)) 77 (m + 1) (bt x 1)) 77 (m + 2) (bt x 2)) 77 (m + 3) (bt x 3) = sA h 77 (fun i => if m ≤ i ∧ i < m + 4 then bt x (i - m) else gI h 77 i) := by
  rw [q_sIA h 77 m, q_sIs, q_sIs, q_sIs]
  congr 1
  funext i
  unfold upd
  by_cases h0 : i = m
  · subst h0; rw [if_neg (by omega), if_neg (by omega), if_neg (by omega), if_pos rfl, if_pos (by omega), Nat.sub_self]
  · by_cases h1 : i = m + 1
    · subst h1; rw [if_neg (by omega), if_neg (by omega), if_pos rfl, if_pos (by omega), Nat.add_sub_cancel_left]
    · by_cases h2 : i = m + 2
      · subst h2; rw [if_neg (by omega), if_pos rfl, if_pos (by omega), Nat.add_sub_cancel_left]
      · by_cases h3 : i = m + 3
        · subst h3; rw [if_pos rfl, if_pos (by omega), Nat.add_sub_cancel_left]
        · rw [if_neg h3, if_neg h2, if_neg h1, if_neg h0, if_neg (by omega)]
theorem n24 : nI 24 + (-8) = nI 16 := by decide
theorem n16 : nI 16 + (-8) = nI 8 := by decide
theorem n8 : nI 8 + (-8) = nI 0 := by decide
theorem n08 : nI 0 + (-8) = (-8) := by decide
theorem n8l : ((-8 : Int32) < nI 0) = True := by decide
section FE
variable (d : Nat) (h : Hp) (F : Po)
theorem c39 {m : Nat} (hm : gI h 76 1 = nI m) (hb : m + 4 ≤ 400) (x : Int32) : cwp true d 39 [.ref 76, .int x] h F = F none (apd h m x) := by
  have e0 : bt x 0 = (x >>> (nI 24 &&& 31)).toInt8.toInt32 := rfl
  have e1 : bt x 1 = (x >>> (nI 16 &&& 31)).toInt8.toInt32 := rfl
  have e2 : bt x 2 = (x >>> (nI 8 &&& 31)).toInt8.toInt32 := rfl
  have e3 : bt x 3 = (x >>> (nI 0 &&& 31)).toInt8.toInt32 := rfl
  simp (disch := omega) only [e39, r39_0, r39_2, r39_4, r39_7, r39_8, r39_11, r39_14, r39_17, r39_18, r39_21, r39_22, r39_25, r39_26, r39_27, r39_28, r39_29, r39_30, r39_31, r39_32, r39_35, r39_36, r39_37, r39_40, r39_43, r39_46, r39_3, kdC, kdM, rpC, rpM, q_rs, q_rn, Option.toList_some, Option.toList_none, List.cons_append, List.nil_append, true_and, and_true, eq_self, ↓reduceIte, not_true_eq_false, not_false_eq_true, Nat.reduceEqDiff, Nat.reduceLeDiff, Nat.reduceLT, Nat.reduceAdd, Nat.reduceMul, Nat.reduceSub, false_or, or_false, true_or, or_true, false_and, and_false, reduceCtorEq, q_n0, q_n1, q_em, q_em2, q_b0, q_b1, Classical.not_not, nI_add, pk_mul, nI_clamp, q_vp, nI_eq, nI_leI, nI_ltI, q_sub, q_gs, q_gn, q_gm, q_gIJ, q_gIP, q_gJI, q_gJA, q_gJP, q_gPI, q_gPA, q_gPJ, q_ga, q_gan, q_js, q_jn, q_jm, q_ps, q_pn, q_pm, hm, n24, n16, n8, n08, n8l, vp_b, show ¬ 400 ≤ m by omega, show ¬ 400 ≤ m + 1 by omega, show ¬ 400 ≤ m + 1 + 1 by omega, show ¬ 400 ≤ m + 1 + 1 + 1 by omega, show m < 400 by omega, show m + 1 < 400 by omega, show m + 1 + 1 < 400 by omega, show m + 1 + 1 + 1 < 400 by omega, Nat.not_lt_zero, q_76, q_sII, ← e0, ← e1, ← e2, ← e3, bt_b]
  unfold apd
  rw [← apd_eq]
theorem apd_n (m : Nat) (x : Int32) {b : Nat} (h1 : b ≠ 76) (h2 : b ≠ 77) : gI (apd h m x) b = gI h b := by
  unfold apd
  rw [q_gn h1, q_gan h2]
theorem apd_l (m : Nat) (x : Int32) : gI (apd h m x) 76 1 = nI (m + 4) := by
  unfold apd
  rw [q_gs]
theorem apd_t (m : Nat) (x : Int32) (i : Nat) : gI (apd h m x) 77 i = if m ≤ i ∧ i < m + 4 then bt x (i - m) else gI h 77 i := by
  unfold apd
  rw [q_gn (by omega), q_ga]
theorem apd_p (m : Nat) (x : Int32) : gP (apd h m x) = gP h := rfl
theorem apd_x {h' : Hp} (m : Nat) (x : Int32) (z : Mu h' h) : Mu h' (apd h m x) := (z.sA _ (fun i => rfl)).sI _ rfl
def fdv (five : Nat → Int32) (m j : Nat) (T : Nat → Int32) : Nat → Int32 := upd T (m + j) (bt (five (j / 4)) (j % 4))
theorem ml168 {m : Nat} (hm : gI h 101 8 = nI m) (hb : m + 20 ≤ 400) (v1 v2 v3 v4 v5 : Int32) : ∀ k j T, j + k = 20 → wp true d 168 55 [.ref 101, .int v1, .int v2, .int v3, .int v4, .int v5, .int (nI j)] [] (sA h 107 T) F = wp true d 168 101 [.ref 101, .int v1, .int v2, .int v3, .int v4, .int v5, .int (nI 20)] [] (sA h 107 (q_lp (fdv (gI h 108) m) k j T)) F
  | 0, j, T, e => by
    rw [r168_55]
    simp (disch := omega) only [r168_57, r168_59, kdC, kdM, rpC, rpM, q_rs, q_rn, Option.toList_some, Option.toList_none, List.cons_append, List.nil_append, true_and, and_true, eq_self, ↓reduceIte, not_true_eq_false, not_false_eq_true, Nat.reduceEqDiff, Nat.reduceLeDiff, Nat.reduceLT, Nat.reduceAdd, Nat.reduceMul, Nat.reduceSub, false_or, or_false, true_or, or_true, false_and, and_false, reduceCtorEq, q_n0, q_n1, q_em, q_em2, q_b0, q_b1, Classical.not_not, nI_add, pk_mul, nI_clamp, q_vp, nI_eq, nI_leI, nI_ltI, q_sub, show j = 20 from e, Nat.le_refl]
    rfl
  | k + 1, j, T, e => by
    refine Eq.trans ?_ (ml168 hm hb v1 v2 v3 v4 v5 k (j + 1) (fdv (gI h 108) m j T) (by omega))
    have e0 : bt (gI h 108 (j / 4)) (j % 4) = (gI h 108 (j / 4) >>> (nI (24 - 8 * (j % 4)) &&& 31)).toInt8.toInt32 := rfl
    rw [r168_55]
    simp (disch := omega) only [r168_57, r168_59, r168_62, r168_63, r168_66, r168_67, r168_70, r168_72, r168_73, r168_74, r168_77, r168_79, r168_80, r168_81, r168_82, r168_84, r168_86, r168_88, r168_89, r168_90, r168_91, r168_92, r168_93, r168_94, r168_95, r168_98, kdC, kdM, rpC, rpM, q_rs, q_rn, Option.toList_some, Option.toList_none, List.cons_append, List.nil_append, true_and, and_true, eq_self, ↓reduceIte, not_true_eq_false, not_false_eq_true, Nat.reduceEqDiff, Nat.reduceLeDiff, Nat.reduceLT, Nat.reduceAdd, Nat.reduceMul, Nat.reduceSub, false_or, or_false, true_or, or_true, false_and, and_false, reduceCtorEq, q_n0, q_n1, q_em, q_em2, q_b0, q_b1, Classical.not_not, nI_add, pk_mul, nI_clamp, q_vp, nI_eq, nI_leI, nI_ltI, q_sub, q_gs, q_gn, q_gm, q_gIJ, q_gIP, q_gJI, q_gJA, q_gJP, q_gPI, q_gPA, q_gPJ, q_ga, q_gan, q_js, q_jn, q_jm, q_ps, q_pn, q_pm, pk_div, show ¬ 20 ≤ j by omega, hm, show j - j / 4 * 4 = j % 4 by omega, show j / 4 < 5 by omega, show m + j < 400 by omega, vp_b, q_sIs, fdv, ← e0, bt_b]
theorem fdv_eq (five : Nat → Int32) (m : Nat) (T : Nat → Int32) (k : Nat) : ∀ i, q_lp (fdv five m) k 0 T i = if m ≤ i ∧ i < m + k then bt (five ((i - m) / 4)) ((i - m) % 4) else T i := by
  refine q_inv (f := fdv five m) (J := fun k T' => ∀ i, T' i = if m ≤ i ∧ i < m + k then bt (five ((i - m) / 4)) ((i - m) % 4) else T i) (n := k) ?_ ?_
  · intro j T' hj hT i
    unfold fdv upd
    by_cases e : i = m + j
    · subst e
      rw [if_pos rfl, if_pos (by omega), Nat.add_sub_cancel_left]
    · rw [if_neg e, hT i]
      by_cases e2 : m ≤ i ∧ i < m + j
      · rw [if_pos e2, if_pos (by omega)]
      · rw [if_neg e2, if_neg (by omega)]
  · intro i
    rw [if_neg (by omega)]
end FE
section FD
variable {n : Nat} {h : Hp}
def fiv (a b c e g : Int32) : Nat → Int32 := fun k => if k = 4 then g else if k = 3 then e else if k = 2 then c else if k = 1 then b else a
theorem p_feed (z : Inv n h) (a b c e g : Int32) : PRI n h 91 168 [.int a, .int b, .int c, .int e, .int g] := by
  intro d
  have t := z.2.2.1
  obtain ⟨m, hm, e1, e2⟩ := t.len
  by_cases hA : m + 20 ≤ 400
  · have s1 := fun (F : Po) (d : Nat) => c39 d h F e1 (by omega) a
    have l1 := apd_l h m a
    have s2 := fun (F : Po) (d : Nat) => c39 d _ F l1 (by omega) b
    have l2 := apd_l (apd h m a) (m + 4) b
    have s3 := fun (F : Po) (d : Nat) => c39 d _ F l2 (by omega) c
    have l3 := apd_l (apd (apd h m a) (m + 4) b) (m + 4 + 4) c
    have s4 := fun (F : Po) (d : Nat) => c39 d _ F l3 (by omega) e
    have l4 := apd_l (apd (apd (apd h m a) (m + 4) b) (m + 4 + 4) c) (m + 4 + 4 + 4) e
    have s5 := fun (F : Po) (d : Nat) => c39 d _ F l4 (by omega) g
    have l5 := apd_l (apd (apd (apd (apd h m a) (m + 4) b) (m + 4 + 4) c) (m + 4 + 4 + 4) e) (m + 4 + 4 + 4 + 4) g
    generalize hh : apd (apd (apd (apd (apd h m a) (m + 4) b) (m + 4 + 4) c) (m + 4 + 4 + 4) e) (m + 4 + 4 + 4 + 4) g = h1 at s5 l5
    have x1 : Mu h h1 := by
      rw [← hh]
      exact apd_x _ _ _ (apd_x _ _ _ (apd_x _ _ _ (apd_x _ _ _ (apd_x _ _ _ (FrS.refl h)))))
    have g1 : ∀ b, b ≠ 76 → b ≠ 77 → gI h1 b = gI h b := by
      intro y h1 h2
      rw [← hh, apd_n _ _ _ h1 h2, apd_n _ _ _ h1 h2, apd_n _ _ _ h1 h2, apd_n _ _ _ h1 h2, apd_n _ _ _ h1 h2]
    have p1 : gP h1 = gP h := by rw [← hh, apd_p, apd_p, apd_p, apd_p, apd_p]
    have t1 : ∀ i, gI h1 77 i = if m ≤ i ∧ i < m + 20 then bt (fiv a b c e g ((i - m) / 4)) ((i - m) % 4) else gI h 77 i := by
      intro i
      rw [← hh, apd_t, apd_t, apd_t, apd_t, apd_t]
      unfold fiv
      by_cases c0 : m ≤ i ∧ i < m + 20
      · rw [if_pos c0]
        by_cases c5 : m + 16 ≤ i
        · rw [if_pos (by omega), if_pos (by omega)]; congr 1; omega
        · rw [if_neg (by omega)]
          by_cases c4 : m + 12 ≤ i
          · rw [if_pos (by omega), if_neg (by omega), if_pos (by omega)]; congr 1; omega
          · rw [if_neg (by omega)]
            by_cases c3 : m + 8 ≤ i
            · rw [if_pos (by omega), if_neg (by omega), if_neg (by omega), if_pos (by omega)]; congr 1; omega
            · rw [if_neg (by omega)]
              by_cases c2 : m + 4 ≤ i
              · rw [if_pos (by omega), if_neg (by omega), if_neg (by omega), if_neg (by omega), if_pos (by omega)]; congr 1; omega
              · rw [if_neg (by omega), if_pos (by omega), if_neg (by omega), if_neg (by omega), if_neg (by omega), if_neg (by omega)]; congr 1; omega
      · rw [if_neg c0, if_neg (by omega), if_neg (by omega), if_neg (by omega), if_neg (by omega), if_neg (by omega)]
    clear hh
    have e3 : gI h1 101 8 = nI m := by rw [g1 101 (by omega) (by omega), e2]
    have em : gI (sI (sI (sI (sI (sI h1 108 0 a) 108 1 b) 108 2 c) 108 3 e) 108 4 g) 101 8 = nI m := by
      rw [q_gn (by omega), q_gn (by omega), q_gn (by omega), q_gn (by omega), q_gn (by omega), e3]
    have ml := fun (F : Po) (d : Nat) => ml168 d (sI (sI (sI (sI (sI h1 108 0 a) 108 1 b) 108 2 c) 108 3 e) 108 4 g) F em hA a b c e g 20 0 (gI (sI (sI (sI (sI (sI h1 108 0 a) 108 1 b) 108 2 c) 108 3 e) 108 4 g) 107) (by omega)
    simp only [q_sAs] at ml
    generalize hT : q_lp (fdv (gI (sI (sI (sI (sI (sI h1 108 0 a) 108 1 b) 108 2 c) 108 3 e) 108 4 g) 108) m) 20 0 (gI (sI (sI (sI (sI (sI h1 108 0 a) 108 1 b) 108 2 c) 108 3 e) 108 4 g) 107) = T at ml
    have t2 : ∀ i, T i = if m ≤ i ∧ i < m + 20 then bt (fiv a b c e g ((i - m) / 4)) ((i - m) % 4) else gI h 107 i := by
      intro i
      rw [← hT, fdv_eq]
      by_cases c0 : m ≤ i ∧ i < m + 20
      · rw [if_pos c0, if_pos c0]
        congr 1
        simp only [q_gi, true_and]
        unfold fiv
        rcases (show (i - m) / 4 = 0 ∨ (i - m) / 4 = 1 ∨ (i - m) / 4 = 2 ∨ (i - m) / 4 = 3 ∨ (i - m) / 4 = 4 by omega) with q | q | q | q | q <;> rw [q] <;> rfl
      · rw [if_neg c0, if_neg c0, q_gn (by omega), q_gn (by omega), q_gn (by omega), q_gn (by omega), q_gn (by omega), g1 107 (by omega) (by omega)]
    refine ⟨nI (m + 20), h1, sI (sA (sI (sI (sI (sI (sI h1 108 0 a) 108 1 b) 108 2 c) 108 3 e) 108 4 g) 107 T) 101 8 (nI (m + 20)), fun F => ?_, fun F => ?_, ?_⟩
    · simp (disch := omega) only [e91, r91_0, r91_1, r91_4, r91_6, r91_9, r91_12, r91_13, r91_14, r91_15, r91_18, r91_19, r91_22, r91_23, r91_26, r91_27, r91_30, r91_31, r91_34, r91_35, r91_38, r91_39, r91_42, r91_44, r91_47, r91_48, r91_51, r91_53, r91_56, r91_57, r91_60, r91_63, e38, r38_0, r38_1, r38_4, r38_5, r38_6, r38_9, r38_12, r38_13, r38_16, r38_17, s1, s2, s3, s4, s5, l5, kdC, kdM, rpC, rpM, q_rs, q_rn, Option.toList_some, Option.toList_none, List.cons_append, List.nil_append, true_and, and_true, eq_self, ↓reduceIte, not_true_eq_false, not_false_eq_true, Nat.reduceEqDiff, Nat.reduceLeDiff, Nat.reduceLT, Nat.reduceAdd, Nat.reduceMul, Nat.reduceSub, false_or, or_false, true_or, or_true, false_and, and_false, reduceCtorEq, q_n0, q_n1, q_em, q_em2, q_b0, q_b1, Classical.not_not, nI_add, pk_mul, nI_clamp, q_vp, nI_eq, nI_leI, nI_ltI, q_sub, e1, show ¬ 400 < m + 20 by omega]
    · simp (disch := omega) only [e168, r168_0, r168_1, r168_4, r168_6, r168_7, r168_10, r168_13, r168_14, r168_15, r168_16, r168_19, r168_20, r168_21, r168_22, r168_23, r168_26, r168_27, r168_28, r168_29, r168_30, r168_33, r168_34, r168_35, r168_36, r168_37, r168_40, r168_41, r168_43, r168_44, r168_45, r168_48, r168_49, r168_51, r168_52, r168_53, r168_57, r168_59, r168_62, r168_63, r168_66, r168_67, r168_70, r168_72, r168_73, r168_74, r168_77, r168_79, r168_80, r168_81, r168_82, r168_84, r168_86, r168_88, r168_89, r168_90, r168_91, r168_92, r168_93, r168_94, r168_95, r168_98, r168_101, r168_102, r168_103, r168_106, r168_108, r168_109, r168_112, r168_113, r168_116, ml, kdC, kdM, rpC, rpM, q_rs, q_rn, Option.toList_some, Option.toList_none, List.cons_append, List.nil_append, true_and, and_true, eq_self, ↓reduceIte, not_true_eq_false, not_false_eq_true, Nat.reduceEqDiff, Nat.reduceLeDiff, Nat.reduceLT, Nat.reduceAdd, Nat.reduceMul, Nat.reduceSub, false_or, or_false, true_or, or_true, false_and, and_false, reduceCtorEq, q_n0, q_n1, q_em, q_em2, q_b0, q_b1, Classical.not_not, nI_add, pk_mul, nI_clamp, q_vp, nI_eq, nI_leI, nI_ltI, q_sub, q_gs, q_gn, q_gm, q_gIJ, q_gIP, q_gJI, q_gJA, q_gJP, q_gPI, q_gPA, q_gPJ, q_ga, q_gan, q_js, q_jn, q_jm, q_ps, q_pn, q_pm, e3, hA]
    · refine Inv_tp z ?_ ?_ ?_ ?_ ?_ ⟨fun i hi => ?_, ?_, ?_⟩
      · refine FrS.sI (FrS.sA ?_ _ (fun _ => rfl)) _ rfl
        iterate 5 refine FrS.sI ?_ _ rfl
        exact x1
      · intro y h1 h2 h3 h4 h5
        rw [q_gn h5, q_gan h3, q_gn h4, q_gn h4, q_gn h4, q_gn h4, q_gn h4, g1 y h1 h2]
      · rw [q_gm (by omega), q_gan (by omega), q_gn (by omega), q_gn (by omega), q_gn (by omega), q_gn (by omega), q_gn (by omega), g1 101 (by omega) (by omega)]
      · rw [q_gm (by omega), q_gan (by omega), q_gn (by omega), q_gn (by omega), q_gn (by omega), q_gn (by omega), q_gn (by omega), g1 101 (by omega) (by omega)]
      · rw [q_gPI, q_gPA, q_gPI, q_gPI, q_gPI, q_gPI, q_gPI, p1]
      · rw [q_gn (by omega), q_gan (by omega), q_gn (by omega), q_gn (by omega), q_gn (by omega), q_gn (by omega), q_gn (by omega), q_gn (by omega), q_ga, t1, t2, (t.1 i hi).1]
        refine ⟨rfl, ?_⟩
        split
        · exact bt_b _ _
        · rw [← (t.1 i hi).1]; exact (t.1 i hi).2
      · rw [q_gs, q_gn (by omega), q_gan (by omega), q_gn (by omega), q_gn (by omega), q_gn (by omega), q_gn (by omega), q_gn (by omega), l5]
      · rw [q_gn (by omega), q_gan (by omega), q_gn (by omega), q_gn (by omega), q_gn (by omega), q_gn (by omega), q_gn (by omega), l5]
        unfold rg
        rw [nI_toInt (by omega)]
        omega
  · refine ⟨-1, h, h, fun F => ?_, fun F => ?_, Inv_fr (Fr.refl h) z⟩
    · simp (disch := omega) only [e91, r91_0, r91_1, r91_4, r91_6, r91_9, r91_12, r91_13, r91_14, r91_15, r91_18, r91_19, r91_22, r91_23, r91_26, r91_27, r91_30, r91_31, r91_34, r91_35, r91_38, r91_39, r91_42, r91_44, r91_47, r91_48, r91_51, r91_53, r91_56, r91_57, r91_60, r91_63, e38, r38_0, r38_1, r38_4, r38_5, r38_6, r38_9, r38_12, r38_13, r38_16, r38_17, kdC, kdM, rpC, rpM, q_rs, q_rn, Option.toList_some, Option.toList_none, List.cons_append, List.nil_append, true_and, and_true, eq_self, ↓reduceIte, not_true_eq_false, not_false_eq_true, Nat.reduceEqDiff, Nat.reduceLeDiff, Nat.reduceLT, Nat.reduceAdd, Nat.reduceMul, Nat.reduceSub, false_or, or_false, true_or, or_true, false_and, and_false, reduceCtorEq, q_n0, q_n1, q_em, q_em2, q_b0, q_b1, Classical.not_not, nI_add, pk_mul, nI_clamp, q_vp, nI_eq, nI_leI, nI_ltI, q_sub, e1, show 400 < m + 20 by omega]
    · simp (disch := omega) only [e168, r168_0, r168_1, r168_4, r168_6, r168_7, r168_10, r168_13, r168_14, r168_15, r168_16, r168_19, r168_20, r168_21, r168_22, r168_23, r168_26, r168_27, r168_28, r168_29, r168_30, r168_33, r168_34, r168_35, r168_36, r168_37, r168_40, r168_41, r168_43, r168_44, r168_45, r168_48, r168_49, r168_51, r168_52, r168_53, r168_57, r168_59, r168_62, r168_63, r168_66, r168_67, r168_70, r168_72, r168_73, r168_74, r168_77, r168_79, r168_80, r168_81, r168_82, r168_84, r168_86, r168_88, r168_89, r168_90, r168_91, r168_92, r168_93, r168_94, r168_95, r168_98, r168_101, r168_102, r168_103, r168_106, r168_108, r168_109, r168_112, r168_113, r168_116, kdC, kdM, rpC, rpM, q_rs, q_rn, Option.toList_some, Option.toList_none, List.cons_append, List.nil_append, true_and, and_true, eq_self, ↓reduceIte, not_true_eq_false, not_false_eq_true, Nat.reduceEqDiff, Nat.reduceLeDiff, Nat.reduceLT, Nat.reduceAdd, Nat.reduceMul, Nat.reduceSub, false_or, or_false, true_or, or_true, false_and, and_false, reduceCtorEq, q_n0, q_n1, q_em, q_em2, q_b0, q_b1, Classical.not_not, nI_add, pk_mul, nI_clamp, q_vp, nI_eq, nI_leI, nI_ltI, q_sub, e2, hA]
end FD
