/-! splits (the model) -/
theorem kd106 (h : Hp) : kdm true h 106 = (22, 103) := rfl
theorem kd107 (h : Hp) : kdm true h 107 = (22, 400) := rfl
def wm (x : Nat) : Nat := if x = 21 then 0 else x + 1
section SP
variable {h : Hp} {B : Nat → Int32} {n : Nat}
theorem m170 (x : Int32) (d : Nat) (F : Po) : cwp true d 170 [.int x] h F = F (some (.int (bz (smP x)))) h := by
  unfold smP
  simp only [e170, r170_0, r170_1, r170_3, r170_6, r170_7, r170_9, r170_12, r170_13, r170_16, r170_17, kdC, kdM, rpC, rpM, q_rs, q_rn, Option.toList_some, Option.toList_none, List.cons_append, List.nil_append, true_and, and_true, eq_self, ↓reduceIte, not_true_eq_false, not_false_eq_true, Nat.reduceEqDiff, Nat.reduceLeDiff, Nat.reduceLT, Nat.reduceAdd, Nat.reduceMul, Nat.reduceSub, false_or, or_false, true_or, or_true, false_and, and_false, reduceCtorEq, q_n0, q_n1, q_em, q_em2, q_b0, q_b1, Classical.not_not, q_bif, q_bif2, q_bi1, q_bi2, q_bi3, q_bi4, q_ifF, Int32.not_lt, Int32.not_le]
theorem m171 (x : Int32) (d : Nat) (F : Po) : cwp true d 171 [.int x] h F = F (some (.int (bz (dgP x)))) h := by
  unfold dgP
  simp only [e171, r171_0, r171_1, r171_3, r171_6, r171_7, r171_9, r171_12, r171_13, r171_16, r171_17, kdC, kdM, rpC, rpM, q_rs, q_rn, Option.toList_some, Option.toList_none, List.cons_append, List.nil_append, true_and, and_true, eq_self, ↓reduceIte, not_true_eq_false, not_false_eq_true, Nat.reduceEqDiff, Nat.reduceLeDiff, Nat.reduceLT, Nat.reduceAdd, Nat.reduceMul, Nat.reduceSub, false_or, or_false, true_or, or_true, false_and, and_false, reduceCtorEq, q_n0, q_n1, q_em, q_em2, q_b0, q_b1, Classical.not_not, q_bif, q_bif2, q_bi1, q_bi2, q_bi3, q_bi4, q_ifF, Int32.not_lt, Int32.not_le]
theorem ml172l (hW : WDS h) {w : Nat} (hw : w < 20) (v1 v2 v3 v6 v7 : Value) (d : Nat) (F : Po) : ∀ k t, t + k = wl w → wp true d 172 18 [.ref 101, v1, v2, v3, .int (nI (ws w)), .int (nI t), v6, v7] [] h F = wp true d 172 39 [.ref 101, v1, v2, v3, .int (nI (ws w)), .int (nI (wl w)), v6, v7] [] h F
  | 0, t, e => by
    obtain rfl : t = wl w := e
    obtain ⟨k1, k2, k3⟩ := ws_ok w hw
    have hr := hW (ws w + wl w) k1
    rw [k3] at hr
    rw [r172_18]
    simp (disch := omega) only [r172_19, r172_22, r172_24, r172_26, r172_27, r172_28, r172_30, kd106, hr, kdC, kdM, rpC, rpM, q_rs, q_rn, Option.toList_some, Option.toList_none, List.cons_append, List.nil_append, true_and, and_true, eq_self, ↓reduceIte, not_true_eq_false, not_false_eq_true, Nat.reduceEqDiff, Nat.reduceLeDiff, Nat.reduceLT, Nat.reduceAdd, Nat.reduceMul, Nat.reduceSub, false_or, or_false, true_or, or_true, false_and, and_false, reduceCtorEq, q_n0, q_n1, q_em, q_em2, q_b0, q_b1, Classical.not_not, nI_add, pk_mul, nI_clamp, q_vp, nI_eq, nI_leI, nI_ltI, q_sub, k1]
  | k + 1, t, e => by
    obtain ⟨k1, k2, k3⟩ := ws_ok w hw
    have hr := hW (ws w + t) (by omega)
    have hs := ws_in w hw t (by omega)
    refine Eq.trans ?_ (ml172l hW hw v1 v2 v3 v6 v7 d F k (t + 1) (by omega))
    rw [r172_18]
    simp (disch := omega) only [r172_19, r172_22, r172_24, r172_26, r172_27, r172_28, r172_30, r172_33, r172_36, kd106, hr, hs, kdC, kdM, rpC, rpM, q_rs, q_rn, Option.toList_some, Option.toList_none, List.cons_append, List.nil_append, true_and, and_true, eq_self, ↓reduceIte, not_true_eq_false, not_false_eq_true, Nat.reduceEqDiff, Nat.reduceLeDiff, Nat.reduceLT, Nat.reduceAdd, Nat.reduceMul, Nat.reduceSub, false_or, or_false, true_or, or_true, false_and, and_false, reduceCtorEq, q_n0, q_n1, q_em, q_em2, q_b0, q_b1, Classical.not_not, nI_add, pk_mul, nI_clamp, q_vp, nI_eq, nI_leI, nI_ltI, q_sub, show ws w + t < 103 by omega]
theorem ml172c (hW : WDS h) (hT : ∀ i, i < 400 → gI h 107 i = B i) {w a b : Nat} (hw : w < 20) (hab : b - a = wl w) (hle : a ≤ b) (hb : b ≤ 400) (v3 : Value) (d : Nat) (F : Po) : ∀ k t, t + k = wl w → (∀ s, s < t → B (a + s) = nms (ws w + s)) → ∃ v7' : Value, wp true d 172 57 [.ref 101, .int (nI a), .int (nI b), v3, .int (nI (ws w)), .int (nI (wl w)), .int (nI 1), .int (nI t)] [] h F = wp true d 172 104 [.ref 101, .int (nI a), .int (nI b), v3, .int (nI (ws w)), .int (nI (wl w)), .int (bz (maW B a b w)), v7'] [] h F
  | 0, t, e, i1 => by
    obtain rfl : t = wl w := e
    refine ⟨.int (nI (wl w)), ?_⟩
    rw [q_bt (show maW B a b w from ⟨hab, i1⟩), r172_57]
    simp (disch := omega) only [r172_59, r172_61, kdC, kdM, rpC, rpM, q_rs, q_rn, Option.toList_some, Option.toList_none, List.cons_append, List.nil_append, true_and, and_true, eq_self, ↓reduceIte, not_true_eq_false, not_false_eq_true, Nat.reduceEqDiff, Nat.reduceLeDiff, Nat.reduceLT, Nat.reduceAdd, Nat.reduceMul, Nat.reduceSub, false_or, or_false, true_or, or_true, false_and, and_false, reduceCtorEq, q_n0, q_n1, q_em, q_em2, q_b0, q_b1, Classical.not_not, nI_add, pk_mul, nI_clamp, q_vp, nI_eq, nI_leI, nI_ltI, q_sub, Nat.le_refl]
  | k + 1, t, e, i1 => by
    obtain ⟨k1, k2, k3⟩ := ws_ok w hw
    have hr := hW (ws w + t) (by omega)
    have hr2 := hT (a + t) (by omega)
    by_cases c : nms (ws w + t) = B (a + t)
    · obtain ⟨v7', a1⟩ := ml172c hW hT hw hab hle hb v3 d F k (t + 1) (by omega) (by
        intro s hs
        by_cases es : s = t
        · rw [es]; exact c.symm
        · exact i1 s (by omega))
      refine ⟨v7', Eq.trans ?_ a1⟩
      rw [r172_57]
      simp (disch := omega) only [r172_59, r172_61, r172_64, r172_66, r172_69, r172_70, r172_73, r172_75, r172_77, r172_78, r172_79, r172_80, r172_83, r172_84, r172_86, r172_87, r172_88, r172_91, r172_92, r172_95, r172_96, r172_98, r172_101, kd106, kd107, hr, hr2, c, kdC, kdM, rpC, rpM, q_rs, q_rn, Option.toList_some, Option.toList_none, List.cons_append, List.nil_append, true_and, and_true, eq_self, ↓reduceIte, not_true_eq_false, not_false_eq_true, Nat.reduceEqDiff, Nat.reduceLeDiff, Nat.reduceLT, Nat.reduceAdd, Nat.reduceMul, Nat.reduceSub, false_or, or_false, true_or, or_true, false_and, and_false, reduceCtorEq, q_n0, q_n1, q_em, q_em2, q_b0, q_b1, Classical.not_not, nI_add, pk_mul, nI_clamp, q_vp, nI_eq, nI_leI, nI_ltI, q_sub, show ¬ wl w ≤ t by omega, show ws w + t < 103 by omega, show a + t < 400 by omega]
    · have hno : ¬ maW B a b w := fun u => c (u.2 t (by omega)).symm
      refine ⟨.int (nI (t + 1)), ?_⟩
      rw [q_bf hno, r172_57]
      simp (disch := omega) only [r172_59, r172_61, r172_64, r172_66, r172_69, r172_70, r172_73, r172_75, r172_77, r172_78, r172_79, r172_80, r172_83, r172_84, r172_86, r172_87, r172_88, r172_91, r172_92, r172_95, r172_96, r172_98, r172_101, kd106, kd107, hr, hr2, c, kdC, kdM, rpC, rpM, q_rs, q_rn, Option.toList_some, Option.toList_none, List.cons_append, List.nil_append, true_and, and_true, eq_self, ↓reduceIte, not_true_eq_false, not_false_eq_true, Nat.reduceEqDiff, Nat.reduceLeDiff, Nat.reduceLT, Nat.reduceAdd, Nat.reduceMul, Nat.reduceSub, false_or, or_false, true_or, or_true, false_and, and_false, reduceCtorEq, q_n0, q_n1, q_em, q_em2, q_b0, q_b1, Classical.not_not, nI_add, pk_mul, nI_clamp, q_vp, nI_eq, nI_leI, nI_ltI, q_sub, show ¬ wl w ≤ t by omega, show ws w + t < 103 by omega, show a + t < 400 by omega]
      rw [r172_57]
      by_cases c2 : wl w ≤ t + 1
      · simp (disch := omega) only [r172_59, r172_61, r172_64, r172_66, kdC, kdM, rpC, rpM, q_rs, q_rn, Option.toList_some, Option.toList_none, List.cons_append, List.nil_append, true_and, and_true, eq_self, ↓reduceIte, not_true_eq_false, not_false_eq_true, Nat.reduceEqDiff, Nat.reduceLeDiff, Nat.reduceLT, Nat.reduceAdd, Nat.reduceMul, Nat.reduceSub, false_or, or_false, true_or, or_true, false_and, and_false, reduceCtorEq, q_n0, q_n1, q_em, q_em2, q_b0, q_b1, Classical.not_not, nI_add, pk_mul, nI_clamp, q_vp, nI_eq, nI_leI, nI_ltI, q_sub, c2]
      · simp (disch := omega) only [r172_59, r172_61, r172_64, r172_66, kdC, kdM, rpC, rpM, q_rs, q_rn, Option.toList_some, Option.toList_none, List.cons_append, List.nil_append, true_and, and_true, eq_self, ↓reduceIte, not_true_eq_false, not_false_eq_true, Nat.reduceEqDiff, Nat.reduceLeDiff, Nat.reduceLT, Nat.reduceAdd, Nat.reduceMul, Nat.reduceSub, false_or, or_false, true_or, or_true, false_and, and_false, reduceCtorEq, q_n0, q_n1, q_em, q_em2, q_b0, q_b1, Classical.not_not, nI_add, pk_mul, nI_clamp, q_vp, nI_eq, nI_leI, nI_ltI, q_sub, c2]
theorem ml172 (hW : WDS h) (hT : ∀ i, i < 400 → gI h 107 i = B i) {a b : Nat} (hle : a ≤ b) (hb : b ≤ 400) (d : Nat) (F : Po) : ∀ k w (v5 v6 v7 : Value), w + k = 20 → wp true d 172 5 [.ref 101, .int (nI a), .int (nI b), .int (nI (w + 1)), .int (nI (ws w)), v5, v6, v7] [] h F = F (some (.int (nI (wm (wrd B a b k w))))) h
  | 0, w, v5, v6, v7, e => by
    obtain rfl : w = 20 := e
    have : ws 20 = 103 := rfl
    rw [r172_5]
    simp (disch := omega) only [e172, r172_0, r172_1, r172_2, r172_3, r172_7, r172_8, r172_11, r172_12, r172_15, r172_16, r172_19, r172_22, r172_24, r172_26, r172_27, r172_28, r172_30, r172_33, r172_36, r172_39, r172_41, r172_42, r172_43, r172_44, r172_47, r172_48, r172_51, r172_52, r172_54, r172_55, r172_59, r172_61, r172_64, r172_66, r172_69, r172_70, r172_73, r172_75, r172_77, r172_78, r172_79, r172_80, r172_83, r172_84, r172_86, r172_87, r172_88, r172_91, r172_92, r172_95, r172_96, r172_98, r172_101, r172_104, r172_106, r172_109, r172_110, r172_111, r172_113, r172_115, r172_116, r172_117, r172_118, r172_120, r172_123, r172_126, r172_127, kd106, this, kdC, kdM, rpC, rpM, q_rs, q_rn, Option.toList_some, Option.toList_none, List.cons_append, List.nil_append, true_and, and_true, eq_self, ↓reduceIte, not_true_eq_false, not_false_eq_true, Nat.reduceEqDiff, Nat.reduceLeDiff, Nat.reduceLT, Nat.reduceAdd, Nat.reduceMul, Nat.reduceSub, false_or, or_false, true_or, or_true, false_and, and_false, reduceCtorEq, q_n0, q_n1, q_em, q_em2, q_b0, q_b1, Classical.not_not, nI_add, pk_mul, nI_clamp, q_vp, nI_eq, nI_leI, nI_ltI, q_sub, Nat.le_refl]
    rfl
  | k + 1, w, v5, v6, v7, e => by
    have hw : w < 20 := by omega
    obtain ⟨k1, k2, k3⟩ := ws_ok w hw
    have hl := fun v3 v6 v7 => ml172l hW hw (.int (nI a)) (.int (nI b)) v3 v6 v7 d F (wl w) 0 (by omega)
    rw [show wrd B a b (k + 1) w = pif (maW B a b w) w (wrd B a b k (w + 1)) from rfl, r172_5]
    simp (disch := omega) only [r172_7, r172_8, r172_11, r172_12, r172_15, r172_16, kd106, kdC, kdM, rpC, rpM, q_rs, q_rn, Option.toList_some, Option.toList_none, List.cons_append, List.nil_append, true_and, and_true, eq_self, ↓reduceIte, not_true_eq_false, not_false_eq_true, Nat.reduceEqDiff, Nat.reduceLeDiff, Nat.reduceLT, Nat.reduceAdd, Nat.reduceMul, Nat.reduceSub, false_or, or_false, true_or, or_true, false_and, and_false, reduceCtorEq, q_n0, q_n1, q_em, q_em2, q_b0, q_b1, Classical.not_not, nI_add, pk_mul, nI_clamp, q_vp, nI_eq, nI_leI, nI_ltI, q_sub, show ¬ 103 ≤ ws w by omega]
    refine Eq.trans (hl (.int (nI (w + 1))) v6 v7) ?_
    by_cases c : wl w = b - a
    · obtain ⟨v7', h1⟩ := ml172c hW hT hw c.symm hle hb (.int (nI (w + 1))) d F (wl w) 0 (by omega) (fun s hs => by omega)
      simp (disch := omega) only [r172_39, r172_41, r172_42, r172_43, r172_44, r172_47, r172_48, r172_51, r172_52, r172_54, r172_55, kdC, kdM, rpC, rpM, q_rs, q_rn, Option.toList_some, Option.toList_none, List.cons_append, List.nil_append, true_and, and_true, eq_self, ↓reduceIte, not_true_eq_false, not_false_eq_true, Nat.reduceEqDiff, Nat.reduceLeDiff, Nat.reduceLT, Nat.reduceAdd, Nat.reduceMul, Nat.reduceSub, false_or, or_false, true_or, or_true, false_and, and_false, reduceCtorEq, q_n0, q_n1, q_em, q_em2, q_b0, q_b1, Classical.not_not, nI_add, pk_mul, nI_clamp, q_vp, nI_eq, nI_leI, nI_ltI, q_sub, eq_true c]
      refine Eq.trans h1 ?_
      by_cases cm : maW B a b w
      · rw [q_bt cm, pif_t cm]
        have : wm w = w + 1 := by unfold wm; rw [if_neg (by omega)]
        simp (disch := omega) only [e172, r172_0, r172_1, r172_2, r172_3, r172_7, r172_8, r172_11, r172_12, r172_15, r172_16, r172_19, r172_22, r172_24, r172_26, r172_27, r172_28, r172_30, r172_33, r172_36, r172_39, r172_41, r172_42, r172_43, r172_44, r172_47, r172_48, r172_51, r172_52, r172_54, r172_55, r172_59, r172_61, r172_64, r172_66, r172_69, r172_70, r172_73, r172_75, r172_77, r172_78, r172_79, r172_80, r172_83, r172_84, r172_86, r172_87, r172_88, r172_91, r172_92, r172_95, r172_96, r172_98, r172_101, r172_104, r172_106, r172_109, r172_110, r172_111, r172_113, r172_115, r172_116, r172_117, r172_118, r172_120, r172_123, r172_126, r172_127, this, kdC, kdM, rpC, rpM, q_rs, q_rn, Option.toList_some, Option.toList_none, List.cons_append, List.nil_append, true_and, and_true, eq_self, ↓reduceIte, not_true_eq_false, not_false_eq_true, Nat.reduceEqDiff, Nat.reduceLeDiff, Nat.reduceLT, Nat.reduceAdd, Nat.reduceMul, Nat.reduceSub, false_or, or_false, true_or, or_true, false_and, and_false, reduceCtorEq, q_n0, q_n1, q_em, q_em2, q_b0, q_b1, Classical.not_not]
      · rw [q_bf cm, pif_f cm]
        refine Eq.trans ?_ (ml172 hW hT hle hb d F k (w + 1) (.int (nI (wl w))) (.int (nI 0)) v7' (by omega))
        rw [show ws (w + 1) = ws w + (wl w + 1) by omega]
        simp (disch := omega) only [r172_104, r172_106, r172_109, r172_110, r172_111, r172_113, r172_115, r172_116, r172_117, r172_118, r172_120, r172_123, kdC, kdM, rpC, rpM, q_rs, q_rn, Option.toList_some, Option.toList_none, List.cons_append, List.nil_append, true_and, and_true, eq_self, ↓reduceIte, not_true_eq_false, not_false_eq_true, Nat.reduceEqDiff, Nat.reduceLeDiff, Nat.reduceLT, Nat.reduceAdd, Nat.reduceMul, Nat.reduceSub, false_or, or_false, true_or, or_true, false_and, and_false, reduceCtorEq, q_n0, q_n1, q_em, q_em2, q_b0, q_b1, Classical.not_not, nI_add, pk_mul, nI_clamp, q_vp, nI_eq, nI_leI, nI_ltI, q_sub]
    · have cm : ¬ maW B a b w := fun u => c u.1.symm
      rw [pif_f cm]
      refine Eq.trans ?_ (ml172 hW hT hle hb d F k (w + 1) (.int (nI (wl w))) (.int (nI 0)) (.int (nI 0)) (by omega))
      rw [show ws (w + 1) = ws w + (wl w + 1) by omega]
      simp (disch := omega) only [r172_39, r172_41, r172_42, r172_43, r172_44, r172_47, r172_48, r172_51, r172_52, r172_54, r172_55, kdC, kdM, rpC, rpM, q_rs, q_rn, Option.toList_some, Option.toList_none, List.cons_append, List.nil_append, true_and, and_true, eq_self, ↓reduceIte, not_true_eq_false, not_false_eq_true, Nat.reduceEqDiff, Nat.reduceLeDiff, Nat.reduceLT, Nat.reduceAdd, Nat.reduceMul, Nat.reduceSub, false_or, or_false, true_or, or_true, false_and, and_false, reduceCtorEq, q_n0, q_n1, q_em, q_em2, q_b0, q_b1, Classical.not_not, nI_add, pk_mul, nI_clamp, q_vp, nI_eq, nI_leI, nI_ltI, q_sub, eq_false c]
      rw [r172_57]
      by_cases c2 : wl w ≤ 0
      · simp (disch := omega) only [r172_59, r172_61, r172_64, r172_66, r172_69, r172_70, r172_73, r172_75, r172_77, r172_78, r172_79, r172_80, r172_83, r172_84, r172_86, r172_87, r172_88, r172_91, r172_92, r172_95, r172_96, r172_98, r172_101, r172_104, r172_106, r172_109, r172_110, r172_111, r172_113, r172_115, r172_116, r172_117, r172_118, r172_120, r172_123, kdC, kdM, rpC, rpM, q_rs, q_rn, Option.toList_some, Option.toList_none, List.cons_append, List.nil_append, true_and, and_true, eq_self, ↓reduceIte, not_true_eq_false, not_false_eq_true, Nat.reduceEqDiff, Nat.reduceLeDiff, Nat.reduceLT, Nat.reduceAdd, Nat.reduceMul, Nat.reduceSub, false_or, or_false, true_or, or_true, false_and, and_false, reduceCtorEq, q_n0, q_n1, q_em, q_em2, q_b0, q_b1, Classical.not_not, nI_add, pk_mul, nI_clamp, q_vp, nI_eq, nI_leI, nI_ltI, q_sub, c2]
      · simp (disch := omega) only [r172_59, r172_61, r172_64, r172_66, r172_69, r172_70, r172_73, r172_75, r172_77, r172_78, r172_79, r172_80, r172_83, r172_84, r172_86, r172_87, r172_88, r172_91, r172_92, r172_95, r172_96, r172_98, r172_101, r172_104, r172_106, r172_109, r172_110, r172_111, r172_113, r172_115, r172_116, r172_117, r172_118, r172_120, r172_123, kdC, kdM, rpC, rpM, q_rs, q_rn, Option.toList_some, Option.toList_none, List.cons_append, List.nil_append, true_and, and_true, eq_self, ↓reduceIte, not_true_eq_false, not_false_eq_true, Nat.reduceEqDiff, Nat.reduceLeDiff, Nat.reduceLT, Nat.reduceAdd, Nat.reduceMul, Nat.reduceSub, false_or, or_false, true_or, or_true, false_and, and_false, reduceCtorEq, q_n0, q_n1, q_em, q_em2, q_b0, q_b1, Classical.not_not, nI_add, pk_mul, nI_clamp, q_vp, nI_eq, nI_leI, nI_ltI, q_sub, c2]
theorem m172 (hW : WDS h) (hT : ∀ i, i < 400 → gI h 107 i = B i) {a b : Nat} (hle : a ≤ b) (hb : b ≤ 400) (d : Nat) (F : Po) : cwp true d 172 [.ref 101, .int (nI a), .int (nI b)] h F = F (some (.int (nI (wm (kwd B a b))))) h := by
  refine Eq.trans ?_ (ml172 hW hT hle hb d F 20 0 jn jn jn rfl)
  simp (disch := omega) only [r172_0, r172_1, r172_2, r172_3, e172]
  rfl
/-- codes and values of tokens, the model's -/
noncomputable def mcJ (B : Nat → Int32) (n j : Nat) : Int32 := pif (n ≤ tpl B n j) (nI 0) (pif (smP (B (tpl B n j))) (nI (wm (kwd B (tpl B n j) (tps B n (j + 1))))) (pif (dgP (B (tpl B n j))) (nI 50) (nI 100 + (B (tpl B n j) &&& nI 255))))
noncomputable def mvJ (B : Nat → Int32) (n j : Nat) : Int32 := pif (n ≤ tpl B n j) (nI 0) (pif (dgP (B (tpl B n j))) (nI (tnm B n j)) (nI 0))
def spS (a i : Nat) : Bool := Nat.beq a 109 || (Nat.beq a 110 || (Nat.beq a 111 || (Nat.beq a 101 && Nat.beq i 13)))
theorem sm_dg {x : Int32} (h1 : smP x) : ¬ dgP x := by
  intro h2
  have a := h1.1
  have b := h2.2
  rw [Int32.le_iff_toInt_le] at a b
  have k1 : (nI 97).toInt = 97 := by decide
  have k2 : (nI 57).toInt = 57 := by decide
  omega
theorem nmM_le (a : Nat) : ∀ k, (∀ i, i < k → dgP (B (a + i))) → nmM B a k ≤ 10000009
  | 0, _ => by show 0 ≤ 10000009; omega
  | k + 1, hd => by
    have ih := nmM_le a k (fun i hi => hd i (by omega))
    obtain ⟨u, u1, u2, u3⟩ := dg_n (hd k (by omega))
    show (if 1000000 < nmM B a k then nmM B a k else 10 * nmM B a k + ((B (a + k)).toNatClampNeg - 48)) ≤ 10000009
    rw [u3, nI_clamp (by omega)]
    split <;> omega
theorem scn_in {p : Int32 → Prop} : ∀ k i, n - i = k → ∀ t, i ≤ t → t < scn B n p i → p (B t)
  | 0, i, e, t, h1, h2 => by
    rw [scn_n B n (by omega)] at h2
    omega
  | k + 1, i, e, t, h1, h2 => by
    by_cases c : i < n ∧ p (B i)
    · rw [scn_y B n c.1 c.2] at h2
      by_cases et : t = i
      · rw [et]; exact c.2
      · exact scn_in k (i + 1) (by omega) t (by omega) h2
    · rw [scn_n B n c] at h2
      omega
/-- letters or digits are passed -/
theorem ml173a (hT : ∀ i, i < 400 → gI h 107 i = B i) (hn : n ≤ 400) (v2 v3 v5 : Value) (d : Nat) (F : Po) : ∀ k i, i + k = n → wp true (d + 1) 173 43 [.ref 101, .int (nI n), v2, v3, .int (nI i), v5] [] h F = wp true (d + 1) 173 68 [.ref 101, .int (nI n), v2, v3, .int (nI (scn B n smP i)), v5] [] h F
  | 0, i, e => by
    obtain rfl : i = n := e
    rw [scn_n B i (by omega), r173_43]
    simp (disch := omega) only [r173_45, r173_46, kdC, kdM, rpC, rpM, q_rs, q_rn, Option.toList_some, Option.toList_none, List.cons_append, List.nil_append, true_and, and_true, eq_self, ↓reduceIte, not_true_eq_false, not_false_eq_true, Nat.reduceEqDiff, Nat.reduceLeDiff, Nat.reduceLT, Nat.reduceAdd, Nat.reduceMul, Nat.reduceSub, false_or, or_false, true_or, or_true, false_and, and_false, reduceCtorEq, q_n0, q_n1, q_em, q_em2, q_b0, q_b1, Classical.not_not, nI_add, pk_mul, nI_clamp, q_vp, nI_eq, nI_leI, nI_ltI, q_sub, Nat.le_refl]
  | k + 1, i, e => by
    have hr := hT i (by omega)
    have h1 := fun x F d => m170 (h := h) x d F
    by_cases c : smP (B i)
    · rw [scn_y B n (show i < n by omega) c]
      refine Eq.trans ?_ (ml173a hT hn v2 v3 v5 d F k (i + 1) (by omega))
      rw [r173_43]
      simp (disch := omega) only [r173_45, r173_46, r173_49, r173_50, r173_53, r173_55, r173_56, r173_59, r173_62, r173_65, kd107, hr, h1, q_bt c, kdC, kdM, rpC, rpM, q_rs, q_rn, Option.toList_some, Option.toList_none, List.cons_append, List.nil_append, true_and, and_true, eq_self, ↓reduceIte, not_true_eq_false, not_false_eq_true, Nat.reduceEqDiff, Nat.reduceLeDiff, Nat.reduceLT, Nat.reduceAdd, Nat.reduceMul, Nat.reduceSub, false_or, or_false, true_or, or_true, false_and, and_false, reduceCtorEq, q_n0, q_n1, q_em, q_em2, q_b0, q_b1, Classical.not_not, nI_add, pk_mul, nI_clamp, q_vp, nI_eq, nI_leI, nI_ltI, q_sub, show ¬ n ≤ i by omega, show i < 400 by omega]
    · rw [scn_n B n (fun u => c u.2), r173_43]
      simp (disch := omega) only [r173_45, r173_46, r173_49, r173_50, r173_53, r173_55, r173_56, r173_59, r173_62, r173_65, kd107, hr, h1, q_bf c, kdC, kdM, rpC, rpM, q_rs, q_rn, Option.toList_some, Option.toList_none, List.cons_append, List.nil_append, true_and, and_true, eq_self, ↓reduceIte, not_true_eq_false, not_false_eq_true, Nat.reduceEqDiff, Nat.reduceLeDiff, Nat.reduceLT, Nat.reduceAdd, Nat.reduceMul, Nat.reduceSub, false_or, or_false, true_or, or_true, false_and, and_false, reduceCtorEq, q_n0, q_n1, q_em, q_em2, q_b0, q_b1, Classical.not_not, nI_add, pk_mul, nI_clamp, q_vp, nI_eq, nI_leI, nI_ltI, q_sub, show ¬ n ≤ i by omega, show i < 400 by omega]
theorem ml173b (hT : ∀ i, i < 400 → gI h 107 i = B i) (hn : n ≤ 400) (v2 v3 v5 : Value) (d : Nat) (F : Po) : ∀ k i, i + k = n → wp true (d + 1) 173 75 [.ref 101, .int (nI n), v2, v3, .int (nI i), v5] [] h F = wp true (d + 1) 173 100 [.ref 101, .int (nI n), v2, v3, .int (nI (scn B n dgP i)), v5] [] h F
  | 0, i, e => by
    obtain rfl : i = n := e
    rw [scn_n B i (by omega), r173_75]
    simp (disch := omega) only [r173_77, r173_78, kdC, kdM, rpC, rpM, q_rs, q_rn, Option.toList_some, Option.toList_none, List.cons_append, List.nil_append, true_and, and_true, eq_self, ↓reduceIte, not_true_eq_false, not_false_eq_true, Nat.reduceEqDiff, Nat.reduceLeDiff, Nat.reduceLT, Nat.reduceAdd, Nat.reduceMul, Nat.reduceSub, false_or, or_false, true_or, or_true, false_and, and_false, reduceCtorEq, q_n0, q_n1, q_em, q_em2, q_b0, q_b1, Classical.not_not, nI_add, pk_mul, nI_clamp, q_vp, nI_eq, nI_leI, nI_ltI, q_sub, Nat.le_refl]
  | k + 1, i, e => by
    have hr := hT i (by omega)
    have h1 := fun x F d => m171 (h := h) x d F
    by_cases c : dgP (B i)
    · rw [scn_y B n (show i < n by omega) c]
      refine Eq.trans ?_ (ml173b hT hn v2 v3 v5 d F k (i + 1) (by omega))
      rw [r173_75]
      simp (disch := omega) only [r173_77, r173_78, r173_81, r173_82, r173_85, r173_87, r173_88, r173_91, r173_94, r173_97, kd107, hr, h1, q_bt c, kdC, kdM, rpC, rpM, q_rs, q_rn, Option.toList_some, Option.toList_none, List.cons_append, List.nil_append, true_and, and_true, eq_self, ↓reduceIte, not_true_eq_false, not_false_eq_true, Nat.reduceEqDiff, Nat.reduceLeDiff, Nat.reduceLT, Nat.reduceAdd, Nat.reduceMul, Nat.reduceSub, false_or, or_false, true_or, or_true, false_and, and_false, reduceCtorEq, q_n0, q_n1, q_em, q_em2, q_b0, q_b1, Classical.not_not, nI_add, pk_mul, nI_clamp, q_vp, nI_eq, nI_leI, nI_ltI, q_sub, show ¬ n ≤ i by omega, show i < 400 by omega]
    · rw [scn_n B n (fun u => c u.2), r173_75]
      simp (disch := omega) only [r173_77, r173_78, r173_81, r173_82, r173_85, r173_87, r173_88, r173_91, r173_94, r173_97, kd107, hr, h1, q_bf c, kdC, kdM, rpC, rpM, q_rs, q_rn, Option.toList_some, Option.toList_none, List.cons_append, List.nil_append, true_and, and_true, eq_self, ↓reduceIte, not_true_eq_false, not_false_eq_true, Nat.reduceEqDiff, Nat.reduceLeDiff, Nat.reduceLT, Nat.reduceAdd, Nat.reduceMul, Nat.reduceSub, false_or, or_false, true_or, or_true, false_and, and_false, reduceCtorEq, q_n0, q_n1, q_em, q_em2, q_b0, q_b1, Classical.not_not, nI_add, pk_mul, nI_clamp, q_vp, nI_eq, nI_leI, nI_ltI, q_sub, show ¬ n ≤ i by omega, show i < 400 by omega]
/-- the number is reckoned -/
theorem ml173v (hT : ∀ i, i < 400 → gI h 107 i = B i) {a e j : Nat} (he : e ≤ 400) (hj : j < 401) (hd : ∀ t, a ≤ t → t < e → dgP (B t)) (h13 : gI h 101 13 = nI j) {x : Int32} (hx : dgP x) (v1 v2 : Value) : ∀ k i h0, i + k = e → a ≤ i → FrS spS h h0 → gI h0 101 13 = nI j → gI h0 109 = gI h 109 → gI h0 111 = gI h 111 → (∀ t, t ≠ j → gI h0 110 t = gI h 110 t) → gI h0 110 j = nI (nmM B a (i - a)) → ∃ h' v5', FrS spS h h' ∧ gI h' 101 13 = nI j ∧ gI h' 109 = gI h 109 ∧ gI h' 111 = gI h 111 ∧ (∀ t, t ≠ j → gI h' 110 t = gI h 110 t) ∧ gI h' 110 j = nI (nmM B a (e - a)) ∧ ∀ d F, wp true (d + 1) 173 169 [.ref 101, v1, v2, .int x, .int (nI e), .int (nI i)] [] h0 F = wp true (d + 1) 173 247 [.ref 101, v1, v2, .int x, .int (nI e), v5'] [] h' F
  | 0, i, h0, ee, ha, y, g13, g9, g11, gt, gj => by
    obtain rfl : i = e := ee
    refine ⟨h0, .int (nI i), y, g13, g9, g11, gt, gj, fun d F => ?_⟩
    rw [r173_169]
    simp (disch := omega) only [r173_171, r173_173, kdC, kdM, rpC, rpM, q_rs, q_rn, Option.toList_some, Option.toList_none, List.cons_append, List.nil_append, true_and, and_true, eq_self, ↓reduceIte, not_true_eq_false, not_false_eq_true, Nat.reduceEqDiff, Nat.reduceLeDiff, Nat.reduceLT, Nat.reduceAdd, Nat.reduceMul, Nat.reduceSub, false_or, or_false, true_or, or_true, false_and, and_false, reduceCtorEq, q_n0, q_n1, q_em, q_em2, q_b0, q_b1, Classical.not_not, nI_add, pk_mul, nI_clamp, q_vp, nI_eq, nI_leI, nI_ltI, q_sub, Nat.le_refl]
  | k + 1, i, h0, ee, ha, y, g13, g9, g11, gt, gj => by
    obtain ⟨u, u1, u2, u3⟩ := dg_n (hd i ha (by omega))
    have hr : gI h0 107 i = nI u := by rw [y.g (a := 107) (i := i) rfl, hT i (by omega)]; exact u3
    have hl := nmM_le (B := B) a (i - a) (fun t ht => hd (a + t) (by omega) (by omega))
    have hnx : nmM B a (i + 1 - a) = if 1000000 < nmM B a (i - a) then nmM B a (i - a) else 10 * nmM B a (i - a) + (u - 48) := by
      rw [show i + 1 - a = (i - a) + 1 by omega]
      show (if 1000000 < nmM B a (i - a) then nmM B a (i - a) else 10 * nmM B a (i - a) + ((B (a + (i - a))).toNatClampNeg - 48)) = _
      rw [show a + (i - a) = i by omega, u3, nI_clamp (by omega)]
    have h1 := fun x F d => m171 (h := h0) x d F
    obtain ⟨h', v5', a1, a2, a3, a4, a5, a6, a7⟩ := ml173v hT he hj hd h13 hx v1 v2 k (i + 1) (sI h0 110 j (nI (nmM B a (i + 1 - a)))) (by omega) (by omega) (y.sI _ rfl) (by rw [q_gn (by omega)]; exact g13) (by rw [q_gn (by omega)]; exact g9) (by rw [q_gn (by omega)]; exact g11) (fun t ht => by rw [q_gm ht]; exact gt t ht) (q_gs _ _ _ _)
    refine ⟨h', v5', a1, a2, a3, a4, a5, a6, fun d F => ?_⟩
    refine Eq.trans ?_ (a7 d F)
    rw [r173_169, hnx]
    by_cases c : 1000000 < nmM B a (i - a)
    · rw [if_pos c]
      simp (disch := omega) only [r173_171, r173_173, r173_176, r173_177, r173_180, r173_183, r173_184, r173_187, r173_188, r173_191, r173_192, r173_195, r173_196, r173_199, r173_200, r173_202, r173_205, r173_206, r173_209, r173_210, r173_213, r173_214, r173_217, r173_219, r173_220, r173_223, r173_224, r173_227, r173_228, r173_229, r173_230, r173_233, r173_235, r173_236, r173_237, r173_239, r173_240, r173_241, r173_244, h1, q_bt hx, g13, gj, kdC, kdM, rpC, rpM, q_rs, q_rn, Option.toList_some, Option.toList_none, List.cons_append, List.nil_append, true_and, and_true, eq_self, ↓reduceIte, not_true_eq_false, not_false_eq_true, Nat.reduceEqDiff, Nat.reduceLeDiff, Nat.reduceLT, Nat.reduceAdd, Nat.reduceMul, Nat.reduceSub, false_or, or_false, true_or, or_true, false_and, and_false, reduceCtorEq, q_n0, q_n1, q_em, q_em2, q_b0, q_b1, Classical.not_not, nI_add, pk_mul, nI_clamp, q_vp, nI_eq, nI_leI, nI_ltI, q_sub, hj, show ¬ e ≤ i by omega, show ¬ nmM B a (i - a) ≤ 1000000 by omega]
    · rw [if_neg c]
      simp (disch := omega) only [r173_171, r173_173, r173_176, r173_177, r173_180, r173_183, r173_184, r173_187, r173_188, r173_191, r173_192, r173_195, r173_196, r173_199, r173_200, r173_202, r173_205, r173_206, r173_209, r173_210, r173_213, r173_214, r173_217, r173_219, r173_220, r173_223, r173_224, r173_227, r173_228, r173_229, r173_230, r173_233, r173_235, r173_236, r173_237, r173_239, r173_240, r173_241, r173_244, kd107, h1, q_bt hx, g13, gj, hr, kdC, kdM, rpC, rpM, q_rs, q_rn, Option.toList_some, Option.toList_none, List.cons_append, List.nil_append, true_and, and_true, eq_self, ↓reduceIte, not_true_eq_false, not_false_eq_true, Nat.reduceEqDiff, Nat.reduceLeDiff, Nat.reduceLT, Nat.reduceAdd, Nat.reduceMul, Nat.reduceSub, false_or, or_false, true_or, or_true, false_and, and_false, reduceCtorEq, q_n0, q_n1, q_em, q_em2, q_b0, q_b1, Classical.not_not, nI_add, pk_mul, nI_clamp, q_vp, nI_eq, nI_leI, nI_ltI, q_sub, hj, show ¬ e ≤ i by omega, show nmM B a (i - a) ≤ 1000000 by omega, show i < 400 by omega, show 10 * nmM B a (i - a) + u - 48 = 10 * nmM B a (i - a) + (u - 48) by omega]
end SP
