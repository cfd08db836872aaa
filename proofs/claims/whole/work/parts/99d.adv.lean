/-! advance (the class) -/
theorem kdT77 (h : Hp) : kdm true h 77 = (22, 400) := rfl
section AV
variable {h : Hp} {B : Nat → Int32} {n : Nat}
theorem c44 (x : Int32) (d : Nat) (F : Po) : cwp true d 44 [.int x] h F = F (some (.int (bz (smP x)))) h := by
  unfold smP
  simp only [e44, r44_0, r44_1, r44_3, r44_6, r44_7, r44_9, r44_12, r44_13, r44_16, r44_17, kdC, kdM, rpC, rpM, q_rs, q_rn, Option.toList_some, Option.toList_none, List.cons_append, List.nil_append, true_and, and_true, eq_self, ↓reduceIte, not_true_eq_false, not_false_eq_true, Nat.reduceEqDiff, Nat.reduceLeDiff, Nat.reduceLT, Nat.reduceAdd, Nat.reduceMul, Nat.reduceSub, false_or, or_false, true_or, or_true, false_and, and_false, reduceCtorEq, q_n0, q_n1, q_em, q_em2, q_b0, q_b1, Classical.not_not, q_bif, q_bif2, q_bi1, q_bi2, q_bi3, q_bi4, q_ifF, Int32.not_lt, Int32.not_le]
theorem c45 (x : Int32) (d : Nat) (F : Po) : cwp true d 45 [.int x] h F = F (some (.int (bz (dgP x)))) h := by
  unfold dgP
  simp only [e45, r45_0, r45_1, r45_3, r45_6, r45_7, r45_9, r45_12, r45_13, r45_16, r45_17, kdC, kdM, rpC, rpM, q_rs, q_rn, Option.toList_some, Option.toList_none, List.cons_append, List.nil_append, true_and, and_true, eq_self, ↓reduceIte, not_true_eq_false, not_false_eq_true, Nat.reduceEqDiff, Nat.reduceLeDiff, Nat.reduceLT, Nat.reduceAdd, Nat.reduceMul, Nat.reduceSub, false_or, or_false, true_or, or_true, false_and, and_false, reduceCtorEq, q_n0, q_n1, q_em, q_em2, q_b0, q_b1, Classical.not_not, q_bif, q_bif2, q_bi1, q_bi2, q_bi3, q_bi4, q_ifF, Int32.not_lt, Int32.not_le]
/-- the word w is compared from its t-th letter on -/
theorem cl46w {a b w : Nat} (hw : w < 20) (ha : a ≤ b) (hb : b ≤ 400) (h5 : gI h 76 5 = nI a) (h3 : gI h 76 3 = nI b) (hT : ∀ i, i < 400 → gI h 77 i = B i) : ∀ k t (v5 : Value), t + k = wl w → ∃ v5' : Value, ∀ d F, wp true d 46 9 [.ref 76, .int (nI w), .int (nI t), .int (bz (∀ s, s < t → a + s < b ∧ B (a + s) = nms (ws w + s))), .int (nI (ws w + t)), v5] [] h F = wp true d 46 9 [.ref 76, .int (nI w), .int (nI (wl w)), .int (bz (∀ s, s < wl w → a + s < b ∧ B (a + s) = nms (ws w + s))), .int (nI (ws w + wl w)), v5'] [] h F
  | 0, t, v5, e => by
    obtain rfl : t = wl w := e
    exact ⟨v5, fun d F => rfl⟩
  | k + 1, t, v5, e => by
    obtain ⟨k1, k2, k3⟩ := ws_ok w hw
    have hsp := ws_in w hw t (by omega)
    obtain ⟨v5', a2⟩ := cl46w hw ha hb h5 h3 hT k (t + 1) (.int (nms (ws w + t))) (by omega)
    refine ⟨v5', fun d F => ?_⟩
    refine Eq.trans ?_ (a2 d F)
    have hstep : (∀ s, s < t + 1 → a + s < b ∧ B (a + s) = nms (ws w + s)) ↔ ((∀ s, s < t → a + s < b ∧ B (a + s) = nms (ws w + s)) ∧ (a + t < b ∧ B (a + t) = nms (ws w + t))) := by
      constructor
      · intro u; exact ⟨fun s hs => u s (by omega), u t (by omega)⟩
      · rintro ⟨u1, u2⟩ s hs
        by_cases es : s = t
        · rw [es]; exact u2
        · exact u1 s (by omega)
    rw [r46_9]
    by_cases c : ∀ s, s < t → a + s < b ∧ B (a + s) = nms (ws w + s)
    · by_cases c2 : a + t < b
      · have hr := hT (a + t) (by omega)
        by_cases c3 : B (a + t) = nms (ws w + t)
        · rw [q_bt c, q_bt (hstep.mpr ⟨c, c2, c3⟩)]
          simp (disch := omega) only [r46_11, r46_13, r46_16, r46_19, r46_21, r46_23, r46_26, r46_28, r46_30, r46_32, r46_35, r46_36, r46_39, r46_40, r46_43, r46_44, r46_45, r46_46, r46_49, r46_52, r46_53, r46_54, r46_57, r46_58, r46_59, r46_60, r46_61, r46_64, r46_65, r46_68, r46_69, r46_72, r46_73, r46_74, r46_75, r46_78, r46_81, r46_82, r46_85, r46_86, r46_89, r46_90, r46_91, r46_92, r46_94, r46_97, r46_98, r46_101, r46_102, r46_103, r46_106, r46_109, kdT77, h5, h3, hr, c3, hsp, kdC, kdM, rpC, rpM, q_rs, q_rn, Option.toList_some, Option.toList_none, List.cons_append, List.nil_append, true_and, and_true, eq_self, ↓reduceIte, not_true_eq_false, not_false_eq_true, Nat.reduceEqDiff, Nat.reduceLeDiff, Nat.reduceLT, Nat.reduceAdd, Nat.reduceMul, Nat.reduceSub, false_or, or_false, true_or, or_true, false_and, and_false, reduceCtorEq, q_n0, q_n1, q_em, q_em2, q_b0, q_b1, Classical.not_not, nI_add, pk_mul, nI_clamp, q_vp, nI_eq, nI_leI, nI_ltI, q_sub, show ¬ 103 ≤ ws w + t by omega, show ws w + t < 103 by omega, show ¬ b ≤ a + t by omega, show a + t < 400 by omega]
          rfl
        · rw [q_bt c, q_bf (fun u => c3 (hstep.mp u).2.2)]
          simp (disch := omega) only [r46_11, r46_13, r46_16, r46_19, r46_21, r46_23, r46_26, r46_28, r46_30, r46_32, r46_35, r46_36, r46_39, r46_40, r46_43, r46_44, r46_45, r46_46, r46_49, r46_52, r46_53, r46_54, r46_57, r46_58, r46_59, r46_60, r46_61, r46_64, r46_65, r46_68, r46_69, r46_72, r46_73, r46_74, r46_75, r46_78, r46_81, r46_82, r46_85, r46_86, r46_89, r46_90, r46_91, r46_92, r46_94, r46_97, r46_98, r46_101, r46_102, r46_103, r46_106, r46_109, kdT77, h5, h3, hr, c3, hsp, kdC, kdM, rpC, rpM, q_rs, q_rn, Option.toList_some, Option.toList_none, List.cons_append, List.nil_append, true_and, and_true, eq_self, ↓reduceIte, not_true_eq_false, not_false_eq_true, Nat.reduceEqDiff, Nat.reduceLeDiff, Nat.reduceLT, Nat.reduceAdd, Nat.reduceMul, Nat.reduceSub, false_or, or_false, true_or, or_true, false_and, and_false, reduceCtorEq, q_n0, q_n1, q_em, q_em2, q_b0, q_b1, Classical.not_not, nI_add, pk_mul, nI_clamp, q_vp, nI_eq, nI_leI, nI_ltI, q_sub, show ¬ 103 ≤ ws w + t by omega, show ws w + t < 103 by omega, show ¬ b ≤ a + t by omega, show a + t < 400 by omega]
          rfl
      · rw [q_bt c, q_bf (fun u => c2 (hstep.mp u).2.1)]
        simp (disch := omega) only [r46_11, r46_13, r46_16, r46_19, r46_21, r46_23, r46_26, r46_28, r46_30, r46_32, r46_35, r46_36, r46_39, r46_40, r46_43, r46_44, r46_45, r46_46, r46_49, r46_52, r46_53, r46_54, r46_57, r46_58, r46_59, r46_60, r46_61, r46_64, r46_65, r46_68, r46_69, r46_72, r46_73, r46_74, r46_75, r46_78, r46_81, r46_82, r46_85, r46_86, r46_89, r46_90, r46_91, r46_92, r46_94, r46_97, r46_98, r46_101, r46_102, r46_103, r46_106, r46_109, h5, h3, hsp, kdC, kdM, rpC, rpM, q_rs, q_rn, Option.toList_some, Option.toList_none, List.cons_append, List.nil_append, true_and, and_true, eq_self, ↓reduceIte, not_true_eq_false, not_false_eq_true, Nat.reduceEqDiff, Nat.reduceLeDiff, Nat.reduceLT, Nat.reduceAdd, Nat.reduceMul, Nat.reduceSub, false_or, or_false, true_or, or_true, false_and, and_false, reduceCtorEq, q_n0, q_n1, q_em, q_em2, q_b0, q_b1, Classical.not_not, nI_add, pk_mul, nI_clamp, q_vp, nI_eq, nI_leI, nI_ltI, q_sub, show ¬ 103 ≤ ws w + t by omega, show ws w + t < 103 by omega, show b ≤ a + t by omega]
        rfl
    · rw [q_bf c, q_bf (fun u => c (hstep.mp u).1)]
      simp (disch := omega) only [r46_11, r46_13, r46_16, r46_19, r46_21, r46_23, r46_26, r46_28, r46_30, r46_32, r46_35, r46_36, r46_39, r46_40, r46_43, r46_44, r46_45, r46_46, r46_49, r46_52, r46_53, r46_54, r46_57, r46_58, r46_59, r46_60, r46_61, r46_64, r46_65, r46_68, r46_69, r46_72, r46_73, r46_74, r46_75, r46_78, r46_81, r46_82, r46_85, r46_86, r46_89, r46_90, r46_91, r46_92, r46_94, r46_97, r46_98, r46_101, r46_102, r46_103, r46_106, r46_109, hsp, kdC, kdM, rpC, rpM, q_rs, q_rn, Option.toList_some, Option.toList_none, List.cons_append, List.nil_append, true_and, and_true, eq_self, ↓reduceIte, not_true_eq_false, not_false_eq_true, Nat.reduceEqDiff, Nat.reduceLeDiff, Nat.reduceLT, Nat.reduceAdd, Nat.reduceMul, Nat.reduceSub, false_or, or_false, true_or, or_true, false_and, and_false, reduceCtorEq, q_n0, q_n1, q_em, q_em2, q_b0, q_b1, Classical.not_not, nI_add, pk_mul, nI_clamp, q_vp, nI_eq, nI_leI, nI_ltI, q_sub, show ¬ 103 ≤ ws w + t by omega, show ws w + t < 103 by omega]
      rfl
theorem maW_i {a b w : Nat} (ha : a ≤ b) : maW B a b w ↔ ((∀ s, s < wl w → a + s < b ∧ B (a + s) = nms (ws w + s)) ∧ a + wl w = b) := by
  unfold maW
  constructor
  · rintro ⟨h1, h2⟩
    exact ⟨fun s hs => ⟨by omega, h2 s hs⟩, by omega⟩
  · rintro ⟨h1, h2⟩
    exact ⟨by omega, fun t ht => (h1 t ht).2⟩
theorem cl46 {a b : Nat} (ha : a ≤ b) (hb : b ≤ 400) (h5 : gI h 76 5 = nI a) (h3 : gI h 76 3 = nI b) (hT : ∀ i, i < 400 → gI h 77 i = B i) (d : Nat) (F : Po) : ∀ k w (v5 : Value), w + k = 20 → wp true d 46 9 [.ref 76, .int (nI w), .int (nI 0), .int (nI 1), .int (nI (ws w)), v5] [] h F = F (some (.int (nI (wrd B a b k w)))) h
  | 0, w, v5, e => by
    obtain rfl : w = 20 := e
    rw [r46_9]
    have : ws 20 = 103 := rfl
    simp (disch := omega) only [e46, r46_0, r46_1, r46_2, r46_3, r46_4, r46_5, r46_6, r46_7, r46_11, r46_13, r46_16, r46_19, r46_21, r46_23, r46_26, r46_28, r46_30, r46_32, r46_35, r46_36, r46_39, r46_40, r46_43, r46_44, r46_45, r46_46, r46_49, r46_52, r46_53, r46_54, r46_57, r46_58, r46_59, r46_60, r46_61, r46_64, r46_65, r46_68, r46_69, r46_72, r46_73, r46_74, r46_75, r46_78, r46_81, r46_82, r46_85, r46_86, r46_89, r46_90, r46_91, r46_92, r46_94, r46_97, r46_98, r46_101, r46_102, r46_103, r46_106, r46_109, r46_112, r46_114, this, kdC, kdM, rpC, rpM, q_rs, q_rn, Option.toList_some, Option.toList_none, List.cons_append, List.nil_append, true_and, and_true, eq_self, ↓reduceIte, not_true_eq_false, not_false_eq_true, Nat.reduceEqDiff, Nat.reduceLeDiff, Nat.reduceLT, Nat.reduceAdd, Nat.reduceMul, Nat.reduceSub, false_or, or_false, true_or, or_true, false_and, and_false, reduceCtorEq, q_n0, q_n1, q_em, q_em2, q_b0, q_b1, Classical.not_not, nI_add, pk_mul, nI_clamp, q_vp, nI_eq, nI_leI, nI_ltI, q_sub, Nat.le_refl]
    rfl
  | k + 1, w, v5, e => by
    have hw : w < 20 := by omega
    obtain ⟨k1, k2, k3⟩ := ws_ok w hw
    obtain ⟨v5', hl⟩ := cl46w hw ha hb h5 h3 hT (wl w) 0 v5 (by omega)
    have hl' := hl d F
    rw [q_bt (fun s hs => by omega), Nat.add_zero] at hl'
    refine Eq.trans hl' ?_
    have hi := maW_i (B := B) (w := w) ha
    rw [show wrd B a b (k + 1) w = pif (maW B a b w) w (wrd B a b k (w + 1)) from rfl]
    rw [r46_9]
    by_cases c : ∀ s, s < wl w → a + s < b ∧ B (a + s) = nms (ws w + s)
    · rw [q_bt c]
      by_cases c2 : a + wl w = b
      · rw [pif_t (hi.mpr ⟨c, c2⟩)]
        simp (disch := omega) only [e46, r46_0, r46_1, r46_2, r46_3, r46_4, r46_5, r46_6, r46_7, r46_11, r46_13, r46_16, r46_19, r46_21, r46_23, r46_26, r46_28, r46_30, r46_32, r46_35, r46_36, r46_39, r46_40, r46_43, r46_44, r46_45, r46_46, r46_49, r46_52, r46_53, r46_54, r46_57, r46_58, r46_59, r46_60, r46_61, r46_64, r46_65, r46_68, r46_69, r46_72, r46_73, r46_74, r46_75, r46_78, r46_81, r46_82, r46_85, r46_86, r46_89, r46_90, r46_91, r46_92, r46_94, r46_97, r46_98, r46_101, r46_102, r46_103, r46_106, r46_109, r46_112, r46_114, h5, h3, k3, c2, kdC, kdM, rpC, rpM, q_rs, q_rn, Option.toList_some, Option.toList_none, List.cons_append, List.nil_append, true_and, and_true, eq_self, ↓reduceIte, not_true_eq_false, not_false_eq_true, Nat.reduceEqDiff, Nat.reduceLeDiff, Nat.reduceLT, Nat.reduceAdd, Nat.reduceMul, Nat.reduceSub, false_or, or_false, true_or, or_true, false_and, and_false, reduceCtorEq, q_n0, q_n1, q_em, q_em2, q_b0, q_b1, Classical.not_not, nI_add, pk_mul, nI_clamp, q_vp, nI_eq, nI_leI, nI_ltI, q_sub, show ¬ 103 ≤ ws w + wl w by omega, k1]
      · rw [pif_f (fun u => c2 (hi.mp u).2)]
        refine Eq.trans ?_ (cl46 ha hb h5 h3 hT d F k (w + 1) (.int (nI 32)) (by omega))
        rw [k2]
        simp (disch := omega) only [r46_11, r46_13, r46_16, r46_19, r46_21, r46_23, r46_26, r46_28, r46_30, r46_32, r46_35, r46_36, r46_39, r46_40, r46_43, r46_44, r46_45, r46_46, r46_49, r46_52, r46_53, r46_54, r46_57, r46_58, r46_59, r46_60, r46_61, r46_64, r46_65, r46_68, r46_69, r46_72, r46_73, r46_74, r46_75, r46_78, r46_81, r46_82, r46_85, r46_86, r46_89, r46_90, r46_91, r46_92, r46_94, r46_97, r46_98, r46_101, r46_102, r46_103, r46_106, r46_109, h5, h3, k3, c2, kdC, kdM, rpC, rpM, q_rs, q_rn, Option.toList_some, Option.toList_none, List.cons_append, List.nil_append, true_and, and_true, eq_self, ↓reduceIte, not_true_eq_false, not_false_eq_true, Nat.reduceEqDiff, Nat.reduceLeDiff, Nat.reduceLT, Nat.reduceAdd, Nat.reduceMul, Nat.reduceSub, false_or, or_false, true_or, or_true, false_and, and_false, reduceCtorEq, q_n0, q_n1, q_em, q_em2, q_b0, q_b1, Classical.not_not, nI_add, pk_mul, nI_clamp, q_vp, nI_eq, nI_leI, nI_ltI, q_sub, show ¬ 103 ≤ ws w + wl w by omega, k1]
    · rw [q_bf c, pif_f (fun u => c (hi.mp u).1)]
      refine Eq.trans ?_ (cl46 ha hb h5 h3 hT d F k (w + 1) (.int (nI 32)) (by omega))
      rw [k2]
      simp (disch := omega) only [r46_11, r46_13, r46_16, r46_19, r46_21, r46_23, r46_26, r46_28, r46_30, r46_32, r46_35, r46_36, r46_39, r46_40, r46_43, r46_44, r46_45, r46_46, r46_49, r46_52, r46_53, r46_54, r46_57, r46_58, r46_59, r46_60, r46_61, r46_64, r46_65, r46_68, r46_69, r46_72, r46_73, r46_74, r46_75, r46_78, r46_81, r46_82, r46_85, r46_86, r46_89, r46_90, r46_91, r46_92, r46_94, r46_97, r46_98, r46_101, r46_102, r46_103, r46_106, r46_109, k3, kdC, kdM, rpC, rpM, q_rs, q_rn, Option.toList_some, Option.toList_none, List.cons_append, List.nil_append, true_and, and_true, eq_self, ↓reduceIte, not_true_eq_false, not_false_eq_true, Nat.reduceEqDiff, Nat.reduceLeDiff, Nat.reduceLT, Nat.reduceAdd, Nat.reduceMul, Nat.reduceSub, false_or, or_false, true_or, or_true, false_and, and_false, reduceCtorEq, q_n0, q_n1, q_em, q_em2, q_b0, q_b1, Classical.not_not, nI_add, pk_mul, nI_clamp, q_vp, nI_eq, nI_leI, nI_ltI, q_sub, show ¬ 103 ≤ ws w + wl w by omega, k1]
theorem c46 {a b : Nat} (ha : a ≤ b) (hb : b ≤ 400) (h5 : gI h 76 5 = nI a) (h3 : gI h 76 3 = nI b) (hT : ∀ i, i < 400 → gI h 77 i = B i) (d : Nat) (F : Po) : cwp true d 46 [.ref 76] h F = F (some (.int (nI (kwd B a b)))) h := by
  refine Eq.trans ?_ (cl46 ha hb h5 h3 hT d F 20 0 jn rfl)
  simp (disch := omega) only [r46_0, r46_1, r46_2, r46_3, r46_4, r46_5, r46_6, r46_7, e46]
  rfl
/-- what advancing changes -/
def avS (a i : Nat) : Bool := Nat.beq a 76 && (Nat.ble 3 i && Nat.ble i 6)
/-- the reader stands ahead of token j -/
def RA (h : Hp) (B : Nat → Int32) (n j : Nat) : Prop := gI h 76 2 = nI n ∧ (∀ i, i < 400 → gI h 77 i = B i) ∧ gI h 76 3 = nI (tps B n j)
theorem av_T {h' : Hp} (x : FrS avS h h') (hT : ∀ i, i < 400 → gI h 77 i = B i) : ∀ i, i < 400 → gI h' 77 i = B i := fun i hi => by rw [x.g (a := 77) (i := i) rfl]; exact hT i hi
/-- blanks are passed -/
theorem cl43a (hn : n ≤ 400) (h2 : gI h 76 2 = nI n) (hT : ∀ i, i < 400 → gI h 77 i = B i) : ∀ k i h0, i + k = n → FrS avS h h0 → gI h0 76 3 = nI i → ∃ h', FrS avS h h' ∧ gI h' 76 3 = nI (scn B n (fun x => x = nI 32) i) ∧ ∀ d F, wp true d 43 0 [.ref 76] [] h0 F = wp true d 43 38 [.ref 76] [] h' F
  | 0, i, h0, e, x, i3 => by
    obtain rfl : i = n := e
    have g2 : gI h0 76 2 = nI i := by rw [x.g (a := 76) (i := 2) rfl]; exact h2
    refine ⟨h0, x, by rw [scn_n B i (by omega)]; exact i3, fun d F => ?_⟩
    rw [r43_0]
    simp (disch := omega) only [r43_1, r43_4, r43_5, r43_8, g2, i3, kdC, kdM, rpC, rpM, q_rs, q_rn, Option.toList_some, Option.toList_none, List.cons_append, List.nil_append, true_and, and_true, eq_self, ↓reduceIte, not_true_eq_false, not_false_eq_true, Nat.reduceEqDiff, Nat.reduceLeDiff, Nat.reduceLT, Nat.reduceAdd, Nat.reduceMul, Nat.reduceSub, false_or, or_false, true_or, or_true, false_and, and_false, reduceCtorEq, q_n0, q_n1, q_em, q_em2, q_b0, q_b1, Classical.not_not, nI_add, pk_mul, nI_clamp, q_vp, nI_eq, nI_leI, nI_ltI, q_sub, Nat.le_refl]
  | k + 1, i, h0, e, x, i3 => by
    have g2 : gI h0 76 2 = nI n := by rw [x.g (a := 76) (i := 2) rfl]; exact h2
    have hr := av_T x hT i (by omega)
    by_cases c : B i = nI 32
    · obtain ⟨h', a1, a2, a3⟩ := cl43a hn h2 hT k (i + 1) (sI h0 76 3 (nI (i + 1))) (by omega) (x.sI _ rfl) (q_gs _ _ _ _)
      refine ⟨h', a1, by rw [scn_y B n (show i < n by omega) c]; exact a2, fun d F => ?_⟩
      refine Eq.trans ?_ (a3 d F)
      rw [r43_0]
      simp (disch := omega) only [r43_1, r43_4, r43_5, r43_8, r43_11, r43_12, r43_15, r43_16, r43_19, r43_20, r43_22, r43_25, r43_26, r43_27, r43_30, r43_31, r43_32, r43_35, kdT77, g2, i3, hr, c, kdC, kdM, rpC, rpM, q_rs, q_rn, Option.toList_some, Option.toList_none, List.cons_append, List.nil_append, true_and, and_true, eq_self, ↓reduceIte, not_true_eq_false, not_false_eq_true, Nat.reduceEqDiff, Nat.reduceLeDiff, Nat.reduceLT, Nat.reduceAdd, Nat.reduceMul, Nat.reduceSub, false_or, or_false, true_or, or_true, false_and, and_false, reduceCtorEq, q_n0, q_n1, q_em, q_em2, q_b0, q_b1, Classical.not_not, nI_add, pk_mul, nI_clamp, q_vp, nI_eq, nI_leI, nI_ltI, q_sub, show ¬ n ≤ i by omega, show i < 400 by omega]
    · refine ⟨h0, x, by rw [scn_n B n (fun u => c u.2)]; exact i3, fun d F => ?_⟩
      rw [r43_0]
      simp (disch := omega) only [r43_1, r43_4, r43_5, r43_8, r43_11, r43_12, r43_15, r43_16, r43_19, r43_20, r43_22, kdT77, g2, i3, hr, c, kdC, kdM, rpC, rpM, q_rs, q_rn, Option.toList_some, Option.toList_none, List.cons_append, List.nil_append, true_and, and_true, eq_self, ↓reduceIte, not_true_eq_false, not_false_eq_true, Nat.reduceEqDiff, Nat.reduceLeDiff, Nat.reduceLT, Nat.reduceAdd, Nat.reduceMul, Nat.reduceSub, false_or, or_false, true_or, or_true, false_and, and_false, reduceCtorEq, q_n0, q_n1, q_em, q_em2, q_b0, q_b1, Classical.not_not, nI_add, pk_mul, nI_clamp, q_vp, nI_eq, nI_leI, nI_ltI, q_sub, show ¬ n ≤ i by omega, show i < 400 by omega]
/-- letters are passed -/
theorem cl43b (hn : n ≤ 400) (h2 : gI h 76 2 = nI n) (hT : ∀ i, i < 400 → gI h 77 i = B i) {a : Nat} : ∀ k i h0, i + k = n → FrS avS h h0 → gI h0 76 3 = nI i → gI h0 76 5 = nI a → ∃ h', FrS avS h h' ∧ gI h' 76 3 = nI (scn B n smP i) ∧ gI h' 76 5 = nI a ∧ ∀ d F, wp true (d + 1) 43 81 [.ref 76] [] h0 F = wp true (d + 1) 43 120 [.ref 76] [] h' F
  | 0, i, h0, e, x, i3, i5 => by
    obtain rfl : i = n := e
    have g2 : gI h0 76 2 = nI i := by rw [x.g (a := 76) (i := 2) rfl]; exact h2
    refine ⟨h0, x, by rw [scn_n B i (by omega)]; exact i3, i5, fun d F => ?_⟩
    rw [r43_81]
    simp (disch := omega) only [r43_82, r43_85, r43_86, r43_89, g2, i3, kdC, kdM, rpC, rpM, q_rs, q_rn, Option.toList_some, Option.toList_none, List.cons_append, List.nil_append, true_and, and_true, eq_self, ↓reduceIte, not_true_eq_false, not_false_eq_true, Nat.reduceEqDiff, Nat.reduceLeDiff, Nat.reduceLT, Nat.reduceAdd, Nat.reduceMul, Nat.reduceSub, false_or, or_false, true_or, or_true, false_and, and_false, reduceCtorEq, q_n0, q_n1, q_em, q_em2, q_b0, q_b1, Classical.not_not, nI_add, pk_mul, nI_clamp, q_vp, nI_eq, nI_leI, nI_ltI, q_sub, Nat.le_refl]
  | k + 1, i, h0, e, x, i3, i5 => by
    have g2 : gI h0 76 2 = nI n := by rw [x.g (a := 76) (i := 2) rfl]; exact h2
    have hr := av_T x hT i (by omega)
    have h44 := fun x F d => c44 (h := h0) x d F
    by_cases c : smP (B i)
    · obtain ⟨h', a1, a2, a4, a3⟩ := cl43b hn h2 hT (a := a) k (i + 1) (sI h0 76 3 (nI (i + 1))) (by omega) (x.sI _ rfl) (q_gs _ _ _ _) (by rw [q_gm (by omega)]; exact i5)
      refine ⟨h', a1, by rw [scn_y B n (show i < n by omega) c]; exact a2, a4, fun d F => ?_⟩
      refine Eq.trans ?_ (a3 d F)
      rw [r43_81]
      simp (disch := omega) only [r43_82, r43_85, r43_86, r43_89, r43_92, r43_93, r43_96, r43_97, r43_100, r43_101, r43_104, r43_107, r43_108, r43_109, r43_112, r43_113, r43_114, r43_117, kdT77, h44, g2, i3, hr, q_bt c, kdC, kdM, rpC, rpM, q_rs, q_rn, Option.toList_some, Option.toList_none, List.cons_append, List.nil_append, true_and, and_true, eq_self, ↓reduceIte, not_true_eq_false, not_false_eq_true, Nat.reduceEqDiff, Nat.reduceLeDiff, Nat.reduceLT, Nat.reduceAdd, Nat.reduceMul, Nat.reduceSub, false_or, or_false, true_or, or_true, false_and, and_false, reduceCtorEq, q_n0, q_n1, q_em, q_em2, q_b0, q_b1, Classical.not_not, nI_add, pk_mul, nI_clamp, q_vp, nI_eq, nI_leI, nI_ltI, q_sub, show ¬ n ≤ i by omega, show i < 400 by omega]
    · refine ⟨h0, x, by rw [scn_n B n (fun u => c u.2)]; exact i3, i5, fun d F => ?_⟩
      rw [r43_81]
      simp (disch := omega) only [r43_82, r43_85, r43_86, r43_89, r43_92, r43_93, r43_96, r43_97, r43_100, r43_101, r43_104, kdT77, h44, g2, i3, hr, q_bf c, kdC, kdM, rpC, rpM, q_rs, q_rn, Option.toList_some, Option.toList_none, List.cons_append, List.nil_append, true_and, and_true, eq_self, ↓reduceIte, not_true_eq_false, not_false_eq_true, Nat.reduceEqDiff, Nat.reduceLeDiff, Nat.reduceLT, Nat.reduceAdd, Nat.reduceMul, Nat.reduceSub, false_or, or_false, true_or, or_true, false_and, and_false, reduceCtorEq, q_n0, q_n1, q_em, q_em2, q_b0, q_b1, Classical.not_not, nI_add, pk_mul, nI_clamp, q_vp, nI_eq, nI_leI, nI_ltI, q_sub, show ¬ n ≤ i by omega, show i < 400 by omega]
theorem dg_n {x : Int32} (c : dgP x) : ∃ u, 48 ≤ u ∧ u ≤ 57 ∧ x = nI u := by
  obtain ⟨c1, c2⟩ := c
  obtain ⟨u, h1, rfl⟩ := q_ix2 (x := x) (m := 57) (by omega) (by
    rw [Int32.le_iff_toInt_le] at *
    have k1 : (nI 48).toInt = 48 := by decide
    have k0 : (nI 0).toInt = 0 := by decide
    omega) c2
  rw [nI_leI (by omega) (by omega)] at c1
  exact ⟨u, c1, h1, rfl⟩
theorem nmC_le (a : Nat) : ∀ k, nmC B a k ≤ 1001
  | 0 => by show 0 ≤ 1001; omega
  | k + 1 => by show min 1001 _ ≤ 1001; omega
/-- digits are passed -/
theorem cl43c (hn : n ≤ 400) (h2 : gI h 76 2 = nI n) (hT : ∀ i, i < 400 → gI h 77 i = B i) {a : Nat} : ∀ k i h0, i + k = n → a ≤ i → FrS avS h h0 → gI h0 76 3 = nI i → gI h0 76 5 = nI a → gI h0 76 6 = nI (nmC B a (i - a)) → ∃ h', FrS avS h h' ∧ gI h' 76 3 = nI (scn B n dgP i) ∧ gI h' 76 5 = nI a ∧ gI h' 76 6 = nI (nmC B a (scn B n dgP i - a)) ∧ ∀ d F, wp true (d + 1) 43 151 [.ref 76] [] h0 F = wp true (d + 1) 43 220 [.ref 76] [] h' F
  | 0, i, h0, e, ha, x, i3, i5, i6 => by
    obtain rfl : i = n := e
    have g2 : gI h0 76 2 = nI i := by rw [x.g (a := 76) (i := 2) rfl]; exact h2
    refine ⟨h0, x, by rw [scn_n B i (by omega)]; exact i3, i5, by rw [scn_n B i (by omega)]; exact i6, fun d F => ?_⟩
    rw [r43_151]
    simp (disch := omega) only [r43_152, r43_155, r43_156, r43_159, g2, i3, kdC, kdM, rpC, rpM, q_rs, q_rn, Option.toList_some, Option.toList_none, List.cons_append, List.nil_append, true_and, and_true, eq_self, ↓reduceIte, not_true_eq_false, not_false_eq_true, Nat.reduceEqDiff, Nat.reduceLeDiff, Nat.reduceLT, Nat.reduceAdd, Nat.reduceMul, Nat.reduceSub, false_or, or_false, true_or, or_true, false_and, and_false, reduceCtorEq, q_n0, q_n1, q_em, q_em2, q_b0, q_b1, Classical.not_not, nI_add, pk_mul, nI_clamp, q_vp, nI_eq, nI_leI, nI_ltI, q_sub, Nat.le_refl]
  | k + 1, i, h0, e, ha, x, i3, i5, i6 => by
    have g2 : gI h0 76 2 = nI n := by rw [x.g (a := 76) (i := 2) rfl]; exact h2
    have hr := av_T x hT i (by omega)
    have h45 := fun x F d => c45 (h := h0) x d F
    by_cases c : dgP (B i)
    · obtain ⟨u, u1, u2, u3⟩ := dg_n c
      have hl := nmC_le (B := B) a (i - a)
      have hnx : nmC B a (i + 1 - a) = min 1001 (nmC B a (i - a) * 10 + (u - 48)) := by
        rw [show i + 1 - a = (i - a) + 1 by omega]
        show min 1001 (nmC B a (i - a) * 10 + ((B (a + (i - a))).toNatClampNeg - 48)) = _
        rw [show a + (i - a) = i by omega, u3, nI_clamp (by omega)]
      have hmn : (if nmC B a (i - a) * 10 + u - 48 < 1001 then nI (nmC B a (i - a) * 10 + u - 48) else nI 1001) = nI (nmC B a (i + 1 - a)) := by
        rw [hnx]
        by_cases q : nmC B a (i - a) * 10 + u - 48 < 1001
        · rw [if_pos q]; congr 1; omega
        · rw [if_neg q]; congr 1; omega
      obtain ⟨h', a1, a2, a4, a5, a3⟩ := cl43c hn h2 hT (a := a) k (i + 1) (sI (sI h0 76 6 (nI (nmC B a (i + 1 - a)))) 76 3 (nI (i + 1))) (by omega) (by omega) ((x.sI _ rfl).sI _ rfl) (q_gs _ _ _ _) (by rw [q_gm (by omega), q_gm (by omega)]; exact i5) (by rw [q_gm (by omega), q_gs])
      refine ⟨h', a1, by rw [scn_y B n (show i < n by omega) c]; exact a2, a4, by rw [scn_y B n (show i < n by omega) c]; exact a5, fun d F => ?_⟩
      refine Eq.trans ?_ (a3 d F)
      have g3 : gI (sI h0 76 6 (nI (nmC B a (i + 1 - a)))) 76 3 = nI i := by rw [q_gm (by omega)]; exact i3
      rw [r43_151]
      rw [u3] at hr c
      simp (disch := omega) only [r43_152, r43_155, r43_156, r43_159, r43_162, r43_163, r43_166, r43_167, r43_170, r43_171, r43_174, r43_177, r43_178, r43_181, r43_182, r43_185, r43_187, r43_188, r43_189, r43_192, r43_193, r43_196, r43_197, r43_198, r43_200, r43_201, r43_204, r43_207, r43_208, r43_209, r43_212, r43_213, r43_214, r43_217, kdT77, h45, g2, i3, i6, hr, q_bt c, hmn, g3, kdC, kdM, rpC, rpM, q_rs, q_rn, Option.toList_some, Option.toList_none, List.cons_append, List.nil_append, true_and, and_true, eq_self, ↓reduceIte, not_true_eq_false, not_false_eq_true, Nat.reduceEqDiff, Nat.reduceLeDiff, Nat.reduceLT, Nat.reduceAdd, Nat.reduceMul, Nat.reduceSub, false_or, or_false, true_or, or_true, false_and, and_false, reduceCtorEq, q_n0, q_n1, q_em, q_em2, q_b0, q_b1, Classical.not_not, nI_add, pk_mul, nI_clamp, q_vp, nI_eq, nI_leI, nI_ltI, q_sub, show ¬ n ≤ i by omega, show i < 400 by omega]
    · refine ⟨h0, x, by rw [scn_n B n (fun u => c u.2)]; exact i3, i5, by rw [scn_n B n (fun u => c u.2)]; exact i6, fun d F => ?_⟩
      rw [r43_151]
      simp (disch := omega) only [r43_152, r43_155, r43_156, r43_159, r43_162, r43_163, r43_166, r43_167, r43_170, r43_171, r43_174, kdT77, h45, g2, i3, hr, q_bf c, kdC, kdM, rpC, rpM, q_rs, q_rn, Option.toList_some, Option.toList_none, List.cons_append, List.nil_append, true_and, and_true, eq_self, ↓reduceIte, not_true_eq_false, not_false_eq_true, Nat.reduceEqDiff, Nat.reduceLeDiff, Nat.reduceLT, Nat.reduceAdd, Nat.reduceMul, Nat.reduceSub, false_or, or_false, true_or, or_true, false_and, and_false, reduceCtorEq, q_n0, q_n1, q_em, q_em2, q_b0, q_b1, Classical.not_not, nI_add, pk_mul, nI_clamp, q_vp, nI_eq, nI_leI, nI_ltI, q_sub, show ¬ n ≤ i by omega, show i < 400 by omega]
/-- the reader stands at token j -/
def RT (h : Hp) (B : Nat → Int32) (n j : Nat) : Prop := RA h B n (j + 1) ∧ gI h 76 4 = kdI (tg B n j) ∧ gI h 76 5 = nI (tpl B n j) ∧ (tg B n j = 20 → gI h 76 6 = nI (tnm B n j))
theorem c43 (hB : ∀ i, i < 400 → (B i).toInt8.toInt32 = B i) (hn : n ≤ 400) {j : Nat} (ra : RA h B n j) : ∃ h', FrS avS h h' ∧ RT h' B n j ∧ ∀ d F, cwp true (d + 1) 43 [.ref 76] h F = F none h' := by
  obtain ⟨h2, hT, h3⟩ := ra
  have t1 := tps_le B n j
  have t2 := tpl_le B n j
  obtain ⟨g1, a1, a2, a3⟩ := cl43a hn h2 hT (n - tps B n j) (tps B n j) h (by omega) (FrS.refl h) h3
  have x1 : FrS avS h (sI g1 76 5 (nI (tpl B n j))) := a1.sI _ rfl
  have q2 : gI g1 76 2 = nI n := by rw [a1.g (a := 76) (i := 2) rfl]; exact h2
  have q3 : gI g1 76 3 = nI (tpl B n j) := a2
  have e0 : ∀ d F, cwp true (d + 1) 43 [.ref 76] h F = wp true (d + 1) 43 46 [.ref 76] [] (sI g1 76 5 (nI (tpl B n j))) F := by
    intro d F
    refine Eq.trans (show _ = wp true (d + 1) 43 0 [.ref 76] [] h F from ?_) ((a3 (d + 1) F).trans ?_)
    · simp only [e43]
    · simp (disch := omega) only [r43_38, r43_39, r43_40, r43_43, q3, kdC, kdM, rpC, rpM, q_rs, q_rn, Option.toList_some, Option.toList_none, List.cons_append, List.nil_append, true_and, and_true, eq_self, ↓reduceIte, not_true_eq_false, not_false_eq_true, Nat.reduceEqDiff, Nat.reduceLeDiff, Nat.reduceLT, Nat.reduceAdd, Nat.reduceMul, Nat.reduceSub, false_or, or_false, true_or, or_true, false_and, and_false, reduceCtorEq, q_n0, q_n1, q_em, q_em2, q_b0, q_b1, Classical.not_not]
  have p2 : gI (sI g1 76 5 (nI (tpl B n j))) 76 2 = nI n := by rw [q_gm (by omega)]; exact q2
  have p3 : gI (sI g1 76 5 (nI (tpl B n j))) 76 3 = nI (tpl B n j) := by rw [q_gm (by omega)]; exact q3
  have p5 : gI (sI g1 76 5 (nI (tpl B n j))) 76 5 = nI (tpl B n j) := q_gs _ _ _ _
  have pT := av_T x1 hT
  generalize sI g1 76 5 (nI (tpl B n j)) = g2 at *
  by_cases c : n ≤ tpl B n j
  · have et : tg B n j = 22 := (tg_end hB hn j).mpr c
    have e2 := (tpl_end B n c).2
    refine ⟨sI g2 76 4 (nI 22), x1.sI _ rfl, ⟨⟨by rw [q_gm (by omega)]; exact p2, fun i hi => by rw [q_gn (by omega)]; exact pT i hi, by rw [q_gm (by omega), e2]; exact p3⟩, by rw [q_gs, et]; rfl, by rw [q_gm (by omega)]; exact p5, fun u => by rw [et] at u; cases u⟩, fun d F => ?_⟩
    rw [e0]
    simp (disch := omega) only [e43, r43_1, r43_4, r43_5, r43_8, r43_11, r43_12, r43_15, r43_16, r43_19, r43_20, r43_22, r43_25, r43_26, r43_27, r43_30, r43_31, r43_32, r43_35, r43_38, r43_39, r43_40, r43_43, r43_46, r43_47, r43_50, r43_51, r43_54, r43_57, r43_58, r43_60, r43_63, r43_66, r43_67, r43_70, r43_71, r43_74, r43_75, r43_78, r43_82, r43_85, r43_86, r43_89, r43_92, r43_93, r43_96, r43_97, r43_100, r43_101, r43_104, r43_107, r43_108, r43_109, r43_112, r43_113, r43_114, r43_117, r43_120, r43_121, r43_122, r43_125, r43_128, r43_131, r43_132, r43_135, r43_136, r43_139, r43_140, r43_143, r43_146, r43_147, r43_148, r43_152, r43_155, r43_156, r43_159, r43_162, r43_163, r43_166, r43_167, r43_170, r43_171, r43_174, r43_177, r43_178, r43_181, r43_182, r43_185, r43_187, r43_188, r43_189, r43_192, r43_193, r43_196, r43_197, r43_198, r43_200, r43_201, r43_204, r43_207, r43_208, r43_209, r43_212, r43_213, r43_214, r43_217, r43_220, r43_221, r43_222, r43_225, r43_228, r43_231, r43_233, r43_236, r43_238, r43_241, r43_244, r43_245, r43_248, r43_249, r43_252, r43_253, r43_256, r43_257, r43_258, r43_261, r43_262, r43_263, r43_266, r43_267, r43_268, r43_271, p2, p3, kdC, kdM, rpC, rpM, q_rs, q_rn, Option.toList_some, Option.toList_none, List.cons_append, List.nil_append, true_and, and_true, eq_self, ↓reduceIte, not_true_eq_false, not_false_eq_true, Nat.reduceEqDiff, Nat.reduceLeDiff, Nat.reduceLT, Nat.reduceAdd, Nat.reduceMul, Nat.reduceSub, false_or, or_false, true_or, or_true, false_and, and_false, reduceCtorEq, q_n0, q_n1, q_em, q_em2, q_b0, q_b1, Classical.not_not, nI_add, pk_mul, nI_clamp, q_vp, nI_eq, nI_leI, nI_ltI, q_sub, show ¬ tpl B n j < n by omega]
  · have hlt : tpl B n j < n := by omega
    have hr := pT (tpl B n j) (by omega)
    have h44 := fun x F d => c44 (h := g2) x d F
    have h45 := fun x F d => c45 (h := g2) x d F
    have hs := tps_s B n j
    have hps := tps_le B n (j + 1)
    unfold tkE at hs
    rw [pif_f c] at hs
    have etg : tg B n j = pif (smP (B (tpl B n j))) (kwd B (tpl B n j) (tps B n (j + 1))) (pif (dgP (B (tpl B n j))) (if nmM B (tpl B n j) (tps B n (j + 1) - tpl B n j) ≤ 1000 then 20 else 21) (1000 + (B (tpl B n j) &&& nI 255).toNatClampNeg)) := by
      unfold tg
      rw [pif_f c]
    by_cases c1 : smP (B (tpl B n j))
    · rw [pif_t c1] at hs etg
      obtain ⟨g3, b1, b2, b3, b4⟩ := cl43b (B := B) (h := g2) (a := tpl B n j) hn p2 pT (n - tpl B n j) (tpl B n j) g2 (by omega) (FrS.refl g2) p3 p5
      rw [← hs] at b2
      have bT := av_T b1 pT
      have k46 := fun F d => c46 (B := B) (a := tpl B n j) (b := tps B n (j + 1)) (h := g3) (by have := tps_lt B n (j := j) hlt; omega) (by omega) b3 b2 bT d F
      have hk : kdI (tg B n j) = nI (kwd B (tpl B n j) (tps B n (j + 1))) := by
        have := wrd_r B (tpl B n j) (tps B n (j + 1)) 20 0 rfl
        rw [etg]
        unfold kdI
        rw [if_pos (by unfold kwd; omega)]
      refine ⟨sI g3 76 4 (nI (kwd B (tpl B n j) (tps B n (j + 1)))), (x1.trans b1).sI _ rfl, ⟨⟨by rw [q_gm (by omega), b1.g (a := 76) (i := 2) rfl]; exact p2, fun i hi => by rw [q_gn (by omega)]; exact bT i hi, by rw [q_gm (by omega)]; exact b2⟩, by rw [q_gs, hk], by rw [q_gm (by omega)]; exact b3, fun u => ?_⟩, fun d F => ?_⟩
      · have := wrd_r B (tpl B n j) (tps B n (j + 1)) 20 0 rfl
        rw [etg] at u
        unfold kwd at u
        omega
      · rw [e0]
        simp (disch := omega) only [r43_46, r43_47, r43_50, r43_51, r43_54, r43_57, r43_58, r43_60, r43_63, r43_66, r43_67, r43_70, r43_71, r43_74, r43_75, r43_78, kdT77, p2, p3, h44, hr, q_bt c1, kdC, kdM, rpC, rpM, q_rs, q_rn, Option.toList_some, Option.toList_none, List.cons_append, List.nil_append, true_and, and_true, eq_self, ↓reduceIte, not_true_eq_false, not_false_eq_true, Nat.reduceEqDiff, Nat.reduceLeDiff, Nat.reduceLT, Nat.reduceAdd, Nat.reduceMul, Nat.reduceSub, false_or, or_false, true_or, or_true, false_and, and_false, reduceCtorEq, q_n0, q_n1, q_em, q_em2, q_b0, q_b1, Classical.not_not, nI_add, pk_mul, nI_clamp, q_vp, nI_eq, nI_leI, nI_ltI, q_sub, hlt, show tpl B n j < 400 by omega]
        refine Eq.trans (b4 d F) ?_
        simp (disch := omega) only [r43_120, r43_121, r43_122, r43_125, r43_128, r43_131, r43_132, r43_135, r43_136, r43_139, r43_140, r43_143, r43_146, r43_147, r43_148, r43_152, r43_155, r43_156, r43_159, r43_162, r43_163, r43_166, r43_167, r43_170, r43_171, r43_174, r43_177, r43_178, r43_181, r43_182, r43_185, r43_187, r43_188, r43_189, r43_192, r43_193, r43_196, r43_197, r43_198, r43_200, r43_201, r43_204, r43_207, r43_208, r43_209, r43_212, r43_213, r43_214, r43_217, r43_220, r43_221, r43_222, r43_225, r43_228, r43_231, r43_233, r43_236, r43_238, r43_241, r43_244, r43_245, r43_248, r43_249, r43_252, r43_253, r43_256, r43_257, r43_258, r43_261, r43_262, r43_263, r43_266, r43_267, r43_268, r43_271, r43_151, k46, kdC, kdM, rpC, rpM, q_rs, q_rn, Option.toList_some, Option.toList_none, List.cons_append, List.nil_append, true_and, and_true, eq_self, ↓reduceIte, not_true_eq_false, not_false_eq_true, Nat.reduceEqDiff, Nat.reduceLeDiff, Nat.reduceLT, Nat.reduceAdd, Nat.reduceMul, Nat.reduceSub, false_or, or_false, true_or, or_true, false_and, and_false, reduceCtorEq, q_n0, q_n1, q_em, q_em2, q_b0, q_b1, Classical.not_not]
    · rw [pif_f c1] at hs etg
      by_cases c2 : dgP (B (tpl B n j))
      · rw [pif_t c2] at hs etg
        obtain ⟨g3, b1, b2, b3, b5, b4⟩ := cl43c (B := B) (h := sI g2 76 6 (nI 0)) (a := tpl B n j) hn (by rw [q_gm (by omega)]; exact p2) (fun i hi => by rw [q_gn (by omega)]; exact pT i hi) (n - tpl B n j) (tpl B n j) (sI g2 76 6 (nI 0)) (by omega) (Nat.le_refl _) (FrS.refl _) (by rw [q_gm (by omega)]; exact p3) (by rw [q_gm (by omega)]; exact p5) (by rw [q_gs, Nat.sub_self]; rfl)
        rw [← hs] at b2 b5
        have b1' : FrS avS g2 g3 := ((FrS.refl g2).sI _ rfl).trans b1
        have bT := av_T b1' pT
        have hl := nmC_le (B := B) (tpl B n j) (tps B n (j + 1) - tpl B n j)
        obtain ⟨n1, n2⟩ := nm_eq B (tpl B n j) (tps B n (j + 1) - tpl B n j)
        by_cases c3 : nmM B (tpl B n j) (tps B n (j + 1) - tpl B n j) ≤ 1000
        · rw [if_pos c3] at etg
          have n3 := n1 c3
          refine ⟨sI g3 76 4 (nI 20), (x1.trans b1').sI _ rfl, ⟨⟨by rw [q_gm (by omega), b1'.g (a := 76) (i := 2) rfl]; exact p2, fun i hi => by rw [q_gn (by omega)]; exact bT i hi, by rw [q_gm (by omega)]; exact b2⟩, by rw [q_gs, etg]; rfl, by rw [q_gm (by omega)]; exact b3, fun u => by rw [q_gm (by omega), b5, n3]; rfl⟩, fun d F => ?_⟩
          rw [e0]
          simp (disch := omega) only [r43_46, r43_47, r43_50, r43_51, r43_54, r43_57, r43_58, r43_60, r43_63, r43_66, r43_67, r43_70, r43_71, r43_74, r43_75, r43_78, r43_82, r43_85, r43_86, r43_89, r43_92, r43_93, r43_96, r43_97, r43_100, r43_101, r43_104, r43_107, r43_108, r43_109, r43_112, r43_113, r43_114, r43_117, r43_120, r43_121, r43_122, r43_125, r43_128, r43_131, r43_132, r43_135, r43_136, r43_139, r43_140, r43_143, r43_146, r43_147, r43_148, r43_81, kdT77, p2, p3, h44, h45, hr, q_bf c1, q_bt c2, kdC, kdM, rpC, rpM, q_rs, q_rn, Option.toList_some, Option.toList_none, List.cons_append, List.nil_append, true_and, and_true, eq_self, ↓reduceIte, not_true_eq_false, not_false_eq_true, Nat.reduceEqDiff, Nat.reduceLeDiff, Nat.reduceLT, Nat.reduceAdd, Nat.reduceMul, Nat.reduceSub, false_or, or_false, true_or, or_true, false_and, and_false, reduceCtorEq, q_n0, q_n1, q_em, q_em2, q_b0, q_b1, Classical.not_not, nI_add, pk_mul, nI_clamp, q_vp, nI_eq, nI_leI, nI_ltI, q_sub, hlt, show tpl B n j < 400 by omega]
          refine Eq.trans (b4 d F) ?_
          simp (disch := omega) only [r43_220, r43_221, r43_222, r43_225, r43_228, r43_231, r43_233, r43_236, r43_238, r43_241, r43_244, r43_245, r43_248, r43_249, r43_252, r43_253, r43_256, r43_257, r43_258, r43_261, r43_262, r43_263, r43_266, r43_267, r43_268, r43_271, b5, kdC, kdM, rpC, rpM, q_rs, q_rn, Option.toList_some, Option.toList_none, List.cons_append, List.nil_append, true_and, and_true, eq_self, ↓reduceIte, not_true_eq_false, not_false_eq_true, Nat.reduceEqDiff, Nat.reduceLeDiff, Nat.reduceLT, Nat.reduceAdd, Nat.reduceMul, Nat.reduceSub, false_or, or_false, true_or, or_true, false_and, and_false, reduceCtorEq, q_n0, q_n1, q_em, q_em2, q_b0, q_b1, Classical.not_not, nI_add, pk_mul, nI_clamp, q_vp, nI_eq, nI_leI, nI_ltI, q_sub, show nmC B (tpl B n j) (tps B n (j + 1) - tpl B n j) ≤ 1000 by omega]
        · rw [if_neg c3] at etg
          have n3 := n2 (by omega)
          refine ⟨sI g3 76 4 (nI 21), (x1.trans b1').sI _ rfl, ⟨⟨by rw [q_gm (by omega), b1'.g (a := 76) (i := 2) rfl]; exact p2, fun i hi => by rw [q_gn (by omega)]; exact bT i hi, by rw [q_gm (by omega)]; exact b2⟩, by rw [q_gs, etg]; rfl, by rw [q_gm (by omega)]; exact b3, fun u => by rw [etg] at u; cases u⟩, fun d F => ?_⟩
          rw [e0]
          simp (disch := omega) only [r43_46, r43_47, r43_50, r43_51, r43_54, r43_57, r43_58, r43_60, r43_63, r43_66, r43_67, r43_70, r43_71, r43_74, r43_75, r43_78, r43_82, r43_85, r43_86, r43_89, r43_92, r43_93, r43_96, r43_97, r43_100, r43_101, r43_104, r43_107, r43_108, r43_109, r43_112, r43_113, r43_114, r43_117, r43_120, r43_121, r43_122, r43_125, r43_128, r43_131, r43_132, r43_135, r43_136, r43_139, r43_140, r43_143, r43_146, r43_147, r43_148, r43_81, kdT77, p2, p3, h44, h45, hr, q_bf c1, q_bt c2, kdC, kdM, rpC, rpM, q_rs, q_rn, Option.toList_some, Option.toList_none, List.cons_append, List.nil_append, true_and, and_true, eq_self, ↓reduceIte, not_true_eq_false, not_false_eq_true, Nat.reduceEqDiff, Nat.reduceLeDiff, Nat.reduceLT, Nat.reduceAdd, Nat.reduceMul, Nat.reduceSub, false_or, or_false, true_or, or_true, false_and, and_false, reduceCtorEq, q_n0, q_n1, q_em, q_em2, q_b0, q_b1, Classical.not_not, nI_add, pk_mul, nI_clamp, q_vp, nI_eq, nI_leI, nI_ltI, q_sub, hlt, show tpl B n j < 400 by omega]
          refine Eq.trans (b4 d F) ?_
          simp (disch := omega) only [r43_220, r43_221, r43_222, r43_225, r43_228, r43_231, r43_233, r43_236, r43_238, r43_241, r43_244, r43_245, r43_248, r43_249, r43_252, r43_253, r43_256, r43_257, r43_258, r43_261, r43_262, r43_263, r43_266, r43_267, r43_268, r43_271, b5, n3, kdC, kdM, rpC, rpM, q_rs, q_rn, Option.toList_some, Option.toList_none, List.cons_append, List.nil_append, true_and, and_true, eq_self, ↓reduceIte, not_true_eq_false, not_false_eq_true, Nat.reduceEqDiff, Nat.reduceLeDiff, Nat.reduceLT, Nat.reduceAdd, Nat.reduceMul, Nat.reduceSub, false_or, or_false, true_or, or_true, false_and, and_false, reduceCtorEq, q_n0, q_n1, q_em, q_em2, q_b0, q_b1, Classical.not_not, nI_add, pk_mul, nI_clamp, q_vp, nI_eq, nI_leI, nI_ltI, q_sub]
      · rw [pif_f c2] at hs etg
        obtain ⟨u, u1, u2, u3⟩ := by_x (hB (tpl B n j) (by omega))
        rw [u2, nI_clamp (by omega)] at etg
        refine ⟨sI (sI g2 76 4 (kdI (1000 + u))) 76 3 (nI (tpl B n j + 1)), (x1.sI _ rfl).sI _ rfl, ⟨⟨by rw [q_gm (by omega), q_gm (by omega)]; exact p2, fun i hi => by rw [q_gn (by omega), q_gn (by omega)]; exact pT i hi, by rw [q_gs, hs]⟩, by rw [q_gm (by omega), q_gs, etg], by rw [q_gm (by omega), q_gm (by omega)]; exact p5, fun v => by rw [etg] at v; omega⟩, fun d F => ?_⟩
        have g3 : gI (sI g2 76 4 (kdI (1000 + u))) 76 3 = nI (tpl B n j) := by rw [q_gm (by omega)]; exact p3
        rw [e0]
        simp (disch := omega) only [r43_46, r43_47, r43_50, r43_51, r43_54, r43_57, r43_58, r43_60, r43_63, r43_66, r43_67, r43_70, r43_71, r43_74, r43_75, r43_78, r43_82, r43_85, r43_86, r43_89, r43_92, r43_93, r43_96, r43_97, r43_100, r43_101, r43_104, r43_107, r43_108, r43_109, r43_112, r43_113, r43_114, r43_117, r43_120, r43_121, r43_122, r43_125, r43_128, r43_131, r43_132, r43_135, r43_136, r43_139, r43_140, r43_143, r43_146, r43_147, r43_148, r43_152, r43_155, r43_156, r43_159, r43_162, r43_163, r43_166, r43_167, r43_170, r43_171, r43_174, r43_177, r43_178, r43_181, r43_182, r43_185, r43_187, r43_188, r43_189, r43_192, r43_193, r43_196, r43_197, r43_198, r43_200, r43_201, r43_204, r43_207, r43_208, r43_209, r43_212, r43_213, r43_214, r43_217, r43_220, r43_221, r43_222, r43_225, r43_228, r43_231, r43_233, r43_236, r43_238, r43_241, r43_244, r43_245, r43_248, r43_249, r43_252, r43_253, r43_256, r43_257, r43_258, r43_261, r43_262, r43_263, r43_266, r43_267, r43_268, r43_271, r43_81, r43_151, kdT77, p2, p3, g3, h44, h45, hr, u3, q_bf c1, q_bf c2, kdC, kdM, rpC, rpM, q_rs, q_rn, Option.toList_some, Option.toList_none, List.cons_append, List.nil_append, true_and, and_true, eq_self, ↓reduceIte, not_true_eq_false, not_false_eq_true, Nat.reduceEqDiff, Nat.reduceLeDiff, Nat.reduceLT, Nat.reduceAdd, Nat.reduceMul, Nat.reduceSub, false_or, or_false, true_or, or_true, false_and, and_false, reduceCtorEq, q_n0, q_n1, q_em, q_em2, q_b0, q_b1, Classical.not_not, nI_add, pk_mul, nI_clamp, q_vp, nI_eq, nI_leI, nI_ltI, q_sub, hlt, show tpl B n j < 400 by omega]
end AV
