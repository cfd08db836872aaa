/-! changes, how many are taken out: seen -/
theorem q_bb (p q : Prop) : (bz p = bz q) = (p ↔ q) := by
  apply propext
  by_cases hp : p <;> by_cases hq : q
  · rw [q_bt hp, q_bt hq]; exact ⟨fun _ => ⟨fun _ => hq, fun _ => hp⟩, fun _ => rfl⟩
  · rw [q_bt hp, q_bf hq]; exact ⟨fun z => absurd z q_01, fun z => absurd (z.mp hp) hq⟩
  · rw [q_bf hp, q_bt hq]; exact ⟨fun z => absurd z q_10, fun z => absurd (z.mpr hq) hp⟩
  · rw [q_bf hp, q_bf hq]; exact ⟨fun _ => ⟨fun z => absurd z hp, fun z => absurd z hq⟩, fun _ => rfl⟩
theorem n_min (a b : Nat) : (if a < b then nI a else nI b) = nI (min a b) := by
  by_cases c : a < b
  · rw [if_pos c]; congr 1; omega
  · rw [if_neg c]; congr 1; omega
theorem n_mm1 {x : Nat} (hx : 1 ≤ x) : nI x + (-1) = nI (x - 1) := by
  obtain ⟨y, rfl⟩ : ∃ y, x = y + 1 := ⟨x - 1, by omega⟩
  rw [pk_m1, Nat.add_sub_cancel]
def bdP (K : Nat → Int32) (wh : Int32) (p : PiS) (i : Nat) : Prop := wh < wst K (p.1 i).toNatClampNeg
def cgP (P : Nat → Prop) (i : Nat) : Prop := 1 ≤ i ∧ ¬ (P i ↔ P (i - 1))
/-- those of the wrong kind if the change is at i -/
noncomputable def mmN (P : Nat → Prop) (N i : Nat) : Nat := cntT P i + ((N - cntT P N) - (i - cntT P i))
noncomputable def tkN (P : Nat → Prop) (N : Nat) : Nat → Nat
  | 0 => min (mmN P N 0) (N - mmN P N 0)
  | i + 1 => min (tkN P N i) (min (mmN P N (i + 1)) (N - mmN P N (i + 1)))
theorem cnt_s (P : Nat → Prop) (n : Nat) : cntT P (n + 1) = cntT P n + pif (P n) 1 0 := rfl
theorem cnt_mono (P : Nat → Prop) (n : Nat) : ∀ k, cntT P n ≤ cntT P (n + k) ∧ cntT P (n + k) ≤ cntT P n + k
  | 0 => ⟨Nat.le_refl _, Nat.le_refl _⟩
  | k + 1 => by
    have ih := cnt_mono P n k
    rw [show n + (k + 1) = (n + k) + 1 by omega, cnt_s]
    by_cases e : P (n + k)
    · rw [pif_t e]; omega
    · rw [pif_f e]; omega
theorem cnt_mm (P : Nat → Prop) (c : Nat) : ∀ k, cntT (fun i => P i ↔ i < c) (c + k) = cntT P c + (k - (cntT P (c + k) - cntT P c))
  | 0 => by
    rw [Nat.add_zero, cnt_cg c (Q := P) (fun i hi => ⟨fun q => q.mpr hi, fun q => ⟨fun _ => hi, fun _ => q⟩⟩)]
    omega
  | k + 1 => by
    have ih := cnt_mm P c k
    have h1 := cnt_mono P c k
    rw [show c + (k + 1) = (c + k) + 1 by omega, cnt_s, cnt_s, ih]
    by_cases e : P (c + k)
    · rw [pif_t e, pif_f (fun q => by have := q.mp e; omega)]
      omega
    · rw [pif_f e, pif_t ⟨fun q => absurd q e, fun q => by omega⟩]
      omega
theorem mm_eq (P : Nat → Prop) {N c : Nat} (hc : c ≤ N) : cntT (fun i => P i ↔ i < c) N = mmN P N c := by
  have h1 := cnt_mm P c (N - c)
  have h2 := cnt_mono P c (N - c)
  have h3 := cnt_le P c
  have h4 := cnt_le P N
  rw [show c + (N - c) = N by omega] at h1 h2
  rw [h1]
  unfold mmN
  omega
theorem mm_le (P : Nat → Prop) {N c : Nat} (hc : c ≤ N) : mmN P N c ≤ N ∧ N - mmN P N c = (c - cntT P c) + (cntT P N - cntT P c) := by
  have h2 := cnt_mono P c (N - c)
  have h3 := cnt_le P c
  have h4 := cnt_le P N
  rw [show c + (N - c) = N by omega] at h2
  unfold mmN
  omega
theorem tk_le (P : Nat → Prop) (N : Nat) : ∀ i, tkN P N i ≤ N
  | 0 => by unfold tkN; omega
  | i + 1 => by unfold tkN; have := tk_le P N i; omega
section SE
variable {h : Hp} {K : Nat → Int32} {T : Tk} {wh : Int32} {p : PiS}
/-- the class's picture read -/
theorem cbad (w : WF K) (q : RS h 0 K) (cp : CP K T h p) (ok : okP (nf K) p) {i : Nat} (hi : i < p.2) (h4 : gI h 83 4 = wh) (d : Nat) (F : Po) : cwp true (d + 1) 17 [.ref 3, .int wh, .int (gI h 84 i)] h F = F (some (.int (bz (bdP K wh p i)))) h := by
  obtain ⟨j, j1, j2⟩ := ok.2 i hi
  have h1 := w.hnf
  have e : bdP K wh p i = (wh < wst K j) := by unfold bdP; rw [j2, nI_clamp (by omega)]
  rw [cp.2.1 i hi, j2, e]
  exact cc17 d h F w q wh j1
theorem mbad (hK : gI h 103 = K) (w : WF K) (hw : wh = nI 0 ∨ wh = nI 1) (mp : MP K T h p) (ok : okP (nf K) p) {i : Nat} (hi : i < p.2) (d : Nat) (F : Po) : cwp true (d + 3) 161 [.ref 101, .int (gI h 117 i), .int wh] h F = F (some (.int (bz (bdP K wh p i)))) h := by
  obtain ⟨j, j1, j2⟩ := ok.2 i hi
  have h1 := w.hnf
  have e : bdP K wh p i = (wh < wst K j) := by unfold bdP; rw [j2, nI_clamp (by omega)]
  rw [mp.2.1 i hi, j2, e]
  exact m161 d h F hK w j1 hw
theorem cl35 (w : WF K) (q : RS h 0 K) (cp : CP K T h p) (ok : okP (nf K) p) (h4 : gI h 83 4 = wh) : ∀ k i d F, i + k = p.2 → 1 ≤ i → wp true (d + 2) 35 4 [.ref 83, .int (nI (cntT (cgP (bdP K wh p)) i)), .int (nI i)] [] h F = F (some (.int (nI (cntT (cgP (bdP K wh p)) p.2)))) h
  | 0, i, d, F, e, h1i => by
    obtain rfl : i = p.2 := e
    have h1 := w.hnf
    have h5 := cp.1
    have hp := ok.1
    rw [r35_4]
    simp (disch := omega) only [e35, r35_0, r35_1, r35_2, r35_3, r35_5, r35_6, r35_9, r35_12, r35_13, r35_14, r35_17, r35_18, r35_21, r35_22, r35_25, r35_26, r35_27, r35_30, r35_31, r35_34, r35_35, r35_38, r35_39, r35_42, r35_43, r35_44, r35_45, r35_46, r35_49, r35_52, r35_53, r35_56, r35_57, r35_60, r35_61, r35_62, r35_65, r35_68, r35_69, h5, kdC, kdM, rpC, rpM, q_rs, q_rn, Option.toList_some, Option.toList_none, List.cons_append, List.nil_append, true_and, and_true, eq_self, ↓reduceIte, not_true_eq_false, not_false_eq_true, Nat.reduceEqDiff, Nat.reduceLeDiff, Nat.reduceLT, Nat.reduceAdd, Nat.reduceMul, Nat.reduceSub, false_or, or_false, true_or, or_true, false_and, and_false, reduceCtorEq, q_n0, q_n1, q_em, q_em2, q_b0, q_b1, Classical.not_not, nI_add, pk_mul, nI_clamp, q_vp, nI_eq, nI_leI, nI_ltI, q_sub, Nat.le_refl]
  | k + 1, i, d, F, e, h1i => by
    have h1 := w.hnf
    have h5 := cp.1
    have hp := ok.1
    refine Eq.trans ?_ (cl35 w q cp ok h4 k (i + 1) d F (by omega) (by omega))
    have b1 := cbad w q cp ok (show i < p.2 by omega) h4
    have b2 := cbad w q cp ok (show i - 1 < p.2 by omega) h4
    rw [cnt_s, r35_4]
    by_cases c : bdP K wh p i ↔ bdP K wh p (i - 1)
    · have hc : ¬ cgP (bdP K wh p) i := fun z => z.2 c
      rw [pif_f hc]
      simp (disch := omega) only [e35, r35_0, r35_1, r35_2, r35_3, r35_5, r35_6, r35_9, r35_12, r35_13, r35_14, r35_17, r35_18, r35_21, r35_22, r35_25, r35_26, r35_27, r35_30, r35_31, r35_34, r35_35, r35_38, r35_39, r35_42, r35_43, r35_44, r35_45, r35_46, r35_49, r35_52, r35_53, r35_56, r35_57, r35_60, r35_61, r35_62, r35_65, r35_68, r35_69, b1, b2, q_bb, c127_0, h4, h5, kdC, kdM, rpC, rpM, q_rs, q_rn, Option.toList_some, Option.toList_none, List.cons_append, List.nil_append, true_and, and_true, eq_self, ↓reduceIte, not_true_eq_false, not_false_eq_true, Nat.reduceEqDiff, Nat.reduceLeDiff, Nat.reduceLT, Nat.reduceAdd, Nat.reduceMul, Nat.reduceSub, false_or, or_false, true_or, or_true, false_and, and_false, reduceCtorEq, q_n0, q_n1, q_em, q_em2, q_b0, q_b1, Classical.not_not, nI_add, pk_mul, nI_clamp, q_vp, nI_eq, nI_leI, nI_ltI, q_sub, c, show ¬ p.2 ≤ i by omega, show i < 24 by omega, show i - 1 < 24 by omega, Nat.add_zero]
    · have hc : cgP (bdP K wh p) i := ⟨h1i, c⟩
      rw [pif_t hc]
      simp (disch := omega) only [e35, r35_0, r35_1, r35_2, r35_3, r35_5, r35_6, r35_9, r35_12, r35_13, r35_14, r35_17, r35_18, r35_21, r35_22, r35_25, r35_26, r35_27, r35_30, r35_31, r35_34, r35_35, r35_38, r35_39, r35_42, r35_43, r35_44, r35_45, r35_46, r35_49, r35_52, r35_53, r35_56, r35_57, r35_60, r35_61, r35_62, r35_65, r35_68, r35_69, b1, b2, q_bb, c127_1, h4, h5, kdC, kdM, rpC, rpM, q_rs, q_rn, Option.toList_some, Option.toList_none, List.cons_append, List.nil_append, true_and, and_true, eq_self, ↓reduceIte, not_true_eq_false, not_false_eq_true, Nat.reduceEqDiff, Nat.reduceLeDiff, Nat.reduceLT, Nat.reduceAdd, Nat.reduceMul, Nat.reduceSub, false_or, or_false, true_or, or_true, false_and, and_false, reduceCtorEq, q_n0, q_n1, q_em, q_em2, q_b0, q_b1, Classical.not_not, nI_add, pk_mul, nI_clamp, q_vp, nI_eq, nI_leI, nI_ltI, q_sub, c, show ¬ p.2 ≤ i by omega, show i < 24 by omega, show i - 1 < 24 by omega]
theorem c35 (w : WF K) (q : RS h 0 K) (cp : CP K T h p) (ok : okP (nf K) p) (h4 : gI h 83 4 = wh) (d : Nat) (F : Po) : cwp true (d + 2) 35 [.ref 83] h F = F (some (.int (nI (cntT (cgP (bdP K wh p)) p.2)))) h := by
  have h1 := w.hnf
  have h5 := cp.1
  have hp := ok.1
  have hc0 : ¬ cgP (bdP K wh p) 0 := fun z => absurd z.1 (by omega)
  have e1 : cntT (cgP (bdP K wh p)) 1 = 0 := by rw [cnt_s, pif_f hc0]; rfl
  by_cases h0 : p.2 = 0
  · rw [h0] at h5
    rw [h0]
    simp (disch := omega) only [e35, r35_0, r35_1, r35_2, r35_3, r35_5, r35_6, r35_9, r35_12, r35_13, r35_14, r35_17, r35_18, r35_21, r35_22, r35_25, r35_26, r35_27, r35_30, r35_31, r35_34, r35_35, r35_38, r35_39, r35_42, r35_43, r35_44, r35_45, r35_46, r35_49, r35_52, r35_53, r35_56, r35_57, r35_60, r35_61, r35_62, r35_65, r35_68, r35_69, r35_4, h5, kdC, kdM, rpC, rpM, q_rs, q_rn, Option.toList_some, Option.toList_none, List.cons_append, List.nil_append, true_and, and_true, eq_self, ↓reduceIte, not_true_eq_false, not_false_eq_true, Nat.reduceEqDiff, Nat.reduceLeDiff, Nat.reduceLT, Nat.reduceAdd, Nat.reduceMul, Nat.reduceSub, false_or, or_false, true_or, or_true, false_and, and_false, reduceCtorEq, q_n0, q_n1, q_em, q_em2, q_b0, q_b1, Classical.not_not, nI_add, pk_mul, nI_clamp, q_vp, nI_eq, nI_leI, nI_ltI, q_sub]
    rfl
  · have hl := cl35 w q cp ok h4 (p.2 - 1) 1 d F (by omega) (by omega)
    rw [e1] at hl
    simp (disch := omega) only [r35_0, r35_1, r35_2, r35_3, e35]
    exact hl
theorem ml228 (hK : gI h 103 = K) (w : WF K) (hw : wh = nI 0 ∨ wh = nI 1) (mp : MP K T h p) (ok : okP (nf K) p) : ∀ k i d F, i + k = p.2 → 1 ≤ i → wp true (d + 4) 228 4 [.ref 101, .int wh, .int (nI (cntT (cgP (bdP K wh p)) i)), .int (nI i)] [] h F = F (some (.int (nI (cntT (cgP (bdP K wh p)) p.2)))) h
  | 0, i, d, F, e, h1i => by
    obtain rfl : i = p.2 := e
    have h1 := w.hnf
    have h5 := mp.1
    have hp := ok.1
    rw [r228_4]
    simp (disch := omega) only [e228, r228_0, r228_1, r228_2, r228_3, r228_5, r228_6, r228_9, r228_12, r228_13, r228_14, r228_15, r228_18, r228_19, r228_20, r228_21, r228_24, r228_25, r228_26, r228_29, r228_30, r228_31, r228_32, r228_33, r228_34, r228_37, r228_40, r228_41, r228_44, r228_45, r228_46, r228_47, r228_50, r228_53, r228_54, h5, kdC, kdM, rpC, rpM, q_rs, q_rn, Option.toList_some, Option.toList_none, List.cons_append, List.nil_append, true_and, and_true, eq_self, ↓reduceIte, not_true_eq_false, not_false_eq_true, Nat.reduceEqDiff, Nat.reduceLeDiff, Nat.reduceLT, Nat.reduceAdd, Nat.reduceMul, Nat.reduceSub, false_or, or_false, true_or, or_true, false_and, and_false, reduceCtorEq, q_n0, q_n1, q_em, q_em2, q_b0, q_b1, Classical.not_not, nI_add, pk_mul, nI_clamp, q_vp, nI_eq, nI_leI, nI_ltI, q_sub, Nat.le_refl]
  | k + 1, i, d, F, e, h1i => by
    have h1 := w.hnf
    have h5 := mp.1
    have hp := ok.1
    refine Eq.trans ?_ (ml228 hK w hw mp ok k (i + 1) d F (by omega) (by omega))
    have b1 := mbad hK w hw mp ok (show i < p.2 by omega)
    have b2 := mbad hK w hw mp ok (show i - 1 < p.2 by omega)
    rw [cnt_s, r228_4]
    by_cases c : bdP K wh p i ↔ bdP K wh p (i - 1)
    · have hc : ¬ cgP (bdP K wh p) i := fun z => z.2 c
      rw [pif_f hc]
      simp (disch := omega) only [e228, r228_0, r228_1, r228_2, r228_3, r228_5, r228_6, r228_9, r228_12, r228_13, r228_14, r228_15, r228_18, r228_19, r228_20, r228_21, r228_24, r228_25, r228_26, r228_29, r228_30, r228_31, r228_32, r228_33, r228_34, r228_37, r228_40, r228_41, r228_44, r228_45, r228_46, r228_47, r228_50, r228_53, r228_54, b1, b2, q_bb, h5, kdC, kdM, rpC, rpM, q_rs, q_rn, Option.toList_some, Option.toList_none, List.cons_append, List.nil_append, true_and, and_true, eq_self, ↓reduceIte, not_true_eq_false, not_false_eq_true, Nat.reduceEqDiff, Nat.reduceLeDiff, Nat.reduceLT, Nat.reduceAdd, Nat.reduceMul, Nat.reduceSub, false_or, or_false, true_or, or_true, false_and, and_false, reduceCtorEq, q_n0, q_n1, q_em, q_em2, q_b0, q_b1, Classical.not_not, nI_add, pk_mul, nI_clamp, q_vp, nI_eq, nI_leI, nI_ltI, q_sub, c, show ¬ p.2 ≤ i by omega, show i < 24 by omega, show i - 1 < 24 by omega, Nat.add_zero]
    · have hc : cgP (bdP K wh p) i := ⟨h1i, c⟩
      rw [pif_t hc]
      simp (disch := omega) only [e228, r228_0, r228_1, r228_2, r228_3, r228_5, r228_6, r228_9, r228_12, r228_13, r228_14, r228_15, r228_18, r228_19, r228_20, r228_21, r228_24, r228_25, r228_26, r228_29, r228_30, r228_31, r228_32, r228_33, r228_34, r228_37, r228_40, r228_41, r228_44, r228_45, r228_46, r228_47, r228_50, r228_53, r228_54, b1, b2, q_bb, h5, kdC, kdM, rpC, rpM, q_rs, q_rn, Option.toList_some, Option.toList_none, List.cons_append, List.nil_append, true_and, and_true, eq_self, ↓reduceIte, not_true_eq_false, not_false_eq_true, Nat.reduceEqDiff, Nat.reduceLeDiff, Nat.reduceLT, Nat.reduceAdd, Nat.reduceMul, Nat.reduceSub, false_or, or_false, true_or, or_true, false_and, and_false, reduceCtorEq, q_n0, q_n1, q_em, q_em2, q_b0, q_b1, Classical.not_not, nI_add, pk_mul, nI_clamp, q_vp, nI_eq, nI_leI, nI_ltI, q_sub, c, show ¬ p.2 ≤ i by omega, show i < 24 by omega, show i - 1 < 24 by omega]
theorem m228 (hK : gI h 103 = K) (w : WF K) (hw : wh = nI 0 ∨ wh = nI 1) (mp : MP K T h p) (ok : okP (nf K) p) (d : Nat) (F : Po) : cwp true (d + 4) 228 [.ref 101, .int wh] h F = F (some (.int (nI (cntT (cgP (bdP K wh p)) p.2)))) h := by
  have h1 := w.hnf
  have h5 := mp.1
  have hp := ok.1
  have hc0 : ¬ cgP (bdP K wh p) 0 := fun z => absurd z.1 (by omega)
  have e1 : cntT (cgP (bdP K wh p)) 1 = 0 := by rw [cnt_s, pif_f hc0]; rfl
  by_cases h0 : p.2 = 0
  · rw [h0] at h5
    rw [h0]
    simp (disch := omega) only [e228, r228_0, r228_1, r228_2, r228_3, r228_5, r228_6, r228_9, r228_12, r228_13, r228_14, r228_15, r228_18, r228_19, r228_20, r228_21, r228_24, r228_25, r228_26, r228_29, r228_30, r228_31, r228_32, r228_33, r228_34, r228_37, r228_40, r228_41, r228_44, r228_45, r228_46, r228_47, r228_50, r228_53, r228_54, r228_4, h5, kdC, kdM, rpC, rpM, q_rs, q_rn, Option.toList_some, Option.toList_none, List.cons_append, List.nil_append, true_and, and_true, eq_self, ↓reduceIte, not_true_eq_false, not_false_eq_true, Nat.reduceEqDiff, Nat.reduceLeDiff, Nat.reduceLT, Nat.reduceAdd, Nat.reduceMul, Nat.reduceSub, false_or, or_false, true_or, or_true, false_and, and_false, reduceCtorEq, q_n0, q_n1, q_em, q_em2, q_b0, q_b1, Classical.not_not, nI_add, pk_mul, nI_clamp, q_vp, nI_eq, nI_leI, nI_ltI, q_sub]
    rfl
  · have hl := ml228 hK w hw mp ok (p.2 - 1) 1 d F (by omega) (by omega)
    rw [e1] at hl
    simp (disch := omega) only [r228_0, r228_1, r228_2, r228_3, e228]
    exact hl
theorem cl36a (w : WF K) (q : RS h 0 K) (cp : CP K T h p) (ok : okP (nf K) p) (h4 : gI h 83 4 = wh) (v3 v4 v5 v6 : Value) : ∀ k i d F, i + k = p.2 → wp true (d + 2) 36 4 [.ref 83, .int (nI (cntT (bdP K wh p) i)), .int (nI i), v3, v4, v5, v6] [] h F = wp true (d + 2) 36 41 [.ref 83, .int (nI (cntT (bdP K wh p) p.2)), .int (nI p.2), v3, v4, v5, v6] [] h F
  | 0, i, d, F, e => by
    obtain rfl : i = p.2 := e
    have h1 := w.hnf
    have h5 := cp.1
    have hp := ok.1
    rw [r36_4]
    simp (disch := omega) only [r36_5, r36_6, r36_9, h5, kdC, kdM, rpC, rpM, q_rs, q_rn, Option.toList_some, Option.toList_none, List.cons_append, List.nil_append, true_and, and_true, eq_self, ↓reduceIte, not_true_eq_false, not_false_eq_true, Nat.reduceEqDiff, Nat.reduceLeDiff, Nat.reduceLT, Nat.reduceAdd, Nat.reduceMul, Nat.reduceSub, false_or, or_false, true_or, or_true, false_and, and_false, reduceCtorEq, q_n0, q_n1, q_em, q_em2, q_b0, q_b1, Classical.not_not, nI_add, pk_mul, nI_clamp, q_vp, nI_eq, nI_leI, nI_ltI, q_sub, Nat.le_refl]
  | k + 1, i, d, F, e => by
    have h1 := w.hnf
    have h5 := cp.1
    have hp := ok.1
    refine Eq.trans ?_ (cl36a w q cp ok h4 v3 v4 v5 v6 k (i + 1) d F (by omega))
    have b1 := cbad w q cp ok (show i < p.2 by omega) h4
    rw [cnt_s, r36_4]
    by_cases c : bdP K wh p i
    · rw [pif_t c]
      simp (disch := omega) only [r36_5, r36_6, r36_9, r36_12, r36_13, r36_14, r36_17, r36_18, r36_21, r36_22, r36_25, r36_26, r36_27, r36_30, r36_33, r36_34, r36_35, r36_38, b1, c127_1, h4, h5, kdC, kdM, rpC, rpM, q_rs, q_rn, Option.toList_some, Option.toList_none, List.cons_append, List.nil_append, true_and, and_true, eq_self, ↓reduceIte, not_true_eq_false, not_false_eq_true, Nat.reduceEqDiff, Nat.reduceLeDiff, Nat.reduceLT, Nat.reduceAdd, Nat.reduceMul, Nat.reduceSub, false_or, or_false, true_or, or_true, false_and, and_false, reduceCtorEq, q_n0, q_n1, q_em, q_em2, q_b0, q_b1, Classical.not_not, nI_add, pk_mul, nI_clamp, q_vp, nI_eq, nI_leI, nI_ltI, q_sub, c, q_bT, show ¬ p.2 ≤ i by omega, show i < 24 by omega]
    · rw [pif_f c]
      simp (disch := omega) only [r36_5, r36_6, r36_9, r36_12, r36_13, r36_14, r36_17, r36_18, r36_21, r36_22, r36_25, r36_26, r36_27, r36_30, r36_33, r36_34, r36_35, r36_38, b1, c127_0, h4, h5, kdC, kdM, rpC, rpM, q_rs, q_rn, Option.toList_some, Option.toList_none, List.cons_append, List.nil_append, true_and, and_true, eq_self, ↓reduceIte, not_true_eq_false, not_false_eq_true, Nat.reduceEqDiff, Nat.reduceLeDiff, Nat.reduceLT, Nat.reduceAdd, Nat.reduceMul, Nat.reduceSub, false_or, or_false, true_or, or_true, false_and, and_false, reduceCtorEq, q_n0, q_n1, q_em, q_em2, q_b0, q_b1, Classical.not_not, nI_add, pk_mul, nI_clamp, q_vp, nI_eq, nI_leI, nI_ltI, q_sub, c, q_bF, show ¬ p.2 ≤ i by omega, show i < 24 by omega, Nat.add_zero]
theorem cl36b (w : WF K) (q : RS h 0 K) (cp : CP K T h p) (ok : okP (nf K) p) (h4 : gI h 83 4 = wh) : ∀ k i d F, i + k = p.2 → wp true (d + 2) 36 63 [.ref 83, .int (nI (cntT (bdP K wh p) p.2 - cntT (bdP K wh p) i)), .int (nI ((p.2 - cntT (bdP K wh p) p.2) - (i - cntT (bdP K wh p) i))), .int (nI (cntT (bdP K wh p) i)), .int (nI (i - cntT (bdP K wh p) i)), .int (nI (tkN (bdP K wh p) p.2 i)), .int (nI i)] [] h F = F (some (.int (nI (tkN (bdP K wh p) p.2 p.2)))) h
  | 0, i, d, F, e => by
    obtain rfl : i = p.2 := e
    have h1 := w.hnf
    have h5 := cp.1
    have hp := ok.1
    rw [r36_63]
    simp (disch := omega) only [e36, r36_0, r36_1, r36_2, r36_3, r36_5, r36_6, r36_9, r36_12, r36_13, r36_14, r36_17, r36_18, r36_21, r36_22, r36_25, r36_26, r36_27, r36_30, r36_33, r36_34, r36_35, r36_38, r36_41, r36_42, r36_45, r36_46, r36_47, r36_48, r36_49, r36_50, r36_51, r36_53, r36_54, r36_55, r36_58, r36_60, r36_61, r36_65, r36_66, r36_69, r36_72, r36_73, r36_76, r36_77, r36_80, r36_81, r36_84, r36_86, r36_87, r36_90, r36_93, r36_96, r36_99, r36_102, r36_105, r36_108, r36_110, r36_112, r36_113, r36_114, r36_115, r36_116, r36_117, r36_120, r36_123, r36_125, r36_128, r36_131, r36_133, h5, kdC, kdM, rpC, rpM, q_rs, q_rn, Option.toList_some, Option.toList_none, List.cons_append, List.nil_append, true_and, and_true, eq_self, ↓reduceIte, not_true_eq_false, not_false_eq_true, Nat.reduceEqDiff, Nat.reduceLeDiff, Nat.reduceLT, Nat.reduceAdd, Nat.reduceMul, Nat.reduceSub, false_or, or_false, true_or, or_true, false_and, and_false, reduceCtorEq, q_n0, q_n1, q_em, q_em2, q_b0, q_b1, Classical.not_not, nI_add, pk_mul, nI_clamp, q_vp, nI_eq, nI_leI, nI_ltI, q_sub, Nat.le_refl]
  | k + 1, i, d, F, e => by
    have h1 := w.hnf
    have h5 := cp.1
    have hp := ok.1
    refine Eq.trans ?_ (cl36b w q cp ok h4 k (i + 1) d F (by omega))
    have b1 := cbad w q cp ok (show i < p.2 by omega) h4
    have m1 := mm_le (bdP K wh p) (N := p.2) (c := i + 1) (by omega)
    have m2 : mmN (bdP K wh p) p.2 (i + 1) = cntT (bdP K wh p) (i + 1) + ((p.2 - cntT (bdP K wh p) p.2) - (i + 1 - cntT (bdP K wh p) (i + 1))) := rfl
    have hmo := cnt_mono (bdP K wh p) (i + 1) (p.2 - (i + 1))
    rw [show i + 1 + (p.2 - (i + 1)) = p.2 by omega] at hmo
    have hle := cnt_le (bdP K wh p) i
    have hle2 := cnt_le (bdP K wh p) p.2
    have htk := tk_le (bdP K wh p) p.2 i
    have ht : tkN (bdP K wh p) p.2 (i + 1) = min (tkN (bdP K wh p) p.2 i) (min (mmN (bdP K wh p) p.2 (i + 1)) (p.2 - mmN (bdP K wh p) p.2 (i + 1))) := rfl
    have hs := cnt_s (bdP K wh p) i
    rw [ht, m1.2, m2]
    by_cases c : bdP K wh p i
    · rw [pif_t c] at hs
      rw [hs] at hmo m1 m2 ⊢
      generalize cntT (bdP K wh p) i = x at *
      generalize cntT (bdP K wh p) p.2 = B at *
      generalize tkN (bdP K wh p) p.2 i = y at *
      rw [show i + 1 - (x + 1) = i - x by omega, show B - (x + 1) = B - x - 1 by omega, Nat.min_comm y]
      rw [r36_63]
      simp (disch := omega) only [r36_65, r36_66, r36_69, r36_72, r36_73, r36_76, r36_77, r36_80, r36_81, r36_84, r36_86, r36_87, r36_90, r36_93, r36_96, r36_99, r36_102, r36_105, r36_108, r36_110, r36_112, r36_113, r36_114, r36_115, r36_116, r36_117, r36_120, r36_123, r36_125, r36_128, b1, h4, h5, kdC, kdM, rpC, rpM, q_rs, q_rn, Option.toList_some, Option.toList_none, List.cons_append, List.nil_append, true_and, and_true, eq_self, ↓reduceIte, not_true_eq_false, not_false_eq_true, Nat.reduceEqDiff, Nat.reduceLeDiff, Nat.reduceLT, Nat.reduceAdd, Nat.reduceMul, Nat.reduceSub, false_or, or_false, true_or, or_true, false_and, and_false, reduceCtorEq, q_n0, q_n1, q_em, q_em2, q_b0, q_b1, Classical.not_not, nI_add, pk_mul, nI_clamp, q_vp, nI_eq, nI_leI, nI_ltI, q_sub, c, n_mm1, n_min, show ¬ p.2 ≤ i by omega, show i < 24 by omega]
    · rw [pif_f c] at hs
      rw [hs] at hmo m1 m2 ⊢
      simp only [Nat.add_zero] at hmo m1 m2 ⊢
      have hg : 1 ≤ (p.2 - cntT (bdP K wh p) p.2) - (i - cntT (bdP K wh p) i) := by omega
      generalize cntT (bdP K wh p) i = x at *
      generalize cntT (bdP K wh p) p.2 = B at *
      generalize tkN (bdP K wh p) p.2 i = y at *
      rw [show i + 1 - x = i - x + 1 by omega, show (p.2 - B) - (i - x + 1) = (p.2 - B) - (i - x) - 1 by omega, Nat.min_comm y]
      rw [r36_63]
      simp (disch := omega) only [r36_65, r36_66, r36_69, r36_72, r36_73, r36_76, r36_77, r36_80, r36_81, r36_84, r36_86, r36_87, r36_90, r36_93, r36_96, r36_99, r36_102, r36_105, r36_108, r36_110, r36_112, r36_113, r36_114, r36_115, r36_116, r36_117, r36_120, r36_123, r36_125, r36_128, b1, h4, h5, kdC, kdM, rpC, rpM, q_rs, q_rn, Option.toList_some, Option.toList_none, List.cons_append, List.nil_append, true_and, and_true, eq_self, ↓reduceIte, not_true_eq_false, not_false_eq_true, Nat.reduceEqDiff, Nat.reduceLeDiff, Nat.reduceLT, Nat.reduceAdd, Nat.reduceMul, Nat.reduceSub, false_or, or_false, true_or, or_true, false_and, and_false, reduceCtorEq, q_n0, q_n1, q_em, q_em2, q_b0, q_b1, Classical.not_not, nI_add, pk_mul, nI_clamp, q_vp, nI_eq, nI_leI, nI_ltI, q_sub, c, n_mm1, n_min, show ¬ p.2 ≤ i by omega, show i < 24 by omega]
end SE
