/-! beyond, held -/
theorem q_sbI {x y : Int32} (hx : rg x (-2000) 2000) (hy : rg y (-2000) 2000) : (x - y).toInt = x.toInt - y.toInt := by
  unfold rg at *
  rw [Int32.toInt_sub]
  exact Int.bmod_eq_of_le (by omega) (by omega)
theorem rg_w {x : Int32} {a b c e : Int} (h : rg x a b) (h1 : c ≤ a) (h2 : b ≤ e) : rg x c e := ⟨by have := h.1; omega, by have := h.2; omega⟩
def far (x a b : Int32) : Int32 := mxI (nI 0) (mxI (a - x) (x - b))
/-- from where to where the flights that count go -/
def okR (o : Option (Int32 × Int32)) : Prop := ∀ a b, o = some (a, b) → a ≤ b ∧ rg a (-40) 120 ∧ rg b (-40) 120
def rgN (w : Int32) (o : Option (Int32 × Int32)) : Option (Int32 × Int32) := some (match o with
  | none => (w, w)
  | some (a, b) => (mnI a w, mxI b w))
def cR (o : Option (Int32 × Int32)) : Int32 × Int32 := o.getD (nI 121, -41)
def mR (o : Option (Int32 × Int32)) : Int32 × Int32 := o.getD (nI 1000, -1000)
theorem pif_T {α : Type} (a b : α) : pif True a b = a := pif_t trivial
theorem pif_F {α : Type} (a b : α) : pif False a b = b := pif_f (fun q => q)
theorem q_121 : (nI 121).toInt = 121 := by decide
theorem q_m41 : ((-41 : Int32)).toInt = -41 := by decide
theorem q_1000 : (nI 1000).toInt = 1000 := by decide
theorem q_mk : ((-1000 : Int32)).toInt = -1000 := by decide
section HD
variable (d : Nat) (h : Hp) (F : Po) {K : Nat → Int32} {o : Option (Int32 × Int32)} {w : Int32}
theorem cR_N (hw : rg w (-40) 120) : cR (rgN w o) = (mnI (cR o).1 w, mxI (cR o).2 w) := by
  rcases o with _ | ⟨a, b⟩
  · show (w, w) = (mnI (nI 121) w, mxI (-41) w)
    unfold rg at hw
    unfold mnI mxI
    rw [if_pos (by rw [Int32.lt_iff_toInt_lt, q_121]; omega), if_pos (by rw [Int32.lt_iff_toInt_lt, q_m41]; omega)]
  · rfl
theorem mR_N (hw : rg w (-40) 120) : mR (rgN w o) = (mnI (mR o).1 w, mxI (mR o).2 w) := by
  rcases o with _ | ⟨a, b⟩
  · show (w, w) = (mnI (nI 1000) w, mxI (-1000) w)
    unfold rg at hw
    unfold mnI mxI
    rw [if_pos (by rw [Int32.lt_iff_toInt_lt, q_1000]; omega), if_pos (by rw [Int32.lt_iff_toInt_lt, q_mk]; omega)]
  · rfl
theorem okR_N (hw : rg w (-40) 120) (ho : okR o) : okR (rgN w o) := by
  rcases o with _ | ⟨a, b⟩
  · intro x y e
    cases e
    exact ⟨Int32.le_refl _, hw, hw⟩
  · obtain ⟨h1, h2, h3⟩ := ho a b rfl
    intro x y e
    cases e
    unfold rg mnI mxI at *
    simp only [Int32.lt_iff_toInt_lt, Int32.le_iff_toInt_le, apply_ite Int32.toInt] at *
    repeat' split
    all_goals omega
theorem c141 (x a b : Int32) : cwp true d 141 [.int x, .int a, .int b] h F = F (some (.int (far x a b))) h := by
  simp only [e141, r141_0, r141_1, r141_2, r141_3, r141_4, r141_5, r141_6, r141_7, r141_10, r141_13, kdC, kdM, rpC, rpM, q_rs, q_rn, Option.toList_some, Option.toList_none, List.cons_append, List.nil_append, true_and, and_true, eq_self, ↓reduceIte, not_true_eq_false, not_false_eq_true, Nat.reduceEqDiff, Nat.reduceLeDiff, Nat.reduceLT, Nat.reduceAdd, Nat.reduceMul, Nat.reduceSub, false_or, or_false, true_or, or_true, false_and, and_false, reduceCtorEq, q_n0, q_n1, q_em, q_em2, q_b0, q_b1, Classical.not_not]
  rfl
theorem m220 {x a b : Int32} (hx : rg x (-40) 120) (hab : a ≤ b) (ha : rg a (-40) 120) (hb : rg b (-40) 120) : cwp true d 220 [.int x, .int a, .int b] h F = F (some (.int (far x a b))) h := by
  have e1 := q_sbI (rg_w ha (by omega) (by omega)) (rg_w hx (show (-2000 : Int) ≤ -40 by omega) (show (120 : Int) ≤ 2000 by omega))
  have e2 := q_sbI (rg_w hx (by omega) (by omega)) (rg_w hb (show (-2000 : Int) ≤ -40 by omega) (show (120 : Int) ≤ 2000 by omega))
  have hs : far x a b = if a ≤ x then (if x ≤ b then nI 0 else x - b) else a - x := by
    apply Int32.toInt_inj.mp
    unfold far mxI
    simp only [Int32.lt_iff_toInt_lt, Int32.le_iff_toInt_le, apply_ite Int32.toInt, q_z0, e1, e2] at *
    repeat' split
    all_goals omega
  rw [hs]
  by_cases h1 : a ≤ x
  · by_cases h2 : x ≤ b
    · simp only [e220, r220_0, r220_1, r220_2, r220_5, r220_6, r220_7, r220_8, r220_11, r220_12, r220_13, r220_16, r220_17, r220_18, r220_19, r220_22, r220_23, kdC, kdM, rpC, rpM, q_rs, q_rn, Option.toList_some, Option.toList_none, List.cons_append, List.nil_append, true_and, and_true, eq_self, ↓reduceIte, not_true_eq_false, not_false_eq_true, Nat.reduceEqDiff, Nat.reduceLeDiff, Nat.reduceLT, Nat.reduceAdd, Nat.reduceMul, Nat.reduceSub, false_or, or_false, true_or, or_true, false_and, and_false, reduceCtorEq, q_n0, q_n1, q_em, q_em2, q_b0, q_b1, Classical.not_not, h1, h2]
    · simp only [e220, r220_0, r220_1, r220_2, r220_5, r220_6, r220_7, r220_8, r220_11, r220_12, r220_13, r220_16, r220_17, r220_18, r220_19, r220_22, r220_23, kdC, kdM, rpC, rpM, q_rs, q_rn, Option.toList_some, Option.toList_none, List.cons_append, List.nil_append, true_and, and_true, eq_self, ↓reduceIte, not_true_eq_false, not_false_eq_true, Nat.reduceEqDiff, Nat.reduceLeDiff, Nat.reduceLT, Nat.reduceAdd, Nat.reduceMul, Nat.reduceSub, false_or, or_false, true_or, or_true, false_and, and_false, reduceCtorEq, q_n0, q_n1, q_em, q_em2, q_b0, q_b1, Classical.not_not, h1, h2]
  · simp only [e220, r220_0, r220_1, r220_2, r220_5, r220_6, r220_7, r220_8, r220_11, r220_12, r220_13, r220_16, r220_17, r220_18, r220_19, r220_22, r220_23, kdC, kdM, rpC, rpM, q_rs, q_rn, Option.toList_some, Option.toList_none, List.cons_append, List.nil_append, true_and, and_true, eq_self, ↓reduceIte, not_true_eq_false, not_false_eq_true, Nat.reduceEqDiff, Nat.reduceLeDiff, Nat.reduceLT, Nat.reduceAdd, Nat.reduceMul, Nat.reduceSub, false_or, or_false, true_or, or_true, false_and, and_false, reduceCtorEq, q_n0, q_n1, q_em, q_em2, q_b0, q_b1, Classical.not_not, h1]
noncomputable def byd (K : Nat → Int32) (f : Nat) (o : Option (Int32 × Int32)) : Option (Int32 × Int32) := pif (wst K f = -1) o (rgN (K (9 * f)) o)
theorem byd_ok (w : WF K) {f : Nat} (hf : f < nf K) (ho : okR o) : okR (byd K f o) := by
  unfold byd
  by_cases e : wst K f = -1
  · rw [pif_t e]; exact ho
  · rw [pif_f e]; exact okR_N (w.2.1 f hf).1 ho
theorem cl104 (w : WF K) (q : RS h 0 K) (x : Int32) : ∀ k f o, f + k = nf K → wp true (d + 2) 104 18 [.ref 1, .int x, .int (cR o).1, .int (cR o).2, .int (nI f)] [] h F = wp true (d + 2) 104 90 [.ref 1, .int x, .int (cR (q_lp (byd K) k f o)).1, .int (cR (q_lp (byd K) k f o)).2, .int (nI (nf K))] [] h F
  | 0, f, o, e => by
    have h1 := w.hnf
    rw [r104_18]
    simp (disch := omega) only [r104_20, r104_21, r104_24, r104_27, r104_30, kdC, kdM, rpC, rpM, q_rs, q_rn, Option.toList_some, Option.toList_none, List.cons_append, List.nil_append, true_and, and_true, eq_self, ↓reduceIte, not_true_eq_false, not_false_eq_true, Nat.reduceEqDiff, Nat.reduceLeDiff, Nat.reduceLT, Nat.reduceAdd, Nat.reduceMul, Nat.reduceSub, false_or, or_false, true_or, or_true, false_and, and_false, reduceCtorEq, q_n0, q_n1, q_em, q_em2, q_b0, q_b1, Classical.not_not, nI_add, pk_mul, nI_clamp, q_vp, nI_eq, nI_leI, nI_ltI, q_sub, q.hnf, h1, show f = nf K from e, Nat.le_refl]
    rfl
  | k + 1, f, o, e => by
    have h1 := w.hnf
    have hf : f < nf K := by omega
    refine Eq.trans ?_ (cl104 w q x k (f + 1) (byd K f o) (by omega))
    rw [r104_18]
    by_cases e1 : wst K f = -1
    · simp (disch := omega) only [r104_20, r104_21, r104_24, r104_27, r104_30, r104_33, r104_34, r104_37, r104_40, r104_42, r104_45, r104_48, r104_49, r104_50, r104_53, r104_56, r104_59, r104_61, r104_62, r104_65, r104_66, r104_67, r104_68, r104_71, r104_74, r104_77, r104_79, r104_80, r104_83, r104_84, r104_87, cc14 _ h _ w q hf, kdC, kdM, rpC, rpM, q_rs, q_rn, Option.toList_some, Option.toList_none, List.cons_append, List.nil_append, true_and, and_true, eq_self, ↓reduceIte, not_true_eq_false, not_false_eq_true, Nat.reduceEqDiff, Nat.reduceLeDiff, Nat.reduceLT, Nat.reduceAdd, Nat.reduceMul, Nat.reduceSub, false_or, or_false, true_or, or_true, false_and, and_false, reduceCtorEq, q_n0, q_n1, q_em, q_em2, q_b0, q_b1, Classical.not_not, nI_add, pk_mul, nI_clamp, q_vp, nI_eq, nI_leI, nI_ltI, q_sub, q.hnf, h1, show ¬ nf K ≤ f by omega, e1, byd, pif_T]
    · have hw := (w.2.1 f hf).1
      simp (disch := omega) only [r104_20, r104_21, r104_24, r104_27, r104_30, r104_33, r104_34, r104_37, r104_40, r104_42, r104_45, r104_48, r104_49, r104_50, r104_53, r104_56, r104_59, r104_61, r104_62, r104_65, r104_66, r104_67, r104_68, r104_71, r104_74, r104_77, r104_79, r104_80, r104_83, r104_84, r104_87, cc14 _ h _ w q hf, kdC, kdM, rpC, rpM, q_rs, q_rn, Option.toList_some, Option.toList_none, List.cons_append, List.nil_append, true_and, and_true, eq_self, ↓reduceIte, not_true_eq_false, not_false_eq_true, Nat.reduceEqDiff, Nat.reduceLeDiff, Nat.reduceLT, Nat.reduceAdd, Nat.reduceMul, Nat.reduceSub, false_or, or_false, true_or, or_true, false_and, and_false, reduceCtorEq, q_n0, q_n1, q_em, q_em2, q_b0, q_b1, Classical.not_not, nI_add, pk_mul, nI_clamp, q_vp, nI_eq, nI_leI, nI_ltI, q_sub, q.hnf, h1, show ¬ nf K ≤ f by omega, e1, byd, pif_F, q.w, show f < 24 by omega, cR_N hw, mnI, mxI]
theorem ml221 (hK : gI h 103 = K) (w : WF K) (x : Int32) : ∀ k f o, f + k = nf K → wp true (d + 3) 221 20 [.ref 101, .int x, .int (mR o).1, .int (mR o).2, .int (nI f)] [] h F = wp true (d + 3) 221 93 [.ref 101, .int x, .int (mR (q_lp (byd K) k f o)).1, .int (mR (q_lp (byd K) k f o)).2, .int (nI (nf K))] [] h F
  | 0, f, o, e => by
    have h1 := w.hnf
    rw [r221_20]
    simp (disch := omega) only [r221_22, r221_23, r221_26, c153 _ h _ hK w, kdC, kdM, rpC, rpM, q_rs, q_rn, Option.toList_some, Option.toList_none, List.cons_append, List.nil_append, true_and, and_true, eq_self, ↓reduceIte, not_true_eq_false, not_false_eq_true, Nat.reduceEqDiff, Nat.reduceLeDiff, Nat.reduceLT, Nat.reduceAdd, Nat.reduceMul, Nat.reduceSub, false_or, or_false, true_or, or_true, false_and, and_false, reduceCtorEq, q_n0, q_n1, q_em, q_em2, q_b0, q_b1, Classical.not_not, nI_add, pk_mul, nI_clamp, q_vp, nI_eq, nI_leI, nI_ltI, q_sub, show f = nf K from e, Nat.le_refl]
    rfl
  | k + 1, f, o, e => by
    have h1 := w.hnf
    have hf : f < nf K := by omega
    refine Eq.trans ?_ (ml221 hK w x k (f + 1) (byd K f o) (by omega))
    rw [r221_20]
    by_cases e1 : wst K f = -1
    · simp (disch := omega) only [r221_22, r221_23, r221_26, r221_29, r221_30, r221_32, r221_35, r221_38, r221_41, r221_42, r221_44, r221_45, r221_48, r221_49, r221_52, r221_53, r221_55, r221_56, r221_59, r221_62, r221_63, r221_64, r221_65, r221_67, r221_68, r221_71, r221_72, r221_75, r221_76, r221_78, r221_79, r221_82, r221_85, r221_86, r221_87, r221_90, c153 _ h _ hK w, m158 _ h _ hK w hf, kdC, kdM, rpC, rpM, q_rs, q_rn, Option.toList_some, Option.toList_none, List.cons_append, List.nil_append, true_and, and_true, eq_self, ↓reduceIte, not_true_eq_false, not_false_eq_true, Nat.reduceEqDiff, Nat.reduceLeDiff, Nat.reduceLT, Nat.reduceAdd, Nat.reduceMul, Nat.reduceSub, false_or, or_false, true_or, or_true, false_and, and_false, reduceCtorEq, q_n0, q_n1, q_em, q_em2, q_b0, q_b1, Classical.not_not, nI_add, pk_mul, nI_clamp, q_vp, nI_eq, nI_leI, nI_ltI, q_sub, show ¬ nf K ≤ f by omega, e1, byd, pif_T]
    · have hw := (w.2.1 f hf).1
      simp (disch := omega) only [r221_22, r221_23, r221_26, r221_29, r221_30, r221_32, r221_35, r221_38, r221_41, r221_42, r221_44, r221_45, r221_48, c153 _ h _ hK w, m158 _ h _ hK w hf, c155 _ h _ hK (show f < 24 by omega) (show 0 < 9 by omega), kdC, kdM, rpC, rpM, q_rs, q_rn, Option.toList_some, Option.toList_none, List.cons_append, List.nil_append, true_and, and_true, eq_self, ↓reduceIte, not_true_eq_false, not_false_eq_true, Nat.reduceEqDiff, Nat.reduceLeDiff, Nat.reduceLT, Nat.reduceAdd, Nat.reduceMul, Nat.reduceSub, false_or, or_false, true_or, or_true, false_and, and_false, reduceCtorEq, q_n0, q_n1, q_em, q_em2, q_b0, q_b1, Classical.not_not, nI_add, pk_mul, nI_clamp, q_vp, nI_eq, nI_leI, nI_ltI, q_sub, show ¬ nf K ≤ f by omega, e1, byd, pif_F, mR_N hw, mnI, mxI, Nat.add_zero]
      by_cases e2 : K (9 * f) < (mR o).1 <;> by_cases e3 : (mR o).2 < K (9 * f) <;>
      simp (disch := omega) only [r221_49, r221_52, r221_53, r221_55, r221_56, r221_59, r221_62, r221_63, r221_64, r221_65, r221_67, r221_68, r221_71, r221_72, r221_75, r221_76, r221_78, r221_79, r221_82, r221_85, r221_86, r221_87, r221_90, c155 _ h _ hK (show f < 24 by omega) (show 0 < 9 by omega), kdC, kdM, rpC, rpM, q_rs, q_rn, Option.toList_some, Option.toList_none, List.cons_append, List.nil_append, true_and, and_true, eq_self, ↓reduceIte, not_true_eq_false, not_false_eq_true, Nat.reduceEqDiff, Nat.reduceLeDiff, Nat.reduceLT, Nat.reduceAdd, Nat.reduceMul, Nat.reduceSub, false_or, or_false, true_or, or_true, false_and, and_false, reduceCtorEq, q_n0, q_n1, q_em, q_em2, q_b0, q_b1, Classical.not_not, nI_add, pk_mul, nI_clamp, q_vp, nI_eq, nI_leI, nI_ltI, q_sub, e2, e3, ← Int32.not_lt, Nat.add_zero]
theorem byd_all (w : WF K) : okR (q_lp (byd K) (nf K) 0 none) := q_inv (J := fun _ o => okR o) (fun f o hf ho => byd_ok w hf ho) (fun a b e => by cases e)
/-- flights held back: those that were scorched, the others -/
abbrev HS : Type := Option (Int32 × Int32) × Nat × Nat
noncomputable def hst (K : Nat → Int32) (f : Nat) (z : HS) : HS :=
  pif (wst K f = -1) z (pif (∃ a b, z.1 = some (a, b) ∧ K 219 < far (K (9 * f)) a b) (pif (nI 0 < wst K f) (z.1, z.2.1 + 1, z.2.2) (z.1, z.2.1, z.2.2 + 1)) (rgN (K (9 * f)) z.1, z.2.1, z.2.2))
theorem hst_ok (w : WF K) {f : Nat} (hf : f < nf K) {z : HS} (ho : okR z.1) : okR (hst K f z).1 := by
  unfold hst
  by_cases e : wst K f = -1
  · rw [pif_t e]; exact ho
  · rw [pif_f e]
    by_cases e2 : ∃ a b, z.1 = some (a, b) ∧ K 219 < far (K (9 * f)) a b
    · rw [pif_t e2]
      by_cases e3 : nI 0 < wst K f
      · rw [pif_t e3]; exact ho
      · rw [pif_f e3]; exact ho
    · rw [pif_f e2]; exact okR_N (w.2.1 f hf).1 ho
theorem c127_0 : cwp true d 127 [.int (nI 0)] h F = F (some (.int (nI 0))) h := by simp only [e127, r127_0, r127_1, r127_4, r127_5, r127_8, r127_9, kdC, kdM, rpC, rpM, q_rs, q_rn, Option.toList_some, Option.toList_none, List.cons_append, List.nil_append, true_and, and_true, eq_self, ↓reduceIte, not_true_eq_false, not_false_eq_true, Nat.reduceEqDiff, Nat.reduceLeDiff, Nat.reduceLT, Nat.reduceAdd, Nat.reduceMul, Nat.reduceSub, false_or, or_false, true_or, or_true, false_and, and_false, reduceCtorEq, q_n0, q_n1, q_em, q_em2, q_b0, q_b1, Classical.not_not]
theorem c127_1 : cwp true d 127 [.int (nI 1)] h F = F (some (.int (nI 1))) h := by simp only [e127, r127_0, r127_1, r127_4, r127_5, r127_8, r127_9, kdC, kdM, rpC, rpM, q_rs, q_rn, Option.toList_some, Option.toList_none, List.cons_append, List.nil_append, true_and, and_true, eq_self, ↓reduceIte, not_true_eq_false, not_false_eq_true, Nat.reduceEqDiff, Nat.reduceLeDiff, Nat.reduceLT, Nat.reduceAdd, Nat.reduceMul, Nat.reduceSub, false_or, or_false, true_or, or_true, false_and, and_false, reduceCtorEq, q_n0, q_n1, q_em, q_em2, q_b0, q_b1, Classical.not_not]
def hpk (s : Nat) (z : HS) : Nat := if s = 1 then z.2.1 else z.2.2
theorem cl142 (w : WF K) (q : RS h 0 K) {s : Nat} (hs : s = 0 ∨ s = 1) : ∀ k f (z : HS) (v : Value), f + k = nf K → okR z.1 → wp true (d + 2) 142 21 [.ref 1, .int (nI s), .ref 3, .int (nI (hpk s z)), .int (cR z.1).1, .int (cR z.1).2, .int (nI f), v] [] h F = F (some (.int (nI (hpk s (q_lp (hst K) k f z))))) h
  | 0, f, z, v, e, ho => by
    have h1 := w.hnf
    rw [r142_21]
    simp (disch := omega) only [e142, r142_0, r142_1, r142_4, r142_7, r142_7n, r142_8, r142_9, r142_10, r142_12, r142_14, r142_16, r142_18, r142_19, r142_23, r142_23n, r142_24, r142_27, r142_30, r142_30n, r142_31, r142_33, r142_36, r142_39, r142_42, r142_42n, r142_43, r142_46, r142_48, r142_49, r142_51, r142_53, r142_55, r142_58, r142_60, r142_62, r142_64, r142_67, r142_68, r142_71, r142_74, r142_75, r142_76, r142_79, r142_80, r142_80n, r142_81, r142_83, r142_86, r142_87, r142_90, r142_91, r142_94, r142_95, r142_98, r142_99, r142_100, r142_103, r142_105, r142_107, r142_110, r142_112, r142_114, r142_116, r142_119, r142_121, r142_124, r142_127, r142_128, kdC, kdM, rpC, rpM, q_rs, q_rn, Option.toList_some, Option.toList_none, List.cons_append, List.nil_append, true_and, and_true, eq_self, ↓reduceIte, not_true_eq_false, not_false_eq_true, Nat.reduceEqDiff, Nat.reduceLeDiff, Nat.reduceLT, Nat.reduceAdd, Nat.reduceMul, Nat.reduceSub, false_or, or_false, true_or, or_true, false_and, and_false, reduceCtorEq, q_n0, q_n1, q_em, q_em2, q_b0, q_b1, Classical.not_not, nI_add, pk_mul, nI_clamp, q_vp, nI_eq, nI_leI, nI_ltI, q_sub, q.hnf, h1, show f = nf K from e, Nat.le_refl]
    rfl
  | k + 1, f, z, v, e, ho => by
    have h1 := w.hnf
    have hf : f < nf K := by omega
    have hw := (w.2.1 f hf).1
    by_cases e1 : wst K f = -1
    · refine Eq.trans ?_ (cl142 w q hs k (f + 1) (hst K f z) v (by omega) (hst_ok w hf ho))
      rw [r142_21]
      simp (disch := omega) only [e142, r142_0, r142_1, r142_4, r142_7, r142_7n, r142_8, r142_9, r142_10, r142_12, r142_14, r142_16, r142_18, r142_19, r142_23, r142_23n, r142_24, r142_27, r142_30, r142_30n, r142_31, r142_33, r142_36, r142_39, r142_42, r142_42n, r142_43, r142_46, r142_48, r142_49, r142_51, r142_53, r142_55, r142_58, r142_60, r142_62, r142_64, r142_67, r142_68, r142_71, r142_74, r142_75, r142_76, r142_79, r142_80, r142_80n, r142_81, r142_83, r142_86, r142_87, r142_90, r142_91, r142_94, r142_95, r142_98, r142_99, r142_100, r142_103, r142_105, r142_107, r142_110, r142_112, r142_114, r142_116, r142_119, r142_121, r142_124, r142_127, r142_128, cc14 _ h _ w q hf, kdC, kdM, rpC, rpM, q_rs, q_rn, Option.toList_some, Option.toList_none, List.cons_append, List.nil_append, true_and, and_true, eq_self, ↓reduceIte, not_true_eq_false, not_false_eq_true, Nat.reduceEqDiff, Nat.reduceLeDiff, Nat.reduceLT, Nat.reduceAdd, Nat.reduceMul, Nat.reduceSub, false_or, or_false, true_or, or_true, false_and, and_false, reduceCtorEq, q_n0, q_n1, q_em, q_em2, q_b0, q_b1, Classical.not_not, nI_add, pk_mul, nI_clamp, q_vp, nI_eq, nI_leI, nI_ltI, q_sub, q.hnf, h1, show ¬ nf K ≤ f by omega, e1, hst, pif_T]
    · refine Eq.trans ?_ (cl142 w q hs k (f + 1) (hst K f z) (.int (K (9 * f))) (by omega) (hst_ok w hf ho))
      rw [r142_21]
      rcases z with ⟨_ | ⟨a, b⟩, A, B⟩
      · have hn : ¬ ∃ a b, (none : Option (Int32 × Int32)) = some (a, b) ∧ K 219 < far (K (9 * f)) a b := by rintro ⟨a, b, e, _⟩; cases e
        have hh : hst K f (none, A, B) = (rgN (K (9 * f)) none, A, B) := by unfold hst; rw [pif_f e1, pif_f hn]
        have hr : cR (rgN (K (9 * f)) none) = (K (9 * f), K (9 * f)) := rfl
        have hl : K (9 * f) < nI 121 := by
          unfold rg at hw
          rw [Int32.lt_iff_toInt_lt, q_121]; omega
        have hl2 : -41 < K (9 * f) := by
          unfold rg at hw
          rw [Int32.lt_iff_toInt_lt, q_m41]; omega
        rw [hh]
        rw [hr]
        simp (disch := omega) only [hl, hl2, e142, r142_0, r142_1, r142_4, r142_7, r142_7n, r142_8, r142_9, r142_10, r142_12, r142_14, r142_16, r142_18, r142_19, r142_23, r142_23n, r142_24, r142_27, r142_30, r142_30n, r142_31, r142_33, r142_36, r142_39, r142_42, r142_42n, r142_43, r142_46, r142_48, r142_49, r142_51, r142_53, r142_55, r142_58, r142_60, r142_62, r142_64, r142_67, r142_68, r142_71, r142_74, r142_75, r142_76, r142_79, r142_80, r142_80n, r142_81, r142_83, r142_86, r142_87, r142_90, r142_91, r142_94, r142_95, r142_98, r142_99, r142_100, r142_103, r142_105, r142_107, r142_110, r142_112, r142_114, r142_116, r142_119, r142_121, r142_124, r142_127, r142_128, cc14 _ h _ w q hf, kdC, kdM, rpC, rpM, q_rs, q_rn, Option.toList_some, Option.toList_none, List.cons_append, List.nil_append, true_and, and_true, eq_self, ↓reduceIte, not_true_eq_false, not_false_eq_true, Nat.reduceEqDiff, Nat.reduceLeDiff, Nat.reduceLT, Nat.reduceAdd, Nat.reduceMul, Nat.reduceSub, false_or, or_false, true_or, or_true, false_and, and_false, reduceCtorEq, q_n0, q_n1, q_em, q_em2, q_b0, q_b1, Classical.not_not, nI_add, pk_mul, nI_clamp, q_vp, nI_eq, nI_leI, nI_ltI, q_sub, q.hnf, h1, show ¬ nf K ≤ f by omega, e1, q.w, show f < 24 by omega, hpk, cR, Option.getD_none, show (-41 : Int32) < nI 121 by decide]
      · obtain ⟨h2, h3, h4⟩ := ho a b rfl
        by_cases e2 : K 219 < far (K (9 * f)) a b
        · have hn : ∃ a' b', (some (a, b) : Option (Int32 × Int32)) = some (a', b') ∧ K 219 < far (K (9 * f)) a' b' := ⟨a, b, rfl, e2⟩
          by_cases e3 : nI 0 < wst K f
          · have hh : hst K f (some (a, b), A, B) = (some (a, b), A + 1, B) := by unfold hst; rw [pif_f e1, pif_t hn, pif_t e3]
            rw [hh]
            rcases hs with rfl | rfl <;>
            simp (disch := omega) only [e142, r142_0, r142_1, r142_4, r142_7, r142_7n, r142_8, r142_9, r142_10, r142_12, r142_14, r142_16, r142_18, r142_19, r142_23, r142_23n, r142_24, r142_27, r142_30, r142_30n, r142_31, r142_33, r142_36, r142_39, r142_42, r142_42n, r142_43, r142_46, r142_48, r142_49, r142_51, r142_53, r142_55, r142_58, r142_60, r142_62, r142_64, r142_67, r142_68, r142_71, r142_74, r142_75, r142_76, r142_79, r142_80, r142_80n, r142_81, r142_83, r142_86, r142_87, r142_90, r142_91, r142_94, r142_95, r142_98, r142_99, r142_100, r142_103, r142_105, r142_107, r142_110, r142_112, r142_114, r142_116, r142_119, r142_121, r142_124, r142_127, r142_128, cc14 _ h _ w q hf, cc15 _ h _ w q hf, c141, c127_0, c127_1, kdC, kdM, rpC, rpM, q_rs, q_rn, Option.toList_some, Option.toList_none, List.cons_append, List.nil_append, true_and, and_true, eq_self, ↓reduceIte, not_true_eq_false, not_false_eq_true, Nat.reduceEqDiff, Nat.reduceLeDiff, Nat.reduceLT, Nat.reduceAdd, Nat.reduceMul, Nat.reduceSub, false_or, or_false, true_or, or_true, false_and, and_false, reduceCtorEq, q_n0, q_n1, q_em, q_em2, q_b0, q_b1, Classical.not_not, nI_add, pk_mul, nI_clamp, q_vp, nI_eq, nI_leI, nI_ltI, q_sub, q.hnf, h1, show ¬ nf K ≤ f by omega, e1, q.w, q.t, show f < 24 by omega, hpk, cR, Option.getD_some, Int32.not_lt.mpr h2, Int32.not_le.mpr e2, e3, Nat.add_zero]
          · have hh : hst K f (some (a, b), A, B) = (some (a, b), A, B + 1) := by unfold hst; rw [pif_f e1, pif_t hn, pif_f e3]
            rw [hh]
            rcases hs with rfl | rfl <;>
            simp (disch := omega) only [e142, r142_0, r142_1, r142_4, r142_7, r142_7n, r142_8, r142_9, r142_10, r142_12, r142_14, r142_16, r142_18, r142_19, r142_23, r142_23n, r142_24, r142_27, r142_30, r142_30n, r142_31, r142_33, r142_36, r142_39, r142_42, r142_42n, r142_43, r142_46, r142_48, r142_49, r142_51, r142_53, r142_55, r142_58, r142_60, r142_62, r142_64, r142_67, r142_68, r142_71, r142_74, r142_75, r142_76, r142_79, r142_80, r142_80n, r142_81, r142_83, r142_86, r142_87, r142_90, r142_91, r142_94, r142_95, r142_98, r142_99, r142_100, r142_103, r142_105, r142_107, r142_110, r142_112, r142_114, r142_116, r142_119, r142_121, r142_124, r142_127, r142_128, cc14 _ h _ w q hf, cc15 _ h _ w q hf, c141, c127_0, c127_1, kdC, kdM, rpC, rpM, q_rs, q_rn, Option.toList_some, Option.toList_none, List.cons_append, List.nil_append, true_and, and_true, eq_self, ↓reduceIte, not_true_eq_false, not_false_eq_true, Nat.reduceEqDiff, Nat.reduceLeDiff, Nat.reduceLT, Nat.reduceAdd, Nat.reduceMul, Nat.reduceSub, false_or, or_false, true_or, or_true, false_and, and_false, reduceCtorEq, q_n0, q_n1, q_em, q_em2, q_b0, q_b1, Classical.not_not, nI_add, pk_mul, nI_clamp, q_vp, nI_eq, nI_leI, nI_ltI, q_sub, q.hnf, h1, show ¬ nf K ≤ f by omega, e1, q.w, q.t, show f < 24 by omega, hpk, cR, Option.getD_some, Int32.not_lt.mpr h2, Int32.not_le.mpr e2, e3, Nat.add_zero]
        · have hn : ¬ ∃ a' b', (some (a, b) : Option (Int32 × Int32)) = some (a', b') ∧ K 219 < far (K (9 * f)) a' b' := by rintro ⟨a', b', e, e'⟩; cases e; exact e2 e'
          have hh : hst K f (some (a, b), A, B) = (rgN (K (9 * f)) (some (a, b)), A, B) := by unfold hst; rw [pif_f e1, pif_f hn]
          rw [hh]
          simp (disch := omega) only [e142, r142_0, r142_1, r142_4, r142_7, r142_7n, r142_8, r142_9, r142_10, r142_12, r142_14, r142_16, r142_18, r142_19, r142_23, r142_23n, r142_24, r142_27, r142_30, r142_30n, r142_31, r142_33, r142_36, r142_39, r142_42, r142_42n, r142_43, r142_46, r142_48, r142_49, r142_51, r142_53, r142_55, r142_58, r142_60, r142_62, r142_64, r142_67, r142_68, r142_71, r142_74, r142_75, r142_76, r142_79, r142_80, r142_80n, r142_81, r142_83, r142_86, r142_87, r142_90, r142_91, r142_94, r142_95, r142_98, r142_99, r142_100, r142_103, r142_105, r142_107, r142_110, r142_112, r142_114, r142_116, r142_119, r142_121, r142_124, r142_127, r142_128, cc14 _ h _ w q hf, c141, kdC, kdM, rpC, rpM, q_rs, q_rn, Option.toList_some, Option.toList_none, List.cons_append, List.nil_append, true_and, and_true, eq_self, ↓reduceIte, not_true_eq_false, not_false_eq_true, Nat.reduceEqDiff, Nat.reduceLeDiff, Nat.reduceLT, Nat.reduceAdd, Nat.reduceMul, Nat.reduceSub, false_or, or_false, true_or, or_true, false_and, and_false, reduceCtorEq, q_n0, q_n1, q_em, q_em2, q_b0, q_b1, Classical.not_not, nI_add, pk_mul, nI_clamp, q_vp, nI_eq, nI_leI, nI_ltI, q_sub, q.hnf, h1, show ¬ nf K ≤ f by omega, e1, q.w, q.t, show f < 24 by omega, hpk, cR, Option.getD_some, Int32.not_lt.mpr h2, Int32.not_lt.mp e2]
          rfl
theorem cc142 (w : WF K) (q : RS h 0 K) {s : Nat} (hs : s = 0 ∨ s = 1) : cwp true (d + 2) 142 [.ref 1, .int (nI s)] h F = F (some (.int (nI (hpk s (q_lp (hst K) (nf K) 0 (none, 0, 0)))))) h := by
  have := cl142 d h F w q hs (nf K) 0 (none, 0, 0) jn (by omega) (fun a b e => by cases e)
  simp only [show hpk s (none, 0, 0) = 0 by unfold hpk; split <;> rfl, cR, Option.getD_none] at this
  simp only [e142, r142_0, r142_1, r142_4, r142_7, r142_7n, r142_8, r142_9, r142_10, r142_12, r142_14, r142_16, r142_18, r142_19, r142_23, r142_23n, r142_24, r142_27, r142_30, r142_30n, r142_31, r142_33, r142_36, r142_39, r142_42, r142_42n, r142_43, r142_46, r142_48, r142_49, r142_51, r142_53, r142_55, r142_58, r142_60, r142_62, r142_64, r142_67, r142_68, r142_71, r142_74, r142_75, r142_76, r142_79, r142_80, r142_80n, r142_81, r142_83, r142_86, r142_87, r142_90, r142_91, r142_94, r142_95, r142_98, r142_99, r142_100, r142_103, r142_105, r142_107, r142_110, r142_112, r142_114, r142_116, r142_119, r142_121, r142_124, r142_127, r142_128, kdC, kdM, rpC, rpM, q_rs, q_rn, Option.toList_some, Option.toList_none, List.cons_append, List.nil_append, true_and, and_true, eq_self, ↓reduceIte, not_true_eq_false, not_false_eq_true, Nat.reduceEqDiff, Nat.reduceLeDiff, Nat.reduceLT, Nat.reduceAdd, Nat.reduceMul, Nat.reduceSub, false_or, or_false, true_or, or_true, false_and, and_false, reduceCtorEq, q_n0, q_n1, q_em, q_em2, q_b0, q_b1, Classical.not_not]
  exact this
def hre (j : Nat) (z : HS) : Nat := if j = 0 then z.2.1 + z.2.2 else if j = 1 then z.2.1 else z.2.2
theorem ml222 (hK : gI h 103 = K) (w : WF K) {j : Nat} (hj : j = 0 ∨ j = 1 ∨ j = 2) : ∀ k f (z : HS) (v : Value), f + k = nf K → okR z.1 → wp true (d + 4) 222 28 [.ref 101, .int (nI j), .int (mR z.1).1, .int (mR z.1).2, .int (nI (z.2.1 + z.2.2)), .int (nI z.2.1), .int (nI f), v] [] h F = F (some (.int (nI (hre j (q_lp (hst K) k f z))))) h
  | 0, f, z, v, e, ho => by
    have h1 := w.hnf
    rw [r222_28]
    rcases hj with rfl | rfl | rfl <;>
    simp (disch := omega) only [e222, r222_0, r222_1, r222_2, r222_3, r222_6, r222_9, r222_10, r222_11, r222_14, r222_15, r222_18, r222_19, r222_20, r222_22, r222_23, r222_25, r222_26, r222_30, r222_31, r222_34, r222_37, r222_38, r222_40, r222_43, r222_46, r222_49, r222_50, r222_52, r222_53, r222_56, r222_58, r222_59, r222_60, r222_63, r222_65, r222_66, r222_67, r222_70, r222_71, r222_72, r222_75, r222_78, r222_81, r222_83, r222_84, r222_86, r222_89, r222_92, r222_93, r222_96, r222_97, r222_98, r222_100, r222_103, r222_105, r222_106, r222_109, r222_111, r222_114, r222_115, r222_116, r222_118, r222_119, r222_122, r222_124, r222_127, r222_128, r222_129, r222_132, r222_135, r222_136, r222_139, r222_141, r222_144, r222_145, r222_146, r222_149, r222_151, r222_154, r222_156, r222_158, r222_159, c153 _ h _ hK w, kdC, kdM, rpC, rpM, q_rs, q_rn, Option.toList_some, Option.toList_none, List.cons_append, List.nil_append, true_and, and_true, eq_self, ↓reduceIte, not_true_eq_false, not_false_eq_true, Nat.reduceEqDiff, Nat.reduceLeDiff, Nat.reduceLT, Nat.reduceAdd, Nat.reduceMul, Nat.reduceSub, false_or, or_false, true_or, or_true, false_and, and_false, reduceCtorEq, q_n0, q_n1, q_em, q_em2, q_b0, q_b1, Classical.not_not, nI_add, pk_mul, nI_clamp, q_vp, nI_eq, nI_leI, nI_ltI, q_sub, show f = nf K from e, Nat.le_refl, q_lp, hre, Nat.add_sub_cancel_left]
  | k + 1, f, z, v, e, ho => by
    have h1 := w.hnf
    have hf : f < nf K := by omega
    have hw := (w.2.1 f hf).1
    by_cases e1 : wst K f = -1
    · refine Eq.trans ?_ (ml222 hK w hj k (f + 1) (hst K f z) v (by omega) (hst_ok w hf ho))
      rw [r222_28]
      simp (disch := omega) only [r222_30, r222_31, r222_34, r222_37, r222_38, r222_40, r222_43, r222_46, r222_49, r222_50, r222_52, r222_53, r222_56, r222_58, r222_59, r222_60, r222_63, r222_65, r222_66, r222_67, r222_70, r222_71, r222_72, r222_75, r222_78, r222_81, r222_83, r222_84, r222_86, r222_89, r222_92, r222_93, r222_96, r222_97, r222_98, r222_100, r222_103, r222_105, r222_106, r222_109, r222_111, r222_114, r222_115, r222_116, r222_118, r222_119, r222_122, r222_124, r222_127, r222_128, r222_129, r222_132, c153 _ h _ hK w, m158 _ h _ hK w hf, kdC, kdM, rpC, rpM, q_rs, q_rn, Option.toList_some, Option.toList_none, List.cons_append, List.nil_append, true_and, and_true, eq_self, ↓reduceIte, not_true_eq_false, not_false_eq_true, Nat.reduceEqDiff, Nat.reduceLeDiff, Nat.reduceLT, Nat.reduceAdd, Nat.reduceMul, Nat.reduceSub, false_or, or_false, true_or, or_true, false_and, and_false, reduceCtorEq, q_n0, q_n1, q_em, q_em2, q_b0, q_b1, Classical.not_not, nI_add, pk_mul, nI_clamp, q_vp, nI_eq, nI_leI, nI_ltI, q_sub, show ¬ nf K ≤ f by omega, e1, hst, pif_T]
    · refine Eq.trans ?_ (ml222 hK w hj k (f + 1) (hst K f z) (.int (K (9 * f))) (by omega) (hst_ok w hf ho))
      rw [r222_28]
      rcases z with ⟨_ | ⟨a, b⟩, A, B⟩
      · have hn : ¬ ∃ a b, (none : Option (Int32 × Int32)) = some (a, b) ∧ K 219 < far (K (9 * f)) a b := by rintro ⟨a, b, e, _⟩; cases e
        have hh : hst K f (none, A, B) = (rgN (K (9 * f)) none, A, B) := by unfold hst; rw [pif_f e1, pif_f hn]
        have hr : mR (rgN (K (9 * f)) none) = (K (9 * f), K (9 * f)) := rfl
        have hl : ¬ nI 1000 ≤ K (9 * f) := by
          unfold rg at hw
          rw [Int32.le_iff_toInt_le, q_1000]; omega
        have hl2 : ¬ K (9 * f) ≤ -1000 := by
          unfold rg at hw
          rw [Int32.le_iff_toInt_le, q_mk]; omega
        rw [hh]
        rw [hr]
        simp (disch := omega) only [r222_30, r222_31, r222_34, r222_37, r222_38, r222_40, r222_43, r222_46, r222_49, r222_50, r222_52, r222_53, r222_56, r222_58, r222_59, r222_60, r222_63, r222_65, r222_66, r222_67, r222_70, r222_71, r222_72, r222_75, r222_78, r222_81, r222_83, r222_84, r222_86, r222_89, r222_92, r222_93, r222_96, r222_97, r222_98, r222_100, r222_103, r222_105, r222_106, r222_109, r222_111, r222_114, r222_115, r222_116, r222_118, r222_119, r222_122, r222_124, r222_127, r222_128, r222_129, r222_132, c153 _ h _ hK w, m158 _ h _ hK w hf, c155 _ h _ hK (show f < 24 by omega) (show 0 < 9 by omega), kdC, kdM, rpC, rpM, q_rs, q_rn, Option.toList_some, Option.toList_none, List.cons_append, List.nil_append, true_and, and_true, eq_self, ↓reduceIte, not_true_eq_false, not_false_eq_true, Nat.reduceEqDiff, Nat.reduceLeDiff, Nat.reduceLT, Nat.reduceAdd, Nat.reduceMul, Nat.reduceSub, false_or, or_false, true_or, or_true, false_and, and_false, reduceCtorEq, q_n0, q_n1, q_em, q_em2, q_b0, q_b1, Classical.not_not, nI_add, pk_mul, nI_clamp, q_vp, nI_eq, nI_leI, nI_ltI, q_sub, show ¬ nf K ≤ f by omega, e1, hr, mR, Option.getD_none, show (-1000 : Int32) < nI 1000 by decide, Nat.add_zero, hl, hl2]
      · obtain ⟨h2, h3, h4⟩ := ho a b rfl
        have hm := fun (F : Po) (d : Nat) => m220 d h F hw h2 h3 h4
        by_cases e2 : K 219 < far (K (9 * f)) a b
        · have hn : ∃ a' b', (some (a, b) : Option (Int32 × Int32)) = some (a', b') ∧ K 219 < far (K (9 * f)) a' b' := ⟨a, b, rfl, e2⟩
          by_cases e3 : nI 0 < wst K f
          · have hh : hst K f (some (a, b), A, B) = (some (a, b), A + 1, B) := by unfold hst; rw [pif_f e1, pif_t hn, pif_t e3]
            rw [hh]
            simp (disch := omega) only [r222_30, r222_31, r222_34, r222_37, r222_38, r222_40, r222_43, r222_46, r222_49, r222_50, r222_52, r222_53, r222_56, r222_58, r222_59, r222_60, r222_63, r222_65, r222_66, r222_67, r222_70, r222_71, r222_72, r222_75, r222_78, r222_81, r222_83, r222_84, r222_86, r222_89, r222_92, r222_93, r222_96, r222_97, r222_98, r222_100, r222_103, r222_105, r222_106, r222_109, r222_111, r222_114, r222_115, r222_116, r222_118, r222_119, r222_122, r222_124, r222_127, r222_128, r222_129, r222_132, c153 _ h _ hK w, m158 _ h _ hK w hf, m159 _ h _ hK w hf, hm, c149 _ h _ hK (show 3 < 4 by omega), c155 _ h _ hK (show f < 24 by omega) (show 0 < 9 by omega), kdC, kdM, rpC, rpM, q_rs, q_rn, Option.toList_some, Option.toList_none, List.cons_append, List.nil_append, true_and, and_true, eq_self, ↓reduceIte, not_true_eq_false, not_false_eq_true, Nat.reduceEqDiff, Nat.reduceLeDiff, Nat.reduceLT, Nat.reduceAdd, Nat.reduceMul, Nat.reduceSub, false_or, or_false, true_or, or_true, false_and, and_false, reduceCtorEq, q_n0, q_n1, q_em, q_em2, q_b0, q_b1, Classical.not_not, nI_add, pk_mul, nI_clamp, q_vp, nI_eq, nI_leI, nI_ltI, q_sub, show ¬ nf K ≤ f by omega, e1, mR, Option.getD_some, Int32.not_lt.mpr h2, Int32.not_le.mpr e2, e3, Nat.add_zero, Nat.add_right_comm A 1 B]
          · have hh : hst K f (some (a, b), A, B) = (some (a, b), A, B + 1) := by unfold hst; rw [pif_f e1, pif_t hn, pif_f e3]
            rw [hh]
            simp (disch := omega) only [r222_30, r222_31, r222_34, r222_37, r222_38, r222_40, r222_43, r222_46, r222_49, r222_50, r222_52, r222_53, r222_56, r222_58, r222_59, r222_60, r222_63, r222_65, r222_66, r222_67, r222_70, r222_71, r222_72, r222_75, r222_78, r222_81, r222_83, r222_84, r222_86, r222_89, r222_92, r222_93, r222_96, r222_97, r222_98, r222_100, r222_103, r222_105, r222_106, r222_109, r222_111, r222_114, r222_115, r222_116, r222_118, r222_119, r222_122, r222_124, r222_127, r222_128, r222_129, r222_132, c153 _ h _ hK w, m158 _ h _ hK w hf, m159 _ h _ hK w hf, hm, c149 _ h _ hK (show 3 < 4 by omega), c155 _ h _ hK (show f < 24 by omega) (show 0 < 9 by omega), kdC, kdM, rpC, rpM, q_rs, q_rn, Option.toList_some, Option.toList_none, List.cons_append, List.nil_append, true_and, and_true, eq_self, ↓reduceIte, not_true_eq_false, not_false_eq_true, Nat.reduceEqDiff, Nat.reduceLeDiff, Nat.reduceLT, Nat.reduceAdd, Nat.reduceMul, Nat.reduceSub, false_or, or_false, true_or, or_true, false_and, and_false, reduceCtorEq, q_n0, q_n1, q_em, q_em2, q_b0, q_b1, Classical.not_not, nI_add, pk_mul, nI_clamp, q_vp, nI_eq, nI_leI, nI_ltI, q_sub, show ¬ nf K ≤ f by omega, e1, mR, Option.getD_some, Int32.not_lt.mpr h2, Int32.not_le.mpr e2, e3, Nat.add_zero, ← Nat.add_assoc]
        · have hn : ¬ ∃ a' b', (some (a, b) : Option (Int32 × Int32)) = some (a', b') ∧ K 219 < far (K (9 * f)) a' b' := by rintro ⟨a', b', e, e'⟩; cases e; exact e2 e'
          have hh : hst K f (some (a, b), A, B) = (rgN (K (9 * f)) (some (a, b)), A, B) := by unfold hst; rw [pif_f e1, pif_f hn]
          rw [hh]
          simp (disch := omega) only [r222_30, r222_31, r222_34, r222_37, r222_38, r222_40, r222_43, r222_46, r222_49, r222_50, r222_52, r222_53, r222_56, r222_58, r222_59, r222_60, r222_63, r222_65, r222_66, r222_67, r222_70, r222_71, r222_72, r222_75, r222_78, r222_81, r222_83, r222_84, r222_86, r222_89, r222_92, r222_93, r222_96, r222_97, r222_98, r222_100, r222_103, r222_105, r222_106, c153 _ h _ hK w, m158 _ h _ hK w hf, hm, c149 _ h _ hK (show 3 < 4 by omega), c155 _ h _ hK (show f < 24 by omega) (show 0 < 9 by omega), kdC, kdM, rpC, rpM, q_rs, q_rn, Option.toList_some, Option.toList_none, List.cons_append, List.nil_append, true_and, and_true, eq_self, ↓reduceIte, not_true_eq_false, not_false_eq_true, Nat.reduceEqDiff, Nat.reduceLeDiff, Nat.reduceLT, Nat.reduceAdd, Nat.reduceMul, Nat.reduceSub, false_or, or_false, true_or, or_true, false_and, and_false, reduceCtorEq, q_n0, q_n1, q_em, q_em2, q_b0, q_b1, Classical.not_not, nI_add, pk_mul, nI_clamp, q_vp, nI_eq, nI_leI, nI_ltI, q_sub, show ¬ nf K ≤ f by omega, e1, mR, Option.getD_some, Int32.not_lt.mpr h2, Int32.not_lt.mp e2, Nat.add_zero, rgN, mnI, mxI]
          by_cases e4 : K (9 * f) < a <;> by_cases e5 : b < K (9 * f) <;>
          simp (disch := omega) only [r222_109, r222_111, r222_114, r222_115, r222_116, r222_118, r222_119, r222_122, r222_124, r222_127, r222_128, r222_129, r222_132, kdC, kdM, rpC, rpM, q_rs, q_rn, Option.toList_some, Option.toList_none, List.cons_append, List.nil_append, true_and, and_true, eq_self, ↓reduceIte, not_true_eq_false, not_false_eq_true, Nat.reduceEqDiff, Nat.reduceLeDiff, Nat.reduceLT, Nat.reduceAdd, Nat.reduceMul, Nat.reduceSub, false_or, or_false, true_or, or_true, false_and, and_false, reduceCtorEq, q_n0, q_n1, q_em, q_em2, q_b0, q_b1, Classical.not_not, nI_add, pk_mul, nI_clamp, q_vp, nI_eq, nI_leI, nI_ltI, q_sub, e4, e5, ← Int32.not_lt]
end HD
section HP
variable {n : Nat} {h : Hp}
theorem p_beyond (z : Inv n h) (a : Int32) : PRI n h 104 221 [.int a] := by
  intro d
  have w := z.1.1
  have q := z.1.2.1
  have hn := w.hnf
  by_cases hA : -40 ≤ a ∧ a ≤ nI 120
  · have hx := rg_of hA (lo := -40) (hi := 120) (by decide) (by decide)
    have hc := fun (F : Po) (d : Nat) => cl104 d h F w q a (nf (gI h 103)) 0 none (by omega)
    have hm := fun (F : Po) (d : Nat) => ml221 d h F rfl w a (nf (gI h 103)) 0 none (by omega)
    have ho := byd_all w
    generalize q_lp (byd (gI h 103)) (nf (gI h 103)) 0 none = o at hc hm ho
    rcases o with _ | ⟨l, u⟩
    · refine ⟨-1, h, h, fun F => ?_, fun F => ?_, Inv_fr (Fr.refl h) z⟩
      · simp only [cR, Option.getD_none] at hc
        simp (disch := omega) only [e104, r104_0, r104_1, r104_4, r104_7, r104_8, r104_9, r104_11, r104_12, r104_14, r104_15, r104_16, r104_20, r104_21, r104_24, r104_27, r104_30, r104_33, r104_34, r104_37, r104_40, r104_42, r104_45, r104_48, r104_49, r104_50, r104_53, r104_56, r104_59, r104_61, r104_62, r104_65, r104_66, r104_67, r104_68, r104_71, r104_74, r104_77, r104_79, r104_80, r104_83, r104_84, r104_87, r104_90, r104_91, r104_92, r104_95, r104_96, r104_99, r104_100, r104_101, r104_102, r104_105, c129, hA, hc, kdC, kdM, rpC, rpM, q_rs, q_rn, Option.toList_some, Option.toList_none, List.cons_append, List.nil_append, true_and, and_true, eq_self, ↓reduceIte, not_true_eq_false, not_false_eq_true, Nat.reduceEqDiff, Nat.reduceLeDiff, Nat.reduceLT, Nat.reduceAdd, Nat.reduceMul, Nat.reduceSub, false_or, or_false, true_or, or_true, false_and, and_false, reduceCtorEq, q_n0, q_n1, q_em, q_em2, q_b0, q_b1, Classical.not_not, show ¬ nI 121 ≤ (-41 : Int32) by decide]
      · simp only [mR, Option.getD_none] at hm
        simp (disch := omega) only [e221, r221_0, r221_1, r221_4, r221_7, r221_8, r221_9, r221_12, r221_13, r221_16, r221_17, r221_18, r221_22, r221_23, r221_26, r221_29, r221_30, r221_32, r221_35, r221_38, r221_41, r221_42, r221_44, r221_45, r221_48, r221_49, r221_52, r221_53, r221_55, r221_56, r221_59, r221_62, r221_63, r221_64, r221_65, r221_67, r221_68, r221_71, r221_72, r221_75, r221_76, r221_78, r221_79, r221_82, r221_85, r221_86, r221_87, r221_90, r221_93, r221_94, r221_95, r221_98, r221_99, r221_102, r221_103, r221_104, r221_105, r221_108, c151, hA, hm, kdC, kdM, rpC, rpM, q_rs, q_rn, Option.toList_some, Option.toList_none, List.cons_append, List.nil_append, true_and, and_true, eq_self, ↓reduceIte, not_true_eq_false, not_false_eq_true, Nat.reduceEqDiff, Nat.reduceLeDiff, Nat.reduceLT, Nat.reduceAdd, Nat.reduceMul, Nat.reduceSub, false_or, or_false, true_or, or_true, false_and, and_false, reduceCtorEq, q_n0, q_n1, q_em, q_em2, q_b0, q_b1, Classical.not_not, show ¬ nI 1000 ≤ (-1000 : Int32) by decide]
    · obtain ⟨h2, h3, h4⟩ := ho l u rfl
      refine ⟨far a l u, h, h, fun F => ?_, fun F => ?_, Inv_fr (Fr.refl h) z⟩
      · simp only [cR, Option.getD_some, Option.getD_none] at hc
        simp (disch := omega) only [e104, r104_0, r104_1, r104_4, r104_7, r104_8, r104_9, r104_11, r104_12, r104_14, r104_15, r104_16, r104_20, r104_21, r104_24, r104_27, r104_30, r104_33, r104_34, r104_37, r104_40, r104_42, r104_45, r104_48, r104_49, r104_50, r104_53, r104_56, r104_59, r104_61, r104_62, r104_65, r104_66, r104_67, r104_68, r104_71, r104_74, r104_77, r104_79, r104_80, r104_83, r104_84, r104_87, r104_90, r104_91, r104_92, r104_95, r104_96, r104_99, r104_100, r104_101, r104_102, r104_105, c129, c141, hA, hc, kdC, kdM, rpC, rpM, q_rs, q_rn, Option.toList_some, Option.toList_none, List.cons_append, List.nil_append, true_and, and_true, eq_self, ↓reduceIte, not_true_eq_false, not_false_eq_true, Nat.reduceEqDiff, Nat.reduceLeDiff, Nat.reduceLT, Nat.reduceAdd, Nat.reduceMul, Nat.reduceSub, false_or, or_false, true_or, or_true, false_and, and_false, reduceCtorEq, q_n0, q_n1, q_em, q_em2, q_b0, q_b1, Classical.not_not, h2]
      · simp only [mR, Option.getD_some, Option.getD_none] at hm
        simp (disch := omega) only [e221, r221_0, r221_1, r221_4, r221_7, r221_8, r221_9, r221_12, r221_13, r221_16, r221_17, r221_18, r221_22, r221_23, r221_26, r221_29, r221_30, r221_32, r221_35, r221_38, r221_41, r221_42, r221_44, r221_45, r221_48, r221_49, r221_52, r221_53, r221_55, r221_56, r221_59, r221_62, r221_63, r221_64, r221_65, r221_67, r221_68, r221_71, r221_72, r221_75, r221_76, r221_78, r221_79, r221_82, r221_85, r221_86, r221_87, r221_90, r221_93, r221_94, r221_95, r221_98, r221_99, r221_102, r221_103, r221_104, r221_105, r221_108, c151, m220 _ h _ hx h2 h3 h4, hA, hm, kdC, kdM, rpC, rpM, q_rs, q_rn, Option.toList_some, Option.toList_none, List.cons_append, List.nil_append, true_and, and_true, eq_self, ↓reduceIte, not_true_eq_false, not_false_eq_true, Nat.reduceEqDiff, Nat.reduceLeDiff, Nat.reduceLT, Nat.reduceAdd, Nat.reduceMul, Nat.reduceSub, false_or, or_false, true_or, or_true, false_and, and_false, reduceCtorEq, q_n0, q_n1, q_em, q_em2, q_b0, q_b1, Classical.not_not, h2]
  · refine ⟨-1, h, h, fun F => ?_, fun F => ?_, Inv_fr (Fr.refl h) z⟩
    · simp (disch := omega) only [e104, r104_0, r104_1, r104_4, r104_7, r104_8, r104_9, r104_11, r104_12, r104_14, r104_15, r104_16, r104_20, r104_21, r104_24, r104_27, r104_30, r104_33, r104_34, r104_37, r104_40, r104_42, r104_45, r104_48, r104_49, r104_50, r104_53, r104_56, r104_59, r104_61, r104_62, r104_65, r104_66, r104_67, r104_68, r104_71, r104_74, r104_77, r104_79, r104_80, r104_83, r104_84, r104_87, r104_90, r104_91, r104_92, r104_95, r104_96, r104_99, r104_100, r104_101, r104_102, r104_105, c129, hA, kdC, kdM, rpC, rpM, q_rs, q_rn, Option.toList_some, Option.toList_none, List.cons_append, List.nil_append, true_and, and_true, eq_self, ↓reduceIte, not_true_eq_false, not_false_eq_true, Nat.reduceEqDiff, Nat.reduceLeDiff, Nat.reduceLT, Nat.reduceAdd, Nat.reduceMul, Nat.reduceSub, false_or, or_false, true_or, or_true, false_and, and_false, reduceCtorEq, q_n0, q_n1, q_em, q_em2, q_b0, q_b1, Classical.not_not]
    · simp (disch := omega) only [e221, r221_0, r221_1, r221_4, r221_7, r221_8, r221_9, r221_12, r221_13, r221_16, r221_17, r221_18, r221_22, r221_23, r221_26, r221_29, r221_30, r221_32, r221_35, r221_38, r221_41, r221_42, r221_44, r221_45, r221_48, r221_49, r221_52, r221_53, r221_55, r221_56, r221_59, r221_62, r221_63, r221_64, r221_65, r221_67, r221_68, r221_71, r221_72, r221_75, r221_76, r221_78, r221_79, r221_82, r221_85, r221_86, r221_87, r221_90, r221_93, r221_94, r221_95, r221_98, r221_99, r221_102, r221_103, r221_104, r221_105, r221_108, c151, hA, kdC, kdM, rpC, rpM, q_rs, q_rn, Option.toList_some, Option.toList_none, List.cons_append, List.nil_append, true_and, and_true, eq_self, ↓reduceIte, not_true_eq_false, not_false_eq_true, Nat.reduceEqDiff, Nat.reduceLeDiff, Nat.reduceLT, Nat.reduceAdd, Nat.reduceMul, Nat.reduceSub, false_or, or_false, true_or, or_true, false_and, and_false, reduceCtorEq, q_n0, q_n1, q_em, q_em2, q_b0, q_b1, Classical.not_not]
theorem p_held (z : Inv n h) (a : Int32) : PRI n h 105 222 [.int a] := by
  intro d
  have w := z.1.1
  have q := z.1.2.1
  have hn := w.hnf
  by_cases hA : nI 0 ≤ a ∧ a ≤ nI 2
  · obtain ⟨j, hj, rfl⟩ := q_ix2 (by omega) hA.1 hA.2
    have hj3 : j = 0 ∨ j = 1 ∨ j = 2 := by omega
    have hm := fun (F : Po) (d : Nat) (v : Value) => ml222 d h F rfl w hj3 (nf (gI h 103)) 0 (none, 0, 0) v (by omega) (fun a b e => by cases e)
    have hc := fun (F : Po) (d s : Nat) (hs : s = 0 ∨ s = 1) => cc142 d h F w q hs
    generalize q_lp (hst (gI h 103)) (nf (gI h 103)) 0 (none, 0, 0) = zz at hm hc
    simp only [mR, Option.getD_none, Nat.add_zero] at hm
    refine ⟨nI (hre j zz), h, h, fun F => ?_, fun F => ?_, Inv_fr (Fr.refl h) z⟩
    · rcases hj3 with rfl | rfl | rfl <;>
      simp (disch := omega) only [e105, r105_0, r105_1c0, r105_1c1, r105_1c2, r105_1, r105_28, r105_29, r105_30, r105_33, r105_34, r105_35, r105_38, r105_39, r105_40, r105_41, r105_42, r105_45, r105_46, r105_47, r105_48, r105_51, r105_52, r105_53, hc, kdC, kdM, rpC, rpM, q_rs, q_rn, Option.toList_some, Option.toList_none, List.cons_append, List.nil_append, true_and, and_true, eq_self, ↓reduceIte, not_true_eq_false, not_false_eq_true, Nat.reduceEqDiff, Nat.reduceLeDiff, Nat.reduceLT, Nat.reduceAdd, Nat.reduceMul, Nat.reduceSub, false_or, or_false, true_or, or_true, false_and, and_false, reduceCtorEq, q_n0, q_n1, q_em, q_em2, q_b0, q_b1, Classical.not_not, nI_add, pk_mul, nI_clamp, q_vp, nI_eq, nI_leI, nI_ltI, q_sub, hre, hpk, Nat.add_comm zz.2.2]
    · simp (disch := omega) only [e222, r222_0, r222_1, r222_2, r222_3, r222_6, r222_9, r222_10, r222_11, r222_14, r222_15, r222_18, r222_19, r222_20, r222_22, r222_23, r222_25, r222_26, r222_30, r222_31, r222_34, r222_37, r222_38, r222_40, r222_43, r222_46, r222_49, r222_50, r222_52, r222_53, r222_56, r222_58, r222_59, r222_60, r222_63, r222_65, r222_66, r222_67, r222_70, r222_71, r222_72, r222_75, r222_78, r222_81, r222_83, r222_84, r222_86, r222_89, r222_92, r222_93, r222_96, r222_97, r222_98, r222_100, r222_103, r222_105, r222_106, r222_109, r222_111, r222_114, r222_115, r222_116, r222_118, r222_119, r222_122, r222_124, r222_127, r222_128, r222_129, r222_132, r222_135, r222_136, r222_139, r222_141, r222_144, r222_145, r222_146, r222_149, r222_151, r222_154, r222_156, r222_158, r222_159, c143, hA, hm, kdC, kdM, rpC, rpM, q_rs, q_rn, Option.toList_some, Option.toList_none, List.cons_append, List.nil_append, true_and, and_true, eq_self, ↓reduceIte, not_true_eq_false, not_false_eq_true, Nat.reduceEqDiff, Nat.reduceLeDiff, Nat.reduceLT, Nat.reduceAdd, Nat.reduceMul, Nat.reduceSub, false_or, or_false, true_or, or_true, false_and, and_false, reduceCtorEq, q_n0, q_n1, q_em, q_em2, q_b0, q_b1, Classical.not_not]
  · refine ⟨-1, h, h, fun F => ?_, fun F => ?_, Inv_fr (Fr.refl h) z⟩
    · have hb : a.toInt < 0 ∨ 2 < a.toInt := by
        rw [Int32.le_iff_toInt_le, Int32.le_iff_toInt_le, q_z0, show (nI 2).toInt = 2 by decide] at hA
        omega
      simp (disch := omega) only [e105, r105_0, r105_1c0, r105_1c1, r105_1c2, r105_1, r105_28, r105_29, r105_30, r105_33, r105_34, r105_35, r105_38, r105_39, r105_40, r105_41, r105_42, r105_45, r105_46, r105_47, r105_48, r105_51, r105_52, r105_53, kdC, kdM, rpC, rpM, q_rs, q_rn, Option.toList_some, Option.toList_none, List.cons_append, List.nil_append, true_and, and_true, eq_self, ↓reduceIte, not_true_eq_false, not_false_eq_true, Nat.reduceEqDiff, Nat.reduceLeDiff, Nat.reduceLT, Nat.reduceAdd, Nat.reduceMul, Nat.reduceSub, false_or, or_false, true_or, or_true, false_and, and_false, reduceCtorEq, q_n0, q_n1, q_em, q_em2, q_b0, q_b1, Classical.not_not]
    · simp (disch := omega) only [e222, r222_0, r222_1, r222_2, r222_3, r222_6, r222_9, r222_10, r222_11, r222_14, r222_15, r222_18, r222_19, r222_20, r222_22, r222_23, r222_25, r222_26, r222_30, r222_31, r222_34, r222_37, r222_38, r222_40, r222_43, r222_46, r222_49, r222_50, r222_52, r222_53, r222_56, r222_58, r222_59, r222_60, r222_63, r222_65, r222_66, r222_67, r222_70, r222_71, r222_72, r222_75, r222_78, r222_81, r222_83, r222_84, r222_86, r222_89, r222_92, r222_93, r222_96, r222_97, r222_98, r222_100, r222_103, r222_105, r222_106, r222_109, r222_111, r222_114, r222_115, r222_116, r222_118, r222_119, r222_122, r222_124, r222_127, r222_128, r222_129, r222_132, r222_135, r222_136, r222_139, r222_141, r222_144, r222_145, r222_146, r222_149, r222_151, r222_154, r222_156, r222_158, r222_159, c143, hA, kdC, kdM, rpC, rpM, q_rs, q_rn, Option.toList_some, Option.toList_none, List.cons_append, List.nil_append, true_and, and_true, eq_self, ↓reduceIte, not_true_eq_false, not_false_eq_true, Nat.reduceEqDiff, Nat.reduceLeDiff, Nat.reduceLT, Nat.reduceAdd, Nat.reduceMul, Nat.reduceSub, false_or, or_false, true_or, or_true, false_and, and_false, reduceCtorEq, q_n0, q_n1, q_em, q_em2, q_b0, q_b1, Classical.not_not]
end HP
