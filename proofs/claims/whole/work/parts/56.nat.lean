/-! long numbers: the class's, the model's -/
def dv (B : Nat) (f : Nat → Nat) : Nat → Nat
  | 0 => 0
  | n + 1 => dv B f n + f n * B ^ n
theorem dv_lt {B : Nat} {f : Nat → Nat} : ∀ n, (∀ i, i < n → f i < B) → dv B f n < B ^ n
  | 0, _ => by show 0 < B ^ 0; rw [Nat.pow_zero]; omega
  | n + 1, hf => by
    show dv B f n + f n * B ^ n < B ^ (n + 1)
    have h1 := dv_lt n (fun i hi => hf i (by omega))
    have h2 : (f n + 1) * B ^ n ≤ B * B ^ n := Nat.mul_le_mul_right _ (hf n (by omega))
    rw [Nat.add_mul, Nat.one_mul] at h2
    rw [Nat.pow_succ, Nat.mul_comm (B ^ n) B]
    omega
theorem dv_cg {B : Nat} {f g : Nat → Nat} : ∀ n, (∀ i, i < n → f i = g i) → dv B f n = dv B g n
  | 0, _ => rfl
  | n + 1, hf => by
    show dv B f n + f n * B ^ n = dv B g n + g n * B ^ n
    rw [dv_cg n (fun i hi => hf i (by omega)), hf n (by omega)]
/-- what is carried -/
def cry (B m : Nat) (f : Nat → Nat) : Nat → Nat
  | 0 => 0
  | i + 1 => (cry B m f i + f i * m) / B
def dig (B m : Nat) (f : Nat → Nat) (i : Nat) : Nat := (cry B m f i + f i * m) % B
theorem cry_eq {B m : Nat} {f : Nat → Nat} : ∀ n, dv B (dig B m f) n + cry B m f n * B ^ n = m * dv B f n
  | 0 => by show 0 + 0 * B ^ 0 = m * 0; omega
  | n + 1 => by
    show dv B (dig B m f) n + dig B m f n * B ^ n + cry B m f (n + 1) * B ^ (n + 1) = m * (dv B f n + f n * B ^ n)
    have h1 := cry_eq (B := B) (m := m) (f := f) n
    have h2 : dig B m f n + B * cry B m f (n + 1) = cry B m f n + f n * m := Nat.mod_add_div _ _
    have h3 : dig B m f n * B ^ n + cry B m f (n + 1) * B ^ (n + 1) = (cry B m f n + f n * m) * B ^ n := by
      rw [← h2, Nat.add_mul, Nat.pow_succ, Nat.mul_comm B (cry B m f (n + 1)), Nat.mul_assoc, Nat.mul_comm B (B ^ n)]
    rw [Nat.add_assoc, h3, Nat.add_mul, ← Nat.add_assoc, h1, Nat.mul_add, Nat.mul_comm (f n) m, Nat.mul_assoc]
theorem cry_lt {B m : Nat} {f : Nat → Nat} (hm : 0 < m) (hB : 0 < B) : ∀ n, (∀ i, i < n → f i < B) → cry B m f n < m
  | 0, _ => hm
  | n + 1, hf => by
    show (cry B m f n + f n * m) / B < m
    have h1 := cry_lt (f := f) hm hB n (fun i hi => hf i (by omega))
    have h2 : (f n + 1) * m ≤ B * m := Nat.mul_le_mul_right _ (hf n (by omega))
    rw [Nat.add_mul, Nat.one_mul] at h2
    rw [Nat.div_lt_iff_lt_mul hB, Nat.mul_comm m B]
    omega
def cmpV (u v : Nat) : Int32 := if u < v then -1 else if u = v then nI 0 else nI 1
def cmpL (f g : Nat → Nat) : Nat → Int32
  | 0 => nI 0
  | n + 1 => if f n = g n then cmpL f g n else if f n < g n then -1 else nI 1
theorem dv_lt2 {B : Nat} {f g : Nat → Nat} {n : Nat} (hf : ∀ i, i < n + 1 → f i < B) (h : f n < g n) : dv B f (n + 1) < dv B g (n + 1) := by
  show dv B f n + f n * B ^ n < dv B g n + g n * B ^ n
  have h1 := dv_lt n (fun i hi => hf i (by omega))
  have h2 : (f n + 1) * B ^ n ≤ g n * B ^ n := Nat.mul_le_mul_right _ h
  rw [Nat.add_mul, Nat.one_mul] at h2
  omega
theorem cmpL_eq {B : Nat} {f g : Nat → Nat} : ∀ n, (∀ i, i < n → f i < B) → (∀ i, i < n → g i < B) → cmpL f g n = cmpV (dv B f n) (dv B g n)
  | 0, _, _ => rfl
  | n + 1, hf, hg => by
    unfold cmpL
    by_cases e : f n = g n
    · rw [if_pos e, cmpL_eq n (fun i hi => hf i (by omega)) (fun i hi => hg i (by omega))]
      show _ = cmpV (dv B f n + f n * B ^ n) (dv B g n + g n * B ^ n)
      rw [e]
      unfold cmpV
      simp only [Nat.add_lt_add_iff_right, Nat.add_right_cancel_iff]
    · rw [if_neg e]
      unfold cmpV
      by_cases c1 : f n < g n
      · have := dv_lt2 (g := g) hf c1
        rw [if_pos c1, if_pos this]
      · have := dv_lt2 (g := f) hg (show g n < f n by omega)
        rw [if_neg c1, if_neg (by omega), if_neg (by omega)]
theorem dv_ge {B : Nat} {f : Nat → Nat} {n : Nat} (h : 0 < f n) : B ^ n ≤ dv B f (n + 1) := by
  show B ^ n ≤ dv B f n + f n * B ^ n
  have : 1 * B ^ n ≤ f n * B ^ n := Nat.mul_le_mul_right _ h
  omega
def NR (h : Hp) (D v : Nat) : Prop := ∃ s f, 1 ≤ s ∧ s ≤ 36 ∧ gI h D 1 = nI s ∧ (∀ i, i < s → f i < 1000000000 ∧ gI h (D + 1) i = nI (f i)) ∧ 0 < f (s - 1) ∧ v = dv 1000000000 f s
def NM (h : Hp) (A v : Nat) : Prop := ∃ f, (∀ i, i < 40 → f i < 100000000 ∧ gJ h A i = lN (f i)) ∧ v = dv 100000000 f 40
/-- cells of a number of the class -/
def okN (D : Nat) : Prop := D = 94 ∨ D = 96 ∨ D = 98
theorem okN.k {D : Nat} (x : okN D) : (∀ h, kdm true h D = (4, 2)) ∧ (∀ h, rpm true h D 0 = some (D + 1)) ∧ ∀ h, kdm true h (D + 1) = (20, 36) := by
  rcases x with rfl | rfl | rfl <;> exact ⟨fun _ => rfl, fun _ => rfl, fun _ => rfl⟩
def nS (D a _i : Nat) : Bool := Nat.beq a D || Nat.beq a (D + 1)
section NC
variable (h : Hp)
theorem c29 {D : Nat} (x : okN D) : ∃ h', NR h' D 1 ∧ FrS (nS D) h h' ∧ ∀ d F, cwp true d 29 [.ref D] h F = F none h' := by
  obtain ⟨k1, k2, k3⟩ := x.k
  have hb : Nat.beq D D = true := Nat.beq_refl D
  have hb2 : Nat.beq (D + 1) (D + 1) = true := Nat.beq_refl _
  refine ⟨sI (sI h (D + 1) 0 (nI 1)) D 1 (nI 1), ⟨1, fun _ => 1, by omega, by omega, q_gs _ _ _ _, fun i hi => ⟨show 1 < 1000000000 by omega, ?_⟩, show 0 < 1 by omega, rfl⟩, ((FrS.refl h).sI _ (by unfold nS; rw [hb2, Bool.or_true])).sI _ (by unfold nS; rw [hb, Bool.true_or]), fun d F => ?_⟩
  · obtain rfl : i = 0 := by omega
    rw [q_gn (by omega), q_gs]
  · simp (disch := omega) only [e29, r29_0, r29_1, r29_4, r29_5, r29_6, r29_7, r29_8, r29_9, r29_12, k1, k2, k3, kdC, kdM, rpC, rpM, q_rs, q_rn, Option.toList_some, Option.toList_none, List.cons_append, List.nil_append, true_and, and_true, eq_self, ↓reduceIte, not_true_eq_false, not_false_eq_true, Nat.reduceEqDiff, Nat.reduceLeDiff, Nat.reduceLT, Nat.reduceAdd, Nat.reduceMul, Nat.reduceSub, false_or, or_false, true_or, or_true, false_and, and_false, reduceCtorEq, q_n0, q_n1, q_em, q_em2, q_b0, q_b1, Classical.not_not, nI_add, pk_mul, nI_clamp, q_vp, nI_eq, nI_leI, nI_ltI, q_sub]
def spT (B m : Nat) (f : Nat → Nat) (T : Nat → Int32) (k : Nat) : Nat → Int32 := fun i => if i < k then nI (dig B m f i) else T i
theorem cl30 {D S m s : Nat} {f : Nat → Nat} (x : okN D) (y : okN S) (hm : 1 ≤ m ∧ m ≤ 1000000) (hs : s ≤ 36) (hf : ∀ i, i < s → f i < 1000000000 ∧ gI h (S + 1) i = nI (f i)) : ∀ k i d F, i + k = s → wp true d 30 11 [.ref D, .ref S, .int (nI m), .long (lN (cry 1000000000 m f i)), jn, .int (nI s), .int (nI i)] [] (sA h (D + 1) (spT 1000000000 m f (gI h (D + 1)) i)) F = wp true d 30 57 [.ref D, .ref S, .int (nI m), .long (lN (cry 1000000000 m f s)), jn, .int (nI s), .int (nI s)] [] (sA h (D + 1) (spT 1000000000 m f (gI h (D + 1)) s)) F
  | 0, i, d, F, e => by
    obtain rfl : i = s := e
    rw [r30_11]
    simp (disch := omega) only [r30_13, r30_15, kdC, kdM, rpC, rpM, q_rs, q_rn, Option.toList_some, Option.toList_none, List.cons_append, List.nil_append, true_and, and_true, eq_self, ↓reduceIte, not_true_eq_false, not_false_eq_true, Nat.reduceEqDiff, Nat.reduceLeDiff, Nat.reduceLT, Nat.reduceAdd, Nat.reduceMul, Nat.reduceSub, false_or, or_false, true_or, or_true, false_and, and_false, reduceCtorEq, q_n0, q_n1, q_em, q_em2, q_b0, q_b1, Classical.not_not, nI_add, pk_mul, nI_clamp, q_vp, nI_eq, nI_leI, nI_ltI, q_sub, Nat.le_refl]
  | k + 1, i, d, F, e => by
    refine Eq.trans ?_ (cl30 x y hm hs hf k (i + 1) d F (by omega))
    obtain ⟨k1, k2, k3⟩ := x.k
    obtain ⟨j1, j2, j3⟩ := y.k
    obtain ⟨f1, f2⟩ := hf i (by omega)
    have hc := cry_lt (B := 1000000000) (m := m) (f := f) (by omega) (by omega) i (fun j hj => (hf j (by omega)).1)
    have hrd : gI (sA h (D + 1) (spT 1000000000 m f (gI h (D + 1)) i)) (S + 1) i = nI (f i) := by
      by_cases eS : S = D
      · subst eS
        rw [q_ga]
        unfold spT
        rw [if_neg (by omega)]
        exact f2
      · rw [q_gan (by omega)]
        exact f2
    have hmul : f i * m ≤ 1000000000 * 1000000 := Nat.mul_le_mul (by omega) hm.2
    have hup : upd (spT 1000000000 m f (gI h (D + 1)) i) i (nI ((cry 1000000000 m f i + f i * m) % 1000000000)) = spT 1000000000 m f (gI h (D + 1)) (i + 1) := by
      funext j
      unfold upd spT
      by_cases e1 : j = i
      · subst e1
        rw [if_pos rfl, if_pos (by omega)]
        rfl
      · rw [if_neg e1]
        by_cases e2 : j < i
        · rw [if_pos e2, if_pos (by omega)]
        · rw [if_neg e2, if_neg (by omega)]
    show _ = wp true d 30 11 [.ref D, .ref S, .int (nI m), .long (lN ((cry 1000000000 m f i + f i * m) / 1000000000)), jn, .int (nI s), .int (nI (i + 1))] [] _ F
    rw [← hup]
    generalize cry 1000000000 m f i = cc at *
    generalize hfm : f i * m = fm at *
    rw [r30_11]
    simp (disch := omega) only [r30_13, r30_15, r30_18, r30_19, r30_19n, r30_20, r30_23, r30_25, r30_26, r30_27, r30_28, r30_29, r30_30, r30_31, r30_32, r30_33, r30_36, r30_38, r30_39, r30_42, r30_43, r30_44, r30_45, r30_46, r30_49, r30_50, r30_51, r30_54, k1, k2, k3, j1, j2, j3, hrd, kdC, kdM, rpC, rpM, q_rs, q_rn, Option.toList_some, Option.toList_none, List.cons_append, List.nil_append, true_and, and_true, eq_self, ↓reduceIte, not_true_eq_false, not_false_eq_true, Nat.reduceEqDiff, Nat.reduceLeDiff, Nat.reduceLT, Nat.reduceAdd, Nat.reduceMul, Nat.reduceSub, false_or, or_false, true_or, or_true, false_and, and_false, reduceCtorEq, q_n0, q_n1, q_em, q_em2, q_b0, q_b1, Classical.not_not, nI_add, pk_mul, nI_clamp, q_vp, nI_eq, nI_leI, nI_ltI, q_sub, nI_l, lN_mul, lN_add, hfm, pk_lDiv, lN_sub, lN_i, pk_lEQ, q_sIs, show ¬ s ≤ i by omega, show i < 36 by omega, show cc + fm - (cc + fm) / 1000000000 * 1000000000 = (cc + fm) % 1000000000 by omega]
theorem p9_36 : (1000000000 : Nat) ^ 35 = 10 ^ 315 := by decide
theorem c30 {D S m v : Nat} (x : okN D) (y : okN S) (hm : 1 ≤ m ∧ m ≤ 1000000) (hv : NR h S v) (hb : m * v < 10 ^ 310) : ∃ h', NR h' D (m * v) ∧ FrS (nS D) h h' ∧ ∀ d F, cwp true d 30 [.ref D, .ref S, .int (nI m)] h F = F none h' := by
  obtain ⟨s, f, s1, s2, s3, hf, ht, rfl⟩ := hv
  obtain ⟨k1, k2, k3⟩ := x.k
  obtain ⟨j1, j2, j3⟩ := y.k
  have hl := cl30 h x y hm s2 hf s 0
  have hT0 : sA h (D + 1) (spT 1000000000 m f (gI h (D + 1)) 0) = h := by
    rw [show spT 1000000000 m f (gI h (D + 1)) 0 = gI h (D + 1) from funext fun i => if_neg (by omega), q_sAs]
  rw [hT0] at hl
  have hc := cry_lt (B := 1000000000) (m := m) (f := f) (by omega) (by omega) s (fun j hj => (hf j (by omega)).1)
  have heq := cry_eq (B := 1000000000) (m := m) (f := f) s
  have hdl : ∀ i, dig 1000000000 m f i < 1000000000 := fun i => Nat.mod_lt _ (by omega)
  have hbD : Nat.beq D D = true := Nat.beq_refl D
  have hbL : Nat.beq (D + 1) (D + 1) = true := Nat.beq_refl _
  have nD : ∀ i, nS D D i = true := fun i => by unfold nS; rw [hbD, Bool.true_or]
  have nL : ∀ i, nS D (D + 1) i = true := fun i => by unfold nS; rw [hbL, Bool.or_true]
  have hst : ∀ d F, cwp true d 30 [.ref D, .ref S, .int (nI m)] h F = wp true d 30 57 [.ref D, .ref S, .int (nI m), .long (lN (cry 1000000000 m f s)), jn, .int (nI s), .int (nI s)] [] (sA h (D + 1) (spT 1000000000 m f (gI h (D + 1)) s)) F := by
    intro d F
    rw [← hl d F (by omega)]
    simp (disch := omega) only [r30_0, r30_1, r30_2, r30_2n, r30_3, r30_6, r30_8, r30_9, e30, j1, s3, kdC, kdM, rpC, rpM, q_rs, q_rn, Option.toList_some, Option.toList_none, List.cons_append, List.nil_append, true_and, and_true, eq_self, ↓reduceIte, not_true_eq_false, not_false_eq_true, Nat.reduceEqDiff, Nat.reduceLeDiff, Nat.reduceLT, Nat.reduceAdd, Nat.reduceMul, Nat.reduceSub, false_or, or_false, true_or, or_true, false_and, and_false, reduceCtorEq, q_n0, q_n1, q_em, q_em2, q_b0, q_b1, Classical.not_not]
    rfl
  by_cases c0 : cry 1000000000 m f s = 0
  · refine ⟨sI (sA h (D + 1) (spT 1000000000 m f (gI h (D + 1)) s)) D 1 (nI s), ⟨s, dig 1000000000 m f, s1, s2, q_gs _ _ _ _, fun i hi => ⟨hdl i, ?_⟩, ?_, ?_⟩, ((FrS.refl h).sA _ nL).sI _ (nD 1), fun d F => ?_⟩
    · rw [q_gn (by omega), q_ga]
      unfold spT
      rw [if_pos hi]
    · rw [c0, Nat.zero_mul, Nat.add_zero] at heq
      obtain ⟨u, rfl⟩ : ∃ u, s = u + 1 := ⟨s - 1, by omega⟩
      rw [Nat.add_sub_cancel] at *
      have h1 := dv_ge (B := 1000000000) (f := f) (n := u) ht
      have h2 := dv_lt (B := 1000000000) (f := dig 1000000000 m f) u (fun i _ => hdl i)
      have h3 : dv 1000000000 (dig 1000000000 m f) (u + 1) = dv 1000000000 (dig 1000000000 m f) u + dig 1000000000 m f u * 1000000000 ^ u := rfl
      have h4 : 1 * dv 1000000000 f (u + 1) ≤ m * dv 1000000000 f (u + 1) := Nat.mul_le_mul_right _ hm.1
      rcases Nat.eq_zero_or_pos (dig 1000000000 m f u) with z | z
      · rw [z, Nat.zero_mul] at h3
        omega
      · exact z
    · rw [c0, Nat.zero_mul, Nat.add_zero] at heq
      exact heq.symm
    · rw [hst, c0]
      simp (disch := omega) only [r30_57, r30_58, r30_59, r30_60, r30_63, r30_65, r30_67, r30_70, r30_71, r30_74, r30_76, r30_77, r30_78, r30_79, r30_82, r30_83, r30_85, r30_88, k1, l_le, kdC, kdM, rpC, rpM, q_rs, q_rn, Option.toList_some, Option.toList_none, List.cons_append, List.nil_append, true_and, and_true, eq_self, ↓reduceIte, not_true_eq_false, not_false_eq_true, Nat.reduceEqDiff, Nat.reduceLeDiff, Nat.reduceLT, Nat.reduceAdd, Nat.reduceMul, Nat.reduceSub, false_or, or_false, true_or, or_true, false_and, and_false, reduceCtorEq, q_n0, q_n1, q_em, q_em2, q_b0, q_b1, Classical.not_not, nI_add, pk_mul, nI_clamp, q_vp, nI_eq, nI_leI, nI_ltI, q_sub, pk_lLE, Nat.le_refl]
  · have hs36 : s < 36 := by
      rcases Nat.lt_or_ge s 36 with z | z
      · exact z
      · obtain rfl : s = 36 := by omega
        have h1 := dv_ge (B := 1000000000) (f := f) (n := 35) ht
        rw [p9_36] at h1
        have h4 : 1 * dv 1000000000 f 36 ≤ m * dv 1000000000 f 36 := Nat.mul_le_mul_right _ hm.1
        have h5 : (10 : Nat) ^ 310 ≤ 10 ^ 315 := Nat.pow_le_pow_right (by omega) (by omega)
        have h6 : dv 1000000000 f 36 = dv 1000000000 f (35 + 1) := rfl
        omega
    refine ⟨sI (sI (sA h (D + 1) (spT 1000000000 m f (gI h (D + 1)) s)) (D + 1) s (nI (cry 1000000000 m f s))) D 1 (nI (s + 1)), ⟨s + 1, fun i => if i = s then cry 1000000000 m f s else dig 1000000000 m f i, by omega, by omega, q_gs _ _ _ _, fun i hi => ⟨?_, ?_⟩, ?_, ?_⟩, (((FrS.refl h).sA _ nL).sI _ (nL s)).sI _ (nD 1), fun d F => ?_⟩
    · show (if i = s then cry 1000000000 m f s else dig 1000000000 m f i) < 1000000000
      split
      · omega
      · exact hdl i
    · rw [q_gn (by omega), q_gi]
      show _ = nI (if i = s then cry 1000000000 m f s else dig 1000000000 m f i)
      by_cases e : i = s
      · rw [if_pos ⟨rfl, e⟩, if_pos e]
      · rw [if_neg (fun q => e q.2), if_neg e, q_ga]
        unfold spT
        rw [if_pos (by omega)]
    · rw [Nat.add_sub_cancel]
      show 0 < if s = s then cry 1000000000 m f s else _
      rw [if_pos rfl]
      omega
    · show _ = dv 1000000000 (fun i => if i = s then cry 1000000000 m f s else dig 1000000000 m f i) s + (if s = s then cry 1000000000 m f s else _) * 1000000000 ^ s
      rw [if_pos rfl, dv_cg s (g := dig 1000000000 m f) (fun i hi => if_neg (by omega))]
      exact heq.symm
    · rw [hst]
      simp (disch := omega) only [r30_57, r30_58, r30_59, r30_60, r30_63, r30_65, r30_67, r30_70, r30_71, r30_74, r30_76, r30_77, r30_78, r30_79, r30_82, r30_83, r30_85, r30_88, k1, k2, k3, l_le, kdC, kdM, rpC, rpM, q_rs, q_rn, Option.toList_some, Option.toList_none, List.cons_append, List.nil_append, true_and, and_true, eq_self, ↓reduceIte, not_true_eq_false, not_false_eq_true, Nat.reduceEqDiff, Nat.reduceLeDiff, Nat.reduceLT, Nat.reduceAdd, Nat.reduceMul, Nat.reduceSub, false_or, or_false, true_or, or_true, false_and, and_false, reduceCtorEq, q_n0, q_n1, q_em, q_em2, q_b0, q_b1, Classical.not_not, nI_add, pk_mul, nI_clamp, q_vp, nI_eq, nI_leI, nI_ltI, q_sub, pk_lLE, lN_i, show ¬ cry 1000000000 m f s ≤ 0 by omega, show ¬ 36 ≤ s by omega, hs36]
theorem n1m (n : Nat) : nI (n + 1) + (-1) = nI n := pk_m1 n
theorem cl31 {D S s : Nat} {f g : Nat → Nat} (x : okN D) (y : okN S) (hs : s ≤ 36) (hf : ∀ i, i < s → f i < 1000000000 ∧ gI h (D + 1) i = nI (f i)) (hg : ∀ i, i < s → g i < 1000000000 ∧ gI h (S + 1) i = nI (g i)) : ∀ k, k ≤ s → ∀ d F, wp true d 31 35 [.ref D, .ref S, .int (nI k - nI 1)] [] h F = F (some (.int (cmpL f g k))) h
  | 0, hk, d, F => by
    rw [r31_35]
    simp (disch := omega) only [e31, r31_0, r31_1, r31_4, r31_4n, r31_5, r31_8, r31_11, r31_12, r31_15, r31_15n, r31_16, r31_19, r31_22, r31_23, r31_26, r31_27, r31_28, r31_29, r31_32, r31_33, r31_34, r31_36, r31_39, r31_40, r31_43, r31_44, r31_45, r31_45n, r31_46, r31_49, r31_50, r31_51, r31_54, r31_55, r31_58, r31_59, r31_60, r31_60n, r31_61, r31_64, r31_65, r31_66, r31_69, r31_70, r31_73, r31_74, r31_75, r31_78, r31_81, r31_82, kdC, kdM, rpC, rpM, q_rs, q_rn, Option.toList_some, Option.toList_none, List.cons_append, List.nil_append, true_and, and_true, eq_self, ↓reduceIte, not_true_eq_false, not_false_eq_true, Nat.reduceEqDiff, Nat.reduceLeDiff, Nat.reduceLT, Nat.reduceAdd, Nat.reduceMul, Nat.reduceSub, false_or, or_false, true_or, or_true, false_and, and_false, reduceCtorEq, q_n0, q_n1, q_em, q_em2, q_b0, q_b1, Classical.not_not, show nI 0 - nI 1 < nI 0 by decide]
    rfl
  | k + 1, hk, d, F => by
    obtain ⟨k1, k2, k3⟩ := x.k
    obtain ⟨j1, j2, j3⟩ := y.k
    obtain ⟨f1, f2⟩ := hf k (by omega)
    obtain ⟨g1, g2⟩ := hg k (by omega)
    have ih := cl31 x y hs hf hg k (by omega) d F
    have hm : nI k + (-1) = nI k - nI 1 := by
      rw [Int32.sub_eq_add_neg]
      rfl
    rw [q_sub (by omega), Nat.add_sub_cancel, r31_35]
    unfold cmpL
    by_cases e1 : f k = g k
    · simp (disch := omega) only [r31_36, r31_39, r31_40, r31_43, r31_44, r31_45, r31_45n, r31_46, r31_49, r31_50, r31_51, r31_54, r31_55, r31_58, r31_59, r31_60, r31_60n, r31_61, r31_64, r31_65, r31_66, r31_69, r31_70, r31_73, r31_74, r31_75, r31_78, k1, k2, k3, j1, j2, j3, f2, g2, kdC, kdM, rpC, rpM, q_rs, q_rn, Option.toList_some, Option.toList_none, List.cons_append, List.nil_append, true_and, and_true, eq_self, ↓reduceIte, not_true_eq_false, not_false_eq_true, Nat.reduceEqDiff, Nat.reduceLeDiff, Nat.reduceLT, Nat.reduceAdd, Nat.reduceMul, Nat.reduceSub, false_or, or_false, true_or, or_true, false_and, and_false, reduceCtorEq, q_n0, q_n1, q_em, q_em2, q_b0, q_b1, Classical.not_not, nI_add, pk_mul, nI_clamp, q_vp, nI_eq, nI_leI, nI_ltI, q_sub, e1, hm, Nat.not_lt_zero, show k < 36 by omega]
      exact ih
    · by_cases e2 : f k < g k
      · simp (disch := omega) only [r31_36, r31_39, r31_40, r31_43, r31_44, r31_45, r31_45n, r31_46, r31_49, r31_50, r31_51, r31_54, r31_55, r31_58, r31_59, r31_60, r31_60n, r31_61, r31_64, r31_65, r31_66, r31_69, r31_70, r31_73, r31_74, r31_75, r31_78, r31_81, r31_82, k1, k2, k3, j1, j2, j3, f2, g2, kdC, kdM, rpC, rpM, q_rs, q_rn, Option.toList_some, Option.toList_none, List.cons_append, List.nil_append, true_and, and_true, eq_self, ↓reduceIte, not_true_eq_false, not_false_eq_true, Nat.reduceEqDiff, Nat.reduceLeDiff, Nat.reduceLT, Nat.reduceAdd, Nat.reduceMul, Nat.reduceSub, false_or, or_false, true_or, or_true, false_and, and_false, reduceCtorEq, q_n0, q_n1, q_em, q_em2, q_b0, q_b1, Classical.not_not, nI_add, pk_mul, nI_clamp, q_vp, nI_eq, nI_leI, nI_ltI, q_sub, e1, e2, Nat.not_lt_zero, show k < 36 by omega, show ¬ g k ≤ f k by omega]
      · simp (disch := omega) only [r31_36, r31_39, r31_40, r31_43, r31_44, r31_45, r31_45n, r31_46, r31_49, r31_50, r31_51, r31_54, r31_55, r31_58, r31_59, r31_60, r31_60n, r31_61, r31_64, r31_65, r31_66, r31_69, r31_70, r31_73, r31_74, r31_75, r31_78, r31_81, r31_82, k1, k2, k3, j1, j2, j3, f2, g2, kdC, kdM, rpC, rpM, q_rs, q_rn, Option.toList_some, Option.toList_none, List.cons_append, List.nil_append, true_and, and_true, eq_self, ↓reduceIte, not_true_eq_false, not_false_eq_true, Nat.reduceEqDiff, Nat.reduceLeDiff, Nat.reduceLT, Nat.reduceAdd, Nat.reduceMul, Nat.reduceSub, false_or, or_false, true_or, or_true, false_and, and_false, reduceCtorEq, q_n0, q_n1, q_em, q_em2, q_b0, q_b1, Classical.not_not, nI_add, pk_mul, nI_clamp, q_vp, nI_eq, nI_leI, nI_ltI, q_sub, e1, e2, Nat.not_lt_zero, show k < 36 by omega, show g k ≤ f k by omega]
theorem c31 {D S u v : Nat} (x : okN D) (y : okN S) (hu : NR h D u) (hv : NR h S v) (d : Nat) (F : Po) : cwp true d 31 [.ref D, .ref S] h F = F (some (.int (cmpV u v))) h := by
  obtain ⟨s, f, s1, s2, s3, hf, ht, rfl⟩ := hu
  obtain ⟨r, g, r1, r2, r3, hg, hr, rfl⟩ := hv
  obtain ⟨k1, k2, k3⟩ := x.k
  obtain ⟨j1, j2, j3⟩ := y.k
  have hlt : ∀ {s r : Nat} {f g : Nat → Nat}, 1 ≤ r → (∀ i, i < s → f i < 1000000000) → 0 < g (r - 1) → s < r → dv 1000000000 f s < dv 1000000000 g r := by
    intro s r f g r1 hf hr hsr
    obtain ⟨q, rfl⟩ : ∃ q, r = q + 1 := ⟨r - 1, by omega⟩
    rw [Nat.add_sub_cancel] at hr
    have h1 := dv_lt s hf
    have h2 := dv_ge (B := 1000000000) (f := g) (n := q) hr
    have h3 : 1000000000 ^ s ≤ 1000000000 ^ q := Nat.pow_le_pow_right (by omega) (by omega)
    omega
  by_cases e : s = r
  · subst e
    have hl := cl31 h x y s2 hf hg s (Nat.le_refl _) d F
    rw [cmpL_eq s (fun i hi => (hf i hi).1) (fun i hi => (hg i hi).1)] at hl
    simp (disch := omega) only [r31_0, r31_1, r31_4, r31_4n, r31_5, r31_8, r31_11, r31_12, r31_15, r31_15n, r31_16, r31_19, r31_22, r31_23, r31_26, r31_27, r31_28, r31_29, r31_32, r31_33, r31_34, e31, k1, j1, s3, r3, kdC, kdM, rpC, rpM, q_rs, q_rn, Option.toList_some, Option.toList_none, List.cons_append, List.nil_append, true_and, and_true, eq_self, ↓reduceIte, not_true_eq_false, not_false_eq_true, Nat.reduceEqDiff, Nat.reduceLeDiff, Nat.reduceLT, Nat.reduceAdd, Nat.reduceMul, Nat.reduceSub, false_or, or_false, true_or, or_true, false_and, and_false, reduceCtorEq, q_n0, q_n1, q_em, q_em2, q_b0, q_b1, Classical.not_not, nI_add, pk_mul, nI_clamp, q_vp, nI_eq, nI_leI, nI_ltI, q_sub]
    rw [q_sub (by omega)] at hl
    exact hl
  · by_cases e2 : s < r
    · have h1 := hlt r1 (fun i hi => (hf i hi).1) hr e2
      have h2 : cmpV (dv 1000000000 f s) (dv 1000000000 g r) = -1 := if_pos h1
      rw [h2]
      simp (disch := omega) only [e31, r31_0, r31_1, r31_4, r31_4n, r31_5, r31_8, r31_11, r31_12, r31_15, r31_15n, r31_16, r31_19, r31_22, r31_23, r31_26, r31_27, r31_28, r31_29, r31_32, r31_33, r31_34, r31_36, r31_39, r31_40, r31_43, r31_44, r31_45, r31_45n, r31_46, r31_49, r31_50, r31_51, r31_54, r31_55, r31_58, r31_59, r31_60, r31_60n, r31_61, r31_64, r31_65, r31_66, r31_69, r31_70, r31_73, r31_74, r31_75, r31_78, r31_81, r31_82, k1, j1, s3, r3, kdC, kdM, rpC, rpM, q_rs, q_rn, Option.toList_some, Option.toList_none, List.cons_append, List.nil_append, true_and, and_true, eq_self, ↓reduceIte, not_true_eq_false, not_false_eq_true, Nat.reduceEqDiff, Nat.reduceLeDiff, Nat.reduceLT, Nat.reduceAdd, Nat.reduceMul, Nat.reduceSub, false_or, or_false, true_or, or_true, false_and, and_false, reduceCtorEq, q_n0, q_n1, q_em, q_em2, q_b0, q_b1, Classical.not_not, nI_add, pk_mul, nI_clamp, q_vp, nI_eq, nI_leI, nI_ltI, q_sub, e, show ¬ r ≤ s by omega]
    · have h1 := hlt s1 (fun i hi => (hg i hi).1) ht (show r < s by omega)
      have h2 : cmpV (dv 1000000000 f s) (dv 1000000000 g r) = nI 1 := by
        unfold cmpV
        rw [if_neg (by omega), if_neg (by omega)]
      rw [h2]
      simp (disch := omega) only [e31, r31_0, r31_1, r31_4, r31_4n, r31_5, r31_8, r31_11, r31_12, r31_15, r31_15n, r31_16, r31_19, r31_22, r31_23, r31_26, r31_27, r31_28, r31_29, r31_32, r31_33, r31_34, r31_36, r31_39, r31_40, r31_43, r31_44, r31_45, r31_45n, r31_46, r31_49, r31_50, r31_51, r31_54, r31_55, r31_58, r31_59, r31_60, r31_60n, r31_61, r31_64, r31_65, r31_66, r31_69, r31_70, r31_73, r31_74, r31_75, r31_78, r31_81, r31_82, k1, j1, s3, r3, kdC, kdM, rpC, rpM, q_rs, q_rn, Option.toList_some, Option.toList_none, List.cons_append, List.nil_append, true_and, and_true, eq_self, ↓reduceIte, not_true_eq_false, not_false_eq_true, Nat.reduceEqDiff, Nat.reduceLeDiff, Nat.reduceLT, Nat.reduceAdd, Nat.reduceMul, Nat.reduceSub, false_or, or_false, true_or, or_true, false_and, and_false, reduceCtorEq, q_n0, q_n1, q_em, q_em2, q_b0, q_b1, Classical.not_not, nI_add, pk_mul, nI_clamp, q_vp, nI_eq, nI_leI, nI_ltI, q_sub, e, show r ≤ s by omega]
end NC
/-! the model's -/
def okA (A : Nat) : Prop := A = 113 ∨ A = 114 ∨ A = 115
theorem okA.k {A : Nat} (x : okA A) : ∀ h, kdm true h A = (21, 40) := by
  rcases x with rfl | rfl | rfl <;> exact fun _ => rfl
/-- only a row of longs has changed -/
def Jm (A : Nat) (h h' : Hp) : Prop := (hz h' = hz h ∧ hu h' = hu h ∧ hk h' = hk h ∧ gI h' = gI h ∧ gP h' = gP h) ∧ ∀ a, a ≠ A → gJ h' a = gJ h a
section NJ
variable {h h' h'' : Hp} {A : Nat}
theorem Jm.refl (h : Hp) : Jm A h h := ⟨⟨rfl, rfl, rfl, rfl, rfl⟩, fun _ _ => rfl⟩
theorem Jm.sJ (x : Jm A h h') (i : Nat) (v : Int64) : Jm A h (sJ h' A i v) := ⟨x.1, fun a ha => by rw [q_jn ha]; exact x.2 a ha⟩
theorem ml205 {m : Nat} {f : Nat → Nat} (x : okA A) (hm : 1 ≤ m ∧ m ≤ 1000000) (hf : ∀ i, i < 40 → f i < 100000000 ∧ gJ h A i = lN (f i)) : ∀ k i h0, i + k = 40 → Jm A h h0 → (∀ j, j < i → gJ h0 A j = lN (dig 100000000 m f j)) → (∀ j, i ≤ j → gJ h0 A j = gJ h A j) → ∃ h', Jm A h h' ∧ (∀ j, j < 40 → gJ h' A j = lN (dig 100000000 m f j)) ∧ ∀ d F (v6 v7 : Value), wp true d 205 5 [.ref 101, .ref A, .int (nI m), .long (lN (cry 100000000 m f i)), jn, .int (nI i), v6, v7] [] h0 F = F none h'
  | 0, i, h0, e, z, z1, z2 => by
    obtain rfl : i = 40 := e
    refine ⟨h0, z, z1, fun d F v6 v7 => ?_⟩
    rw [r205_5]
    simp (disch := omega) only [e205, r205_0, r205_1, r205_2, r205_3, r205_7, r205_9, r205_12, r205_12n, r205_13, r205_15, r205_16, r205_17, r205_18, r205_19, r205_20, r205_21, r205_23, r205_23n, r205_24, r205_26, r205_28, r205_31, r205_32, r205_33, r205_35, r205_38, r205_39, r205_40, r205_43, r205_46, kdC, kdM, rpC, rpM, q_rs, q_rn, Option.toList_some, Option.toList_none, List.cons_append, List.nil_append, true_and, and_true, eq_self, ↓reduceIte, not_true_eq_false, not_false_eq_true, Nat.reduceEqDiff, Nat.reduceLeDiff, Nat.reduceLT, Nat.reduceAdd, Nat.reduceMul, Nat.reduceSub, false_or, or_false, true_or, or_true, false_and, and_false, reduceCtorEq, q_n0, q_n1, q_em, q_em2, q_b0, q_b1, Classical.not_not, nI_add, pk_mul, nI_clamp, q_vp, nI_eq, nI_leI, nI_ltI, q_sub, Nat.le_refl]
  | k + 1, i, h0, e, z, z1, z2 => by
    have k1 := x.k
    obtain ⟨f1, f2⟩ := hf i (by omega)
    have hc := cry_lt (B := 100000000) (m := m) (f := f) (by omega) (by omega) i (fun j hj => (hf j (by omega)).1)
    have hmul : f i * m ≤ 100000000 * 1000000 := Nat.mul_le_mul (by omega) hm.2
    have hdg : dig 100000000 m f i = (cry 100000000 m f i + f i * m) % 100000000 := rfl
    obtain ⟨h', w1, w2, w3⟩ := ml205 x hm hf k (i + 1) (sJ h0 A i (lN (dig 100000000 m f i))) (by omega) (z.sJ _ _) (by
      intro j hj
      by_cases e1 : j = i
      · subst e1; rw [q_js]
      · rw [q_jm e1]; exact z1 j (by omega)) (by
      intro j hj
      rw [q_jm (by omega)]; exact z2 j (by omega))
    refine ⟨h', w1, w2, fun d F v6 v7 => ?_⟩
    have w4 := w3 d F
    have hrd : gJ h0 A i = lN (f i) := by rw [z2 i (Nat.le_refl _)]; exact f2
    have hcs : cry 100000000 m f (i + 1) = (cry 100000000 m f i + f i * m) / 100000000 := rfl
    rw [hdg, hcs, Nat.add_comm (cry 100000000 m f i)] at w4
    generalize cry 100000000 m f i = cc at *
    generalize hfm : f i * m = fm at *
    rw [r205_5]
    simp (disch := omega) only [r205_7, r205_9, r205_12, r205_12n, r205_13, r205_15, r205_16, r205_17, r205_18, r205_19, r205_20, r205_21, r205_23, r205_23n, r205_24, r205_26, r205_28, r205_31, r205_32, r205_33, r205_35, r205_38, r205_39, r205_40, r205_43, k1, hrd, kdC, kdM, rpC, rpM, q_rs, q_rn, Option.toList_some, Option.toList_none, List.cons_append, List.nil_append, true_and, and_true, eq_self, ↓reduceIte, not_true_eq_false, not_false_eq_true, Nat.reduceEqDiff, Nat.reduceLeDiff, Nat.reduceLT, Nat.reduceAdd, Nat.reduceMul, Nat.reduceSub, false_or, or_false, true_or, or_true, false_and, and_false, reduceCtorEq, q_n0, q_n1, q_em, q_em2, q_b0, q_b1, Classical.not_not, nI_add, pk_mul, nI_clamp, q_vp, nI_eq, nI_leI, nI_ltI, q_sub, nI_l, lN_mul, lN_add, hfm, pk_lDiv, lN_sub, pk_lEQ, show ¬ 40 ≤ i by omega, show i < 40 by omega, show fm + cc - (fm + cc) / 100000000 * 100000000 = (fm + cc) % 100000000 by omega]
    exact w4 _ _
theorem m205 {m v : Nat} (x : okA A) (hm : 1 ≤ m ∧ m ≤ 1000000) (hv : NM h A v) (hb : m * v < 10 ^ 310) : ∃ h', NM h' A (m * v) ∧ Jm A h h' ∧ ∀ d F, cwp true d 205 [.ref 101, .ref A, .int (nI m)] h F = F none h' := by
  obtain ⟨f, hf, rfl⟩ := hv
  obtain ⟨h', w1, w2, w3⟩ := ml205 x hm hf 40 0 h (by omega) (Jm.refl h) (fun j hj => by omega) (fun _ _ => rfl)
  have heq := cry_eq (B := 100000000) (m := m) (f := f) 40
  have hc0 : cry 100000000 m f 40 = 0 := by
    rcases Nat.eq_zero_or_pos (cry 100000000 m f 40) with z | z
    · exact z
    · have h1 : 1 * 100000000 ^ 40 ≤ cry 100000000 m f 40 * 100000000 ^ 40 := Nat.mul_le_mul_right _ z
      have h2 : (100000000 : Nat) ^ 40 = 10 ^ 320 := by decide
      have h5 : (10 : Nat) ^ 310 ≤ 10 ^ 320 := Nat.pow_le_pow_right (by omega) (by omega)
      omega
  rw [hc0, Nat.zero_mul, Nat.add_zero] at heq
  refine ⟨h', ⟨dig 100000000 m f, fun i hi => ⟨Nat.mod_lt _ (by omega), w2 i hi⟩, heq.symm⟩, w1, fun d F => ?_⟩
  simp (disch := omega) only [r205_0, r205_1, r205_2, r205_3, e205]
  exact w3 d F _ _
theorem ml206 {C : Nat} {f g : Nat → Nat} (x : okA A) (y : okA C) (hf : ∀ i, i < 40 → f i < 100000000 ∧ gJ h A i = lN (f i)) (hg : ∀ i, i < 40 → g i < 100000000 ∧ gJ h C i = lN (g i)) : ∀ k, k ≤ 40 → ∀ d F, wp true d 206 3 [.ref A, .ref C, .int (nI k - nI 1)] [] h F = F (some (.int (cmpL f g k))) h
  | 0, hk, d, F => by
    rw [r206_3]
    simp (disch := omega) only [e206, r206_0, r206_2, r206_4, r206_7, r206_8, r206_9, r206_10, r206_10n, r206_11, r206_12, r206_13, r206_14, r206_17, r206_18, r206_19, r206_20, r206_20n, r206_21, r206_22, r206_23, r206_24, r206_27, r206_28, r206_31, r206_32, r206_33, r206_36, r206_39, r206_40, kdC, kdM, rpC, rpM, q_rs, q_rn, Option.toList_some, Option.toList_none, List.cons_append, List.nil_append, true_and, and_true, eq_self, ↓reduceIte, not_true_eq_false, not_false_eq_true, Nat.reduceEqDiff, Nat.reduceLeDiff, Nat.reduceLT, Nat.reduceAdd, Nat.reduceMul, Nat.reduceSub, false_or, or_false, true_or, or_true, false_and, and_false, reduceCtorEq, q_n0, q_n1, q_em, q_em2, q_b0, q_b1, Classical.not_not, show nI 0 - nI 1 < nI 0 by decide]
    rfl
  | k + 1, hk, d, F => by
    have k1 := x.k
    have j1 := y.k
    obtain ⟨f1, f2⟩ := hf k (by omega)
    obtain ⟨g1, g2⟩ := hg k (by omega)
    have ih := ml206 x y hf hg k (by omega) d F
    have hm : nI k + (-1) = nI k - nI 1 := by
      rw [Int32.sub_eq_add_neg]
      rfl
    rw [q_sub (by omega), Nat.add_sub_cancel, r206_3]
    unfold cmpL
    by_cases e1 : f k = g k
    · simp (disch := omega) only [r206_4, r206_7, r206_8, r206_9, r206_10, r206_10n, r206_11, r206_12, r206_13, r206_14, r206_17, r206_18, r206_19, r206_20, r206_20n, r206_21, r206_22, r206_23, r206_24, r206_27, r206_28, r206_31, r206_32, r206_33, r206_36, k1, j1, f2, g2, l_eq, kdC, kdM, rpC, rpM, q_rs, q_rn, Option.toList_some, Option.toList_none, List.cons_append, List.nil_append, true_and, and_true, eq_self, ↓reduceIte, not_true_eq_false, not_false_eq_true, Nat.reduceEqDiff, Nat.reduceLeDiff, Nat.reduceLT, Nat.reduceAdd, Nat.reduceMul, Nat.reduceSub, false_or, or_false, true_or, or_true, false_and, and_false, reduceCtorEq, q_n0, q_n1, q_em, q_em2, q_b0, q_b1, Classical.not_not, nI_add, pk_mul, nI_clamp, q_vp, nI_eq, nI_leI, nI_ltI, q_sub, e1, hm, Nat.not_lt_zero, show k < 40 by omega]
      exact ih
    · by_cases e2 : f k < g k
      · simp (disch := omega) only [r206_4, r206_7, r206_8, r206_9, r206_10, r206_10n, r206_11, r206_12, r206_13, r206_14, r206_17, r206_18, r206_19, r206_20, r206_20n, r206_21, r206_22, r206_23, r206_24, r206_27, r206_28, r206_31, r206_32, r206_33, r206_36, r206_39, r206_40, k1, j1, f2, g2, l_eq, l_ge, pk_lEQ, pk_lLE, kdC, kdM, rpC, rpM, q_rs, q_rn, Option.toList_some, Option.toList_none, List.cons_append, List.nil_append, true_and, and_true, eq_self, ↓reduceIte, not_true_eq_false, not_false_eq_true, Nat.reduceEqDiff, Nat.reduceLeDiff, Nat.reduceLT, Nat.reduceAdd, Nat.reduceMul, Nat.reduceSub, false_or, or_false, true_or, or_true, false_and, and_false, reduceCtorEq, q_n0, q_n1, q_em, q_em2, q_b0, q_b1, Classical.not_not, nI_add, pk_mul, nI_clamp, q_vp, nI_eq, nI_leI, nI_ltI, q_sub, e1, e2, Nat.not_lt_zero, show k < 40 by omega, show ¬ g k ≤ f k by omega]
      · simp (disch := omega) only [r206_4, r206_7, r206_8, r206_9, r206_10, r206_10n, r206_11, r206_12, r206_13, r206_14, r206_17, r206_18, r206_19, r206_20, r206_20n, r206_21, r206_22, r206_23, r206_24, r206_27, r206_28, r206_31, r206_32, r206_33, r206_36, r206_39, r206_40, k1, j1, f2, g2, l_eq, l_ge, pk_lEQ, pk_lLE, kdC, kdM, rpC, rpM, q_rs, q_rn, Option.toList_some, Option.toList_none, List.cons_append, List.nil_append, true_and, and_true, eq_self, ↓reduceIte, not_true_eq_false, not_false_eq_true, Nat.reduceEqDiff, Nat.reduceLeDiff, Nat.reduceLT, Nat.reduceAdd, Nat.reduceMul, Nat.reduceSub, false_or, or_false, true_or, or_true, false_and, and_false, reduceCtorEq, q_n0, q_n1, q_em, q_em2, q_b0, q_b1, Classical.not_not, nI_add, pk_mul, nI_clamp, q_vp, nI_eq, nI_leI, nI_ltI, q_sub, e1, e2, Nat.not_lt_zero, show k < 40 by omega, show g k ≤ f k by omega]
theorem m206 {C u v : Nat} (x : okA A) (y : okA C) (hu : NM h A u) (hv : NM h C v) (d : Nat) (F : Po) : cwp true d 206 [.ref A, .ref C] h F = F (some (.int (cmpV u v))) h := by
  obtain ⟨f, hf, rfl⟩ := hu
  obtain ⟨g, hg, rfl⟩ := hv
  have hl := ml206 x y hf hg 40 (Nat.le_refl _) d F
  rw [cmpL_eq 40 (fun i hi => (hf i hi).1) (fun i hi => (hg i hi).1), show nI 40 - nI 1 = nI 39 by decide] at hl
  simp (disch := omega) only [r206_0, r206_2, e206]
  exact hl
end NJ
