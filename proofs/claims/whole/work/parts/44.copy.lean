/-! image, back: a State copied -/
theorem kd_big {h : Hp} {a : Nat} (ha : 121 ≤ a) : kdm true h a = hk h a := by
  unfold kdm
  have : Nat.blt a NS = false := by
    cases e : Nat.blt a NS with
    | false => rfl
    | true => have h1 := Nat.le_of_ble_eq_true e; have h2 : NS = 121 := rfl; omega
  rw [this]
  rfl
theorem st_big {a i : Nat} (ha : 121 ≤ a) : st0 a i = none := by
  unfold st0
  have : Nat.blt a NS = false := by
    cases e : Nat.blt a NS with
    | false => rfl
    | true => have h1 := Nat.le_of_ble_eq_true e; have h2 : NS = 121 := rfl; omega
  rw [this]
  rfl
theorem rp_big {h : Hp} {a i : Nat} (ha : 121 ≤ a) : rpm true h a i = gP h a i := by
  unfold rpm
  rw [show (bif true then st0 a i else none) = none from st_big ha]
theorem wk_big {a i : Nat} (ha : 121 ≤ a) : wkm true a i = true := by
  unfold wkm
  rw [st_big ha]
  rfl
theorem rpT : (∀ (h : Hp) (i : Nat), rpm true h 25 i = gP h 25 i) ∧ (∀ (h : Hp) (i : Nat), rpm true h 50 i = gP h 50 i) ∧ (∀ (h : Hp) (i : Nat), rpm true h 74 i = gP h 74 i) := ⟨fun _ _ => rfl, fun _ _ => rfl, fun _ _ => rfl⟩
theorem wkT : (∀ (i : Nat), wkm true 25 i = true) ∧ (∀ (i : Nat), wkm true 50 i = true) ∧ (∀ (i : Nat), wkm true 74 i = true) := ⟨fun _ => rfl, fun _ => rfl, fun _ => rfl⟩
def cpy1 (h : Hp) (a b n : Nat) : Hp := sA h a (va_cpy (gI h b) (gI h a) 0 0 n)
def cpi (h : Hp) (a b i : Nat) : Hp := sI h a i (gI h b i)
theorem cpy1_f (h : Hp) (a b n : Nat) : sA h a (va_cpy (gI h b) (gI h a) 0 0 n) = cpy1 h a b n := rfl
theorem cpi_f (h : Hp) (a b i : Nat) : sI h a i (gI h b i) = cpi h a b i := rfl
def cpF (h : Hp) (p q : Nat) : Hp := cpi (cpy1 (cpy1 (cpy1 (cpy1 h (4 + p) (4 + q) 24) (5 + p) (5 + q) 24) (6 + p) (6 + q) 24) (7 + p) (7 + q) 144) (3 + p) (3 + q) 4
def cpB (h : Hp) (p q : Nat) : Hp := cpi (cpy1 (cpy1 h (9 + p) (9 + q) 12) (10 + p) (10 + q) 12) (8 + p) (8 + q) 2
def cpG (h : Hp) (p q : Nat) : Hp := cpi (cpy1 (cpy1 (cpy1 (cpy1 (cpy1 h (12 + p) (12 + q) 12) (13 + p) (13 + q) 12) (14 + p) (14 + q) 12) (15 + p) (15 + q) 12) (16 + p) (16 + q) 12) (11 + p) (11 + q) 5
def cpH (h : Hp) (p q : Nat) : Hp := cpi (cpy1 (cpy1 (cpy1 (cpy1 (cpy1 (cpy1 (cpy1 (cpG h p q) (17 + p) (17 + q) 12) (18 + p) (18 + q) 12) (19 + p) (19 + q) 12) (20 + p) (20 + q) 12) (21 + p) (21 + q) 12) (22 + p) (22 + q) 12) (23 + p) (23 + q) 12) (11 + p) (11 + q) 13
def cpT (h : Hp) (p q : Nat) : Nat → Hp
  | 0 => h
  | i + 1 => sP (cpT h p q i) (25 + p) i (gP h (25 + q) i)
def cpX (h : Hp) (p q : Nat) : Hp := cpy1 (cpH (cpB (cpF h p q) p q) p q) (24 + p) (24 + q) 4
def cpS (h : Hp) (p q : Nat) : Hp := cpi (cpT (cpX h p q) p q 10) (2 + p) (2 + q) 5
theorem cpT_q (h : Hp) {p q : Nat} (hn : 25 + q ≠ 25 + p) : ∀ k, gP (cpT h p q k) (25 + q) = gP h (25 + q)
  | 0 => rfl
  | k + 1 => by
    show gP (sP (cpT h p q k) (25 + p) k (gP h (25 + q) k)) (25 + q) = _
    rw [q_pn hn, cpT_q h hn k]
theorem cpT_k (h : Hp) (p q : Nat) : ∀ k, hk (cpT h p q k) = hk h
  | 0 => rfl
  | k + 1 => by
    show hk (sP (cpT h p q k) (25 + p) k (gP h (25 + q) k)) = _
    rw [q_hkP, cpT_k h p q k]
theorem cpT_I (h : Hp) (p q : Nat) : ∀ k, gI (cpT h p q k) = gI h
  | 0 => rfl
  | k + 1 => by
    show gI (sP (cpT h p q k) (25 + p) k (gP h (25 + q) k)) = _
    rw [q_gIP, cpT_I h p q k]
/-- what of the one State has been copied to the other -/
def CPd (h h' : Hp) (p q : Nat) (D : Nat → Nat → Prop) : Prop := (hz h' = hz h ∧ hu h' = hu h ∧ hk h' = hk h ∧ gP h' = gP h) ∧ (∀ a i, a < 2 + p ∨ 25 + p < a → gI h' a i = gI h a i) ∧ ∀ c i, 2 ≤ c → c ≤ 25 → D c i → gI h' (c + p) i = gI h (c + q) i
def okPQ (p q : Nat) : Prop := q + 25 ≤ p ∨ p + 25 ≤ q
section CD
variable {h h' : Hp} {p q : Nat} {D : Nat → Nat → Prop}
theorem CPd.A (x : CPd h h' p q D) (hpq : okPQ p q) {c : Nat} (h1 : 2 ≤ c) (h2 : c ≤ 25) (n : Nat) : CPd h (cpy1 h' (c + p) (c + q) n) p q (fun c' i => (c' = c ∧ i < n) ∨ (c' ≠ c ∧ D c' i)) := by
  unfold okPQ at hpq
  refine ⟨x.1, fun a i ha => ?_, fun c' i h3 h4 hd => ?_⟩
  · unfold cpy1
    rw [q_gan (by omega)]
    exact x.2.1 a i ha
  · unfold cpy1
    rcases hd with ⟨rfl, hi⟩ | ⟨hne, hd⟩
    · rw [q_ga, pk_cpy_in (by omega) (by omega), Nat.zero_add, Nat.sub_zero, x.2.1 _ _ (by omega)]
    · rw [q_gan (by omega)]
      exact x.2.2 c' i h3 h4 hd
theorem CPd.I (x : CPd h h' p q D) (hpq : okPQ p q) {c : Nat} (h1 : 2 ≤ c) (h2 : c ≤ 25) (j : Nat) : CPd h (cpi h' (c + p) (c + q) j) p q (fun c' i => (c' = c ∧ i = j) ∨ D c' i) := by
  unfold okPQ at hpq
  refine ⟨x.1, fun a i ha => ?_, fun c' i h3 h4 hd => ?_⟩
  · unfold cpi
    rw [q_gn (by omega)]
    exact x.2.1 a i ha
  · unfold cpi
    by_cases e : c' + p = c + p ∧ i = j
    · obtain ⟨e1, rfl⟩ := e
      obtain rfl : c' = c := by omega
      rw [q_gs, x.2.1 _ _ (by omega)]
    · rw [q_gi, if_neg e]
      rcases hd with ⟨rfl, rfl⟩ | hd
      · exact absurd ⟨rfl, rfl⟩ e
      · exact x.2.2 c' i h3 h4 hd
theorem CPd.imp (x : CPd h h' p q D) {E : Nat → Nat → Prop} (he : ∀ c i, E c i → D c i) : CPd h h' p q E := ⟨x.1, x.2.1, fun c i h1 h2 h3 => x.2.2 c i h1 h2 (he c i h3)⟩
def szC (c : Nat) : Nat := if c = 7 then 144 else if c < 7 then 24 else if c = 24 then 4 else 12
def cpD (c i : Nat) : Prop := (c = 3 ∧ i = 4) ∨ (c = 8 ∧ i = 2) ∨ (c = 11 ∧ i = 5) ∨ (c = 11 ∧ i = 13) ∨ (4 ≤ c ∧ c ≤ 24 ∧ c ≠ 8 ∧ c ≠ 11 ∧ i < szC c)
theorem cpX_d (h : Hp) (hpq : okPQ p q) : CPd h (cpX h p q) p q cpD := by
  have x0 : CPd h h p q (fun _ _ => False) := ⟨⟨rfl, rfl, rfl, rfl⟩, fun _ _ _ => rfl, fun _ _ _ _ hf => hf.elim⟩
  have x := ((((((((((((((((((((((((x0.A hpq (c := 4) (by omega) (by omega) 24).A hpq (c := 5) (by omega) (by omega) 24).A hpq (c := 6) (by omega) (by omega) 24).A hpq (c := 7) (by omega) (by omega) 144).I hpq (c := 3) (by omega) (by omega) 4).A hpq (c := 9) (by omega) (by omega) 12).A hpq (c := 10) (by omega) (by omega) 12).I hpq (c := 8) (by omega) (by omega) 2).A hpq (c := 12) (by omega) (by omega) 12).A hpq (c := 13) (by omega) (by omega) 12).A hpq (c := 14) (by omega) (by omega) 12).A hpq (c := 15) (by omega) (by omega) 12).A hpq (c := 16) (by omega) (by omega) 12).I hpq (c := 11) (by omega) (by omega) 5).A hpq (c := 17) (by omega) (by omega) 12).A hpq (c := 18) (by omega) (by omega) 12).A hpq (c := 19) (by omega) (by omega) 12).A hpq (c := 20) (by omega) (by omega) 12).A hpq (c := 21) (by omega) (by omega) 12).A hpq (c := 22) (by omega) (by omega) 12).A hpq (c := 23) (by omega) (by omega) 12).I hpq (c := 11) (by omega) (by omega) 13).A hpq (c := 24) (by omega) (by omega) 4))
  refine CPd.imp x ?_
  intro c i hc
  unfold cpD szC at hc
  rcases hc with ⟨rfl, rfl⟩ | ⟨rfl, rfl⟩ | ⟨rfl, rfl⟩ | ⟨rfl, rfl⟩ | ⟨h1, h2, h3, h4, h5⟩
  · simp
  · simp
  · simp
  · simp
  · rcases (show c = 4 ∨ c = 5 ∨ c = 6 ∨ c = 7 ∨ c = 9 ∨ c = 10 ∨ c = 12 ∨ c = 13 ∨ c = 14 ∨ c = 15 ∨ c = 16 ∨ c = 17 ∨ c = 18 ∨ c = 19 ∨ c = 20 ∨ c = 21 ∨ c = 22 ∨ c = 23 ∨ c = 24 by omega) with rfl | rfl | rfl | rfl | rfl | rfl | rfl | rfl | rfl | rfl | rfl | rfl | rfl | rfl | rfl | rfl | rfl | rfl | rfl <;> simp at h5 <;> simp [h5]
end CD
section CY
variable (d : Nat) (h : Hp) (F : Po)
theorem c10_25_0 : cwp true d 10 [.ref 28, .ref 3] h F = F none (cpF h 25 0) := by
  simp (disch := omega) only [e10, r10_0, r10_0n, r10_1, r10_4, r10_5, r10_6, r10_9, r10_10, r10_12, r10_15, r10_15n, r10_16, r10_19, r10_20, r10_21, r10_24, r10_25, r10_27, r10_30, r10_30n, r10_31, r10_34, r10_35, r10_36, r10_39, r10_40, r10_42, r10_45, r10_45n, r10_46, r10_49, r10_50, r10_51, r10_54, r10_55, r10_58, r10_61, r10_62, r10_62n, r10_63, r10_66, r10_69, kdC, kdM, rpC, rpM, q_rs, q_rn, Option.toList_some, Option.toList_none, List.cons_append, List.nil_append, true_and, and_true, eq_self, ↓reduceIte, not_true_eq_false, not_false_eq_true, Nat.reduceEqDiff, Nat.reduceLeDiff, Nat.reduceLT, Nat.reduceAdd, Nat.reduceMul, Nat.reduceSub, false_or, or_false, true_or, or_true, false_and, and_false, reduceCtorEq, q_n0, q_n1, q_em, q_em2, q_b0, q_b1, Classical.not_not, nI_add, pk_mul, nI_clamp, q_vp, nI_eq, nI_leI, nI_ltI, q_sub, Nat.lt_irrefl, Nat.le_refl, Nat.zero_add, Nat.not_lt_zero, cpy1_f, cpi_f, cpF]
theorem c6_25_0 : cwp true d 6 [.ref 33, .ref 8] h F = F none (cpB h 25 0) := by
  simp (disch := omega) only [e6, r6_0, r6_0n, r6_1, r6_4, r6_5, r6_6, r6_9, r6_10, r6_12, r6_15, r6_15n, r6_16, r6_19, r6_20, r6_21, r6_24, r6_25, r6_27, r6_30, r6_31, r6_31n, r6_32, r6_35, r6_38, kdC, kdM, rpC, rpM, q_rs, q_rn, Option.toList_some, Option.toList_none, List.cons_append, List.nil_append, true_and, and_true, eq_self, ↓reduceIte, not_true_eq_false, not_false_eq_true, Nat.reduceEqDiff, Nat.reduceLeDiff, Nat.reduceLT, Nat.reduceAdd, Nat.reduceMul, Nat.reduceSub, false_or, or_false, true_or, or_true, false_and, and_false, reduceCtorEq, q_n0, q_n1, q_em, q_em2, q_b0, q_b1, Classical.not_not, nI_add, pk_mul, nI_clamp, q_vp, nI_eq, nI_leI, nI_ltI, q_sub, Nat.lt_irrefl, Nat.le_refl, Nat.zero_add, Nat.not_lt_zero, cpy1_f, cpi_f, cpB]
theorem c21_25_0 : cwp true d 21 [.ref 36, .ref 11] h F = F none (cpH h 25 0) := by
  simp (disch := omega) only [e21, r21_0, r21_0n, r21_1, r21_4, r21_5, r21_6, r21_9, r21_10, r21_12, r21_15, r21_15n, r21_16, r21_19, r21_20, r21_21, r21_24, r21_25, r21_27, r21_30, r21_30n, r21_31, r21_34, r21_35, r21_36, r21_39, r21_40, r21_42, r21_45, r21_45n, r21_46, r21_49, r21_50, r21_51, r21_54, r21_55, r21_57, r21_60, r21_60n, r21_61, r21_64, r21_65, r21_66, r21_69, r21_70, r21_72, r21_75, r21_76, r21_76n, r21_77, r21_80, r21_83, r21_83n, r21_84, r21_87, r21_88, r21_89, r21_92, r21_93, r21_95, r21_98, r21_98n, r21_99, r21_102, r21_103, r21_104, r21_107, r21_108, r21_110, r21_113, r21_113n, r21_114, r21_117, r21_118, r21_119, r21_122, r21_123, r21_125, r21_128, r21_128n, r21_129, r21_132, r21_133, r21_134, r21_137, r21_138, r21_140, r21_143, r21_143n, r21_144, r21_147, r21_148, r21_149, r21_152, r21_153, r21_155, r21_158, r21_158n, r21_159, r21_162, r21_163, r21_164, r21_167, r21_168, r21_170, r21_173, r21_173n, r21_174, r21_177, r21_178, r21_179, r21_182, r21_183, r21_185, r21_188, r21_189, r21_189n, r21_190, r21_193, r21_196, kdC, kdM, rpC, rpM, q_rs, q_rn, Option.toList_some, Option.toList_none, List.cons_append, List.nil_append, true_and, and_true, eq_self, ↓reduceIte, not_true_eq_false, not_false_eq_true, Nat.reduceEqDiff, Nat.reduceLeDiff, Nat.reduceLT, Nat.reduceAdd, Nat.reduceMul, Nat.reduceSub, false_or, or_false, true_or, or_true, false_and, and_false, reduceCtorEq, q_n0, q_n1, q_em, q_em2, q_b0, q_b1, Classical.not_not, nI_add, pk_mul, nI_clamp, q_vp, nI_eq, nI_leI, nI_ltI, q_sub, Nat.lt_irrefl, Nat.le_refl, Nat.zero_add, Nat.not_lt_zero, cpy1_f, cpi_f, cpH, cpG]
theorem l59_25_0 (hx : ∀ i, i < 10 → ∀ a, gP h 25 i = some a → 121 ≤ a ∧ hk h a = (9, 2)) : ∀ k i, i + k = 10 → wp true d 59 49 [.ref 27, .ref 2, .int (nI i)] [] (cpT h 25 0 i) F = wp true d 59 73 [.ref 27, .ref 2, .int (nI 10)] [] (cpT h 25 0 10) F
  | 0, i, e => by
    obtain rfl : i = 10 := e
    rw [r59_49]
    simp (disch := omega) only [r59_50, r59_52, kdC, kdM, rpC, rpM, q_rs, q_rn, Option.toList_some, Option.toList_none, List.cons_append, List.nil_append, true_and, and_true, eq_self, ↓reduceIte, not_true_eq_false, not_false_eq_true, Nat.reduceEqDiff, Nat.reduceLeDiff, Nat.reduceLT, Nat.reduceAdd, Nat.reduceMul, Nat.reduceSub, false_or, or_false, true_or, or_true, false_and, and_false, reduceCtorEq, q_n0, q_n1, q_em, q_em2, q_b0, q_b1, Classical.not_not, nI_add, pk_mul, nI_clamp, q_vp, nI_eq, nI_leI, nI_ltI, q_sub, Nat.le_refl]
  | k + 1, i, e => by
    refine Eq.trans ?_ (l59_25_0 hx k (i + 1) (by omega))
    have hi : i < 10 := by omega
    have hq : gP (cpT h 25 0 i) 25 i = gP h 25 i := congrFun (cpT_q h (p := 25) (q := 0) (by omega) i) i
    show _ = wp true d 59 49 [.ref 27, .ref 2, .int (nI (i + 1))] [] (sP (cpT h 25 0 i) 50 i (gP h 25 i)) F
    rw [r59_49]
    cases eg : gP h 25 i with
    | none =>
      rw [eg] at hq
      simp (disch := omega) only [r59_50, r59_52, r59_55, r59_56, r59_59, r59_60, r59_60n, r59_61, r59_64, r59_65, r59_66, r59_66n, r59_67, r59_70, kdC, kdM, rpC, rpM, q_rs, q_rn, Option.toList_some, Option.toList_none, List.cons_append, List.nil_append, true_and, and_true, eq_self, ↓reduceIte, not_true_eq_false, not_false_eq_true, Nat.reduceEqDiff, Nat.reduceLeDiff, Nat.reduceLT, Nat.reduceAdd, Nat.reduceMul, Nat.reduceSub, false_or, or_false, true_or, or_true, false_and, and_false, reduceCtorEq, q_n0, q_n1, q_em, q_em2, q_b0, q_b1, Classical.not_not, nI_add, pk_mul, nI_clamp, q_vp, nI_eq, nI_leI, nI_ltI, q_sub, show ¬ 10 ≤ i by omega, rpT, wkT, hq, hi, elc]
    | some a =>
      rw [eg] at hq
      obtain ⟨ha, hka⟩ := hx i hi a eg
      have hk2 : kdm true (cpT h 25 0 i) a = (9, 2) := by rw [kd_big ha, cpT_k, hka]
      simp (disch := omega) only [r59_50, r59_52, r59_55, r59_56, r59_59, r59_60, r59_60n, r59_61, r59_64, r59_65, r59_66, r59_66n, r59_67, r59_70, kdC, kdM, rpC, rpM, q_rs, q_rn, Option.toList_some, Option.toList_none, List.cons_append, List.nil_append, true_and, and_true, eq_self, ↓reduceIte, not_true_eq_false, not_false_eq_true, Nat.reduceEqDiff, Nat.reduceLeDiff, Nat.reduceLT, Nat.reduceAdd, Nat.reduceMul, Nat.reduceSub, false_or, or_false, true_or, or_true, false_and, and_false, reduceCtorEq, q_n0, q_n1, q_em, q_em2, q_b0, q_b1, Classical.not_not, nI_add, pk_mul, nI_clamp, q_vp, nI_eq, nI_leI, nI_ltI, q_sub, show ¬ 10 ≤ i by omega, rpT, wkT, hq, hi, hk2, elc]
theorem c59_25_0 (hx : ∀ i, i < 10 → ∀ a, gP h 25 i = some a → 121 ≤ a ∧ hk h a = (9, 2)) : cwp true (d + 1) 59 [.ref 27, .ref 2] h F = F none (cpS h 25 0) := by
  have x := cpX_d (p := 25) (q := 0) h (by unfold okPQ; omega)
  have hl := l59_25_0 (d + 1) (cpX h 25 0) F (by rw [x.1.2.2.2, x.1.2.2.1]; exact hx) 10 0 (by omega)
  rw [show cpT (cpX h 25 0) 25 0 0 = cpX h 25 0 from rfl] at hl
  simp only [cpX, Nat.reduceAdd] at hl
  simp (disch := omega) only [r59_0, r59_1, r59_4, r59_4n, r59_5, r59_8, r59_11, r59_12, r59_15, r59_15n, r59_16, r59_19, r59_22, r59_23, r59_26, r59_26n, r59_27, r59_30, r59_33, r59_33n, r59_34, r59_37, r59_38, r59_39, r59_42, r59_43, r59_44, r59_47, r59_48, e59, c10_25_0, c6_25_0, c21_25_0, kdC, kdM, rpC, rpM, q_rs, q_rn, Option.toList_some, Option.toList_none, List.cons_append, List.nil_append, true_and, and_true, eq_self, ↓reduceIte, not_true_eq_false, not_false_eq_true, Nat.reduceEqDiff, Nat.reduceLeDiff, Nat.reduceLT, Nat.reduceAdd, Nat.reduceMul, Nat.reduceSub, false_or, or_false, true_or, or_true, false_and, and_false, reduceCtorEq, q_n0, q_n1, q_em, q_em2, q_b0, q_b1, Classical.not_not, nI_add, pk_mul, nI_clamp, q_vp, nI_eq, nI_leI, nI_ltI, q_sub, Nat.lt_irrefl, Nat.le_refl, Nat.zero_add, Nat.not_lt_zero, cpy1_f]
  refine Eq.trans hl ?_
  simp (disch := omega) only [r59_73, r59_74, r59_74n, r59_75, r59_78, r59_81, kdC, kdM, rpC, rpM, q_rs, q_rn, Option.toList_some, Option.toList_none, List.cons_append, List.nil_append, true_and, and_true, eq_self, ↓reduceIte, not_true_eq_false, not_false_eq_true, Nat.reduceEqDiff, Nat.reduceLeDiff, Nat.reduceLT, Nat.reduceAdd, Nat.reduceMul, Nat.reduceSub, false_or, or_false, true_or, or_true, false_and, and_false, reduceCtorEq, q_n0, q_n1, q_em, q_em2, q_b0, q_b1, Classical.not_not, nI_add, pk_mul, nI_clamp, q_vp, nI_eq, nI_leI, nI_ltI, q_sub, cpi_f, cpS, cpX]
theorem c10_49_0 : cwp true d 10 [.ref 52, .ref 3] h F = F none (cpF h 49 0) := by
  simp (disch := omega) only [e10, r10_0, r10_0n, r10_1, r10_4, r10_5, r10_6, r10_9, r10_10, r10_12, r10_15, r10_15n, r10_16, r10_19, r10_20, r10_21, r10_24, r10_25, r10_27, r10_30, r10_30n, r10_31, r10_34, r10_35, r10_36, r10_39, r10_40, r10_42, r10_45, r10_45n, r10_46, r10_49, r10_50, r10_51, r10_54, r10_55, r10_58, r10_61, r10_62, r10_62n, r10_63, r10_66, r10_69, kdC, kdM, rpC, rpM, q_rs, q_rn, Option.toList_some, Option.toList_none, List.cons_append, List.nil_append, true_and, and_true, eq_self, ↓reduceIte, not_true_eq_false, not_false_eq_true, Nat.reduceEqDiff, Nat.reduceLeDiff, Nat.reduceLT, Nat.reduceAdd, Nat.reduceMul, Nat.reduceSub, false_or, or_false, true_or, or_true, false_and, and_false, reduceCtorEq, q_n0, q_n1, q_em, q_em2, q_b0, q_b1, Classical.not_not, nI_add, pk_mul, nI_clamp, q_vp, nI_eq, nI_leI, nI_ltI, q_sub, Nat.lt_irrefl, Nat.le_refl, Nat.zero_add, Nat.not_lt_zero, cpy1_f, cpi_f, cpF]
theorem c6_49_0 : cwp true d 6 [.ref 57, .ref 8] h F = F none (cpB h 49 0) := by
  simp (disch := omega) only [e6, r6_0, r6_0n, r6_1, r6_4, r6_5, r6_6, r6_9, r6_10, r6_12, r6_15, r6_15n, r6_16, r6_19, r6_20, r6_21, r6_24, r6_25, r6_27, r6_30, r6_31, r6_31n, r6_32, r6_35, r6_38, kdC, kdM, rpC, rpM, q_rs, q_rn, Option.toList_some, Option.toList_none, List.cons_append, List.nil_append, true_and, and_true, eq_self, ↓reduceIte, not_true_eq_false, not_false_eq_true, Nat.reduceEqDiff, Nat.reduceLeDiff, Nat.reduceLT, Nat.reduceAdd, Nat.reduceMul, Nat.reduceSub, false_or, or_false, true_or, or_true, false_and, and_false, reduceCtorEq, q_n0, q_n1, q_em, q_em2, q_b0, q_b1, Classical.not_not, nI_add, pk_mul, nI_clamp, q_vp, nI_eq, nI_leI, nI_ltI, q_sub, Nat.lt_irrefl, Nat.le_refl, Nat.zero_add, Nat.not_lt_zero, cpy1_f, cpi_f, cpB]
theorem c21_49_0 : cwp true d 21 [.ref 60, .ref 11] h F = F none (cpH h 49 0) := by
  simp (disch := omega) only [e21, r21_0, r21_0n, r21_1, r21_4, r21_5, r21_6, r21_9, r21_10, r21_12, r21_15, r21_15n, r21_16, r21_19, r21_20, r21_21, r21_24, r21_25, r21_27, r21_30, r21_30n, r21_31, r21_34, r21_35, r21_36, r21_39, r21_40, r21_42, r21_45, r21_45n, r21_46, r21_49, r21_50, r21_51, r21_54, r21_55, r21_57, r21_60, r21_60n, r21_61, r21_64, r21_65, r21_66, r21_69, r21_70, r21_72, r21_75, r21_76, r21_76n, r21_77, r21_80, r21_83, r21_83n, r21_84, r21_87, r21_88, r21_89, r21_92, r21_93, r21_95, r21_98, r21_98n, r21_99, r21_102, r21_103, r21_104, r21_107, r21_108, r21_110, r21_113, r21_113n, r21_114, r21_117, r21_118, r21_119, r21_122, r21_123, r21_125, r21_128, r21_128n, r21_129, r21_132, r21_133, r21_134, r21_137, r21_138, r21_140, r21_143, r21_143n, r21_144, r21_147, r21_148, r21_149, r21_152, r21_153, r21_155, r21_158, r21_158n, r21_159, r21_162, r21_163, r21_164, r21_167, r21_168, r21_170, r21_173, r21_173n, r21_174, r21_177, r21_178, r21_179, r21_182, r21_183, r21_185, r21_188, r21_189, r21_189n, r21_190, r21_193, r21_196, kdC, kdM, rpC, rpM, q_rs, q_rn, Option.toList_some, Option.toList_none, List.cons_append, List.nil_append, true_and, and_true, eq_self, ↓reduceIte, not_true_eq_false, not_false_eq_true, Nat.reduceEqDiff, Nat.reduceLeDiff, Nat.reduceLT, Nat.reduceAdd, Nat.reduceMul, Nat.reduceSub, false_or, or_false, true_or, or_true, false_and, and_false, reduceCtorEq, q_n0, q_n1, q_em, q_em2, q_b0, q_b1, Classical.not_not, nI_add, pk_mul, nI_clamp, q_vp, nI_eq, nI_leI, nI_ltI, q_sub, Nat.lt_irrefl, Nat.le_refl, Nat.zero_add, Nat.not_lt_zero, cpy1_f, cpi_f, cpH, cpG]
theorem l59_49_0 (hx : ∀ i, i < 10 → ∀ a, gP h 25 i = some a → 121 ≤ a ∧ hk h a = (9, 2)) : ∀ k i, i + k = 10 → wp true d 59 49 [.ref 51, .ref 2, .int (nI i)] [] (cpT h 49 0 i) F = wp true d 59 73 [.ref 51, .ref 2, .int (nI 10)] [] (cpT h 49 0 10) F
  | 0, i, e => by
    obtain rfl : i = 10 := e
    rw [r59_49]
    simp (disch := omega) only [r59_50, r59_52, kdC, kdM, rpC, rpM, q_rs, q_rn, Option.toList_some, Option.toList_none, List.cons_append, List.nil_append, true_and, and_true, eq_self, ↓reduceIte, not_true_eq_false, not_false_eq_true, Nat.reduceEqDiff, Nat.reduceLeDiff, Nat.reduceLT, Nat.reduceAdd, Nat.reduceMul, Nat.reduceSub, false_or, or_false, true_or, or_true, false_and, and_false, reduceCtorEq, q_n0, q_n1, q_em, q_em2, q_b0, q_b1, Classical.not_not, nI_add, pk_mul, nI_clamp, q_vp, nI_eq, nI_leI, nI_ltI, q_sub, Nat.le_refl]
  | k + 1, i, e => by
    refine Eq.trans ?_ (l59_49_0 hx k (i + 1) (by omega))
    have hi : i < 10 := by omega
    have hq : gP (cpT h 49 0 i) 25 i = gP h 25 i := congrFun (cpT_q h (p := 49) (q := 0) (by omega) i) i
    show _ = wp true d 59 49 [.ref 51, .ref 2, .int (nI (i + 1))] [] (sP (cpT h 49 0 i) 74 i (gP h 25 i)) F
    rw [r59_49]
    cases eg : gP h 25 i with
    | none =>
      rw [eg] at hq
      simp (disch := omega) only [r59_50, r59_52, r59_55, r59_56, r59_59, r59_60, r59_60n, r59_61, r59_64, r59_65, r59_66, r59_66n, r59_67, r59_70, kdC, kdM, rpC, rpM, q_rs, q_rn, Option.toList_some, Option.toList_none, List.cons_append, List.nil_append, true_and, and_true, eq_self, ↓reduceIte, not_true_eq_false, not_false_eq_true, Nat.reduceEqDiff, Nat.reduceLeDiff, Nat.reduceLT, Nat.reduceAdd, Nat.reduceMul, Nat.reduceSub, false_or, or_false, true_or, or_true, false_and, and_false, reduceCtorEq, q_n0, q_n1, q_em, q_em2, q_b0, q_b1, Classical.not_not, nI_add, pk_mul, nI_clamp, q_vp, nI_eq, nI_leI, nI_ltI, q_sub, show ¬ 10 ≤ i by omega, rpT, wkT, hq, hi, elc]
    | some a =>
      rw [eg] at hq
      obtain ⟨ha, hka⟩ := hx i hi a eg
      have hk2 : kdm true (cpT h 49 0 i) a = (9, 2) := by rw [kd_big ha, cpT_k, hka]
      simp (disch := omega) only [r59_50, r59_52, r59_55, r59_56, r59_59, r59_60, r59_60n, r59_61, r59_64, r59_65, r59_66, r59_66n, r59_67, r59_70, kdC, kdM, rpC, rpM, q_rs, q_rn, Option.toList_some, Option.toList_none, List.cons_append, List.nil_append, true_and, and_true, eq_self, ↓reduceIte, not_true_eq_false, not_false_eq_true, Nat.reduceEqDiff, Nat.reduceLeDiff, Nat.reduceLT, Nat.reduceAdd, Nat.reduceMul, Nat.reduceSub, false_or, or_false, true_or, or_true, false_and, and_false, reduceCtorEq, q_n0, q_n1, q_em, q_em2, q_b0, q_b1, Classical.not_not, nI_add, pk_mul, nI_clamp, q_vp, nI_eq, nI_leI, nI_ltI, q_sub, show ¬ 10 ≤ i by omega, rpT, wkT, hq, hi, hk2, elc]
theorem c59_49_0 (hx : ∀ i, i < 10 → ∀ a, gP h 25 i = some a → 121 ≤ a ∧ hk h a = (9, 2)) : cwp true (d + 1) 59 [.ref 51, .ref 2] h F = F none (cpS h 49 0) := by
  have x := cpX_d (p := 49) (q := 0) h (by unfold okPQ; omega)
  have hl := l59_49_0 (d + 1) (cpX h 49 0) F (by rw [x.1.2.2.2, x.1.2.2.1]; exact hx) 10 0 (by omega)
  rw [show cpT (cpX h 49 0) 49 0 0 = cpX h 49 0 from rfl] at hl
  simp only [cpX, Nat.reduceAdd] at hl
  simp (disch := omega) only [r59_0, r59_1, r59_4, r59_4n, r59_5, r59_8, r59_11, r59_12, r59_15, r59_15n, r59_16, r59_19, r59_22, r59_23, r59_26, r59_26n, r59_27, r59_30, r59_33, r59_33n, r59_34, r59_37, r59_38, r59_39, r59_42, r59_43, r59_44, r59_47, r59_48, e59, c10_49_0, c6_49_0, c21_49_0, kdC, kdM, rpC, rpM, q_rs, q_rn, Option.toList_some, Option.toList_none, List.cons_append, List.nil_append, true_and, and_true, eq_self, ↓reduceIte, not_true_eq_false, not_false_eq_true, Nat.reduceEqDiff, Nat.reduceLeDiff, Nat.reduceLT, Nat.reduceAdd, Nat.reduceMul, Nat.reduceSub, false_or, or_false, true_or, or_true, false_and, and_false, reduceCtorEq, q_n0, q_n1, q_em, q_em2, q_b0, q_b1, Classical.not_not, nI_add, pk_mul, nI_clamp, q_vp, nI_eq, nI_leI, nI_ltI, q_sub, Nat.lt_irrefl, Nat.le_refl, Nat.zero_add, Nat.not_lt_zero, cpy1_f]
  refine Eq.trans hl ?_
  simp (disch := omega) only [r59_73, r59_74, r59_74n, r59_75, r59_78, r59_81, kdC, kdM, rpC, rpM, q_rs, q_rn, Option.toList_some, Option.toList_none, List.cons_append, List.nil_append, true_and, and_true, eq_self, ↓reduceIte, not_true_eq_false, not_false_eq_true, Nat.reduceEqDiff, Nat.reduceLeDiff, Nat.reduceLT, Nat.reduceAdd, Nat.reduceMul, Nat.reduceSub, false_or, or_false, true_or, or_true, false_and, and_false, reduceCtorEq, q_n0, q_n1, q_em, q_em2, q_b0, q_b1, Classical.not_not, nI_add, pk_mul, nI_clamp, q_vp, nI_eq, nI_leI, nI_ltI, q_sub, cpi_f, cpS, cpX]
theorem c10_0_25 : cwp true d 10 [.ref 3, .ref 28] h F = F none (cpF h 0 25) := by
  simp (disch := omega) only [e10, r10_0, r10_0n, r10_1, r10_4, r10_5, r10_6, r10_9, r10_10, r10_12, r10_15, r10_15n, r10_16, r10_19, r10_20, r10_21, r10_24, r10_25, r10_27, r10_30, r10_30n, r10_31, r10_34, r10_35, r10_36, r10_39, r10_40, r10_42, r10_45, r10_45n, r10_46, r10_49, r10_50, r10_51, r10_54, r10_55, r10_58, r10_61, r10_62, r10_62n, r10_63, r10_66, r10_69, kdC, kdM, rpC, rpM, q_rs, q_rn, Option.toList_some, Option.toList_none, List.cons_append, List.nil_append, true_and, and_true, eq_self, ↓reduceIte, not_true_eq_false, not_false_eq_true, Nat.reduceEqDiff, Nat.reduceLeDiff, Nat.reduceLT, Nat.reduceAdd, Nat.reduceMul, Nat.reduceSub, false_or, or_false, true_or, or_true, false_and, and_false, reduceCtorEq, q_n0, q_n1, q_em, q_em2, q_b0, q_b1, Classical.not_not, nI_add, pk_mul, nI_clamp, q_vp, nI_eq, nI_leI, nI_ltI, q_sub, Nat.lt_irrefl, Nat.le_refl, Nat.zero_add, Nat.not_lt_zero, cpy1_f, cpi_f, cpF]
theorem c6_0_25 : cwp true d 6 [.ref 8, .ref 33] h F = F none (cpB h 0 25) := by
  simp (disch := omega) only [e6, r6_0, r6_0n, r6_1, r6_4, r6_5, r6_6, r6_9, r6_10, r6_12, r6_15, r6_15n, r6_16, r6_19, r6_20, r6_21, r6_24, r6_25, r6_27, r6_30, r6_31, r6_31n, r6_32, r6_35, r6_38, kdC, kdM, rpC, rpM, q_rs, q_rn, Option.toList_some, Option.toList_none, List.cons_append, List.nil_append, true_and, and_true, eq_self, ↓reduceIte, not_true_eq_false, not_false_eq_true, Nat.reduceEqDiff, Nat.reduceLeDiff, Nat.reduceLT, Nat.reduceAdd, Nat.reduceMul, Nat.reduceSub, false_or, or_false, true_or, or_true, false_and, and_false, reduceCtorEq, q_n0, q_n1, q_em, q_em2, q_b0, q_b1, Classical.not_not, nI_add, pk_mul, nI_clamp, q_vp, nI_eq, nI_leI, nI_ltI, q_sub, Nat.lt_irrefl, Nat.le_refl, Nat.zero_add, Nat.not_lt_zero, cpy1_f, cpi_f, cpB]
theorem c21_0_25 : cwp true d 21 [.ref 11, .ref 36] h F = F none (cpH h 0 25) := by
  simp (disch := omega) only [e21, r21_0, r21_0n, r21_1, r21_4, r21_5, r21_6, r21_9, r21_10, r21_12, r21_15, r21_15n, r21_16, r21_19, r21_20, r21_21, r21_24, r21_25, r21_27, r21_30, r21_30n, r21_31, r21_34, r21_35, r21_36, r21_39, r21_40, r21_42, r21_45, r21_45n, r21_46, r21_49, r21_50, r21_51, r21_54, r21_55, r21_57, r21_60, r21_60n, r21_61, r21_64, r21_65, r21_66, r21_69, r21_70, r21_72, r21_75, r21_76, r21_76n, r21_77, r21_80, r21_83, r21_83n, r21_84, r21_87, r21_88, r21_89, r21_92, r21_93, r21_95, r21_98, r21_98n, r21_99, r21_102, r21_103, r21_104, r21_107, r21_108, r21_110, r21_113, r21_113n, r21_114, r21_117, r21_118, r21_119, r21_122, r21_123, r21_125, r21_128, r21_128n, r21_129, r21_132, r21_133, r21_134, r21_137, r21_138, r21_140, r21_143, r21_143n, r21_144, r21_147, r21_148, r21_149, r21_152, r21_153, r21_155, r21_158, r21_158n, r21_159, r21_162, r21_163, r21_164, r21_167, r21_168, r21_170, r21_173, r21_173n, r21_174, r21_177, r21_178, r21_179, r21_182, r21_183, r21_185, r21_188, r21_189, r21_189n, r21_190, r21_193, r21_196, kdC, kdM, rpC, rpM, q_rs, q_rn, Option.toList_some, Option.toList_none, List.cons_append, List.nil_append, true_and, and_true, eq_self, ↓reduceIte, not_true_eq_false, not_false_eq_true, Nat.reduceEqDiff, Nat.reduceLeDiff, Nat.reduceLT, Nat.reduceAdd, Nat.reduceMul, Nat.reduceSub, false_or, or_false, true_or, or_true, false_and, and_false, reduceCtorEq, q_n0, q_n1, q_em, q_em2, q_b0, q_b1, Classical.not_not, nI_add, pk_mul, nI_clamp, q_vp, nI_eq, nI_leI, nI_ltI, q_sub, Nat.lt_irrefl, Nat.le_refl, Nat.zero_add, Nat.not_lt_zero, cpy1_f, cpi_f, cpH, cpG]
theorem l59_0_25 (hx : ∀ i, i < 10 → ∀ a, gP h 50 i = some a → 121 ≤ a ∧ hk h a = (9, 2)) : ∀ k i, i + k = 10 → wp true d 59 49 [.ref 2, .ref 27, .int (nI i)] [] (cpT h 0 25 i) F = wp true d 59 73 [.ref 2, .ref 27, .int (nI 10)] [] (cpT h 0 25 10) F
  | 0, i, e => by
    obtain rfl : i = 10 := e
    rw [r59_49]
    simp (disch := omega) only [r59_50, r59_52, kdC, kdM, rpC, rpM, q_rs, q_rn, Option.toList_some, Option.toList_none, List.cons_append, List.nil_append, true_and, and_true, eq_self, ↓reduceIte, not_true_eq_false, not_false_eq_true, Nat.reduceEqDiff, Nat.reduceLeDiff, Nat.reduceLT, Nat.reduceAdd, Nat.reduceMul, Nat.reduceSub, false_or, or_false, true_or, or_true, false_and, and_false, reduceCtorEq, q_n0, q_n1, q_em, q_em2, q_b0, q_b1, Classical.not_not, nI_add, pk_mul, nI_clamp, q_vp, nI_eq, nI_leI, nI_ltI, q_sub, Nat.le_refl]
  | k + 1, i, e => by
    refine Eq.trans ?_ (l59_0_25 hx k (i + 1) (by omega))
    have hi : i < 10 := by omega
    have hq : gP (cpT h 0 25 i) 50 i = gP h 50 i := congrFun (cpT_q h (p := 0) (q := 25) (by omega) i) i
    show _ = wp true d 59 49 [.ref 2, .ref 27, .int (nI (i + 1))] [] (sP (cpT h 0 25 i) 25 i (gP h 50 i)) F
    rw [r59_49]
    cases eg : gP h 50 i with
    | none =>
      rw [eg] at hq
      simp (disch := omega) only [r59_50, r59_52, r59_55, r59_56, r59_59, r59_60, r59_60n, r59_61, r59_64, r59_65, r59_66, r59_66n, r59_67, r59_70, kdC, kdM, rpC, rpM, q_rs, q_rn, Option.toList_some, Option.toList_none, List.cons_append, List.nil_append, true_and, and_true, eq_self, ↓reduceIte, not_true_eq_false, not_false_eq_true, Nat.reduceEqDiff, Nat.reduceLeDiff, Nat.reduceLT, Nat.reduceAdd, Nat.reduceMul, Nat.reduceSub, false_or, or_false, true_or, or_true, false_and, and_false, reduceCtorEq, q_n0, q_n1, q_em, q_em2, q_b0, q_b1, Classical.not_not, nI_add, pk_mul, nI_clamp, q_vp, nI_eq, nI_leI, nI_ltI, q_sub, show ¬ 10 ≤ i by omega, rpT, wkT, hq, hi, elc]
    | some a =>
      rw [eg] at hq
      obtain ⟨ha, hka⟩ := hx i hi a eg
      have hk2 : kdm true (cpT h 0 25 i) a = (9, 2) := by rw [kd_big ha, cpT_k, hka]
      simp (disch := omega) only [r59_50, r59_52, r59_55, r59_56, r59_59, r59_60, r59_60n, r59_61, r59_64, r59_65, r59_66, r59_66n, r59_67, r59_70, kdC, kdM, rpC, rpM, q_rs, q_rn, Option.toList_some, Option.toList_none, List.cons_append, List.nil_append, true_and, and_true, eq_self, ↓reduceIte, not_true_eq_false, not_false_eq_true, Nat.reduceEqDiff, Nat.reduceLeDiff, Nat.reduceLT, Nat.reduceAdd, Nat.reduceMul, Nat.reduceSub, false_or, or_false, true_or, or_true, false_and, and_false, reduceCtorEq, q_n0, q_n1, q_em, q_em2, q_b0, q_b1, Classical.not_not, nI_add, pk_mul, nI_clamp, q_vp, nI_eq, nI_leI, nI_ltI, q_sub, show ¬ 10 ≤ i by omega, rpT, wkT, hq, hi, hk2, elc]
theorem c59_0_25 (hx : ∀ i, i < 10 → ∀ a, gP h 50 i = some a → 121 ≤ a ∧ hk h a = (9, 2)) : cwp true (d + 1) 59 [.ref 2, .ref 27] h F = F none (cpS h 0 25) := by
  have x := cpX_d (p := 0) (q := 25) h (by unfold okPQ; omega)
  have hl := l59_0_25 (d + 1) (cpX h 0 25) F (by rw [x.1.2.2.2, x.1.2.2.1]; exact hx) 10 0 (by omega)
  rw [show cpT (cpX h 0 25) 0 25 0 = cpX h 0 25 from rfl] at hl
  simp only [cpX, Nat.reduceAdd] at hl
  simp (disch := omega) only [r59_0, r59_1, r59_4, r59_4n, r59_5, r59_8, r59_11, r59_12, r59_15, r59_15n, r59_16, r59_19, r59_22, r59_23, r59_26, r59_26n, r59_27, r59_30, r59_33, r59_33n, r59_34, r59_37, r59_38, r59_39, r59_42, r59_43, r59_44, r59_47, r59_48, e59, c10_0_25, c6_0_25, c21_0_25, kdC, kdM, rpC, rpM, q_rs, q_rn, Option.toList_some, Option.toList_none, List.cons_append, List.nil_append, true_and, and_true, eq_self, ↓reduceIte, not_true_eq_false, not_false_eq_true, Nat.reduceEqDiff, Nat.reduceLeDiff, Nat.reduceLT, Nat.reduceAdd, Nat.reduceMul, Nat.reduceSub, false_or, or_false, true_or, or_true, false_and, and_false, reduceCtorEq, q_n0, q_n1, q_em, q_em2, q_b0, q_b1, Classical.not_not, nI_add, pk_mul, nI_clamp, q_vp, nI_eq, nI_leI, nI_ltI, q_sub, Nat.lt_irrefl, Nat.le_refl, Nat.zero_add, Nat.not_lt_zero, cpy1_f]
  refine Eq.trans hl ?_
  simp (disch := omega) only [r59_73, r59_74, r59_74n, r59_75, r59_78, r59_81, kdC, kdM, rpC, rpM, q_rs, q_rn, Option.toList_some, Option.toList_none, List.cons_append, List.nil_append, true_and, and_true, eq_self, ↓reduceIte, not_true_eq_false, not_false_eq_true, Nat.reduceEqDiff, Nat.reduceLeDiff, Nat.reduceLT, Nat.reduceAdd, Nat.reduceMul, Nat.reduceSub, false_or, or_false, true_or, or_true, false_and, and_false, reduceCtorEq, q_n0, q_n1, q_em, q_em2, q_b0, q_b1, Classical.not_not, nI_add, pk_mul, nI_clamp, q_vp, nI_eq, nI_leI, nI_ltI, q_sub, cpi_f, cpS, cpX]
theorem c10_0_49 : cwp true d 10 [.ref 3, .ref 52] h F = F none (cpF h 0 49) := by
  simp (disch := omega) only [e10, r10_0, r10_0n, r10_1, r10_4, r10_5, r10_6, r10_9, r10_10, r10_12, r10_15, r10_15n, r10_16, r10_19, r10_20, r10_21, r10_24, r10_25, r10_27, r10_30, r10_30n, r10_31, r10_34, r10_35, r10_36, r10_39, r10_40, r10_42, r10_45, r10_45n, r10_46, r10_49, r10_50, r10_51, r10_54, r10_55, r10_58, r10_61, r10_62, r10_62n, r10_63, r10_66, r10_69, kdC, kdM, rpC, rpM, q_rs, q_rn, Option.toList_some, Option.toList_none, List.cons_append, List.nil_append, true_and, and_true, eq_self, ↓reduceIte, not_true_eq_false, not_false_eq_true, Nat.reduceEqDiff, Nat.reduceLeDiff, Nat.reduceLT, Nat.reduceAdd, Nat.reduceMul, Nat.reduceSub, false_or, or_false, true_or, or_true, false_and, and_false, reduceCtorEq, q_n0, q_n1, q_em, q_em2, q_b0, q_b1, Classical.not_not, nI_add, pk_mul, nI_clamp, q_vp, nI_eq, nI_leI, nI_ltI, q_sub, Nat.lt_irrefl, Nat.le_refl, Nat.zero_add, Nat.not_lt_zero, cpy1_f, cpi_f, cpF]
theorem c6_0_49 : cwp true d 6 [.ref 8, .ref 57] h F = F none (cpB h 0 49) := by
  simp (disch := omega) only [e6, r6_0, r6_0n, r6_1, r6_4, r6_5, r6_6, r6_9, r6_10, r6_12, r6_15, r6_15n, r6_16, r6_19, r6_20, r6_21, r6_24, r6_25, r6_27, r6_30, r6_31, r6_31n, r6_32, r6_35, r6_38, kdC, kdM, rpC, rpM, q_rs, q_rn, Option.toList_some, Option.toList_none, List.cons_append, List.nil_append, true_and, and_true, eq_self, ↓reduceIte, not_true_eq_false, not_false_eq_true, Nat.reduceEqDiff, Nat.reduceLeDiff, Nat.reduceLT, Nat.reduceAdd, Nat.reduceMul, Nat.reduceSub, false_or, or_false, true_or, or_true, false_and, and_false, reduceCtorEq, q_n0, q_n1, q_em, q_em2, q_b0, q_b1, Classical.not_not, nI_add, pk_mul, nI_clamp, q_vp, nI_eq, nI_leI, nI_ltI, q_sub, Nat.lt_irrefl, Nat.le_refl, Nat.zero_add, Nat.not_lt_zero, cpy1_f, cpi_f, cpB]
theorem c21_0_49 : cwp true d 21 [.ref 11, .ref 60] h F = F none (cpH h 0 49) := by
  simp (disch := omega) only [e21, r21_0, r21_0n, r21_1, r21_4, r21_5, r21_6, r21_9, r21_10, r21_12, r21_15, r21_15n, r21_16, r21_19, r21_20, r21_21, r21_24, r21_25, r21_27, r21_30, r21_30n, r21_31, r21_34, r21_35, r21_36, r21_39, r21_40, r21_42, r21_45, r21_45n, r21_46, r21_49, r21_50, r21_51, r21_54, r21_55, r21_57, r21_60, r21_60n, r21_61, r21_64, r21_65, r21_66, r21_69, r21_70, r21_72, r21_75, r21_76, r21_76n, r21_77, r21_80, r21_83, r21_83n, r21_84, r21_87, r21_88, r21_89, r21_92, r21_93, r21_95, r21_98, r21_98n, r21_99, r21_102, r21_103, r21_104, r21_107, r21_108, r21_110, r21_113, r21_113n, r21_114, r21_117, r21_118, r21_119, r21_122, r21_123, r21_125, r21_128, r21_128n, r21_129, r21_132, r21_133, r21_134, r21_137, r21_138, r21_140, r21_143, r21_143n, r21_144, r21_147, r21_148, r21_149, r21_152, r21_153, r21_155, r21_158, r21_158n, r21_159, r21_162, r21_163, r21_164, r21_167, r21_168, r21_170, r21_173, r21_173n, r21_174, r21_177, r21_178, r21_179, r21_182, r21_183, r21_185, r21_188, r21_189, r21_189n, r21_190, r21_193, r21_196, kdC, kdM, rpC, rpM, q_rs, q_rn, Option.toList_some, Option.toList_none, List.cons_append, List.nil_append, true_and, and_true, eq_self, ↓reduceIte, not_true_eq_false, not_false_eq_true, Nat.reduceEqDiff, Nat.reduceLeDiff, Nat.reduceLT, Nat.reduceAdd, Nat.reduceMul, Nat.reduceSub, false_or, or_false, true_or, or_true, false_and, and_false, reduceCtorEq, q_n0, q_n1, q_em, q_em2, q_b0, q_b1, Classical.not_not, nI_add, pk_mul, nI_clamp, q_vp, nI_eq, nI_leI, nI_ltI, q_sub, Nat.lt_irrefl, Nat.le_refl, Nat.zero_add, Nat.not_lt_zero, cpy1_f, cpi_f, cpH, cpG]
theorem l59_0_49 (hx : ∀ i, i < 10 → ∀ a, gP h 74 i = some a → 121 ≤ a ∧ hk h a = (9, 2)) : ∀ k i, i + k = 10 → wp true d 59 49 [.ref 2, .ref 51, .int (nI i)] [] (cpT h 0 49 i) F = wp true d 59 73 [.ref 2, .ref 51, .int (nI 10)] [] (cpT h 0 49 10) F
  | 0, i, e => by
    obtain rfl : i = 10 := e
    rw [r59_49]
    simp (disch := omega) only [r59_50, r59_52, kdC, kdM, rpC, rpM, q_rs, q_rn, Option.toList_some, Option.toList_none, List.cons_append, List.nil_append, true_and, and_true, eq_self, ↓reduceIte, not_true_eq_false, not_false_eq_true, Nat.reduceEqDiff, Nat.reduceLeDiff, Nat.reduceLT, Nat.reduceAdd, Nat.reduceMul, Nat.reduceSub, false_or, or_false, true_or, or_true, false_and, and_false, reduceCtorEq, q_n0, q_n1, q_em, q_em2, q_b0, q_b1, Classical.not_not, nI_add, pk_mul, nI_clamp, q_vp, nI_eq, nI_leI, nI_ltI, q_sub, Nat.le_refl]
  | k + 1, i, e => by
    refine Eq.trans ?_ (l59_0_49 hx k (i + 1) (by omega))
    have hi : i < 10 := by omega
    have hq : gP (cpT h 0 49 i) 74 i = gP h 74 i := congrFun (cpT_q h (p := 0) (q := 49) (by omega) i) i
    show _ = wp true d 59 49 [.ref 2, .ref 51, .int (nI (i + 1))] [] (sP (cpT h 0 49 i) 25 i (gP h 74 i)) F
    rw [r59_49]
    cases eg : gP h 74 i with
    | none =>
      rw [eg] at hq
      simp (disch := omega) only [r59_50, r59_52, r59_55, r59_56, r59_59, r59_60, r59_60n, r59_61, r59_64, r59_65, r59_66, r59_66n, r59_67, r59_70, kdC, kdM, rpC, rpM, q_rs, q_rn, Option.toList_some, Option.toList_none, List.cons_append, List.nil_append, true_and, and_true, eq_self, ↓reduceIte, not_true_eq_false, not_false_eq_true, Nat.reduceEqDiff, Nat.reduceLeDiff, Nat.reduceLT, Nat.reduceAdd, Nat.reduceMul, Nat.reduceSub, false_or, or_false, true_or, or_true, false_and, and_false, reduceCtorEq, q_n0, q_n1, q_em, q_em2, q_b0, q_b1, Classical.not_not, nI_add, pk_mul, nI_clamp, q_vp, nI_eq, nI_leI, nI_ltI, q_sub, show ¬ 10 ≤ i by omega, rpT, wkT, hq, hi, elc]
    | some a =>
      rw [eg] at hq
      obtain ⟨ha, hka⟩ := hx i hi a eg
      have hk2 : kdm true (cpT h 0 49 i) a = (9, 2) := by rw [kd_big ha, cpT_k, hka]
      simp (disch := omega) only [r59_50, r59_52, r59_55, r59_56, r59_59, r59_60, r59_60n, r59_61, r59_64, r59_65, r59_66, r59_66n, r59_67, r59_70, kdC, kdM, rpC, rpM, q_rs, q_rn, Option.toList_some, Option.toList_none, List.cons_append, List.nil_append, true_and, and_true, eq_self, ↓reduceIte, not_true_eq_false, not_false_eq_true, Nat.reduceEqDiff, Nat.reduceLeDiff, Nat.reduceLT, Nat.reduceAdd, Nat.reduceMul, Nat.reduceSub, false_or, or_false, true_or, or_true, false_and, and_false, reduceCtorEq, q_n0, q_n1, q_em, q_em2, q_b0, q_b1, Classical.not_not, nI_add, pk_mul, nI_clamp, q_vp, nI_eq, nI_leI, nI_ltI, q_sub, show ¬ 10 ≤ i by omega, rpT, wkT, hq, hi, hk2, elc]
theorem c59_0_49 (hx : ∀ i, i < 10 → ∀ a, gP h 74 i = some a → 121 ≤ a ∧ hk h a = (9, 2)) : cwp true (d + 1) 59 [.ref 2, .ref 51] h F = F none (cpS h 0 49) := by
  have x := cpX_d (p := 0) (q := 49) h (by unfold okPQ; omega)
  have hl := l59_0_49 (d + 1) (cpX h 0 49) F (by rw [x.1.2.2.2, x.1.2.2.1]; exact hx) 10 0 (by omega)
  rw [show cpT (cpX h 0 49) 0 49 0 = cpX h 0 49 from rfl] at hl
  simp only [cpX, Nat.reduceAdd] at hl
  simp (disch := omega) only [r59_0, r59_1, r59_4, r59_4n, r59_5, r59_8, r59_11, r59_12, r59_15, r59_15n, r59_16, r59_19, r59_22, r59_23, r59_26, r59_26n, r59_27, r59_30, r59_33, r59_33n, r59_34, r59_37, r59_38, r59_39, r59_42, r59_43, r59_44, r59_47, r59_48, e59, c10_0_49, c6_0_49, c21_0_49, kdC, kdM, rpC, rpM, q_rs, q_rn, Option.toList_some, Option.toList_none, List.cons_append, List.nil_append, true_and, and_true, eq_self, ↓reduceIte, not_true_eq_false, not_false_eq_true, Nat.reduceEqDiff, Nat.reduceLeDiff, Nat.reduceLT, Nat.reduceAdd, Nat.reduceMul, Nat.reduceSub, false_or, or_false, true_or, or_true, false_and, and_false, reduceCtorEq, q_n0, q_n1, q_em, q_em2, q_b0, q_b1, Classical.not_not, nI_add, pk_mul, nI_clamp, q_vp, nI_eq, nI_leI, nI_ltI, q_sub, Nat.lt_irrefl, Nat.le_refl, Nat.zero_add, Nat.not_lt_zero, cpy1_f]
  refine Eq.trans hl ?_
  simp (disch := omega) only [r59_73, r59_74, r59_74n, r59_75, r59_78, r59_81, kdC, kdM, rpC, rpM, q_rs, q_rn, Option.toList_some, Option.toList_none, List.cons_append, List.nil_append, true_and, and_true, eq_self, ↓reduceIte, not_true_eq_false, not_false_eq_true, Nat.reduceEqDiff, Nat.reduceLeDiff, Nat.reduceLT, Nat.reduceAdd, Nat.reduceMul, Nat.reduceSub, false_or, or_false, true_or, or_true, false_and, and_false, reduceCtorEq, q_n0, q_n1, q_em, q_em2, q_b0, q_b1, Classical.not_not, nI_add, pk_mul, nI_clamp, q_vp, nI_eq, nI_leI, nI_ltI, q_sub, cpi_f, cpS, cpX]
end CY
section CD2
variable {h h' : Hp} {p q : Nat} {D : Nat → Nat → Prop}
/-- the whole copy -/
theorem cpT_p (h : Hp) : ∀ k t, gP (cpT h p q k) (25 + p) t = if t < k then gP h (25 + q) t else gP h (25 + p) t
  | 0, t => by rw [if_neg (by omega)]; rfl
  | k + 1, t => by
    show gP (sP (cpT h p q k) (25 + p) k (gP h (25 + q) k)) (25 + p) t = _
    by_cases e : t = k
    · subst e
      rw [q_ps, if_pos (by omega)]
    · rw [q_pm e, cpT_p h k t]
      by_cases e2 : t < k
      · rw [if_pos e2, if_pos (by omega)]
      · rw [if_neg e2, if_neg (by omega)]
theorem cpT_n (h : Hp) {a : Nat} (ha : a ≠ 25 + p) : ∀ k, gP (cpT h p q k) a = gP h a
  | 0 => rfl
  | k + 1 => by
    show gP (sP (cpT h p q k) (25 + p) k (gP h (25 + q) k)) a = _
    rw [q_pn ha, cpT_n h ha k]
theorem cpT_z (h : Hp) : ∀ k, hz (cpT h p q k) = hz h ∧ hu (cpT h p q k) = hu h
  | 0 => ⟨rfl, rfl⟩
  | k + 1 => cpT_z h k
theorem cpS_f (h : Hp) (hpq : okPQ p q) : (hz (cpS h p q) = hz h ∧ hu (cpS h p q) = hu h ∧ hk (cpS h p q) = hk h) ∧ (∀ a i, a < 2 + p ∨ 25 + p < a → gI (cpS h p q) a i = gI h a i) ∧ (∀ a, a ≠ 25 + p → gP (cpS h p q) a = gP h a) ∧ (∀ t, t < 10 → gP (cpS h p q) (25 + p) t = gP h (25 + q) t) ∧ (∀ t, 10 ≤ t → gP (cpS h p q) (25 + p) t = gP h (25 + p) t) := by
  have x := cpX_d (p := p) (q := q) h hpq
  have hzz := cpT_z (p := p) (q := q) (cpX h p q) 10
  refine ⟨⟨by unfold cpS cpi; rw [q_hzI, hzz.1]; exact x.1.1, by unfold cpS cpi; rw [q_huI, hzz.2]; exact x.1.2.1, by unfold cpS cpi; rw [q_hkI, cpT_k]; exact x.1.2.2.1⟩, fun a i ha => ?_, fun a ha => ?_, fun t ht => ?_, fun t ht => ?_⟩
  · unfold cpS cpi
    rw [q_gn (by omega), cpT_I]
    exact x.2.1 a i ha
  · unfold cpS cpi
    rw [q_gPI, cpT_n _ ha, x.1.2.2.2]
  · unfold cpS cpi
    rw [q_gPI, cpT_p, if_pos ht, x.1.2.2.2]
  · unfold cpS cpi
    rw [q_gPI, cpT_p, if_neg (by omega), x.1.2.2.2]
theorem cpS_c (h : Hp) (hpq : okPQ p q) : (∀ c i, 2 ≤ c → c ≤ 25 → cpD c i → gI (cpS h p q) (c + p) i = gI h (c + q) i) ∧ gI (cpS h p q) (2 + p) 5 = gI h (2 + q) 5 := by
  have x := cpX_d (p := p) (q := q) h hpq
  constructor
  · intro c i h1 h2 hd
    have hc : 3 ≤ c := by unfold cpD at hd; omega
    unfold cpS cpi
    rw [q_gn (by omega), cpT_I]
    exact x.2.2 c i h1 h2 hd
  · unfold okPQ at hpq
    unfold cpS cpi
    rw [q_gs, cpT_I]
    exact x.2.1 _ _ (by omega)
theorem tAt_sm {h h' : Hp} (e1 : hz h' = hz h) (e2 : hk h' = hk h) (e3 : ∀ a, 121 ≤ a → gI h' a = gI h a) (e4 : ∀ a, 121 ≤ a → gP h' a = gP h a) {a : Nat} {T : Tk} (t : tAt h a T) : tAt h' a T := by
  obtain ⟨s, c, ⟨h1, h2, h3, h4, h5, h6⟩, p0, p1, k0, k1, k2, g0, g1⟩ := t
  exact ⟨s, c, by rw [e1]; exact ⟨h1, h2, h3, h4, h5, h6⟩, by rw [e4 a h1]; exact p0, by rw [e4 a h1]; exact p1, by rw [e2]; exact k0, by rw [e2]; exact k1, by rw [e2]; exact k2, by rw [e3 s h3]; exact g0, by rw [e3 c h5]; exact g1⟩
theorem cpS_S (h : Hp) (hpq : okPQ p q) (hp : p ≤ 49) {K : Nat → Int32} (z : STS h q K) : STS (cpS h p q) p K := by
  obtain ⟨w, ⟨⟨a1, a2, a3, a4, a5⟩, ⟨b1, b2, b3, b4⟩, c1, ⟨d1, d2⟩, ⟨e1, e2, e3, e4, e5⟩, ⟨f1, f2, f3, f4, f5, f6⟩⟩, tx, σ, u1, u2⟩ := z
  obtain ⟨g1, g2⟩ := cpS_c (p := p) (q := q) h hpq
  obtain ⟨x1, x2, x3, x4, x5⟩ := cpS_f (p := p) (q := q) h hpq
  have hA : ∀ c n b s, 4 ≤ c → c ≤ 24 → c ≠ 8 → c ≠ 11 → n ≤ szC c → AR h K (c + q) n b s → AR (cpS h p q) K (c + p) n b s := by
    intro c n b s h1 h2 h3 h4 h5 z i hi
    rw [g1 c i (by omega) (by omega) (by unfold cpD; omega)]
    exact z i hi
  refine ⟨w, ⟨⟨(g1 3 4 (by omega) (by omega) (by unfold cpD; omega)).trans a1, (g1 8 2 (by omega) (by omega) (by unfold cpD; omega)).trans a2, (g1 11 5 (by omega) (by omega) (by unfold cpD; omega)).trans a3, (g1 11 13 (by omega) (by omega) (by unfold cpD; omega)).trans a4, g2.trans a5⟩, ⟨hA 4 _ _ _ (by omega) (by omega) (by omega) (by omega) (by decide) b1, hA 5 _ _ _ (by omega) (by omega) (by omega) (by omega) (by decide) b2, hA 6 _ _ _ (by omega) (by omega) (by omega) (by omega) (by decide) b3, fun f r hf hr => ?_⟩, hA 24 _ _ _ (by omega) (by omega) (by omega) (by omega) (by decide) c1, ⟨hA 9 _ _ _ (by omega) (by omega) (by omega) (by omega) (by decide) d1, hA 10 _ _ _ (by omega) (by omega) (by omega) (by omega) (by decide) d2⟩, ⟨hA 12 _ _ _ (by omega) (by omega) (by omega) (by omega) (by decide) e1, hA 13 _ _ _ (by omega) (by omega) (by omega) (by omega) (by decide) e2, hA 14 _ _ _ (by omega) (by omega) (by omega) (by omega) (by decide) e3, hA 15 _ _ _ (by omega) (by omega) (by omega) (by omega) (by decide) e4, hA 16 _ _ _ (by omega) (by omega) (by omega) (by omega) (by decide) e5⟩, ⟨hA 17 _ _ _ (by omega) (by omega) (by omega) (by omega) (by decide) f1, hA 18 _ _ _ (by omega) (by omega) (by omega) (by omega) (by decide) f2, hA 19 _ _ _ (by omega) (by omega) (by omega) (by omega) (by decide) f3, hA 20 _ _ _ (by omega) (by omega) (by omega) (by omega) (by decide) f4, hA 21 _ _ _ (by omega) (by omega) (by omega) (by omega) (by decide) f5, hA 22 _ _ _ (by omega) (by omega) (by omega) (by omega) (by decide) f6⟩⟩, ?_, σ, u1, fun i hi => ?_⟩
  · rw [g1 7 _ (by omega) (by omega) (by unfold cpD szC; simp; omega)]
    exact b4 f r hf hr
  · intro t ht
    have h1 := w.hnx
    obtain ⟨a, T, y1, y2, y3⟩ := tx t ht
    exact ⟨a, T, (x4 t (by omega)).trans y1, tAt_sm x1.1 x1.2.2 (fun a ha => funext fun i => x2 a i (by omega)) (fun a ha => x3 a (by omega)) y2, y3⟩
  · have h1 := w.hns
    rw [g1 23 i (by omega) (by omega) (by unfold cpD szC; simp; omega)]
    exact u2 i hi
end CD2
