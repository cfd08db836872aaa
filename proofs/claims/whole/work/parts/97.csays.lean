/-! says: countWays, notAbove, inAll (the class) -/
section CS
variable {h : Hp} {A n c b : Nat} {P : Nat → Prop} {v : Nat → Nat}
theorem tb_gad {f : Nat} (hv : ∀ f, f ≤ n → v f ≤ 160) (hf : f ≤ n) (hp : P f) (k s : Nat) : gad (v f) (tb P (fun i => (v i : Int)) f) k s = tb P (fun i => (v i : Int)) (f + 1) k s := by
  rw [tb_y (u := v f) (fun i hi _ => ⟨by omega, by have := hv i (by omega); omega⟩) hp rfl]
  rfl
theorem cl84a (o : okW h A) (hnf : gI h 3 4 = nI n) (hn : n ≤ 24) (hV : ∀ f, f < n → gI h 87 f = pif (P f) (nI (v f)) (-1)) (hv : ∀ f, f < n → v f ≤ 160) (hc : c ≤ 12) (hb : b ≤ 1920) (v5 : Value) : ∀ k f T, f + k = n → TB T (b + 1) c (tb P (fun i => (v i : Int)) f) → ∃ T', TB T' (b + 1) c (tb P (fun i => (v i : Int)) n) ∧ ∀ d F, wp true (d + 1) 84 59 [.ref 86, .int (nI c), .int (nI b), .int (nI (b + 1)), .int (nI f), v5] [] (sA h A T) F = wp true (d + 1) 84 101 [.ref 86, .int (nI c), .int (nI b), .int (nI (b + 1)), .int (nI n), v5] [] (sA h A T') F
  | 0, f, T, e, i1 => by
    obtain rfl : f = n := e
    have oA := o.2.1
    have g3 : gI (sA h A T) 3 4 = nI f := by rw [q_gan (by omega)]; exact hnf
    refine ⟨T, i1, fun d F => ?_⟩
    rw [r84_59]
    simp (disch := omega) only [r84_61, r84_62, r84_65, r84_68, g3, kdC, kdM, rpC, rpM, q_rs, q_rn, Option.toList_some, Option.toList_none, List.cons_append, List.nil_append, true_and, and_true, eq_self, ↓reduceIte, not_true_eq_false, not_false_eq_true, Nat.reduceEqDiff, Nat.reduceLeDiff, Nat.reduceLT, Nat.reduceAdd, Nat.reduceMul, Nat.reduceSub, false_or, or_false, true_or, or_true, false_and, and_false, reduceCtorEq, q_n0, q_n1, q_em, q_em2, q_b0, q_b1, Classical.not_not, nI_add, pk_mul, nI_clamp, q_vp, nI_eq, nI_leI, nI_ltI, q_sub, Nat.le_refl]
  | k + 1, f, T, e, i1 => by
    have oA := o.2.1
    have hf : f < n := by omega
    have g3 : gI (sA h A T) 3 4 = nI n := by rw [q_gan (by omega)]; exact hnf
    have g87 : gI (sA h A T) 87 f = pif (P f) (nI (v f)) (-1) := by rw [q_gan (by omega)]; exact hV f hf
    have hvf := hv f hf
    by_cases c1 : P f
    · rw [pif_t c1] at g87
      obtain ⟨T1, b1, b2⟩ := c85 o hc (show b + 1 ≤ 1921 by omega) (show v f ≤ 1921 by omega) i1
      obtain ⟨T', a1, a2⟩ := cl84a o hnf hn hV hv hc hb v5 k (f + 1) T1 (by omega) (fun k s hk hs => by
        rw [b1 k s hk hs]
        congr 1
        unfold gad
        rw [tb_y (u := v f) (fun i hi _ => ⟨by omega, by have := hv i (by omega); omega⟩) c1 rfl])
      refine ⟨T', a1, fun d F => ?_⟩
      refine Eq.trans ?_ (a2 d F)
      have b2' := fun F => b2 d F
      rw [r84_59]
      simp (disch := omega) only [r84_61, r84_62, r84_65, r84_68, r84_71, r84_72, r84_75, r84_77, r84_78, r84_79, r84_82, r84_83, r84_84, r84_85, r84_86, r84_89, r84_91, r84_92, r84_95, r84_98, g3, g87, q_nm, b2', kdC, kdM, rpC, rpM, q_rs, q_rn, Option.toList_some, Option.toList_none, List.cons_append, List.nil_append, true_and, and_true, eq_self, ↓reduceIte, not_true_eq_false, not_false_eq_true, Nat.reduceEqDiff, Nat.reduceLeDiff, Nat.reduceLT, Nat.reduceAdd, Nat.reduceMul, Nat.reduceSub, false_or, or_false, true_or, or_true, false_and, and_false, reduceCtorEq, q_n0, q_n1, q_em, q_em2, q_b0, q_b1, Classical.not_not, nI_add, pk_mul, nI_clamp, q_vp, nI_eq, nI_leI, nI_ltI, q_sub, show ¬ n ≤ f by omega, show f < 24 by omega]
    · rw [pif_f c1] at g87
      obtain ⟨T', a1, a2⟩ := cl84a o hnf hn hV hv hc hb v5 k (f + 1) T (by omega) (fun k s hk hs => by
        rw [i1 k s hk hs, tb_n c1])
      refine ⟨T', a1, fun d F => ?_⟩
      refine Eq.trans ?_ (a2 d F)
      rw [r84_59]
      simp (disch := omega) only [r84_61, r84_62, r84_65, r84_68, r84_71, r84_72, r84_75, r84_77, r84_78, r84_79, r84_82, r84_83, r84_84, r84_85, r84_86, r84_89, r84_91, r84_92, r84_95, r84_98, g3, g87, kdC, kdM, rpC, rpM, q_rs, q_rn, Option.toList_some, Option.toList_none, List.cons_append, List.nil_append, true_and, and_true, eq_self, ↓reduceIte, not_true_eq_false, not_false_eq_true, Nat.reduceEqDiff, Nat.reduceLeDiff, Nat.reduceLT, Nat.reduceAdd, Nat.reduceMul, Nat.reduceSub, false_or, or_false, true_or, or_true, false_and, and_false, reduceCtorEq, q_n0, q_n1, q_em, q_em2, q_b0, q_b1, Classical.not_not, nI_add, pk_mul, nI_clamp, q_vp, nI_eq, nI_leI, nI_ltI, q_sub, show ¬ n ≤ f by omega, show f < 24 by omega]
theorem cl84b (o : okW h A) {T : Nat → Int32} {G : Nat → Nat → Nat} (hc : c ≤ 12) (hb : b ≤ 1920) (i1 : TB T (b + 1) c G) (d : Nat) (F : Po) : ∀ k s, s + k = b + 1 → wp true d 84 107 [.ref 86, .int (nI c), .int (nI b), .int (nI (b + 1)), .int (nI (sumN (G c) s)), .int (nI s)] [] (sA h A T) F = F (some (.int (nI (sumN (G c) (b + 1))))) (sA h A T)
  | 0, s, e => by
    obtain rfl : s = b + 1 := e
    rw [r84_107]
    simp (disch := omega) only [e84, r84_0, r84_1, r84_3, r84_6, r84_7, r84_10, r84_13, r84_14, r84_15, r84_16, r84_19, r84_19n, r84_22, r84_23, r84_26, r84_28, r84_28n, r84_31, r84_32, r84_33, r84_34, r84_35, r84_36, r84_39, r84_40, r84_41, r84_42, r84_43, r84_44, r84_45, r84_46, r84_49, r84_50, r84_53, r84_54, r84_55, r84_56, r84_57, r84_61, r84_62, r84_65, r84_68, r84_71, r84_72, r84_75, r84_77, r84_78, r84_79, r84_82, r84_83, r84_84, r84_85, r84_86, r84_89, r84_91, r84_92, r84_95, r84_98, r84_101, r84_102, r84_104, r84_105, r84_109, r84_110, r84_113, r84_115, r84_116, r84_119, r84_120, r84_121, r84_122, r84_124, r84_125, r84_126, r84_127, r84_129, r84_132, r84_135, r84_137, kdC, kdM, rpC, rpM, q_rs, q_rn, Option.toList_some, Option.toList_none, List.cons_append, List.nil_append, true_and, and_true, eq_self, ↓reduceIte, not_true_eq_false, not_false_eq_true, Nat.reduceEqDiff, Nat.reduceLeDiff, Nat.reduceLT, Nat.reduceAdd, Nat.reduceMul, Nat.reduceSub, false_or, or_false, true_or, or_true, false_and, and_false, reduceCtorEq, q_n0, q_n1, q_em, q_em2, q_b0, q_b1, Classical.not_not, nI_add, pk_mul, nI_clamp, q_vp, nI_eq, nI_leI, nI_ltI, q_sub, Nat.le_refl]
  | k + 1, s, e => by
    refine Eq.trans ?_ (cl84b o hc hb i1 d F k (s + 1) (by omega))
    have r1 := i1 c s (Nat.le_refl _) (by omega)
    have hW : c * (b + 1) ≤ 12 * 1921 := Nat.mul_le_mul hc (by omega)
    rw [show sumN (G c) (s + 1) = sumN (G c) s + G c s from rfl, r84_107]
    generalize hcw : c * (b + 1) = cW at *
    simp (disch := omega) only [r84_109, r84_110, r84_113, r84_115, r84_116, r84_119, r84_120, r84_121, r84_122, r84_124, r84_125, r84_126, r84_127, r84_129, r84_132, rp86, o.rp, o.kd, q_ga, r1, hcw, kdC, kdM, rpC, rpM, q_rs, q_rn, Option.toList_some, Option.toList_none, List.cons_append, List.nil_append, true_and, and_true, eq_self, ↓reduceIte, not_true_eq_false, not_false_eq_true, Nat.reduceEqDiff, Nat.reduceLeDiff, Nat.reduceLT, Nat.reduceAdd, Nat.reduceMul, Nat.reduceSub, false_or, or_false, true_or, or_true, false_and, and_false, reduceCtorEq, q_n0, q_n1, q_em, q_em2, q_b0, q_b1, Classical.not_not, nI_add, pk_mul, nI_clamp, q_vp, nI_eq, nI_leI, nI_ltI, q_sub, show ¬ b + 1 ≤ s by omega, show cW + s < 24973 by omega]
theorem c84b (o : okW h A) (hnf : gI h 3 4 = nI n) (hn : n ≤ 24) (hV : ∀ f, f < n → gI h 87 f = pif (P f) (nI (v f)) (-1)) (hv : ∀ f, f < n → v f ≤ 160) (hc : c ≤ 12) (hb : b ≤ 1920) (v3 v4 v5 : Value) : ∃ T', ∀ d F, wp true (d + 2) 84 31 [.ref 86, .int (nI c), .int (nI b), v3, v4, v5] [] h F = F (some (.int (nI (sumN (tb P (fun i => (v i : Int)) n c) (b + 1))))) (sA h A T') := by
  have hW : (c + 1) * (b + 1) ≤ 13 * 1921 := Nat.mul_le_mul (by omega) (by omega)
  have hW1 : 1 ≤ (c + 1) * (b + 1) := Nat.mul_pos (by omega) (by omega)
  obtain ⟨T0, a1, a2⟩ := c264 o (n := (c + 1) * (b + 1)) (by omega) (gI h A)
  rw [q_sAs] at a2
  obtain ⟨T1, b1, b2⟩ := cl84a o hnf hn hV hv hc hb v5 n 0 (upd T0 0 (nI 1)) (by omega) (fun k s hk hs => by
    rw [tb_0]
    unfold upd
    by_cases e : k = 0 ∧ s = 0
    · rw [if_pos e, if_pos (by rw [e.1, e.2, Nat.zero_mul])]
    · have e2 : ¬ k * (b + 1) + s = 0 := by
        intro q
        have h1 : k * (b + 1) = 0 := by omega
        have h2 : k = 0 := by
          rcases Nat.mul_eq_zero.mp h1 with q1 | q1
          · exact q1
          · omega
        omega
      have h3 : k * (b + 1) ≤ c * (b + 1) := Nat.mul_le_mul_right _ hk
      have h4 : (c + 1) * (b + 1) = c * (b + 1) + (b + 1) := by rw [Nat.add_mul, Nat.one_mul]
      rw [if_neg e, if_neg e2, a1 _ (by omega)])
  refine ⟨T1, fun d F => ?_⟩
  have a2' := fun F => a2 d F
  have e1 := b2 (d + 1) F
  have e2 := cl84b o hc hb b1 (d + 2) F (b + 1) 0 (by omega)
  generalize hcw : (c + 1) * (b + 1) = cW at *
  simp (disch := omega) only [r84_31, r84_32, r84_33, r84_34, r84_35, r84_36, r84_39, r84_40, r84_41, r84_42, r84_43, r84_44, r84_45, r84_46, r84_49, r84_50, r84_53, r84_54, r84_55, r84_56, r84_57, rp86, o.1, o.rp, o.kd, a2', q_sIs, hcw, kdC, kdM, rpC, rpM, q_rs, q_rn, Option.toList_some, Option.toList_none, List.cons_append, List.nil_append, true_and, and_true, eq_self, ↓reduceIte, not_true_eq_false, not_false_eq_true, Nat.reduceEqDiff, Nat.reduceLeDiff, Nat.reduceLT, Nat.reduceAdd, Nat.reduceMul, Nat.reduceSub, false_or, or_false, true_or, or_true, false_and, and_false, reduceCtorEq, q_n0, q_n1, q_em, q_em2, q_b0, q_b1, Classical.not_not, nI_add, pk_mul, nI_clamp, q_vp, nI_eq, nI_leI, nI_ltI, q_sub]
  refine Eq.trans e1 ?_
  simp (disch := omega) only [r84_101, r84_102, r84_104, r84_105]
  exact e2
end CS
/-- the class's row made at the first call -/
def nwW (h : Hp) : Hp := sP (mkc h 20 24973) 86 2 (some (hz h))
theorem nw_ok {h : Hp} (hz1 : 121 ≤ hz h) : okW (nwW h) (hz h) := by
  refine ⟨?_, hz1, ?_⟩
  · unfold nwW; rw [q_ps]
  · show up1 (hk h) (hz h) (20, 24973) (hz h) = _
    exact if_pos rfl
theorem nw_g {h : Hp} {a : Nat} (ha : a ≠ hz h) : gI (nwW h) a = gI h a := by
  show up1 (gI h) (hz h) (fun _ => 0) a = _
  exact if_neg ha
theorem kd86 (h : Hp) : kdm true h 86 = (10, 3) := rfl
theorem wk86 : wkm true 86 2 = true := rfl
section CT
variable {h : Hp} {K : Nat → Int32} {wh : Int32}
/-- countWays from its start -/
theorem c84 {n c b : Nat} {P : Nat → Prop} {v : Nat → Nat} (h121 : 121 ≤ hz h) (hW : gP h 86 2 = none ∨ ∃ A, okW h A) (hnf : gI h 3 4 = nI n) (hn : n ≤ 24) (hV : ∀ f, f < n → gI h 87 f = pif (P f) (nI (v f)) (-1)) (hv : ∀ f, f < n → v f ≤ 160) (hc : c ≤ 12) (hb : b ≤ 1920) : ∃ h1 A T', ((gP h 86 2 = none ∧ h1 = nwW h ∧ A = hz h) ∨ (h1 = h ∧ okW h A)) ∧ ∀ d F, cwp true (d + 2) 84 [.ref 86, .int (nI c), .int (nI b)] h F = F (some (.int (nI (sumN (tb P (fun i => (v i : Int)) n c) (b + 1))))) (sA h1 A T') := by
  rcases hW with hN | ⟨A, o⟩
  · have o := nw_ok h121
    obtain ⟨T', a1⟩ := c84b (h := nwW h) (A := hz h) (n := n) (c := c) (b := b) (P := P) (v := v) o (by rw [nw_g (by omega)]; exact hnf) hn (fun f hf => by rw [nw_g (by omega)]; exact hV f hf) hv hc hb jn jn jn
    refine ⟨nwW h, hz h, T', Or.inl ⟨hN, rfl, rfl⟩, fun d F => ?_⟩
    refine Eq.trans ?_ (a1 d F)
    unfold nwW
    simp (disch := omega) only [r84_0, r84_1, r84_3, r84_6, r84_7, r84_10, r84_13, r84_14, r84_15, r84_16, r84_19, r84_19n, r84_22, r84_23, r84_26, r84_28, r84_28n, e84, rp86, hN, kd86, wk86, kdC, kdM, rpC, rpM, q_rs, q_rn, Option.toList_some, Option.toList_none, List.cons_append, List.nil_append, true_and, and_true, eq_self, ↓reduceIte, not_true_eq_false, not_false_eq_true, Nat.reduceEqDiff, Nat.reduceLeDiff, Nat.reduceLT, Nat.reduceAdd, Nat.reduceMul, Nat.reduceSub, false_or, or_false, true_or, or_true, false_and, and_false, reduceCtorEq, q_n0, q_n1, q_em, q_em2, q_b0, q_b1, Classical.not_not, nI_add, pk_mul, nI_clamp, q_vp, nI_eq, nI_leI, nI_ltI, q_sub, show ¬ 12 < c by omega, show b ≤ 1920 by omega]
  · obtain ⟨T', a1⟩ := c84b (n := n) (c := c) (b := b) (P := P) (v := v) o hnf hn hV hv hc hb jn jn jn
    refine ⟨h, A, T', Or.inr ⟨rfl, o⟩, fun d F => ?_⟩
    refine Eq.trans ?_ (a1 d F)
    simp (disch := omega) only [r84_0, r84_1, r84_3, r84_6, r84_7, r84_10, r84_13, r84_14, r84_15, r84_16, r84_19, r84_19n, r84_22, r84_23, r84_26, r84_28, r84_28n, e84, rp86, o.1, kdC, kdM, rpC, rpM, q_rs, q_rn, Option.toList_some, Option.toList_none, List.cons_append, List.nil_append, true_and, and_true, eq_self, ↓reduceIte, not_true_eq_false, not_false_eq_true, Nat.reduceEqDiff, Nat.reduceLeDiff, Nat.reduceLT, Nat.reduceAdd, Nat.reduceMul, Nat.reduceSub, false_or, or_false, true_or, or_true, false_and, and_false, reduceCtorEq, q_n0, q_n1, q_em, q_em2, q_b0, q_b1, Classical.not_not, nI_add, pk_mul, nI_clamp, q_vp, nI_eq, nI_leI, nI_ltI, q_sub, show ¬ 12 < c by omega, show b ≤ 1920 by omega]
theorem cl82 (z : STS h 0 K) {V : Nat → Int32} {B : Prop} (hV : ∀ g, g < nf K → V g = pif (isOf K wh g) (nI (vN K wh B g)) (-1)) (v2 v3 : Value) (d : Nat) (F : Po) : ∀ k f, f + k = nf K → wp true (d + 2) 82 42 [.ref 86, .int wh, v2, v3, .int (bz B), .int (nI (snN (fun f => isOf K wh f ∧ (wh < wst K f ↔ B)) (vN K wh B) f)), .int (nI f)] [] (sA h 87 V) F = wp true (d + 2) 82 98 [.ref 86, .int wh, v2, v3, .int (bz B), .int (nI (snN (fun f => isOf K wh f ∧ (wh < wst K f ↔ B)) (vN K wh B) (nf K))), .int (nI (nf K))] [] (sA h 87 V) F
  | 0, f, e => by
    obtain rfl : f = nf K := e
    have h1 := z.1.hnf
    have q := (STS_fr ((Fr.refl h).sA (a := 87) V (fun _ => rfl)) (Or.inl rfl) z).2.1
    rw [r82_42]
    simp (disch := omega) only [r82_44, r82_45, r82_48, r82_51, kdC, kdM, rpC, rpM, q_rs, q_rn, Option.toList_some, Option.toList_none, List.cons_append, List.nil_append, true_and, and_true, eq_self, ↓reduceIte, not_true_eq_false, not_false_eq_true, Nat.reduceEqDiff, Nat.reduceLeDiff, Nat.reduceLT, Nat.reduceAdd, Nat.reduceMul, Nat.reduceSub, false_or, or_false, true_or, or_true, false_and, and_false, reduceCtorEq, q_n0, q_n1, q_em, q_em2, q_b0, q_b1, Classical.not_not, nI_add, pk_mul, nI_clamp, q_vp, nI_eq, nI_leI, nI_ltI, q_sub, q.hnf, h1, Nat.le_refl]
  | k + 1, f, e => by
    have w := z.1
    have h1 := w.hnf
    have hf : f < nf K := by omega
    have q := (STS_fr ((Fr.refl h).sA (a := 87) V (fun _ => rfl)) (Or.inl rfl) z).2.1
    have g87 : gI (sA h 87 V) 87 f = pif (isOf K wh f) (nI (vN K wh B f)) (-1) := by rw [q_ga]; exact hV f hf
    have hvl := vN_le (wh := wh) (B := B) w hf
    refine Eq.trans ?_ (cl82 z hV v2 v3 d F k (f + 1) (by omega))
    rw [show snN (fun f => isOf K wh f ∧ (wh < wst K f ↔ B)) (vN K wh B) (f + 1) = snN (fun f => isOf K wh f ∧ (wh < wst K f ↔ B)) (vN K wh B) f + pif (isOf K wh f ∧ (wh < wst K f ↔ B)) (vN K wh B f) 0 from rfl, r82_42]
    by_cases c : isOf K wh f
    · rw [pif_t c] at g87
      by_cases c2 : wh < wst K f <;> by_cases c3 : B
      · rw [pif_t ⟨c, ⟨fun _ => c3, fun _ => c2⟩⟩]
        simp (disch := omega) only [r82_44, r82_45, r82_48, r82_51, r82_54, r82_55, r82_58, r82_60, r82_61, r82_62, r82_65, r82_66, r82_69, r82_70, r82_72, r82_75, r82_77, r82_80, r82_82, r82_83, r82_86, r82_88, r82_89, r82_90, r82_92, r82_95, kdC, kdM, rpC, rpM, q_rs, q_rn, Option.toList_some, Option.toList_none, List.cons_append, List.nil_append, true_and, and_true, eq_self, ↓reduceIte, not_true_eq_false, not_false_eq_true, Nat.reduceEqDiff, Nat.reduceLeDiff, Nat.reduceLT, Nat.reduceAdd, Nat.reduceMul, Nat.reduceSub, false_or, or_false, true_or, or_true, false_and, and_false, reduceCtorEq, q_n0, q_n1, q_em, q_em2, q_b0, q_b1, Classical.not_not, nI_add, pk_mul, nI_clamp, q_vp, nI_eq, nI_leI, nI_ltI, q_sub, q.hnf, h1, g87, q_nm, cc17 _ _ _ w q wh hf, q_bt c2, q_bt c3, show ¬ nf K ≤ f by omega, show f < 24 by omega]
      · rw [pif_f (fun u => c3 (u.2.mp c2))]
        simp (disch := omega) only [r82_44, r82_45, r82_48, r82_51, r82_54, r82_55, r82_58, r82_60, r82_61, r82_62, r82_65, r82_66, r82_69, r82_70, r82_72, r82_75, r82_77, r82_80, r82_82, r82_83, r82_86, r82_88, r82_89, r82_90, r82_92, r82_95, kdC, kdM, rpC, rpM, q_rs, q_rn, Option.toList_some, Option.toList_none, List.cons_append, List.nil_append, true_and, and_true, eq_self, ↓reduceIte, not_true_eq_false, not_false_eq_true, Nat.reduceEqDiff, Nat.reduceLeDiff, Nat.reduceLT, Nat.reduceAdd, Nat.reduceMul, Nat.reduceSub, false_or, or_false, true_or, or_true, false_and, and_false, reduceCtorEq, q_n0, q_n1, q_em, q_em2, q_b0, q_b1, Classical.not_not, nI_add, pk_mul, nI_clamp, q_vp, nI_eq, nI_leI, nI_ltI, q_sub, Nat.add_zero, q.hnf, h1, g87, q_nm, cc17 _ _ _ w q wh hf, q_bt c2, q_bf c3, show ¬ nf K ≤ f by omega, show f < 24 by omega]
      · rw [pif_f (fun u => c2 (u.2.mpr c3))]
        simp (disch := omega) only [r82_44, r82_45, r82_48, r82_51, r82_54, r82_55, r82_58, r82_60, r82_61, r82_62, r82_65, r82_66, r82_69, r82_70, r82_72, r82_75, r82_77, r82_80, r82_82, r82_83, r82_86, r82_88, r82_89, r82_90, r82_92, r82_95, kdC, kdM, rpC, rpM, q_rs, q_rn, Option.toList_some, Option.toList_none, List.cons_append, List.nil_append, true_and, and_true, eq_self, ↓reduceIte, not_true_eq_false, not_false_eq_true, Nat.reduceEqDiff, Nat.reduceLeDiff, Nat.reduceLT, Nat.reduceAdd, Nat.reduceMul, Nat.reduceSub, false_or, or_false, true_or, or_true, false_and, and_false, reduceCtorEq, q_n0, q_n1, q_em, q_em2, q_b0, q_b1, Classical.not_not, nI_add, pk_mul, nI_clamp, q_vp, nI_eq, nI_leI, nI_ltI, q_sub, Nat.add_zero, q.hnf, h1, g87, q_nm, cc17 _ _ _ w q wh hf, q_bf c2, q_bt c3, show ¬ nf K ≤ f by omega, show f < 24 by omega]
      · rw [pif_t ⟨c, ⟨fun u => absurd u c2, fun u => absurd u c3⟩⟩]
        simp (disch := omega) only [r82_44, r82_45, r82_48, r82_51, r82_54, r82_55, r82_58, r82_60, r82_61, r82_62, r82_65, r82_66, r82_69, r82_70, r82_72, r82_75, r82_77, r82_80, r82_82, r82_83, r82_86, r82_88, r82_89, r82_90, r82_92, r82_95, kdC, kdM, rpC, rpM, q_rs, q_rn, Option.toList_some, Option.toList_none, List.cons_append, List.nil_append, true_and, and_true, eq_self, ↓reduceIte, not_true_eq_false, not_false_eq_true, Nat.reduceEqDiff, Nat.reduceLeDiff, Nat.reduceLT, Nat.reduceAdd, Nat.reduceMul, Nat.reduceSub, false_or, or_false, true_or, or_true, false_and, and_false, reduceCtorEq, q_n0, q_n1, q_em, q_em2, q_b0, q_b1, Classical.not_not, nI_add, pk_mul, nI_clamp, q_vp, nI_eq, nI_leI, nI_ltI, q_sub, q.hnf, h1, g87, q_nm, cc17 _ _ _ w q wh hf, q_bf c2, q_bf c3, show ¬ nf K ≤ f by omega, show f < 24 by omega]
    · rw [pif_f c] at g87
      rw [pif_f (fun u => c u.1)]
      simp (disch := omega) only [r82_44, r82_45, r82_48, r82_51, r82_54, r82_55, r82_58, r82_60, r82_61, r82_62, r82_65, r82_66, r82_69, r82_70, r82_72, r82_75, r82_77, r82_80, r82_82, r82_83, r82_86, r82_88, r82_89, r82_90, r82_92, r82_95, kdC, kdM, rpC, rpM, q_rs, q_rn, Option.toList_some, Option.toList_none, List.cons_append, List.nil_append, true_and, and_true, eq_self, ↓reduceIte, not_true_eq_false, not_false_eq_true, Nat.reduceEqDiff, Nat.reduceLeDiff, Nat.reduceLT, Nat.reduceAdd, Nat.reduceMul, Nat.reduceSub, false_or, or_false, true_or, or_true, false_and, and_false, reduceCtorEq, q_n0, q_n1, q_em, q_em2, q_b0, q_b1, Classical.not_not, nI_add, pk_mul, nI_clamp, q_vp, nI_eq, nI_leI, nI_ltI, q_sub, Nat.add_zero, q.hnf, h1, g87, show ¬ nf K ≤ f by omega, show f < 24 by omega]
end CT
