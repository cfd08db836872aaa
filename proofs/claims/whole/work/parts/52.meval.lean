/-! the model's methods that read tokens -/
def cK (K : Nat → Int32) : Nat → Int32 := fun k => K (391 + k)
def vK (K : Nat → Int32) : Nat → Int32 := fun k => K (4391 + k)
section MV
variable {h : Hp} {K : Nat → Int32} {e : Nat}
/-- a text is being read up to e -/
def rdH (h : Hp) (K : Nat → Int32) (e : Nat) : Prop := gI h 103 = K ∧ gI h 101 18 = nI e ∧ e ≤ 4000
theorem m190 (H : rdH h K e) {k : Nat} (hk : k ≤ 5000) (g : Nat) (b : Bool) (d : Nat) (F : Po) : cwp true d 190 [.ref 101, .int (nI k)] (mst h g b) F = F (some (.int (cda (cK K) e k))) (mst h g b) := by
  obtain ⟨hK, hE, he⟩ := H
  have g18 : gI (mst h g b) 101 18 = nI e := by rw [mst_g _ _ _ (by omega) (by omega)]; exact hE
  have g103 : gI (mst h g b) 103 = K := by rw [mst_n _ _ _ (by omega)]; exact hK
  by_cases q : k < e
  · simp (disch := omega) only [e190, r190_0, r190_1, r190_2, r190_5, r190_8, r190_9, r190_12, r190_15, r190_16, r190_17, r190_18, r190_21, r190_22, kdC, kdM, rpC, rpM, q_rs, q_rn, Option.toList_some, Option.toList_none, List.cons_append, List.nil_append, true_and, and_true, eq_self, ↓reduceIte, not_true_eq_false, not_false_eq_true, Nat.reduceEqDiff, Nat.reduceLeDiff, Nat.reduceLT, Nat.reduceAdd, Nat.reduceMul, Nat.reduceSub, false_or, or_false, true_or, or_true, false_and, and_false, reduceCtorEq, q_n0, q_n1, q_em, q_em2, q_b0, q_b1, Classical.not_not, nI_add, pk_mul, nI_clamp, q_vp, nI_eq, nI_leI, nI_ltI, q_sub, g18, g103, show ¬ e ≤ k by omega, show 391 + k < 8391 by omega, cda, cK, q]
  · simp (disch := omega) only [e190, r190_0, r190_1, r190_2, r190_5, r190_8, r190_9, r190_12, r190_15, r190_16, r190_17, r190_18, r190_21, r190_22, kdC, kdM, rpC, rpM, q_rs, q_rn, Option.toList_some, Option.toList_none, List.cons_append, List.nil_append, true_and, and_true, eq_self, ↓reduceIte, not_true_eq_false, not_false_eq_true, Nat.reduceEqDiff, Nat.reduceLeDiff, Nat.reduceLT, Nat.reduceAdd, Nat.reduceMul, Nat.reduceSub, false_or, or_false, true_or, or_true, false_and, and_false, reduceCtorEq, q_n0, q_n1, q_em, q_em2, q_b0, q_b1, Classical.not_not, nI_add, pk_mul, nI_clamp, q_vp, nI_eq, nI_leI, nI_ltI, q_sub, g18, g103, show e ≤ k by omega, cda, q]
theorem m191 (H : rdH h K e) {g : Nat} (hg : g ≤ 4999) (x : Int32) (b : Bool) (d : Nat) (F : Po) : cwp true (d + 1) 191 [.ref 101, .int x] (mst h g b) F = if cda (cK K) e g = x then F (some (.int (nI 1))) (mst h (g + 1) b) else F (some (.int (nI 0))) (mst h g b) := by
  have h1 := m190 H (k := g) (by omega)
  by_cases q : cda (cK K) e g = x
  · rw [if_pos q]
    simp (disch := omega) only [e191, r191_0, r191_1, r191_2, r191_5, r191_8, r191_9, r191_12, r191_13, r191_16, r191_17, r191_18, r191_19, r191_22, r191_23, r191_24, r191_27, r191_28, r191_29, r191_32, r191_33, kdC, kdM, rpC, rpM, q_rs, q_rn, Option.toList_some, Option.toList_none, List.cons_append, List.nil_append, true_and, and_true, eq_self, ↓reduceIte, not_true_eq_false, not_false_eq_true, Nat.reduceEqDiff, Nat.reduceLeDiff, Nat.reduceLT, Nat.reduceAdd, Nat.reduceMul, Nat.reduceSub, false_or, or_false, true_or, or_true, false_and, and_false, reduceCtorEq, q_n0, q_n1, q_em, q_em2, q_b0, q_b1, Classical.not_not, nI_add, pk_mul, nI_clamp, q_vp, nI_eq, nI_leI, nI_ltI, q_sub, mst_g17, mst_17, h1, q]
  · rw [if_neg q]
    simp (disch := omega) only [e191, r191_0, r191_1, r191_2, r191_5, r191_8, r191_9, r191_12, r191_13, r191_16, r191_17, r191_18, r191_19, r191_22, r191_23, r191_24, r191_27, r191_28, r191_29, r191_32, r191_33, kdC, kdM, rpC, rpM, q_rs, q_rn, Option.toList_some, Option.toList_none, List.cons_append, List.nil_append, true_and, and_true, eq_self, ↓reduceIte, not_true_eq_false, not_false_eq_true, Nat.reduceEqDiff, Nat.reduceLeDiff, Nat.reduceLT, Nat.reduceAdd, Nat.reduceMul, Nat.reduceSub, false_or, or_false, true_or, or_true, false_and, and_false, reduceCtorEq, q_n0, q_n1, q_em, q_em2, q_b0, q_b1, Classical.not_not, nI_add, pk_mul, nI_clamp, q_vp, nI_eq, nI_leI, nI_ltI, q_sub, mst_g17, mst_17, h1, q]
theorem m192 (x : Int64) (live : Bool) (g : Nat) (b : Bool) (d : Nat) (F : Po) : cwp true d 192 [.ref 101, .long x, .int (sB live)] (mst h g b) F = F (some (.long (bnd x live b).1)) (mst h g (bnd x live b).2) := by
  unfold bnd
  by_cases q1 : lN 1000000000 < x <;> by_cases q2 : x < -1000000000 <;> cases live <;> cases b <;>
  simp (disch := omega) only [e192, r192_0, r192_1, r192_4, r192_5, r192_8, r192_9, r192_12, r192_13, r192_16, r192_17, r192_20, r192_21, r192_22, r192_25, r192_26, r192_29, r192_32, r192_33, r192_36, r192_37, kdC, kdM, rpC, rpM, q_rs, q_rn, Option.toList_some, Option.toList_none, List.cons_append, List.nil_append, true_and, and_true, eq_self, ↓reduceIte, not_true_eq_false, not_false_eq_true, Nat.reduceEqDiff, Nat.reduceLeDiff, Nat.reduceLT, Nat.reduceAdd, Nat.reduceMul, Nat.reduceSub, false_or, or_false, true_or, or_true, false_and, and_false, reduceCtorEq, q_n0, q_n1, q_em, q_em2, q_b0, q_b1, Classical.not_not, l_gt, l_ge, i64_le, mst_g19, mst_191, q1, q2, sB, decide_true, decide_false, Bool.or_true, Bool.or_false, Bool.true_or, Bool.false_or, Bool.true_and, Bool.false_and, Bool.and_true, Bool.and_false, Bool.false_eq_true]
def rL (r : ER) : Value := .long r.1
def rZ (r : ER) : Value := .int (sB r.2.1)
def EvP (h : Hp) (K : Nat → Int32) (e n M tag : Nat) (res : ER → Value) : Prop := ∀ live go br r, ev (cK K) (vK K) e (gI h 112) n tag live go br = some r → r.2.2.1 ≤ 4500 → ∀ d F, cwp true (d + n + 2) M [.ref 101, .int (sB live)] (mst h go br) F = F (some (res r)) (mst h r.2.2.1 r.2.2.2)
theorem L193 (H : rdH h K e) {n : Nat} (E1 : EvP h K e n 194 1 rL) {live : Bool} : ∀ k s r, q_wh (fsum (cK K) e (ev (cK K) (vK K) e (gI h 112) n 1) live) k s = some r → r.2.2.1 ≤ 4500 → ∀ d F (v4 v5 v6 : Value), wp true (d + n + 3) 193 6 [.ref 101, .int (sB live), .long s.1, jn, v4, v5, v6] [] (mst h s.2.2.1 s.2.2.2) F = F (some (.long r.1)) (mst h r.2.2.1 r.2.2.2)
  | 0, s, r, q, hr => by cases q
  | k + 1, s, r, q, hr => by
    have hmo := fsum_m (c := cK K) (v := vK K) (e := e) (env := gI h 112) (n := n) (fun live go br r => ev_mono n 1 live go br r (by omega)) live
    have hm := hmo _ _ _ q
    unfold q_wh at q
    obtain ⟨zz, q1, q2⟩ := obind q
    have h190 := m190 H (k := s.2.2.1) (by omega)
    intro d F v4 v5 v6
    rw [r193_6]
    by_cases cp : cda (cK K) e s.2.2.1 = nI 143
    · rw [fsum, if_pos (Or.inl cp)] at q1
      obtain ⟨t, t1, t2⟩ := omap q1
      simp only [cp, ↓reduceIte] at t2
      subst t2
      have hm2 := hmo k _ r q2; replace hm2 : t.2.2.1 ≤ r.2.2.1 := hm2
      have ih := L193 H E1 k _ r q2 hr d F
      have E := fun F => E1 live (s.2.2.1 + 1) s.2.2.2 t t1 (by omega) d F
      simp (disch := omega) only [r193_7, r193_8, r193_11, r193_14, r193_16, r193_19, r193_22, r193_23, r193_24, r193_27, r193_30, r193_32, r193_35, r193_38, r193_39, r193_40, r193_43, r193_46, r193_48, r193_51, r193_54, r193_55, r193_58, r193_59, r193_61, r193_62, r193_63, r193_66, r193_67, r193_68, r193_71, r193_72, r193_73, r193_76, r193_78, r193_79, r193_81, r193_84, r193_85, r193_87, r193_88, r193_91, r193_92, r193_94, r193_95, r193_96, r193_99, r193_100, h190, c179, E, m192, rL, kdC, kdM, rpC, rpM, q_rs, q_rn, Option.toList_some, Option.toList_none, List.cons_append, List.nil_append, true_and, and_true, eq_self, ↓reduceIte, not_true_eq_false, not_false_eq_true, Nat.reduceEqDiff, Nat.reduceLeDiff, Nat.reduceLT, Nat.reduceAdd, Nat.reduceMul, Nat.reduceSub, false_or, or_false, true_or, or_true, false_and, and_false, reduceCtorEq, q_n0, q_n1, q_em, q_em2, q_b0, q_b1, Classical.not_not, nI_add, pk_mul, nI_clamp, q_vp, nI_eq, nI_leI, nI_ltI, q_sub, mst_g17, mst_17, cp]
      exact ih _ _ _
    · by_cases cm : cda (cK K) e s.2.2.1 = nI 145
      · rw [fsum, if_pos (Or.inr cm)] at q1
        obtain ⟨t, t1, t2⟩ := omap q1
        simp only [cp, ↓reduceIte] at t2
        subst t2
        have hm2 := hmo k _ r q2; replace hm2 : t.2.2.1 ≤ r.2.2.1 := hm2
        have ih := L193 H E1 k _ r q2 hr d F
        have E := fun F => E1 live (s.2.2.1 + 1) s.2.2.2 t t1 (by omega) d F
        simp (disch := omega) only [r193_7, r193_8, r193_11, r193_14, r193_16, r193_19, r193_22, r193_23, r193_24, r193_27, r193_30, r193_32, r193_35, r193_38, r193_39, r193_40, r193_43, r193_46, r193_48, r193_51, r193_54, r193_55, r193_58, r193_59, r193_61, r193_62, r193_63, r193_66, r193_67, r193_68, r193_71, r193_72, r193_73, r193_76, r193_78, r193_79, r193_81, r193_84, r193_85, r193_87, r193_88, r193_91, r193_92, r193_94, r193_95, r193_96, r193_99, r193_100, h190, c179, E, m192, rL, kdC, kdM, rpC, rpM, q_rs, q_rn, Option.toList_some, Option.toList_none, List.cons_append, List.nil_append, true_and, and_true, eq_self, ↓reduceIte, not_true_eq_false, not_false_eq_true, Nat.reduceEqDiff, Nat.reduceLeDiff, Nat.reduceLT, Nat.reduceAdd, Nat.reduceMul, Nat.reduceSub, false_or, or_false, true_or, or_true, false_and, and_false, reduceCtorEq, q_n0, q_n1, q_em, q_em2, q_b0, q_b1, Classical.not_not, nI_add, pk_mul, nI_clamp, q_vp, nI_eq, nI_leI, nI_ltI, q_sub, mst_g17, mst_17, cm]
        exact ih _ _ _
      · rw [fsum, if_neg (by rintro (z | z) <;> contradiction)] at q1
        cases q1
        cases q2
        simp (disch := omega) only [r193_7, r193_8, r193_11, r193_14, r193_16, r193_19, r193_22, r193_23, r193_24, r193_27, r193_30, r193_32, r193_35, r193_38, r193_39, r193_40, r193_43, r193_46, r193_48, r193_51, r193_54, r193_55, r193_58, r193_59, r193_61, r193_62, r193_63, r193_66, r193_67, r193_68, r193_71, r193_72, r193_73, r193_76, r193_78, r193_79, r193_81, r193_84, r193_85, r193_87, r193_88, r193_91, r193_92, r193_94, r193_95, r193_96, r193_99, r193_100, r193_103, r193_104, h190, c179, kdC, kdM, rpC, rpM, q_rs, q_rn, Option.toList_some, Option.toList_none, List.cons_append, List.nil_append, true_and, and_true, eq_self, ↓reduceIte, not_true_eq_false, not_false_eq_true, Nat.reduceEqDiff, Nat.reduceLeDiff, Nat.reduceLT, Nat.reduceAdd, Nat.reduceMul, Nat.reduceSub, false_or, or_false, true_or, or_true, false_and, and_false, reduceCtorEq, q_n0, q_n1, q_em, q_em2, q_b0, q_b1, Classical.not_not, nI_add, pk_mul, nI_clamp, q_vp, nI_eq, nI_leI, nI_ltI, q_sub, mst_g17, cp, cm]
theorem E193 (H : rdH h K e) {n : Nat} (E1 : EvP h K e n 194 1 rL) : EvP h K e (n + 1) 193 0 rL := by
  intro live go br r q hr d F
  rw [ev_0] at q
  obtain ⟨t, q1, q2⟩ := obind q
  have hmo := fsum_m (c := cK K) (v := vK K) (e := e) (env := gI h 112) (n := n) (fun live go br r => ev_mono n 1 live go br r (by omega)) live _ _ _ q2
  have hl := L193 H E1 _ _ _ q2 hr d F
  have E := fun F => E1 live go br t q1 (by omega) d F
  show cwp true (d + n + 3) 193 _ _ _ = _
  simp (disch := omega) only [r193_0, r193_1, r193_2, r193_5, e193, E, rL, kdC, kdM, rpC, rpM, q_rs, q_rn, Option.toList_some, Option.toList_none, List.cons_append, List.nil_append, true_and, and_true, eq_self, ↓reduceIte, not_true_eq_false, not_false_eq_true, Nat.reduceEqDiff, Nat.reduceLeDiff, Nat.reduceLT, Nat.reduceAdd, Nat.reduceMul, Nat.reduceSub, false_or, or_false, true_or, or_true, false_and, and_false, reduceCtorEq, q_n0, q_n1, q_em, q_em2, q_b0, q_b1, Classical.not_not]
  exact hl _ _ _
theorem L194 (H : rdH h K e) {n : Nat} (E1 : EvP h K e n 195 2 rL) {live : Bool} : ∀ k s r, q_wh (fterm (cK K) e (ev (cK K) (vK K) e (gI h 112) n 2) live) k s = some r → r.2.2.1 ≤ 4500 → ∀ d F (v4 v5 v6 : Value), wp true (d + n + 3) 194 6 [.ref 101, .int (sB live), .long s.1, jn, v4, v5, v6] [] (mst h s.2.2.1 s.2.2.2) F = F (some (.long r.1)) (mst h r.2.2.1 r.2.2.2)
  | 0, s, r, q, hr => by cases q
  | k + 1, s, r, q, hr => by
    have hmo := fterm_m (c := cK K) (v := vK K) (e := e) (env := gI h 112) (n := n) (fun live go br r => ev_mono n 2 live go br r (by omega)) live
    have hm := hmo _ _ _ q
    unfold q_wh at q
    obtain ⟨zz, q1, q2⟩ := obind q
    have h190 := m190 H (k := s.2.2.1) (by omega)
    intro d F v4 v5 v6
    rw [r194_6]
    by_cases cp : cda (cK K) e s.2.2.1 = nI 142
    · rw [fterm, if_pos cp] at q1
      obtain ⟨t, t1, t2⟩ := omap q1
      subst t2
      have hm2 := hmo k _ r q2; replace hm2 : t.2.2.1 ≤ r.2.2.1 := hm2
      have ih := L194 H E1 k _ r q2 hr d F
      have E := fun F => E1 live (s.2.2.1 + 1) s.2.2.2 t t1 (by omega) d F
      simp (disch := omega) only [r194_7, r194_8, r194_11, r194_14, r194_16, r194_19, r194_22, r194_23, r194_24, r194_27, r194_30, r194_32, r194_35, r194_38, r194_39, r194_40, r194_43, r194_46, r194_48, r194_51, r194_54, r194_55, r194_58, r194_59, r194_61, r194_62, r194_63, r194_66, r194_67, r194_68, r194_71, r194_72, r194_73, r194_76, r194_78, r194_80, r194_83, r194_85, r194_86, r194_87, r194_90, r194_91, r194_92, r194_95, r194_98, r194_99, r194_102, r194_103, r194_106, r194_107, r194_110, r194_111, r194_113, r194_114, r194_116, r194_119, r194_120, r194_122, r194_123, r194_126, r194_127, r194_129, r194_130, r194_131, r194_134, r194_135, h190, c179, E, m192, rL, kdC, kdM, rpC, rpM, q_rs, q_rn, Option.toList_some, Option.toList_none, List.cons_append, List.nil_append, true_and, and_true, eq_self, ↓reduceIte, not_true_eq_false, not_false_eq_true, Nat.reduceEqDiff, Nat.reduceLeDiff, Nat.reduceLT, Nat.reduceAdd, Nat.reduceMul, Nat.reduceSub, false_or, or_false, true_or, or_true, false_and, and_false, reduceCtorEq, q_n0, q_n1, q_em, q_em2, q_b0, q_b1, Classical.not_not, nI_add, pk_mul, nI_clamp, q_vp, nI_eq, nI_leI, nI_ltI, q_sub, mst_g17, mst_17, cp]
      exact ih _ _ _
    · by_cases cm : cda (cK K) e s.2.2.1 = nI 147
      · rw [fterm, if_neg cp, if_pos cm] at q1
        obtain ⟨t, t1, t2⟩ := omap q1
        by_cases cz : t.1 = lN 0
        · rw [if_pos cz] at t2
          subst t2
          have hm2 := hmo k _ r q2; replace hm2 : t.2.2.1 ≤ r.2.2.1 := hm2
          have ih := L194 H E1 k _ r q2 hr d F
          have E := fun F => E1 live (s.2.2.1 + 1) s.2.2.2 t t1 (by omega) d F
          cases el : live <;> cases eb : t.2.2.2 <;> rw [el] at E ih <;> rw [eb] at E ih <;>
          simp (disch := first | omega | decide) only [r194_7, r194_8, r194_11, r194_14, r194_16, r194_19, r194_22, r194_23, r194_24, r194_27, r194_30, r194_32, r194_35, r194_38, r194_39, r194_40, r194_43, r194_46, r194_48, r194_51, r194_54, r194_55, r194_58, r194_59, r194_61, r194_62, r194_63, r194_66, r194_67, r194_68, r194_71, r194_72, r194_73, r194_76, r194_78, r194_80, r194_83, r194_85, r194_86, r194_87, r194_90, r194_91, r194_92, r194_95, r194_98, r194_99, r194_102, r194_103, r194_106, r194_107, r194_110, r194_111, r194_113, r194_114, r194_116, r194_119, r194_120, r194_122, r194_123, r194_126, r194_127, r194_129, r194_130, r194_131, r194_134, r194_135, h190, c179, E, m192, rL, kdC, kdM, rpC, rpM, q_rs, q_rn, Option.toList_some, Option.toList_none, List.cons_append, List.nil_append, true_and, and_true, eq_self, ↓reduceIte, not_true_eq_false, not_false_eq_true, Nat.reduceEqDiff, Nat.reduceLeDiff, Nat.reduceLT, Nat.reduceAdd, Nat.reduceMul, Nat.reduceSub, false_or, or_false, true_or, or_true, false_and, and_false, reduceCtorEq, q_n0, q_n1, q_em, q_em2, q_b0, q_b1, Classical.not_not, nI_add, pk_mul, nI_clamp, q_vp, nI_eq, nI_leI, nI_ltI, q_sub, l_eq, cz, mst_g17, mst_g19, mst_17, mst_190, mst_191, cm, sB0, show ¬ lN 1 = lN 0 by decide]
          all_goals exact ih _ _ _
        · rw [if_neg cz] at t2
          subst t2
          have hm2 := hmo k _ r q2; replace hm2 : t.2.2.1 ≤ r.2.2.1 := hm2
          have ih := L194 H E1 k _ r q2 hr d F
          have E := fun F => E1 live (s.2.2.1 + 1) s.2.2.2 t t1 (by omega) d F
          simp (disch := omega) only [r194_7, r194_8, r194_11, r194_14, r194_16, r194_19, r194_22, r194_23, r194_24, r194_27, r194_30, r194_32, r194_35, r194_38, r194_39, r194_40, r194_43, r194_46, r194_48, r194_51, r194_54, r194_55, r194_58, r194_59, r194_61, r194_62, r194_63, r194_66, r194_67, r194_68, r194_71, r194_72, r194_73, r194_76, r194_78, r194_80, r194_83, r194_85, r194_86, r194_87, r194_90, r194_91, r194_92, r194_95, r194_98, r194_99, r194_102, r194_103, r194_106, r194_107, r194_110, r194_111, r194_113, r194_114, r194_116, r194_119, r194_120, r194_122, r194_123, r194_126, r194_127, r194_129, r194_130, r194_131, r194_134, r194_135, h190, c179, E, m192, rL, kdC, kdM, rpC, rpM, q_rs, q_rn, Option.toList_some, Option.toList_none, List.cons_append, List.nil_append, true_and, and_true, eq_self, ↓reduceIte, not_true_eq_false, not_false_eq_true, Nat.reduceEqDiff, Nat.reduceLeDiff, Nat.reduceLT, Nat.reduceAdd, Nat.reduceMul, Nat.reduceSub, false_or, or_false, true_or, or_true, false_and, and_false, reduceCtorEq, q_n0, q_n1, q_em, q_em2, q_b0, q_b1, Classical.not_not, nI_add, pk_mul, nI_clamp, q_vp, nI_eq, nI_leI, nI_ltI, q_sub, l_eq, cz, mst_g17, mst_17, cm]
          exact ih _ _ _
      · rw [fterm, if_neg cp, if_neg cm] at q1
        cases q1
        cases q2
        simp (disch := omega) only [r194_7, r194_8, r194_11, r194_14, r194_16, r194_19, r194_22, r194_23, r194_24, r194_27, r194_30, r194_32, r194_35, r194_38, r194_39, r194_40, r194_43, r194_46, r194_48, r194_51, r194_54, r194_55, r194_58, r194_59, r194_61, r194_62, r194_63, r194_66, r194_67, r194_68, r194_71, r194_72, r194_73, r194_76, r194_78, r194_80, r194_83, r194_85, r194_86, r194_87, r194_90, r194_91, r194_92, r194_95, r194_98, r194_99, r194_102, r194_103, r194_106, r194_107, r194_110, r194_111, r194_113, r194_114, r194_116, r194_119, r194_120, r194_122, r194_123, r194_126, r194_127, r194_129, r194_130, r194_131, r194_134, r194_135, r194_138, r194_139, h190, c179, kdC, kdM, rpC, rpM, q_rs, q_rn, Option.toList_some, Option.toList_none, List.cons_append, List.nil_append, true_and, and_true, eq_self, ↓reduceIte, not_true_eq_false, not_false_eq_true, Nat.reduceEqDiff, Nat.reduceLeDiff, Nat.reduceLT, Nat.reduceAdd, Nat.reduceMul, Nat.reduceSub, false_or, or_false, true_or, or_true, false_and, and_false, reduceCtorEq, q_n0, q_n1, q_em, q_em2, q_b0, q_b1, Classical.not_not, nI_add, pk_mul, nI_clamp, q_vp, nI_eq, nI_leI, nI_ltI, q_sub, mst_g17, cp, cm]
theorem E194 (H : rdH h K e) {n : Nat} (E1 : EvP h K e n 195 2 rL) : EvP h K e (n + 1) 194 1 rL := by
  intro live go br r q hr d F
  rw [ev_1] at q
  obtain ⟨t, q1, q2⟩ := obind q
  have hmo := fterm_m (c := cK K) (v := vK K) (e := e) (env := gI h 112) (n := n) (fun live go br r => ev_mono n 2 live go br r (by omega)) live _ _ _ q2
  have hl := L194 H E1 _ _ _ q2 hr d F
  have E := fun F => E1 live go br t q1 (by omega) d F
  show cwp true (d + n + 3) 194 _ _ _ = _
  simp (disch := omega) only [r194_0, r194_1, r194_2, r194_5, e194, E, rL, kdC, kdM, rpC, rpM, q_rs, q_rn, Option.toList_some, Option.toList_none, List.cons_append, List.nil_append, true_and, and_true, eq_self, ↓reduceIte, not_true_eq_false, not_false_eq_true, Nat.reduceEqDiff, Nat.reduceLeDiff, Nat.reduceLT, Nat.reduceAdd, Nat.reduceMul, Nat.reduceSub, false_or, or_false, true_or, or_true, false_and, and_false, reduceCtorEq, q_n0, q_n1, q_em, q_em2, q_b0, q_b1, Classical.not_not]
  exact hl _ _ _
theorem E195 (H : rdH h K e) {n : Nat} (E0 : EvP h K e n 193 0 rL) : EvP h K e (n + 1) 195 2 rL := by
  intro live go br r q hr d F
  have hmo := ev_mono _ _ _ _ _ _ (by omega) q
  rw [ev_2] at q
  unfold fpart at q
  show cwp true (d + n + 3) 195 _ _ _ = _
  have h191 := m191 H (g := go) (by omega) (nI 191)
  have h190 := m190 H (k := go) (by omega)
  by_cases c1 : cda (cK K) e go = nI 191
  · rw [if_pos c1] at q
    obtain ⟨t, t1, t2⟩ := omap q
    subst t2
    have E := fun F => E0 live (go + 1) br t t1 (by show t.2.2.1 ≤ 4500; have : t.2.2.1 + 1 ≤ 4500 := hr; omega) d F
    simp (disch := omega) only [e195, r195_0, r195_1, r195_3, r195_6, r195_9, r195_12, r195_13, r195_14, r195_17, r195_18, r195_19, r195_20, r195_23, r195_24, r195_25, r195_28, r195_29, r195_30, r195_31, r195_32, r195_35, r195_38, r195_39, r195_40, r195_41, r195_44, r195_45, r195_46, r195_49, r195_50, r195_53, r195_54, r195_57, r195_60, r195_61, r195_62, r195_63, r195_65, r195_68, r195_69, r195_72, r195_75, r195_76, r195_79, r195_80, r195_81, r195_82, r195_83, r195_84, r195_87, r195_88, r195_91, r195_92, r195_94, r195_95, r195_96, r195_97, c179, h191, E, rL, kdC, kdM, rpC, rpM, q_rs, q_rn, Option.toList_some, Option.toList_none, List.cons_append, List.nil_append, true_and, and_true, eq_self, ↓reduceIte, not_true_eq_false, not_false_eq_true, Nat.reduceEqDiff, Nat.reduceLeDiff, Nat.reduceLT, Nat.reduceAdd, Nat.reduceMul, Nat.reduceSub, false_or, or_false, true_or, or_true, false_and, and_false, reduceCtorEq, q_n0, q_n1, q_em, q_em2, q_b0, q_b1, Classical.not_not, nI_add, pk_mul, nI_clamp, q_vp, nI_eq, nI_leI, nI_ltI, q_sub, mst_g17, mst_17, c1]
  · rw [if_neg c1] at q
    cases el : live with
    | false =>
      rw [el] at q
      cases q
      simp (disch := omega) only [e195, r195_0, r195_1, r195_3, r195_6, r195_9, r195_12, r195_13, r195_14, r195_17, r195_18, r195_19, r195_20, r195_23, r195_24, r195_25, r195_28, r195_29, r195_30, r195_31, r195_32, r195_35, r195_38, r195_39, r195_40, r195_41, r195_44, r195_45, r195_46, r195_49, r195_50, r195_53, r195_54, r195_57, r195_60, r195_61, r195_62, r195_63, r195_65, r195_68, r195_69, r195_72, r195_75, r195_76, r195_79, r195_80, r195_81, r195_82, r195_83, r195_84, r195_87, r195_88, r195_91, r195_92, r195_94, r195_95, r195_96, r195_97, c179, h191, h190, rL, kdC, kdM, rpC, rpM, q_rs, q_rn, Option.toList_some, Option.toList_none, List.cons_append, List.nil_append, true_and, and_true, eq_self, ↓reduceIte, not_true_eq_false, not_false_eq_true, Nat.reduceEqDiff, Nat.reduceLeDiff, Nat.reduceLT, Nat.reduceAdd, Nat.reduceMul, Nat.reduceSub, false_or, or_false, true_or, or_true, false_and, and_false, reduceCtorEq, q_n0, q_n1, q_em, q_em2, q_b0, q_b1, Classical.not_not, nI_add, pk_mul, nI_clamp, q_vp, nI_eq, nI_leI, nI_ltI, q_sub, mst_g17, mst_17, c1, sB]
    | true =>
      cases eb : br with
      | true =>
        rw [el, eb] at q
        cases q
        simp (disch := omega) only [e195, r195_0, r195_1, r195_3, r195_6, r195_9, r195_12, r195_13, r195_14, r195_17, r195_18, r195_19, r195_20, r195_23, r195_24, r195_25, r195_28, r195_29, r195_30, r195_31, r195_32, r195_35, r195_38, r195_39, r195_40, r195_41, r195_44, r195_45, r195_46, r195_49, r195_50, r195_53, r195_54, r195_57, r195_60, r195_61, r195_62, r195_63, r195_65, r195_68, r195_69, r195_72, r195_75, r195_76, r195_79, r195_80, r195_81, r195_82, r195_83, r195_84, r195_87, r195_88, r195_91, r195_92, r195_94, r195_95, r195_96, r195_97, c179, h191, h190, rL, kdC, kdM, rpC, rpM, q_rs, q_rn, Option.toList_some, Option.toList_none, List.cons_append, List.nil_append, true_and, and_true, eq_self, ↓reduceIte, not_true_eq_false, not_false_eq_true, Nat.reduceEqDiff, Nat.reduceLeDiff, Nat.reduceLT, Nat.reduceAdd, Nat.reduceMul, Nat.reduceSub, false_or, or_false, true_or, or_true, false_and, and_false, reduceCtorEq, q_n0, q_n1, q_em, q_em2, q_b0, q_b1, Classical.not_not, nI_add, pk_mul, nI_clamp, q_vp, nI_eq, nI_leI, nI_ltI, q_sub, mst_g17, mst_g19, mst_17, c1, sB]
      | false =>
        rw [el, eb] at q
        simp only [Bool.not_true, Bool.or_false, Bool.false_eq_true, ↓reduceIte] at q
        have g103 : ∀ g b, gI (mst h g b) 103 = K := fun g b => by rw [mst_n _ _ _ (by omega)]; exact H.1
        have g112 : ∀ g b, gI (mst h g b) 112 = gI h 112 := fun g b => mst_n _ _ _ (by omega)
        have he := H.2.2
        by_cases c2 : cda (cK K) e go = nI 50
        · rw [if_pos c2] at q
          cases q
          have hlt : go < e := by
            by_cases z : go < e
            · exact z
            · unfold cda at c2
              rw [if_neg z] at c2
              exact absurd c2 (by decide)
          have hcv : cda (vK K) e go = K (4391 + go) := by unfold cda vK; rw [if_pos hlt]
          simp (disch := omega) only [e195, r195_0, r195_1, r195_3, r195_6, r195_9, r195_12, r195_13, r195_14, r195_17, r195_18, r195_19, r195_20, r195_23, r195_24, r195_25, r195_28, r195_29, r195_30, r195_31, r195_32, r195_35, r195_38, r195_39, r195_40, r195_41, r195_44, r195_45, r195_46, r195_49, r195_50, r195_53, r195_54, r195_57, r195_60, r195_61, r195_62, r195_63, r195_65, r195_68, r195_69, r195_72, r195_75, r195_76, r195_79, r195_80, r195_81, r195_82, r195_83, r195_84, r195_87, r195_88, r195_91, r195_92, r195_94, r195_95, r195_96, r195_97, c179, h191, h190, rL, kdC, kdM, rpC, rpM, q_rs, q_rn, Option.toList_some, Option.toList_none, List.cons_append, List.nil_append, true_and, and_true, eq_self, ↓reduceIte, not_true_eq_false, not_false_eq_true, Nat.reduceEqDiff, Nat.reduceLeDiff, Nat.reduceLT, Nat.reduceAdd, Nat.reduceMul, Nat.reduceSub, false_or, or_false, true_or, or_true, false_and, and_false, reduceCtorEq, q_n0, q_n1, q_em, q_em2, q_b0, q_b1, Classical.not_not, nI_add, pk_mul, nI_clamp, q_vp, nI_eq, nI_leI, nI_ltI, q_sub, mst_g17, mst_g19, mst_17, g103, c2, hcv, sB, show 4391 + (go + 1) - 1 = 4391 + go by omega, show 4391 + go < 8391 by omega]
        · rw [if_neg c2] at q
          by_cases c3 : nI 9 ≤ cda (cK K) e go ∧ cda (cK K) e go ≤ nI 20
          · rw [if_pos c3] at q
            cases q
            obtain ⟨j, hj, ej⟩ := q_ix2 (m := 20) (by omega) (by
              have h1 := c3.1
              rw [Int32.le_iff_toInt_le, show (nI 9).toInt = 9 by decide] at h1
              rw [Int32.le_iff_toInt_le, q_z0]; omega) c3.2
            rw [ej] at c1 c2 c3 h191 h190 ⊢
            rw [nI_leI (by omega) (by omega)] at c3
            rw [nI_eq (by omega) (by omega)] at c1 c2
            simp (disch := omega) only [e195, r195_0, r195_1, r195_3, r195_6, r195_9, r195_12, r195_13, r195_14, r195_17, r195_18, r195_19, r195_20, r195_23, r195_24, r195_25, r195_28, r195_29, r195_30, r195_31, r195_32, r195_35, r195_38, r195_39, r195_40, r195_41, r195_44, r195_45, r195_46, r195_49, r195_50, r195_53, r195_54, r195_57, r195_60, r195_61, r195_62, r195_63, r195_65, r195_68, r195_69, r195_72, r195_75, r195_76, r195_79, r195_80, r195_81, r195_82, r195_83, r195_84, r195_87, r195_88, r195_91, r195_92, r195_94, r195_95, r195_96, r195_97, c179, h191, h190, rL, kdC, kdM, rpC, rpM, q_rs, q_rn, Option.toList_some, Option.toList_none, List.cons_append, List.nil_append, true_and, and_true, eq_self, ↓reduceIte, not_true_eq_false, not_false_eq_true, Nat.reduceEqDiff, Nat.reduceLeDiff, Nat.reduceLT, Nat.reduceAdd, Nat.reduceMul, Nat.reduceSub, false_or, or_false, true_or, or_true, false_and, and_false, reduceCtorEq, q_n0, q_n1, q_em, q_em2, q_b0, q_b1, Classical.not_not, nI_add, pk_mul, nI_clamp, q_vp, nI_eq, nI_leI, nI_ltI, q_sub, mst_g17, mst_g19, mst_17, g112, c1, c2, sB, show j - 9 < 12 by omega]
          · rw [if_neg c3] at q
            cases q
end MV
