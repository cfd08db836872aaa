/-! talks: what a sheet does to a talker (the class) -/
theorem rp88 : (∀ h : Hp, rpm true h 88 3 = gP h 88 3) ∧ (∀ h : Hp, rpm true h 88 4 = gP h 88 4) := ⟨fun _ => rfl, fun _ => rfl⟩
/-- what talks may change -/
def tkS (a i : Nat) : Bool := Nat.beq a 80 || (Nat.beq a 81 || (Nat.beq a 82 || (Nat.beq a 90 || (Nat.beq a 91 || (Nat.beq a 88 && Nat.beq i 9)))))
abbrev Tf' (h h' : Hp) : Prop := FrS tkS h h'
theorem Tk_fr {h h' : Hp} (x : FrS tkS h h') : Fr h h' := x.mono (fun a i e => by
  have key : ∀ k, scr k i = true → Nat.beq a k = false := by
    intro k hk
    cases q : Nat.beq a k with
    | false => rfl
    | true =>
      obtain rfl := Nat.eq_of_beq_eq_true q
      rw [hk] at e; cases e
  unfold tkS
  rw [key 80 rfl, key 81 rfl, key 82 rfl, key 90 rfl, key 91 rfl]
  cases q1 : Nat.beq a 88 with
  | false => rfl
  | true =>
    cases q2 : Nat.beq i 9 with
    | false => rfl
    | true =>
      obtain rfl := Nat.eq_of_beq_eq_true q1
      obtain rfl := Nat.eq_of_beq_eq_true q2
      cases e)
theorem As_tk {h h' : Hp} (x : As h h') : FrS tkS h h' := x.mono (fun a i e => by
  obtain ⟨e1, e⟩ := bor e
  obtain ⟨e2, e⟩ := bor e
  obtain ⟨e3, e⟩ := bor e
  unfold asS
  rw [e1, e3]; rfl)
/-- the words: those of flights are 0, those of sheets are k w m -/
def wdS (h : Hp) (k w m : Int32) : Prop := (∀ i, i < 4 → gI h 81 i = nI 0) ∧ gI h 81 9 = k ∧ gI h 81 10 = w ∧ gI h 81 11 = m
def tsh (h : Hp) (k w m : Int32) : Hp := sI (sI (sI h 81 9 k) 81 10 w) 81 11 m
def ttl (h : Hp) (a b c e g : Int32) : Hp := sI (sI (sI (sI (sI h 81 4 a) 81 5 b) 81 6 c) 81 7 e) 81 8 g
section SW
variable {h : Hp} {K : Nat → Int32}
theorem c68 (d : Nat) (F : Po) (k w m : Int32) : cwp true d 68 [.ref 88, .int k, .int w, .int m] h F = F none (tsh h k w m) := by
  simp (disch := omega) only [e68, r68_0, r68_1, r68_4, r68_7, r68_9, r68_10, r68_11, r68_12, r68_15, r68_18, r68_20, r68_21, r68_22, r68_23, r68_26, r68_29, r68_31, r68_32, r68_33, kdC, kdM, rpC, rpM, q_rs, q_rn, Option.toList_some, Option.toList_none, List.cons_append, List.nil_append, true_and, and_true, eq_self, ↓reduceIte, not_true_eq_false, not_false_eq_true, Nat.reduceEqDiff, Nat.reduceLeDiff, Nat.reduceLT, Nat.reduceAdd, Nat.reduceMul, Nat.reduceSub, false_or, or_false, true_or, or_true, false_and, and_false, reduceCtorEq, q_n0, q_n1, q_em, q_em2, q_b0, q_b1, Classical.not_not, nI_add, pk_mul, nI_clamp, q_vp, nI_eq, nI_leI, nI_ltI, q_sub, tsh]
theorem c69 (w : WF K) (q : RS h 0 K) {t at' : Nat} (ht : t < nt K) (ha : at' < 156) (d : Nat) (F : Po) : cwp true d 69 [.ref 88, .int (nI t), .int (nI at')] h F = F none (ttl h (K (244 + 5 * t)) (K (244 + 5 * t + 1)) (K (244 + 5 * t + 2)) (gI h 90 at') (gI h 91 at')) := by
  have h1 := w.hnt
  simp (disch := omega) only [e69, r69_0, r69_1, r69_4, r69_7, r69_8, r69_9, r69_12, r69_15, r69_16, r69_17, r69_18, r69_19, r69_22, r69_25, r69_26, r69_27, r69_30, r69_33, r69_34, r69_35, r69_36, r69_37, r69_40, r69_43, r69_45, r69_46, r69_49, r69_52, r69_53, r69_54, r69_55, r69_56, r69_59, r69_62, r69_64, r69_65, r69_68, r69_69, r69_70, r69_71, r69_72, r69_75, r69_78, r69_80, r69_81, r69_84, r69_85, r69_86, r69_87, kdC, kdM, rpC, rpM, q_rs, q_rn, Option.toList_some, Option.toList_none, List.cons_append, List.nil_append, true_and, and_true, eq_self, ↓reduceIte, not_true_eq_false, not_false_eq_true, Nat.reduceEqDiff, Nat.reduceLeDiff, Nat.reduceLT, Nat.reduceAdd, Nat.reduceMul, Nat.reduceSub, false_or, or_false, true_or, or_true, false_and, and_false, reduceCtorEq, q_n0, q_n1, q_em, q_em2, q_b0, q_b1, Classical.not_not, nI_add, pk_mul, nI_clamp, q_vp, nI_eq, nI_leI, nI_ltI, q_sub, q_gs, q_gn, q_gm, q_gIJ, q_gIP, q_gJI, q_gJA, q_gJP, q_gPI, q_gPA, q_gPJ, q_ga, q_gan, q_js, q_jn, q_jm, q_ps, q_pn, q_pm, q.t0, q.t1, q.t2, ha, ttl, show t < 12 by omega]
theorem ttl_env {t : Nat} {dp : Int32 × Int32} {k w m : Int32} (hw : wdS h k w m) : ∀ i, i < 12 → gI (ttl h (K (244 + 5 * t)) (K (244 + 5 * t + 1)) (K (244 + 5 * t + 2)) dp.1 dp.2) 81 i = envT K t dp k w m i := by
  intro i hi
  obtain ⟨w0, w9, w10, w11⟩ := hw
  unfold ttl envT
  simp only [q_gi, true_and]
  by_cases c4 : i = 4
  · subst c4; simp
  · by_cases c5 : i = 5
    · subst c5; simp
    · by_cases c6 : i = 6
      · subst c6; simp
      · by_cases c7 : i = 7
        · subst c7; simp
        · by_cases c8 : i = 8
          · subst c8; simp
          · rw [if_neg c8, if_neg c7, if_neg c6, if_neg c5, if_neg c4, if_neg c4, if_neg c5, if_neg c6, if_neg c7, if_neg c8]
            by_cases c9 : i = 9
            · subst c9; rw [if_pos rfl]; exact w9
            · rw [if_neg c9]
              by_cases c10 : i = 10
              · subst c10; rw [if_pos rfl]; exact w10
              · rw [if_neg c10]
                by_cases c11 : i = 11
                · subst c11; rw [if_pos rfl]; exact w11
                · rw [if_neg c11]; exact w0 i (by omega)
theorem ttl_x (h0 : Hp) (x : FrS tkS h0 h) (a b c e g : Int32) : FrS tkS h0 (ttl h a b c e g) := ((((x.sI _ rfl).sI _ rfl).sI _ rfl).sI _ rfl).sI _ rfl
theorem ttl_w {k w m : Int32} (a b c e g : Int32) (hw : wdS h k w m) : wdS (ttl h a b c e g) k w m := by
  obtain ⟨w0, w9, w10, w11⟩ := hw
  unfold ttl
  refine ⟨fun i hi => ?_, ?_, ?_, ?_⟩
  · rw [q_gm (by omega), q_gm (by omega), q_gm (by omega), q_gm (by omega), q_gm (by omega)]; exact w0 i hi
  · rw [q_gm (by omega), q_gm (by omega), q_gm (by omega), q_gm (by omega), q_gm (by omega)]; exact w9
  · rw [q_gm (by omega), q_gm (by omega), q_gm (by omega), q_gm (by omega), q_gm (by omega)]; exact w10
  · rw [q_gm (by omega), q_gm (by omega), q_gm (by omega), q_gm (by omega), q_gm (by omega)]; exact w11
theorem ttl_n (a b c e g : Int32) {y : Nat} (hy : y ≠ 81) : gI (ttl h a b c e g) y = gI h y := by
  unfold ttl
  rw [q_gn hy, q_gn hy, q_gn hy, q_gn hy, q_gn hy]
/-- what it is worth to one to whom it is shown -/
noncomputable def swD (K : Nat → Int32) (T : Tk) (s t : Nat) (dp : Int32 × Int32) : Int32 × Int32 := pif (K (304 + 6 * s + 2) = nI 5) (pif (K (244 + 5 * t) < K (244 + 5 * byS K s)) (dp.1, nI 1) dp) (q_near (dp.1 + movS K T s t dp) (nI 0) (nI 100), dp.2)
noncomputable def swP (K : Nat → Int32) (s t : Nat) (fp : Int32) : Int32 := pif ((K (304 + 6 * s + 2) = nI 5 ∧ K (244 + 5 * t) < K (244 + 5 * byS K s)) ∧ fp = -1) (K (304 + 6 * s + 1)) fp
theorem c67 {T : Tk} {t' a s t at' : Nat} (z : STS h 0 K) (hP : gP h 88 3 = some a) (te : tEq K t' T) (ta : tAt h a T) (hs : s < ns K) (ht : t < nt K) (ha : at' < 156) (hw : wdS h (K (304 + 6 * s + 2)) (K (304 + 6 * s + 3)) (K (304 + 6 * s + 1))) : ∃ h', FrS tkS h h' ∧ gI h' 90 = upd (gI h 90) at' (swD K T s t (gI h 90 at', gI h 91 at')).1 ∧ gI h' 91 = upd (gI h 91) at' (swD K T s t (gI h 90 at', gI h 91 at')).2 ∧ gI h' 88 9 = swP K s t (gI h 88 9) ∧ wdS h' (K (304 + 6 * s + 2)) (K (304 + 6 * s + 3)) (K (304 + 6 * s + 1)) ∧ ∀ d F, cwp true (d + 3) 67 [.ref 88, .int (nI s), .int (nI t), .int (nI at')] h F = F none h' := by
  have w := z.1
  have q := z.2.1
  have h1 := w.hns
  have h2 := w.hnt
  have hs12 : s < 12 := by omega
  have ht12 : t < 12 := by omega
  obtain ⟨⟨b, hb, eb⟩, _⟩ := w.2.2.2.2.2 s hs
  have hby : byS K s = b := by unfold byS; rw [eb, nI_clamp (by omega)]
  have hb12 : b < 12 := by omega
  have hself : ∀ (f : Nat → Int32) (i : Nat), upd f i (f i) = f := fun f i => by
    funext j
    unfold upd
    by_cases e : j = i
    · rw [if_pos e, e]
    · rw [if_neg e]
  by_cases c5 : K (304 + 6 * s + 2) = nI 5
  · by_cases cr : K (244 + 5 * t) < K (244 + 5 * byS K s)
    · have hd : swD K T s t (gI h 90 at', gI h 91 at') = (gI h 90 at', nI 1) := by unfold swD; rw [pif_t c5, pif_t cr]
      have cr' : ¬ K (244 + 5 * b) ≤ K (244 + 5 * t) := by rw [← hby]; exact Int32.not_le.mpr cr
      rw [hd]
      by_cases cf : gI h 88 9 = -1
      · have hp : swP K s t (gI h 88 9) = K (304 + 6 * s + 1) := by unfold swP; rw [pif_t ⟨⟨c5, cr⟩, cf⟩]
        rw [hp]
        refine ⟨sI (sI h 91 at' (nI 1)) 88 9 (K (304 + 6 * s + 1)), ((FrS.refl h).sI _ rfl).sI _ rfl, ?_, ?_, q_gs _ _ _ _, ?_, fun d F => ?_⟩
        · rw [q_gn (by omega), q_gn (by omega), hself]
        · rw [q_gn (by omega), q_gsu]
        · unfold wdS; rw [q_gn (by omega), q_gn (by omega)]; exact hw
        · have q1 := (STS_fr ((Fr.refl h).sI (a := 91) (i := at') (nI 1) rfl) (Or.inl rfl) z).2.1
          have cf' : gI (sI h 91 at' (nI 1)) 88 9 = -1 := by rw [q_gn (by omega)]; exact cf
          simp (disch := omega) only [e67, r67_0, r67_1, r67_4, r67_7, r67_8, r67_9, r67_10, r67_13, r67_14, r67_17, r67_20, r67_21, r67_22, r67_23, r67_26, r67_29, r67_30, r67_33, r67_36, r67_37, r67_38, r67_39, r67_42, r67_43, r67_46, r67_47, r67_48, r67_49, r67_50, r67_51, r67_54, r67_55, r67_58, r67_59, r67_62, r67_65, r67_66, r67_67, r67_70, r67_71, r67_74, r67_77, r67_78, r67_79, r67_80, r67_81, r67_84, r67_85, r67_88, r67_89, r67_92, r67_93, r67_96, r67_99, r67_100, r67_103, r67_106, r67_109, r67_110, r67_112, r67_113, r67_116, r67_119, r67_120, r67_121, r67_123, r67_126, r67_128, r67_129, r67_130, r67_132, r67_133, r67_136, r67_137, r67_138, r67_141, r67_142, r67_143, r67_145, r67_146, r67_147, r67_149, r67_152, r67_153, kdC, kdM, rpC, rpM, q_rs, q_rn, Option.toList_some, Option.toList_none, List.cons_append, List.nil_append, true_and, and_true, eq_self, ↓reduceIte, not_true_eq_false, not_false_eq_true, Nat.reduceEqDiff, Nat.reduceLeDiff, Nat.reduceLT, Nat.reduceAdd, Nat.reduceMul, Nat.reduceSub, false_or, or_false, true_or, or_true, false_and, and_false, reduceCtorEq, q_n0, q_n1, q_em, q_em2, q_b0, q_b1, Classical.not_not, nI_add, pk_mul, nI_clamp, q_vp, nI_eq, nI_leI, nI_ltI, q_sub, q.s2, q1.s2, q.s0, q.t0, q1.s1, eb, c5, cr', cf', hs12, ht12, hb12, ha]
      · have hp : swP K s t (gI h 88 9) = gI h 88 9 := by unfold swP; rw [pif_f (fun z => cf z.2)]
        rw [hp]
        refine ⟨sI (sI h 91 at' (nI 1)) 88 9 (gI h 88 9), ((FrS.refl h).sI _ rfl).sI _ rfl, ?_, ?_, q_gs _ _ _ _, ?_, fun d F => ?_⟩
        · rw [q_gn (by omega), q_gn (by omega), hself]
        · rw [q_gn (by omega), q_gsu]
        · unfold wdS; rw [q_gn (by omega), q_gn (by omega)]; exact hw
        · have cf' : gI (sI h 91 at' (nI 1)) 88 9 = gI h 88 9 := by rw [q_gn (by omega)]
          simp (disch := omega) only [e67, r67_0, r67_1, r67_4, r67_7, r67_8, r67_9, r67_10, r67_13, r67_14, r67_17, r67_20, r67_21, r67_22, r67_23, r67_26, r67_29, r67_30, r67_33, r67_36, r67_37, r67_38, r67_39, r67_42, r67_43, r67_46, r67_47, r67_48, r67_49, r67_50, r67_51, r67_54, r67_55, r67_58, r67_59, r67_62, r67_65, r67_66, r67_67, r67_70, r67_71, r67_74, r67_77, r67_78, r67_79, r67_80, r67_81, r67_84, r67_85, r67_88, r67_89, r67_92, r67_93, r67_96, r67_99, r67_100, r67_103, r67_106, r67_109, r67_110, r67_112, r67_113, r67_116, r67_119, r67_120, r67_121, r67_123, r67_126, r67_128, r67_129, r67_130, r67_132, r67_133, r67_136, r67_137, r67_138, r67_141, r67_142, r67_143, r67_145, r67_146, r67_147, r67_149, r67_152, r67_153, kdC, kdM, rpC, rpM, q_rs, q_rn, Option.toList_some, Option.toList_none, List.cons_append, List.nil_append, true_and, and_true, eq_self, ↓reduceIte, not_true_eq_false, not_false_eq_true, Nat.reduceEqDiff, Nat.reduceLeDiff, Nat.reduceLT, Nat.reduceAdd, Nat.reduceMul, Nat.reduceSub, false_or, or_false, true_or, or_true, false_and, and_false, reduceCtorEq, q_n0, q_n1, q_em, q_em2, q_b0, q_b1, Classical.not_not, nI_add, pk_mul, nI_clamp, q_vp, nI_eq, nI_leI, nI_ltI, q_sub, q.s2, q.s0, q.t0, eb, c5, cr', cf', cf, hs12, ht12, hb12, ha]
    · have hd : swD K T s t (gI h 90 at', gI h 91 at') = (gI h 90 at', gI h 91 at') := by unfold swD; rw [pif_t c5, pif_f cr]
      have hp : swP K s t (gI h 88 9) = gI h 88 9 := by unfold swP; rw [pif_f (fun z => cr z.1.2)]
      have cr' : K (244 + 5 * b) ≤ K (244 + 5 * t) := by rw [← hby]; exact Int32.not_lt.mp cr
      rw [hd, hp]
      refine ⟨h, FrS.refl h, (hself _ _).symm, (hself _ _).symm, rfl, hw, fun d F => ?_⟩
      simp (disch := omega) only [e67, r67_0, r67_1, r67_4, r67_7, r67_8, r67_9, r67_10, r67_13, r67_14, r67_17, r67_20, r67_21, r67_22, r67_23, r67_26, r67_29, r67_30, r67_33, r67_36, r67_37, r67_38, r67_39, r67_42, r67_43, r67_46, r67_47, r67_48, r67_49, r67_50, r67_51, r67_54, r67_55, r67_58, r67_59, r67_62, r67_65, r67_66, r67_67, r67_70, r67_71, r67_74, r67_77, r67_78, r67_79, r67_80, r67_81, r67_84, r67_85, r67_88, r67_89, r67_92, r67_93, r67_96, r67_99, r67_100, r67_103, r67_106, r67_109, r67_110, r67_112, r67_113, r67_116, r67_119, r67_120, r67_121, r67_123, r67_126, r67_128, r67_129, r67_130, r67_132, r67_133, r67_136, r67_137, r67_138, r67_141, r67_142, r67_143, r67_145, r67_146, r67_147, r67_149, r67_152, r67_153, kdC, kdM, rpC, rpM, q_rs, q_rn, Option.toList_some, Option.toList_none, List.cons_append, List.nil_append, true_and, and_true, eq_self, ↓reduceIte, not_true_eq_false, not_false_eq_true, Nat.reduceEqDiff, Nat.reduceLeDiff, Nat.reduceLT, Nat.reduceAdd, Nat.reduceMul, Nat.reduceSub, false_or, or_false, true_or, or_true, false_and, and_false, reduceCtorEq, q_n0, q_n1, q_em, q_em2, q_b0, q_b1, Classical.not_not, nI_add, pk_mul, nI_clamp, q_vp, nI_eq, nI_leI, nI_ltI, q_sub, q.s2, q.s0, q.t0, eb, c5, cr', hs12, ht12, hb12]
  · have hd : swD K T s t (gI h 90 at', gI h 91 at') = (q_near (gI h 90 at' + movS K T s t (gI h 90 at', gI h 91 at')) (nI 0) (nI 100), gI h 91 at') := by unfold swD; rw [pif_f c5]
    have hp : swP K s t (gI h 88 9) = gI h 88 9 := by unfold swP; rw [pif_f (fun z => c5 z.1.1)]
    rw [hd, hp]
    have h69 := fun F d => c69 (h := h) w q ht ha d F
    have henv := ttl_env (h := h) (K := K) (t := t) (dp := (gI h 90 at', gI h 91 at')) hw
    have x1 := ttl_x (h := h) h (FrS.refl h) (K (244 + 5 * t)) (K (244 + 5 * t + 1)) (K (244 + 5 * t + 2)) (gI h 90 at') (gI h 91 at')
    have hw1 := ttl_w (K (244 + 5 * t)) (K (244 + 5 * t + 1)) (K (244 + 5 * t + 2)) (gI h 90 at') (gI h 91 at') hw
    have hn1 := fun y (hy : y ≠ 81) => ttl_n (h := h) (K (244 + 5 * t)) (K (244 + 5 * t + 1)) (K (244 + 5 * t + 2)) (gI h 90 at') (gI h 91 at') hy
    have hP1 : gP (ttl h (K (244 + 5 * t)) (K (244 + 5 * t + 1)) (K (244 + 5 * t + 2)) (gI h 90 at') (gI h 91 at')) 88 3 = some a := by rw [x1.p (a := 88) (i := 3) rfl]; exact hP
    generalize ttl h (K (244 + 5 * t)) (K (244 + 5 * t + 1)) (K (244 + 5 * t + 2)) (gI h 90 at') (gI h 91 at') = g1 at *
    have ta1 := tAt_fr (Tk_fr x1) ta
    obtain ⟨k1, k2⟩ := c2 g1 te.2.1 ta1 (hd := 1) (by omega) henv
    have fin : ∀ (g2 : Hp) (v : Int32), As g1 g2 → v = (tv T 1 (envT K t (gI h 90 at', gI h 91 at') (K (304 + 6 * s + 2)) (K (304 + 6 * s + 3)) (K (304 + 6 * s + 1)))).getD (nI 0) → (∀ d F, cwp true (d + 3) 67 [.ref 88, .int (nI s), .int (nI t), .int (nI at')] h F = wp true (d + 3) 67 112 [.ref 88, .int (nI s), .int (nI t), .int (nI at'), .int v] [] g2 F) → ∃ h', FrS tkS h h' ∧ gI h' 90 = upd (gI h 90) at' (q_near (gI h 90 at' + movS K T s t (gI h 90 at', gI h 91 at')) (nI 0) (nI 100)) ∧ gI h' 91 = upd (gI h 91) at' (gI h 91 at') ∧ gI h' 88 9 = gI h 88 9 ∧ wdS h' (K (304 + 6 * s + 2)) (K (304 + 6 * s + 3)) (K (304 + 6 * s + 1)) ∧ ∀ d F, cwp true (d + 3) 67 [.ref 88, .int (nI s), .int (nI t), .int (nI at')] h F = F none h' := by
      intro g2 v xa ev1 hst
      have x2 : FrS tkS h g2 := x1.trans (As_tk xa)
      have q2 := (STS_fr (Tk_fr x2) (Or.inl rfl) z).2.1
      have n90 : gI g2 90 = gI h 90 := by rw [xa.n (by omega) (by omega), hn1 90 (by omega)]
      have n91 : gI g2 91 = gI h 91 := by rw [xa.n (by omega) (by omega), hn1 91 (by omega)]
      have n88 : gI g2 88 9 = gI h 88 9 := by rw [xa.n (a := 88) (by omega) (by omega), hn1 88 (by omega)]
      have hw2 : wdS g2 (K (304 + 6 * s + 2)) (K (304 + 6 * s + 3)) (K (304 + 6 * s + 1)) := by unfold wdS; rw [xa.n (a := 81) (by omega) (by omega)]; exact hw1
      refine ⟨sI g2 90 at' (q_near (gI h 90 at' + movS K T s t (gI h 90 at', gI h 91 at')) (nI 0) (nI 100)), x2.sI _ rfl, by rw [q_gsu, n90], by rw [q_gn (by omega), n91, hself], by rw [q_gn (by omega), n88], by unfold wdS; rw [q_gn (by omega)]; exact hw2, fun d F => ?_⟩
      rw [hst]
      unfold movS
      by_cases c6 : K (304 + 6 * s + 2) = nI 6
      · simp (disch := omega) only [r67_112, r67_113, r67_116, r67_119, r67_120, r67_121, r67_123, r67_126, r67_128, r67_129, r67_130, r67_132, r67_133, r67_136, r67_137, r67_138, r67_141, r67_142, r67_143, r67_145, r67_146, r67_147, r67_149, r67_152, r67_153, c128, kdC, kdM, rpC, rpM, q_rs, q_rn, Option.toList_some, Option.toList_none, List.cons_append, List.nil_append, true_and, and_true, eq_self, ↓reduceIte, not_true_eq_false, not_false_eq_true, Nat.reduceEqDiff, Nat.reduceLeDiff, Nat.reduceLT, Nat.reduceAdd, Nat.reduceMul, Nat.reduceSub, false_or, or_false, true_or, or_true, false_and, and_false, reduceCtorEq, q_n0, q_n1, q_em, q_em2, q_b0, q_b1, Classical.not_not, nI_add, pk_mul, nI_clamp, q_vp, nI_eq, nI_leI, nI_ltI, q_sub, q2.s2, n90, c6, hs12, ha, ev1]
      · simp (disch := omega) only [r67_112, r67_113, r67_116, r67_119, r67_120, r67_121, r67_123, r67_126, r67_128, r67_129, r67_130, r67_132, r67_133, r67_136, r67_137, r67_138, r67_141, r67_142, r67_143, r67_145, r67_146, r67_147, r67_149, r67_152, r67_153, c128, kdC, kdM, rpC, rpM, q_rs, q_rn, Option.toList_some, Option.toList_none, List.cons_append, List.nil_append, true_and, and_true, eq_self, ↓reduceIte, not_true_eq_false, not_false_eq_true, Nat.reduceEqDiff, Nat.reduceLeDiff, Nat.reduceLT, Nat.reduceAdd, Nat.reduceMul, Nat.reduceSub, false_or, or_false, true_or, or_true, false_and, and_false, reduceCtorEq, q_n0, q_n1, q_em, q_em2, q_b0, q_b1, Classical.not_not, nI_add, pk_mul, nI_clamp, q_vp, nI_eq, nI_leI, nI_ltI, q_sub, q2.s2, n90, c6, hs12, ha, ev1]
    cases es : tSay T 1 (envT K t (gI h 90 at', gI h 91 at') (K (304 + 6 * s + 2)) (K (304 + 6 * s + 3)) (K (304 + 6 * s + 1))) with
    | none =>
      obtain ⟨g2, xa, k3⟩ := k1 es
      refine fin g2 (nI 0) xa (by unfold tv; rw [es]; rfl) (fun d F => ?_)
      simp (disch := omega) only [r67_0, r67_1, r67_4, r67_7, r67_8, r67_9, r67_10, r67_13, r67_14, r67_17, r67_20, r67_21, r67_22, r67_23, r67_26, r67_29, r67_30, r67_33, r67_36, r67_37, r67_38, r67_39, r67_42, r67_43, r67_46, r67_47, r67_48, r67_49, r67_50, r67_51, r67_54, r67_55, r67_58, r67_59, r67_62, r67_65, r67_66, r67_67, r67_70, r67_71, r67_74, r67_77, r67_78, r67_79, r67_80, r67_81, r67_84, r67_85, r67_88, r67_89, r67_92, r67_93, r67_96, r67_99, r67_100, r67_103, r67_106, r67_109, r67_110, e67, h69, k3, rp88, hP1, kdC, kdM, rpC, rpM, q_rs, q_rn, Option.toList_some, Option.toList_none, List.cons_append, List.nil_append, true_and, and_true, eq_self, ↓reduceIte, not_true_eq_false, not_false_eq_true, Nat.reduceEqDiff, Nat.reduceLeDiff, Nat.reduceLT, Nat.reduceAdd, Nat.reduceMul, Nat.reduceSub, false_or, or_false, true_or, or_true, false_and, and_false, reduceCtorEq, q_n0, q_n1, q_em, q_em2, q_b0, q_b1, Classical.not_not, nI_add, pk_mul, nI_clamp, q_vp, nI_eq, nI_leI, nI_ltI, q_sub, q.s2, c5, hs12]
    | some l =>
      obtain ⟨g2, xa, k3, k4⟩ := k2 l es
      obtain ⟨y, rfl⟩ : ∃ y, l = [y] := by
        obtain ⟨u, u1, u2⟩ := te.2.2.1 1 (envT K t (gI h 90 at', gI h 91 at') (K (304 + 6 * s + 2)) (K (304 + 6 * s + 3)) (K (304 + 6 * s + 1))) (by omega)
        rcases u2 with ⟨_, u3⟩ | ⟨y, _, u3⟩
        · rw [es] at u3; cases u3
        · rw [es] at u3; cases u3; exact ⟨y, rfl⟩
      have k5 := k3 y rfl
      refine fin g2 y xa (by unfold tv; rw [es]; rfl) (fun d F => ?_)
      simp (disch := omega) only [r67_0, r67_1, r67_4, r67_7, r67_8, r67_9, r67_10, r67_13, r67_14, r67_17, r67_20, r67_21, r67_22, r67_23, r67_26, r67_29, r67_30, r67_33, r67_36, r67_37, r67_38, r67_39, r67_42, r67_43, r67_46, r67_47, r67_48, r67_49, r67_50, r67_51, r67_54, r67_55, r67_58, r67_59, r67_62, r67_65, r67_66, r67_67, r67_70, r67_71, r67_74, r67_77, r67_78, r67_79, r67_80, r67_81, r67_84, r67_85, r67_88, r67_89, r67_92, r67_93, r67_96, r67_99, r67_100, r67_103, r67_106, r67_109, r67_110, e67, h69, k4, k5, rp88, hP1, kdC, kdM, rpC, rpM, q_rs, q_rn, Option.toList_some, Option.toList_none, List.cons_append, List.nil_append, true_and, and_true, eq_self, ↓reduceIte, not_true_eq_false, not_false_eq_true, Nat.reduceEqDiff, Nat.reduceLeDiff, Nat.reduceLT, Nat.reduceAdd, Nat.reduceMul, Nat.reduceSub, false_or, or_false, true_or, or_true, false_and, and_false, reduceCtorEq, q_n0, q_n1, q_em, q_em2, q_b0, q_b1, Classical.not_not, nI_add, pk_mul, nI_clamp, q_vp, nI_eq, nI_leI, nI_ltI, q_sub, q.s2, c5, hs12]
end SW
