/-! fewestMore (the class) -/
theorem rp88b : (∀ h : Hp, rpm true h 88 12 = gP h 88 12) ∧ (∀ h : Hp, rpm true h 88 13 = gP h 88 13) := ⟨fun _ => rfl, fun _ => rfl⟩
section FW
variable {h : Hp} {K : Nat → Int32} {Tm Ts : Tk} {tm ts a b m : Nat} {wf σ : Nat → Nat}
theorem sek_cho (hσ : isTurn K σ) {k C : Nat} : (sek K σ 0 k 0 C ∧ isStd K Tm Ts (seqM K σ C)) ↔ (isCho K σ Tm Ts C ∧ onesN (ns K) C = k) := by
  have hc : cntT (fun j => 0 ≤ j ∧ C.testBit (σ j) = true) (ns K) = onesN (ns K) C := by
    rw [ones_cnt, ← cnt_pm (fun s => C.testBit s = true) (ns K) σ hσ.1 (fun i j hij hj e => by
      have := hσ.2 i j hij hj
      rw [e] at this
      exact ltS_irr _ this)]
    exact cnt_cg (ns K) (fun j _ => ⟨fun u => u.2, fun u => ⟨Nat.zero_le _, u⟩⟩)
  unfold sek isCho
  rw [hc]
  exact ⟨fun u => ⟨⟨u.1.1, u.1.2.1, u.2⟩, u.1.2.2.2⟩, fun u => ⟨⟨u.1.1, u.1.2.1, fun j hj => by omega, u.2⟩, u.1.2.2⟩⟩
def lbP (K : Nat → Int32) (σ : Nat → Nat) (Tm Ts : Tk) (more : Nat) (best : Option Nat) : Prop := match best with
  | none => ∀ C, isCho K σ Tm Ts C → more ≤ onesN (ns K) C
  | some B => isLst K σ Tm Ts (some B)
theorem cho_fr (hσ : isTurn K σ) {C : Nat} (x : isCho K σ Tm Ts C) : onesN (ns K) C ≤ frN K σ 0 := by
  rcases Nat.lt_or_ge (frN K σ 0) (onesN (ns K) C) with q | q
  · exact absurd (sek_cho hσ |>.mpr ⟨x, rfl⟩).1 (sek_no hσ q C)
  · exact q
theorem cl74 (z : STS h 0 K) (hP : gP h 88 3 = some a) (te : tEq K tm Tm) (ta : tAt h a Tm) (hQ : gP h 88 4 = some b) (te2 : tEq K ts Ts) (ta2 : tAt h b Ts) (fo : foI K (nI 1) (nt K) m wf) (hW : WH h m wf K) (hσ : isTurn K σ) (h23 : ∀ i, i < ns K → gI h 23 i = nI (σ i)) : ∀ k more best h0, more + k = frN K σ 0 + 1 → FrS tsS h h0 → (∀ i, i < 4 → gI h0 81 i = nI 0) → gI h0 88 11 = lsI best → lbP K σ Tm Ts more best → ∃ h' best' v2, FrS tsS h h' ∧ gI h' 88 11 = lsI best' ∧ isLst K σ Tm Ts best' ∧ ∀ d F, wp true (d + 20) 74 54 [.ref 88, .int (nI (frN K σ 0)), .int (nI more)] [] h0 F = wp true (d + 20) 74 86 [.ref 88, .int (nI (frN K σ 0)), v2] [] h' F := by
  intro k
  have w := z.1
  have hns := w.hns
  have hP12 : 2 ^ ns K ≤ 2 ^ 12 := Nat.pow_le_pow_right (by omega) hns.2
  have hfr : frN K σ 0 ≤ 12 := by have := cnt_le (fun j => 0 ≤ j ∧ ¬ isSent K (σ j)) (ns K); unfold frN; omega
  have fin : ∀ (more B : Nat) (h0 : Hp), more ≤ frN K σ 0 + 1 → FrS tsS h h0 → gI h0 88 11 = nI B → B < 4096 → isLst K σ Tm Ts (some B) → ∃ h' best' v2, FrS tsS h h' ∧ gI h' 88 11 = lsI best' ∧ isLst K σ Tm Ts best' ∧ ∀ d F, wp true (d + 20) 74 54 [.ref 88, .int (nI (frN K σ 0)), .int (nI more)] [] h0 F = wp true (d + 20) 74 86 [.ref 88, .int (nI (frN K σ 0)), v2] [] h' F := by
    intro more B h0 e x hb hB hl
    refine ⟨h0, some B, .int (nI more), x, hb, hl, fun d F => ?_⟩
    rw [r74_54]
    by_cases c : frN K σ 0 < more
    · simp (disch := omega) only [r74_55, r74_56, r74_59, r74_60, r74_63, r74_64, r74_67, r74_68, r74_71, r74_72, r74_73, r74_74, r74_75, r74_76, r74_77, r74_80, r74_83, hb, q_nm, kdC, kdM, rpC, rpM, q_rs, q_rn, Option.toList_some, Option.toList_none, List.cons_append, List.nil_append, true_and, and_true, eq_self, ↓reduceIte, not_true_eq_false, not_false_eq_true, Nat.reduceEqDiff, Nat.reduceLeDiff, Nat.reduceLT, Nat.reduceAdd, Nat.reduceMul, Nat.reduceSub, false_or, or_false, true_or, or_true, false_and, and_false, reduceCtorEq, q_n0, q_n1, q_em, q_em2, q_b0, q_b1, Classical.not_not, nI_add, pk_mul, nI_clamp, q_vp, nI_eq, nI_leI, nI_ltI, q_sub, c]
    · simp (disch := omega) only [r74_55, r74_56, r74_59, r74_60, r74_63, r74_64, r74_67, r74_68, r74_71, r74_72, r74_73, r74_74, r74_75, r74_76, r74_77, r74_80, r74_83, hb, q_nm, kdC, kdM, rpC, rpM, q_rs, q_rn, Option.toList_some, Option.toList_none, List.cons_append, List.nil_append, true_and, and_true, eq_self, ↓reduceIte, not_true_eq_false, not_false_eq_true, Nat.reduceEqDiff, Nat.reduceLeDiff, Nat.reduceLT, Nat.reduceAdd, Nat.reduceMul, Nat.reduceSub, false_or, or_false, true_or, or_true, false_and, and_false, reduceCtorEq, q_n0, q_n1, q_em, q_em2, q_b0, q_b1, Classical.not_not, nI_add, pk_mul, nI_clamp, q_vp, nI_eq, nI_leI, nI_ltI, q_sub, c]
  induction k with
  | zero =>
    intro more best h0 e x hw hb hlb
    cases best with
    | some B => exact fin more B h0 (by omega) x hb (by have := hlb.1.1; omega) hlb
    | none =>
      refine ⟨h0, none, .int (nI more), x, hb, fun C hC => ?_, fun d F => ?_⟩
      · have h1 := hlb C hC
        have h2 := cho_fr hσ hC
        omega
      · rw [r74_54]
        simp (disch := omega) only [r74_55, r74_56, kdC, kdM, rpC, rpM, q_rs, q_rn, Option.toList_some, Option.toList_none, List.cons_append, List.nil_append, true_and, and_true, eq_self, ↓reduceIte, not_true_eq_false, not_false_eq_true, Nat.reduceEqDiff, Nat.reduceLeDiff, Nat.reduceLT, Nat.reduceAdd, Nat.reduceMul, Nat.reduceSub, false_or, or_false, true_or, or_true, false_and, and_false, reduceCtorEq, q_n0, q_n1, q_em, q_em2, q_b0, q_b1, Classical.not_not, nI_add, pk_mul, nI_clamp, q_vp, nI_eq, nI_leI, nI_ltI, q_sub, show frN K σ 0 < more by omega]
  | succ k ih =>
    intro more best h0 e x hw hb hlb
    cases best with
    | some B => exact fin more B h0 (by omega) x hb (by have := hlb.1.1; omega) hlb
    | none =>
      have z0 := STS_ca (Ts_ca x) z
      obtain ⟨h1, b1, b2, b3, b4, b5⟩ := c64 z0 (WH_ts x hW)
      have x1 := x.trans (Tk_ts b1)
      obtain ⟨h2, best', a1, a2, a3, a4, a5, a6⟩ := c75 z hP te ta hQ te2 ta2 fo hW hσ h23 (ns K) 0 more 0 0 none h1 (by omega) x1 (by omega) (by omega) ⟨Nat.two_pow_pos _, (fun s _ u => absurd u (by rw [Nat.zero_testBit]; simp)), fun j _ _ => Nat.zero_testBit _⟩ b2 (fun i hi => by rw [b4]; exact hw i hi) (by rw [b1.g (a := 88) (i := 11) rfl]; exact hb) (fun B u => by cases u)
      have a5' := PB_cg a5 (fun C => sek_cho (Tm := Tm) (Ts := Ts) (k := more) (C := C) hσ)
      have hlb' : lbP K σ Tm Ts (more + 1) best' := by
        cases best' with
        | none =>
          intro C hC
          have h1 := hlb C hC
          rcases Nat.lt_or_ge more (onesN (ns K) C) with q | q
          · exact q
          · obtain ⟨B, eB, _⟩ := a5'.2.1 C ⟨hC, by omega⟩
            cases eB
        | some B =>
          rcases a5'.1 with q | ⟨C, hC, q⟩
          · cases q
          · cases q
            refine ⟨hC.1, fun M' hM' => ?_⟩
            have h1 := hlb M' hM'
            rw [beats_i hC.1.1]
            rcases Nat.lt_or_ge more (onesN (ns K) M') with q | q
            · right; left; have := hC.2; omega
            · obtain ⟨B', eB, lB⟩ := a5'.2.1 M' ⟨hM', by omega⟩
              cases eB
              rcases lB with lB | lB
              · exact Or.inl lB.symm
              · right; right; exact ⟨by have := hC.2; omega, lB⟩
      obtain ⟨h3, best3, v2, e1, e2, e3, e4⟩ := ih (more + 1) best' h2 (by omega) a1 a3 a4 hlb'
      refine ⟨h3, best3, v2, e1, e2, e3, fun d F => ?_⟩
      refine Eq.trans ?_ (e4 d F)
      have a6' := fun F => a6 (d + 19) F (by omega)
      rw [lsI_n] at hb
      rw [r74_54]
      simp (disch := omega) only [r74_55, r74_56, r74_59, r74_60, r74_63, r74_64, r74_67, r74_68, r74_71, r74_72, r74_73, r74_74, r74_75, r74_76, r74_77, r74_80, r74_83, hb, b5, a6', kdC, kdM, rpC, rpM, q_rs, q_rn, Option.toList_some, Option.toList_none, List.cons_append, List.nil_append, true_and, and_true, eq_self, ↓reduceIte, not_true_eq_false, not_false_eq_true, Nat.reduceEqDiff, Nat.reduceLeDiff, Nat.reduceLT, Nat.reduceAdd, Nat.reduceMul, Nat.reduceSub, false_or, or_false, true_or, or_true, false_and, and_false, reduceCtorEq, q_n0, q_n1, q_em, q_em2, q_b0, q_b1, Classical.not_not, nI_add, pk_mul, nI_clamp, q_vp, nI_eq, nI_leI, nI_ltI, q_sub, show ¬ frN K σ 0 < more by omega]
/-- what is kept is found or was found before -/
theorem c74 {n : Nat} {g : Hp} (z : Inv n g) (fg : Fr g h) {K : Nat → Int32} (hK : gI g 103 = K) (hP : gP h 88 3 = some a) (te : tEq K tm Tm) (ta : tAt h a Tm) (hQ : gP h 88 4 = some b) (te2 : tEq K ts Ts) (ta2 : tAt h b Ts) (fo : foI K (nI 1) (nt K) m wf) (hW : WH h m wf K) (hσ : isTurn K σ) (h23 : ∀ i, i < ns K → gI h 23 i = nI (σ i)) (hw0 : ∀ i, i < 4 → gI h 81 i = nI 0) : ∃ h' x, FrS kpS g h' ∧ CAS h' ∧ isLst K σ Tm Ts x ∧ ∀ d F, cwp true (d + 20) 74 [.ref 88] h F = F (some (.int (lsI x))) h' := by
  subst hK
  have zc : CAS h := (Inv_fr fg z).2.2.2.2.2.2.2.2
  have hS := STS_fr fg (Or.inl rfl) z.1
  have w := z.1.1
  have q := hS.2.1
  have hns := w.hns
  by_cases cc : gP h 88 12 = gP h 88 3 ∧ gP h 88 13 = gP h 88 4
  · obtain ⟨Tm', Ts', t1, t2, t3⟩ := zc a b (cc.1.trans hP) (cc.2.trans hQ)
    obtain rfl := tAt_u ta t1
    obtain rfl := tAt_u ta2 t2
    rw [fg.K] at t3
    obtain ⟨x, x1, x2⟩ := t3 σ hσ
    refine ⟨h, x, Fr_ca fg, zc, x1, fun d F => ?_⟩
    simp (disch := omega) only [e74, r74_0, r74_1, r74_4, r74_5, r74_8, r74_11, r74_12, r74_15, r74_16, r74_19, r74_22, r74_23, r74_24, r74_27, r74_28, r74_31, r74_32, r74_35, r74_36, r74_37, r74_40, r74_41, r74_44, r74_45, r74_48, r74_51, r74_52, r74_53, r74_55, r74_56, r74_59, r74_60, r74_63, r74_64, r74_67, r74_68, r74_71, r74_72, r74_73, r74_74, r74_75, r74_76, r74_77, r74_80, r74_83, r74_86, r74_87, r74_88, r74_91, r74_91n, r74_94, r74_95, r74_96, r74_99, r74_99n, r74_102, r74_103, r74_106, rp88, rp88b, cc, x2, kdC, kdM, rpC, rpM, q_rs, q_rn, Option.toList_some, Option.toList_none, List.cons_append, List.nil_append, true_and, and_true, eq_self, ↓reduceIte, not_true_eq_false, not_false_eq_true, Nat.reduceEqDiff, Nat.reduceLeDiff, Nat.reduceLT, Nat.reduceAdd, Nat.reduceMul, Nat.reduceSub, false_or, or_false, true_or, or_true, false_and, and_false, reduceCtorEq, q_n0, q_n1, q_em, q_em2, q_b0, q_b1, Classical.not_not]
  · have hst : ∀ d F, cwp true (d + 20) 74 [.ref 88] h F = wp true (d + 20) 74 22 [.ref 88, jn, jn] [] h F := by
      intro d F
      by_cases c1 : gP h 88 12 = gP h 88 3
      · have c2 : ¬ gP h 88 13 = gP h 88 4 := fun u => cc ⟨c1, u⟩
        simp (disch := omega) only [r74_0, r74_1, r74_4, r74_5, r74_8, r74_11, r74_12, r74_15, r74_16, r74_19, e74, rp88, rp88b, c1, c2, kdC, kdM, rpC, rpM, q_rs, q_rn, Option.toList_some, Option.toList_none, List.cons_append, List.nil_append, true_and, and_true, eq_self, ↓reduceIte, not_true_eq_false, not_false_eq_true, Nat.reduceEqDiff, Nat.reduceLeDiff, Nat.reduceLT, Nat.reduceAdd, Nat.reduceMul, Nat.reduceSub, false_or, or_false, true_or, or_true, false_and, and_false, reduceCtorEq, q_n0, q_n1, q_em, q_em2, q_b0, q_b1, Classical.not_not]
      · simp (disch := omega) only [r74_0, r74_1, r74_4, r74_5, r74_8, r74_11, r74_12, r74_15, r74_16, r74_19, e74, rp88, rp88b, c1, kdC, kdM, rpC, rpM, q_rs, q_rn, Option.toList_some, Option.toList_none, List.cons_append, List.nil_append, true_and, and_true, eq_self, ↓reduceIte, not_true_eq_false, not_false_eq_true, Nat.reduceEqDiff, Nat.reduceLeDiff, Nat.reduceLT, Nat.reduceAdd, Nat.reduceMul, Nat.reduceSub, false_or, or_false, true_or, or_true, false_and, and_false, reduceCtorEq, q_n0, q_n1, q_em, q_em2, q_b0, q_b1, Classical.not_not]
    have x0 : FrS tsS h (sI h 88 11 (-1)) := (FrS.refl h).sI _ rfl
    have hend : ∀ (h1 : Hp) (x : Option Nat) (v1 v2 : Value), FrS tsS h h1 → gI h1 88 11 = lsI x → isLst (gI g 103) σ Tm Ts x → (∀ d F, cwp true (d + 20) 74 [.ref 88] h F = wp true (d + 20) 74 86 [.ref 88, v1, v2] [] h1 F) → ∃ h' x, FrS kpS g h' ∧ CAS h' ∧ isLst (gI g 103) σ Tm Ts x ∧ ∀ d F, cwp true (d + 20) 74 [.ref 88] h F = F (some (.int (lsI x))) h' := by
      intro h1 x v1 v2 e1 e2 e3 e4
      have p3 : gP h1 88 3 = some a := by rw [e1.p (a := 88) (i := 3) rfl]; exact hP
      have p4 : gP h1 88 4 = some b := by rw [e1.p (a := 88) (i := 4) rfl]; exact hQ
      have xa : FrS kpS g h1 := (Fr_ca fg).trans (Ts_ca e1)
      have x2 : FrS kpS g (sP (sP h1 88 12 (some a)) 88 13 (some b)) := (xa.sP _ rfl).sP _ rfl
      refine ⟨sP (sP h1 88 12 (some a)) 88 13 (some b), x, x2, ?_, e3, fun d F => ?_⟩
      · intro a' b' ha hb
        rw [q_pm (by omega), q_ps] at ha
        rw [q_ps] at hb
        cases ha
        cases hb
        refine ⟨Tm, Ts, ?_, ?_, fun σ' hσ' => ⟨x, ?_, ?_⟩⟩
        · exact tAt_ca (((Ts_ca e1).sP _ rfl).sP _ rfl) ta
        · exact tAt_ca (((Ts_ca e1).sP _ rfl).sP _ rfl) ta2
        · rw [ca_K x2] at *
          exact (isLst_t hσ hσ' x).mpr e3
        · rw [q_gIP, q_gIP]; exact e2
      · rw [e4]
        have p4' : gP (sP h1 88 12 (some a)) 88 4 = some b := by rw [q_pm (by omega)]; exact p4
        have g11 : gI (sP (sP h1 88 12 (some a)) 88 13 (some b)) 88 11 = lsI x := by rw [q_gIP, q_gIP]; exact e2
        simp (disch := omega) only [r74_86, r74_87, r74_88, r74_91, r74_91n, r74_94, r74_95, r74_96, r74_99, r74_99n, r74_102, r74_103, r74_106, rp88, p3, p4', wk88_12, wk88_13, g11, kdC, kdM, rpC, rpM, q_rs, q_rn, Option.toList_some, Option.toList_none, List.cons_append, List.nil_append, true_and, and_true, eq_self, ↓reduceIte, not_true_eq_false, not_false_eq_true, Nat.reduceEqDiff, Nat.reduceLeDiff, Nat.reduceLT, Nat.reduceAdd, Nat.reduceMul, Nat.reduceSub, false_or, or_false, true_or, or_true, false_and, and_false, reduceCtorEq, q_n0, q_n1, q_em, q_em2, q_b0, q_b1, Classical.not_not]
    have e217 : gI (sI h 88 11 (-1)) 24 1 = gI g 103 217 := by rw [q_gn (by omega)]; exact q.t (by omega)
    have hw6 : gI (sI h 88 11 (-1)) 88 6 = nI m := by rw [q_gm (by omega)]; exact hW.1
    have q1 := (STS_ca (Ts_ca x0) hS).2.1
    have r1 := w.2.2.1.2.1
    have r2 := rg_n r1 (by omega)
    have r3 := rg_nI r1 (by omega)
    have hm := hW.2.1
    by_cases cm : m < (gI g 103 217).toNatClampNeg
    · -- too few vote
      refine hend (sI h 88 11 (-1)) none (.int (-1)) (.int (nI 0)) x0 (q_gs _ _ _ _) (fun C hC => ?_) (fun d F => ?_)
      · have h1 := hC.2.2
        have h2 : stpN (gI g 103) Tm Ts (seqM (gI g 103) σ C) ≤ m := by
          unfold stpN
          rw [← cnt_cg (P := fun t => foP (gI g 103) (nI 1) t ∧ isStp (gI g 103) Ts t (shwL (gI g 103) Tm t (seqM (gI g 103) σ C))) (nt (gI g 103)) (fun t ht => ⟨fun u => u.2, fun u => ⟨Or.inr (stp_vote w ht u), u⟩⟩), ← fo.2.2.2.2 (fun t => isStp (gI g 103) Ts t (shwL (gI g 103) Tm t (seqM (gI g 103) σ C)))]
          exact cnt_le _ _
        unfold isStd at h1
        omega
      · rw [hst]
        have cm' : ¬ gI g 103 217 ≤ nI m := by
          rw [r3, nI_leI (by omega) (by omega)]; omega
        simp (disch := omega) only [r74_22, r74_23, r74_24, r74_27, r74_28, r74_31, r74_32, r74_35, r74_36, r74_37, r74_40, r74_41, r74_44, r74_45, r74_48, r74_51, r74_52, r74_53, r74_55, r74_56, r74_54, hw6, e217, cm', kdC, kdM, rpC, rpM, q_rs, q_rn, Option.toList_some, Option.toList_none, List.cons_append, List.nil_append, true_and, and_true, eq_self, ↓reduceIte, not_true_eq_false, not_false_eq_true, Nat.reduceEqDiff, Nat.reduceLeDiff, Nat.reduceLT, Nat.reduceAdd, Nat.reduceMul, Nat.reduceSub, false_or, or_false, true_or, or_true, false_and, and_false, reduceCtorEq, q_n0, q_n1, q_em, q_em2, q_b0, q_b1, Classical.not_not, nI_add, pk_mul, nI_clamp, q_vp, nI_eq, nI_leI, nI_ltI, q_sub, show (-1 : Int32) < nI 0 by decide]
    · have cm' : gI g 103 217 ≤ nI m := by
        rw [r3, nI_leI (by omega) (by omega)]; omega
      have h27 := fun F d => cc27 d (sI h 88 11 (-1)) F w q1
      have hfe : ns (gI g 103) - cntT (isSent (gI g 103)) (ns (gI g 103)) = frN (gI g 103) σ 0 := by
        have h1 : frN (gI g 103) σ 0 = cntT (fun s => ¬ isSent (gI g 103) s) (ns (gI g 103)) := by
          unfold frN
          rw [← cnt_pm (fun s => ¬ isSent (gI g 103) s) (ns (gI g 103)) σ hσ.1 (fun i j hij hj e => by
            have := hσ.2 i j hij hj
            rw [e] at this
            exact ltS_irr _ this)]
          exact cnt_cg _ (fun j _ => ⟨fun u => u.2, fun u => ⟨Nat.zero_le _, u⟩⟩)
        have h2 : ∀ n, cntT (isSent (gI g 103)) n + cntT (fun s => ¬ isSent (gI g 103) s) n = n := by
          intro n
          induction n with
          | zero => rfl
          | succ n ih =>
            rw [cnt_s, cnt_s]
            by_cases c : isSent (gI g 103) n
            · rw [pif_t c, pif_f (fun u => u c)]; omega
            · rw [pif_f c, pif_t c]; omega
        have := h2 (ns (gI g 103))
        omega
      rw [uns_eq w _ (Nat.le_refl _), hfe] at h27
      obtain ⟨h1, best, v2, e1, e2, e3, e4⟩ := cl74 (Tm := Tm) (Ts := Ts) hS hP te ta hQ te2 ta2 fo hW hσ h23 (frN (gI g 103) σ 0 + 1) 0 none (sI h 88 11 (-1)) (by omega) x0 (fun i hi => by rw [q_gn (by omega)]; exact hw0 i hi) (q_gs _ _ _ _) (fun C _ => Nat.zero_le _)
      refine hend h1 best (.int (nI (frN (gI g 103) σ 0))) v2 e1 e2 e3 (fun d F => ?_)
      rw [hst]
      refine Eq.trans ?_ (e4 d F)
      simp (disch := omega) only [r74_22, r74_23, r74_24, r74_27, r74_28, r74_31, r74_32, r74_35, r74_36, r74_37, r74_40, r74_41, r74_44, r74_45, r74_48, r74_51, r74_52, r74_53, hw6, e217, cm', h27, kdC, kdM, rpC, rpM, q_rs, q_rn, Option.toList_some, Option.toList_none, List.cons_append, List.nil_append, true_and, and_true, eq_self, ↓reduceIte, not_true_eq_false, not_false_eq_true, Nat.reduceEqDiff, Nat.reduceLeDiff, Nat.reduceLT, Nat.reduceAdd, Nat.reduceMul, Nat.reduceSub, false_or, or_false, true_or, or_true, false_and, and_false, reduceCtorEq, q_n0, q_n1, q_em, q_em2, q_b0, q_b1, Classical.not_not, nI_add, pk_mul, nI_clamp, q_vp, nI_eq, nI_leI, nI_ltI, q_sub]
end FW
