/-! the fewest, as the class seeks them -/
def kpS (a i : Nat) : Bool := scr a i || Nat.beq a 88
def tsS (a i : Nat) : Bool := tkS a i || (Nat.beq a 88 && Nat.beq i 11)
theorem Tk_ts {h h' : Hp} (x : FrS tkS h h') : FrS tsS h h' := x.mono (fun a i e => (bor e).1)
theorem Ts_ca {h h' : Hp} (x : FrS tsS h h') : FrS kpS h h' := x.mono (fun a i e => by
  obtain ⟨e1, e2⟩ := bor e
  have key : ∀ k, scr k i = true → Nat.beq a k = false := by
    intro k hk
    cases q : Nat.beq a k with
    | false => rfl
    | true =>
      obtain rfl := Nat.eq_of_beq_eq_true q
      rw [hk] at e1; cases e1
  unfold tsS tkS
  rw [key 80 rfl, key 81 rfl, key 82 rfl, key 90 rfl, key 91 rfl, e2]; rfl)
theorem Fr_ca {h h' : Hp} (x : Fr h h') : FrS kpS h h' := ⟨x.1, fun a i e => x.2 a i (bor e).1⟩
theorem ca_mu {h h' : Hp} (x : FrS kpS h h') : Mu h h' := x.mono (fun a i e => by
  unfold mus at e
  have e1 := (bor (bor (bor (bor (bor (bor (bor (bor (bor (bor e).2).2).2).2).2).2).2).2).2)
  unfold kpS
  rw [e1.1, e1.2]; rfl)
theorem ca_st {c i : Nat} (h1 : 2 ≤ c) (h2 : c ≤ 25) (h3 : c = 8 → i ≤ 2) : kpS c i = false := by
  unfold kpS
  have := scr_st (o := 0) (Or.inl rfl) h1 h2 h3
  rw [Nat.add_zero] at this
  rw [this]
  cases q : Nat.beq c 88 with
  | false => rfl
  | true => have := Nat.eq_of_beq_eq_true q; omega
theorem STS_ca {h h' : Hp} {K : Nat → Int32} (x : FrS kpS h h') (z : STS h 0 K) : STS h' 0 K := STS_of (o := 0) (fun c i h1 h2 h3 => x.g (ca_st h1 h2 h3)) (fun t => x.p (ca_st (c := 25) (by omega) (by omega) (by omega))) (fun a T => tAt_mu (ca_mu x)) z
theorem tAt_ca {h h' : Hp} (x : FrS kpS h h') {a : Nat} {T : Tk} (t : tAt h a T) : tAt h' a T := tAt_mu (ca_mu x) t
theorem ca_K {h h' : Hp} (x : FrS kpS h h') : gI h' 103 = gI h 103 := x.G (fun i => rfl)
theorem Inv_ca {h h' : Hp} {n : Nat} (x : FrS kpS h h') (z : Inv n h) (hc : CAS h') : Inv (n + 1) h' := by
  obtain ⟨i1, i2, i3, i4, i5, i6, i7, i8, i9⟩ := z
  refine Inv_mu (ca_mu x) ⟨i1, i2, i3, i4, i5, i6, i7, i8, i9⟩ ?_ ?_ ?_ ?_ hc
  · rw [ca_K x]; exact STS_ca x i1
  · unfold TPS at *
    rw [x.G (a := 77) (fun _ => rfl), x.G (a := 107) (fun _ => rfl), x.g (a := 76) (i := 1) rfl, x.g (a := 101) (i := 8) rfl]
    exact i3
  · unfold RFS at *
    rw [x.G (a := 100) (fun _ => rfl), x.G (a := 102) (fun _ => rfl)]
    exact i4
  · rw [x.g (a := 1) (i := 10) rfl, x.g (a := 1) (i := 11) rfl, x.g (a := 101) (i := 0) rfl, x.g (a := 101) (i := 9) rfl]
    exact i5
theorem WH_ts {h h' : Hp} {K : Nat → Int32} {m : Nat} {wf : Nat → Nat} (x : FrS tsS h h') (w : WH h m wf K) : WH h' m wf K := by
  obtain ⟨w1, w2, w3, w4⟩ := w
  exact ⟨by rw [x.g (a := 88) (i := 6) rfl]; exact w1, w2, fun i hi => ⟨by rw [x.g (a := 89) (i := i) rfl]; exact (w3 i hi).1, (w3 i hi).2⟩, w4⟩
theorem lsI_n : lsI none = -1 := rfl
theorem lsI_s (M : Nat) : lsI (some M) = nI M := rfl
section SK
variable {h : Hp} {K : Nat → Int32} {Tm Ts : Tk} {tm ts a b m : Nat} {wf σ : Nat → Nat}
theorem c76 {best : Option Nat} (hb : gI h 88 11 = lsI best) (hl : ∀ B, best = some B → B < 4096) {C : Nat} (hC : C < 4096) (d : Nat) (F : Po) : cwp true d 76 [.ref 88, .int (nI C)] h F = F (some (.int (bz (∀ B, best = some B → ltx C B)))) h := by
  cases best with
  | none =>
    have e : ∀ B, (none : Option Nat) = some B → ltx C B := fun B q => by cases q
    rw [lsI_n] at hb
    rw [q_bt e]
    simp (disch := omega) only [e76, r76_0, r76_1, r76_4, r76_5, r76_8, r76_9, r76_10, r76_11, r76_12, r76_15, r76_16, r76_17, r76_18, r76_19, r76_20, r76_21, r76_22, r76_23, r76_26, r76_27, r76_30, r76_31, hb, kdC, kdM, rpC, rpM, q_rs, q_rn, Option.toList_some, Option.toList_none, List.cons_append, List.nil_append, true_and, and_true, eq_self, ↓reduceIte, not_true_eq_false, not_false_eq_true, Nat.reduceEqDiff, Nat.reduceLeDiff, Nat.reduceLT, Nat.reduceAdd, Nat.reduceMul, Nat.reduceSub, false_or, or_false, true_or, or_true, false_and, and_false, reduceCtorEq, q_n0, q_n1, q_em, q_em2, q_b0, q_b1, Classical.not_not]
  | some B =>
    have hB := hl B rfl
    rw [lsI_s] at hb
    have hi := ltx_i hC hB
    by_cases c : ltx C B
    · have e : ∀ B', some B = some B' → ltx C B' := fun B' q => by cases q; exact c
      have c' : ¬ (nI (C ^^^ B) &&& -(nI (C ^^^ B)) &&& nI C = nI 0) := fun q => hi.mp q c
      rw [q_bt e]
      simp (disch := omega) only [e76, r76_0, r76_1, r76_4, r76_5, r76_8, r76_9, r76_10, r76_11, r76_12, r76_15, r76_16, r76_17, r76_18, r76_19, r76_20, r76_21, r76_22, r76_23, r76_26, r76_27, r76_30, r76_31, hb, q_nm, n_xor, c', kdC, kdM, rpC, rpM, q_rs, q_rn, Option.toList_some, Option.toList_none, List.cons_append, List.nil_append, true_and, and_true, eq_self, ↓reduceIte, not_true_eq_false, not_false_eq_true, Nat.reduceEqDiff, Nat.reduceLeDiff, Nat.reduceLT, Nat.reduceAdd, Nat.reduceMul, Nat.reduceSub, false_or, or_false, true_or, or_true, false_and, and_false, reduceCtorEq, q_n0, q_n1, q_em, q_em2, q_b0, q_b1, Classical.not_not]
    · have e : ¬ ∀ B', some B = some B' → ltx C B' := fun q => c (q B rfl)
      have c' := hi.mpr c
      rw [q_bf e]
      simp (disch := omega) only [e76, r76_0, r76_1, r76_4, r76_5, r76_8, r76_9, r76_10, r76_11, r76_12, r76_15, r76_16, r76_17, r76_18, r76_19, r76_20, r76_21, r76_22, r76_23, r76_26, r76_27, r76_30, r76_31, hb, q_nm, n_xor, c', kdC, kdM, rpC, rpM, q_rs, q_rn, Option.toList_some, Option.toList_none, List.cons_append, List.nil_append, true_and, and_true, eq_self, ↓reduceIte, not_true_eq_false, not_false_eq_true, Nat.reduceEqDiff, Nat.reduceLeDiff, Nat.reduceLT, Nat.reduceAdd, Nat.reduceMul, Nat.reduceSub, false_or, or_false, true_or, or_true, false_and, and_false, reduceCtorEq, q_n0, q_n1, q_em, q_em2, q_b0, q_b1, Classical.not_not]
theorem c75 (z : STS h 0 K) (hP : gP h 88 3 = some a) (te : tEq K tm Tm) (ta : tAt h a Tm) (hQ : gP h 88 4 = some b) (te2 : tEq K ts Ts) (ta2 : tAt h b Ts) (fo : foI K (nI 1) (nt K) m wf) (hW : WH h m wf K) (hσ : isTurn K σ) (h23 : ∀ i, i < ns K → gI h 23 i = nI (σ i)) : ∀ k i more c row best h0, i + k = ns K → FrS tsS h h0 → row ≤ i → more ≤ 12 → ahd K σ i c → (∀ j, j < m → DP h0 row (wf j) = mdD K Tm σ (sbt K (ns K) ||| c) (wf j) i) → (∀ i, i < 4 → gI h0 81 i = nI 0) → gI h0 88 11 = lsI best → (∀ B, best = some B → B < 4096) → ∃ h' best', FrS tsS h h' ∧ (∀ r t, r ≤ row → t < 12 → DP h' r t = DP h0 r t) ∧ (∀ i, i < 4 → gI h' 81 i = nI 0) ∧ gI h' 88 11 = lsI best' ∧ PB best best' (fun C => sek K σ i more c C ∧ isStd K Tm Ts (seqM K σ C)) ∧ ∀ D F, k + 6 ≤ D → cwp true D 75 [.ref 88, .int (nI i), .int (nI more), .int (nI (frN K σ i)), .int (nI c), .int (nI row)] h0 F = F none h' := by
  intro k
  have w := z.1
  have hns := w.hns
  have hP12 : 2 ^ ns K ≤ 2 ^ 12 := Nat.pow_le_pow_right (by omega) hns.2
  have hfr : ∀ i, frN K σ i ≤ 12 := fun i => by have := cnt_le (fun j => i ≤ j ∧ ¬ isSent K (σ j)) (ns K); unfold frN; omega
  induction k with
  | zero =>
    intro i more c row best h0 e x hrow hmore hc hdp hw hb hl
    obtain rfl : i = ns K := e
    have hf0 : frN K σ (ns K) = 0 := cnt_0 _ (fun j hj u => by omega)
    have hc12 : c < 4096 := by have := hc.1; omega
    by_cases hm0 : more = 0
    · subst hm0
      have z0 := STS_ca (Ts_ca x) z
      have q := z0.2.1
      have h76 := fun F d => c76 hb hl hc12 d F
      have hset : ∀ C, (sek K σ (ns K) 0 c C ∧ isStd K Tm Ts (seqM K σ C)) ↔ (C = c ∧ isStd K Tm Ts (seqM K σ c)) := fun C => by
        rw [sek_end hσ hc.1 hc.2.1]
        exact ⟨fun u => ⟨u.1, u.1 ▸ u.2⟩, fun u => ⟨u.1, u.1 ▸ u.2⟩⟩
      by_cases ce : ∀ B, best = some B → ltx c B
      · obtain ⟨h1, v1, v2, v3, v4, v5, v6⟩ := c71 (T := Ts) (r := row) z0 (by rw [x.p (a := 88) (i := 4) rfl]; exact hQ) te2 (tAt_ca (Ts_ca x) ta2) (WH_ts x hW) (by omega) hw
        have hcnt : cntT (fun i => isStp K Ts (wf i) (DP h0 row (wf i))) m = sqC K Tm Ts σ c := by
          have h1 : cntT (fun i => isStp K Ts (wf i) (DP h0 row (wf i))) m = cntT (fun i => isStp K Ts (wf i) (mdD K Tm σ (sbt K (ns K) ||| c) (wf i) (ns K))) m := cnt_cg m (fun i hi => by
            show isStp K Ts (wf i) (DP h0 row (wf i)) ↔ _
            rw [hdp i hi])
          rw [h1, fo.2.2.2.2 (fun t => isStp K Ts t (mdD K Tm σ (sbt K (ns K) ||| c) t (ns K)))]
          exact cnt_cg (nt K) (fun t ht => ⟨fun u => u.2, fun u => ⟨Or.inr (stp_vote w ht u), u⟩⟩)
        rw [hcnt] at v6
        have x1 := x.trans (Tk_ts v1)
        have e217 : gI h1 24 1 = K 217 := (STS_ca (Ts_ca x1) z).2.1.t (by omega)
        have hdp1 : ∀ r t, DP h1 r t = DP h0 r t := fun r t => by unfold DP; rw [v2, v3]
        have hb1 : gI h1 88 11 = lsI best := by rw [v1.g (a := 88) (i := 11) rfl]; exact hb
        rw [q_bt ce] at h76
        by_cases cs : nI (sqC K Tm Ts σ c) < K 217
        · have hns' : ¬ isStd K Tm Ts (seqM K σ c) := fun u => (std_i w hσ c).mp u cs
          refine ⟨h1, best, x1, fun r t _ _ => hdp1 r t, v5, hb1, PB_0 (fun C u => hns' ((hset C).mp u).2), fun D F hD => ?_⟩
          obtain ⟨d, rfl⟩ : ∃ d, D = d + 5 := ⟨D - 5, by omega⟩
          have v6' := fun F => v6 d F
          simp (disch := omega) only [e75, r75_0, r75_1, r75_2, r75_5, r75_7, r75_9, r75_12, r75_13, r75_14, r75_15, r75_18, r75_21, r75_24, r75_25, r75_27, r75_30, r75_33, r75_34, r75_36, r75_39, r75_40, r75_43, r75_44, r75_45, r75_48, r75_49, r75_51, r75_54, r75_55, r75_56, r75_59, r75_62, r75_63, r75_64, r75_66, r75_67, r75_70, r75_73, r75_75, r75_76, r75_79, r75_80, r75_83, r75_84, r75_86, r75_88, r75_91, r75_92, r75_93, r75_94, r75_95, r75_96, r75_97, r75_98, r75_99, r75_101, r75_103, r75_106, r75_108, r75_111, r75_112, r75_115, r75_117, r75_119, r75_122, r75_123, r75_125, r75_127, r75_129, r75_130, r75_131, r75_134, r75_135, r75_136, r75_137, r75_138, r75_140, r75_143, r75_144, r75_145, r75_146, r75_149, r75_150, r75_152, r75_155, r75_156, r75_157, r75_158, r75_161, r75_162, r75_164, r75_167, r75_169, r75_170, r75_172, r75_173, r75_174, r75_177, r75_179, r75_181, r75_182, r75_183, r75_186, hf0, q.hns, hns, h76, v6', e217, cs, kdC, kdM, rpC, rpM, q_rs, q_rn, Option.toList_some, Option.toList_none, List.cons_append, List.nil_append, true_and, and_true, eq_self, ↓reduceIte, not_true_eq_false, not_false_eq_true, Nat.reduceEqDiff, Nat.reduceLeDiff, Nat.reduceLT, Nat.reduceAdd, Nat.reduceMul, Nat.reduceSub, false_or, or_false, true_or, or_true, false_and, and_false, reduceCtorEq, q_n0, q_n1, q_em, q_em2, q_b0, q_b1, Classical.not_not, nI_add, pk_mul, nI_clamp, q_vp, nI_eq, nI_leI, nI_ltI, q_sub, Nat.lt_irrefl, show row ≤ 12 by omega]
        · have hst := (std_i (Tm := Tm) (Ts := Ts) w hσ c).mpr cs
          refine ⟨sI h1 88 11 (nI c), some c, x1.sI _ rfl, fun r t _ _ => ?_, fun i hi => by rw [q_gn (by omega)]; exact v5 i hi, q_gs _ _ _ _, ?_, fun D F hD => ?_⟩
          · have : DP (sI h1 88 11 (nI c)) r t = DP h1 r t := by unfold DP; rw [q_gn (by omega), q_gn (by omega)]
            rw [this]; exact hdp1 r t
          · refine ⟨Or.inr ⟨c, (hset c).mpr ⟨rfl, hst⟩, rfl⟩, fun C u => ⟨c, rfl, Or.inl ((hset C).mp u).1.symm⟩, fun B0 e0 => ⟨c, rfl, Or.inr (ce B0 e0)⟩⟩
          · obtain ⟨d, rfl⟩ : ∃ d, D = d + 5 := ⟨D - 5, by omega⟩
            have v6' := fun F => v6 d F
            simp (disch := omega) only [e75, r75_0, r75_1, r75_2, r75_5, r75_7, r75_9, r75_12, r75_13, r75_14, r75_15, r75_18, r75_21, r75_24, r75_25, r75_27, r75_30, r75_33, r75_34, r75_36, r75_39, r75_40, r75_43, r75_44, r75_45, r75_48, r75_49, r75_51, r75_54, r75_55, r75_56, r75_59, r75_62, r75_63, r75_64, r75_66, r75_67, r75_70, r75_73, r75_75, r75_76, r75_79, r75_80, r75_83, r75_84, r75_86, r75_88, r75_91, r75_92, r75_93, r75_94, r75_95, r75_96, r75_97, r75_98, r75_99, r75_101, r75_103, r75_106, r75_108, r75_111, r75_112, r75_115, r75_117, r75_119, r75_122, r75_123, r75_125, r75_127, r75_129, r75_130, r75_131, r75_134, r75_135, r75_136, r75_137, r75_138, r75_140, r75_143, r75_144, r75_145, r75_146, r75_149, r75_150, r75_152, r75_155, r75_156, r75_157, r75_158, r75_161, r75_162, r75_164, r75_167, r75_169, r75_170, r75_172, r75_173, r75_174, r75_177, r75_179, r75_181, r75_182, r75_183, r75_186, hf0, q.hns, hns, h76, v6', e217, cs, kdC, kdM, rpC, rpM, q_rs, q_rn, Option.toList_some, Option.toList_none, List.cons_append, List.nil_append, true_and, and_true, eq_self, ↓reduceIte, not_true_eq_false, not_false_eq_true, Nat.reduceEqDiff, Nat.reduceLeDiff, Nat.reduceLT, Nat.reduceAdd, Nat.reduceMul, Nat.reduceSub, false_or, or_false, true_or, or_true, false_and, and_false, reduceCtorEq, q_n0, q_n1, q_em, q_em2, q_b0, q_b1, Classical.not_not, nI_add, pk_mul, nI_clamp, q_vp, nI_eq, nI_leI, nI_ltI, q_sub, Nat.lt_irrefl, show row ≤ 12 by omega]
      · rw [q_bf ce] at h76
        refine ⟨h0, best, x, fun r t _ _ => rfl, hw, hb, ?_, fun D F hD => ?_⟩
        · refine ⟨Or.inl rfl, fun C u => ?_, fun B0 e0 => ⟨B0, e0, Or.inl rfl⟩⟩
          have hCc := ((hset C).mp u).1
          cases hbst : best with
          | none => exact absurd (fun B q => by rw [hbst] at q; cases q) ce
          | some B =>
            refine ⟨B, rfl, ?_⟩
            rw [hCc]
            by_cases eB : B = c
            · exact Or.inl eB
            · rcases ltx_tot (hl B hbst) hc12 eB with q | q
              · exact Or.inr q
              · exact absurd (fun B' q' => by rw [hbst] at q'; cases q'; exact q) ce
        · obtain ⟨d, rfl⟩ : ∃ d, D = d + 5 := ⟨D - 5, by omega⟩
          simp (disch := omega) only [e75, r75_0, r75_1, r75_2, r75_5, r75_7, r75_9, r75_12, r75_13, r75_14, r75_15, r75_18, r75_21, r75_24, r75_25, r75_27, r75_30, r75_33, r75_34, r75_36, r75_39, r75_40, r75_43, r75_44, r75_45, r75_48, r75_49, r75_51, r75_54, r75_55, r75_56, r75_59, r75_62, r75_63, r75_64, r75_66, r75_67, r75_70, r75_73, r75_75, r75_76, r75_79, r75_80, r75_83, r75_84, r75_86, r75_88, r75_91, r75_92, r75_93, r75_94, r75_95, r75_96, r75_97, r75_98, r75_99, r75_101, r75_103, r75_106, r75_108, r75_111, r75_112, r75_115, r75_117, r75_119, r75_122, r75_123, r75_125, r75_127, r75_129, r75_130, r75_131, r75_134, r75_135, r75_136, r75_137, r75_138, r75_140, r75_143, r75_144, r75_145, r75_146, r75_149, r75_150, r75_152, r75_155, r75_156, r75_157, r75_158, r75_161, r75_162, r75_164, r75_167, r75_169, r75_170, r75_172, r75_173, r75_174, r75_177, r75_179, r75_181, r75_182, r75_183, r75_186, hf0, q.hns, hns, h76, kdC, kdM, rpC, rpM, q_rs, q_rn, Option.toList_some, Option.toList_none, List.cons_append, List.nil_append, true_and, and_true, eq_self, ↓reduceIte, not_true_eq_false, not_false_eq_true, Nat.reduceEqDiff, Nat.reduceLeDiff, Nat.reduceLT, Nat.reduceAdd, Nat.reduceMul, Nat.reduceSub, false_or, or_false, true_or, or_true, false_and, and_false, reduceCtorEq, q_n0, q_n1, q_em, q_em2, q_b0, q_b1, Classical.not_not, nI_add, pk_mul, nI_clamp, q_vp, nI_eq, nI_leI, nI_ltI, q_sub, Nat.lt_irrefl, show row ≤ 12 by omega]
    · refine ⟨h0, best, x, fun r t _ _ => rfl, hw, hb, PB_0 (fun C u => sek_no hσ (by omega) C u.1), fun D F hD => ?_⟩
      simp (disch := omega) only [e75, r75_0, r75_1, r75_2, r75_5, r75_7, r75_9, r75_12, r75_13, r75_14, r75_15, r75_18, r75_21, r75_24, r75_25, r75_27, r75_30, r75_33, r75_34, r75_36, r75_39, r75_40, r75_43, r75_44, r75_45, r75_48, r75_49, r75_51, r75_54, r75_55, r75_56, r75_59, r75_62, r75_63, r75_64, r75_66, r75_67, r75_70, r75_73, r75_75, r75_76, r75_79, r75_80, r75_83, r75_84, r75_86, r75_88, r75_91, r75_92, r75_93, r75_94, r75_95, r75_96, r75_97, r75_98, r75_99, r75_101, r75_103, r75_106, r75_108, r75_111, r75_112, r75_115, r75_117, r75_119, r75_122, r75_123, r75_125, r75_127, r75_129, r75_130, r75_131, r75_134, r75_135, r75_136, r75_137, r75_138, r75_140, r75_143, r75_144, r75_145, r75_146, r75_149, r75_150, r75_152, r75_155, r75_156, r75_157, r75_158, r75_161, r75_162, r75_164, r75_167, r75_169, r75_170, r75_172, r75_173, r75_174, r75_177, r75_179, r75_181, r75_182, r75_183, r75_186, hf0, kdC, kdM, rpC, rpM, q_rs, q_rn, Option.toList_some, Option.toList_none, List.cons_append, List.nil_append, true_and, and_true, eq_self, ↓reduceIte, not_true_eq_false, not_false_eq_true, Nat.reduceEqDiff, Nat.reduceLeDiff, Nat.reduceLT, Nat.reduceAdd, Nat.reduceMul, Nat.reduceSub, false_or, or_false, true_or, or_true, false_and, and_false, reduceCtorEq, q_n0, q_n1, q_em, q_em2, q_b0, q_b1, Classical.not_not, nI_add, pk_mul, nI_clamp, q_vp, nI_eq, nI_leI, nI_ltI, q_sub, show 0 < more by omega]
  | succ k ih =>
    intro i more c row best h0 e x hrow hmore hc hdp hw hb hl
    have hi : i < ns K := by omega
    have hfi := hfr i
    by_cases hmf : frN K σ i < more
    · refine ⟨h0, best, x, fun r t _ _ => rfl, hw, hb, PB_0 (fun C u => sek_no hσ hmf C u.1), fun D F hD => ?_⟩
      simp (disch := omega) only [e75, r75_0, r75_1, r75_2, r75_5, r75_7, r75_9, r75_12, r75_13, r75_14, r75_15, r75_18, r75_21, r75_24, r75_25, r75_27, r75_30, r75_33, r75_34, r75_36, r75_39, r75_40, r75_43, r75_44, r75_45, r75_48, r75_49, r75_51, r75_54, r75_55, r75_56, r75_59, r75_62, r75_63, r75_64, r75_66, r75_67, r75_70, r75_73, r75_75, r75_76, r75_79, r75_80, r75_83, r75_84, r75_86, r75_88, r75_91, r75_92, r75_93, r75_94, r75_95, r75_96, r75_97, r75_98, r75_99, r75_101, r75_103, r75_106, r75_108, r75_111, r75_112, r75_115, r75_117, r75_119, r75_122, r75_123, r75_125, r75_127, r75_129, r75_130, r75_131, r75_134, r75_135, r75_136, r75_137, r75_138, r75_140, r75_143, r75_144, r75_145, r75_146, r75_149, r75_150, r75_152, r75_155, r75_156, r75_157, r75_158, r75_161, r75_162, r75_164, r75_167, r75_169, r75_170, r75_172, r75_173, r75_174, r75_177, r75_179, r75_181, r75_182, r75_183, r75_186, kdC, kdM, rpC, rpM, q_rs, q_rn, Option.toList_some, Option.toList_none, List.cons_append, List.nil_append, true_and, and_true, eq_self, ↓reduceIte, not_true_eq_false, not_false_eq_true, Nat.reduceEqDiff, Nat.reduceLeDiff, Nat.reduceLT, Nat.reduceAdd, Nat.reduceMul, Nat.reduceSub, false_or, or_false, true_or, or_true, false_and, and_false, reduceCtorEq, q_n0, q_n1, q_em, q_em2, q_b0, q_b1, Classical.not_not, nI_add, pk_mul, nI_clamp, q_vp, nI_eq, nI_leI, nI_ltI, q_sub, hmf]
    · have z0 := STS_ca (Ts_ca x) z
      have q := z0.2.1
      have hs := hσ.1 i hi
      have hs12 : σ i < 12 := by omega
      have g23 : gI h0 23 i = nI (σ i) := by rw [x.g (a := 23) (i := i) rfl]; exact h23 i hi
      have hfs := frN_s (K := K) (σ := σ) hi
      have hci := hc.2.2 i (Nat.le_refl _) hi
      have hne : ∀ j, j < i → σ j ≠ σ i := fun j hj e => by
        have := hσ.2 j i hj hi
        rw [e] at this
        exact ltS_irr _ this
      rcases sent01 w hs with e5 | e5
      · -- a free one
        have hfree : ¬ isSent K (σ i) := by unfold isSent; rw [e5]; exact q_10
        rw [pif_t hfree] at hfs
        have hbit : (sbt K (ns K) ||| c).testBit (σ i) = false := by
          rw [Nat.testBit_or, hci, Bool.or_false]
          cases q2 : (sbt K (ns K)).testBit (σ i) with
          | false => rfl
          | true => exact absurd ((sbt_bit K (ns K) (σ i)).mp q2).2 hfree
        obtain ⟨h1, best1, a1, a2, a3, a4, a5, a6⟩ := ih (i + 1) more c row best h0 (by omega) x (by omega) hmore (ahd_s hc) (fun j hj => by
          rw [hdp j hj]
          show _ = pif ((sbt K (ns K) ||| c).testBit (σ i) = true) _ _
          rw [pif_f (by rw [hbit]; simp)]) hw hb hl
        have hl1 := PB_b a5 hl (fun C u => by have := u.1.1; omega)
        by_cases hm0 : more = 0
        · subst hm0
          refine ⟨h1, best1, a1, a2, a3, a4, PB_cg a5 (fun C => ?_), fun D F hD => ?_⟩
          · rw [sek_f hσ hc hi hfree]
            exact ⟨fun u => ⟨Or.inl u.1, u.2⟩, fun u => ⟨u.1.resolve_right (fun y => by omega), u.2⟩⟩
          · obtain ⟨D', rfl⟩ : ∃ d, D = d + 1 := ⟨D - 1, by omega⟩
            have a6' := fun F => a6 D' F (by omega)
            simp (disch := omega) only [e75, r75_0, r75_1, r75_2, r75_5, r75_7, r75_9, r75_12, r75_13, r75_14, r75_15, r75_18, r75_21, r75_24, r75_25, r75_27, r75_30, r75_33, r75_34, r75_36, r75_39, r75_40, r75_43, r75_44, r75_45, r75_48, r75_49, r75_51, r75_54, r75_55, r75_56, r75_59, r75_62, r75_63, r75_64, r75_66, r75_67, r75_70, r75_73, r75_75, r75_76, r75_79, r75_80, r75_83, r75_84, r75_86, r75_88, r75_91, r75_92, r75_93, r75_94, r75_95, r75_96, r75_97, r75_98, r75_99, r75_101, r75_103, r75_106, r75_108, r75_111, r75_112, r75_115, r75_117, r75_119, r75_122, r75_123, r75_125, r75_127, r75_129, r75_130, r75_131, r75_134, r75_135, r75_136, r75_137, r75_138, r75_140, r75_143, r75_144, r75_145, r75_146, r75_149, r75_150, r75_152, r75_155, r75_156, r75_157, r75_158, r75_161, r75_162, r75_164, r75_167, r75_169, r75_170, r75_172, r75_173, r75_174, r75_177, r75_179, r75_181, r75_182, r75_183, r75_186, q.hns, hns, g23, q.s5, e5, hs12, kdC, kdM, rpC, rpM, q_rs, q_rn, Option.toList_some, Option.toList_none, List.cons_append, List.nil_append, true_and, and_true, eq_self, ↓reduceIte, not_true_eq_false, not_false_eq_true, Nat.reduceEqDiff, Nat.reduceLeDiff, Nat.reduceLT, Nat.reduceAdd, Nat.reduceMul, Nat.reduceSub, false_or, or_false, true_or, or_true, false_and, and_false, reduceCtorEq, q_n0, q_n1, q_em, q_em2, q_b0, q_b1, Classical.not_not, nI_add, pk_mul, nI_clamp, q_vp, nI_eq, nI_leI, nI_ltI, q_sub, hmf, show i < 12 by omega, show ¬ 12 < row by omega, show row ≤ 12 by omega, show i < ns K by omega, show frN K σ i - 1 = frN K σ (i + 1) by omega, a6', Nat.le_refl]
        · have z1 := STS_ca (Ts_ca a1) z
          obtain ⟨h2, b1, b2, b3, b4, b5, b6⟩ := c66 (T := Tm) (s := σ i) (fr := row) (to' := row + 1) z1 (by rw [a1.p (a := 88) (i := 3) rfl]; exact hP) te (tAt_ca (Ts_ca a1) ta) hs (WH_ts a1 hW) (by omega) (by omega) a3
          have a1' := a1.trans (Tk_ts b1)
          obtain ⟨h3, best2, e1, e2, e3, e4, e5', e6⟩ := ih (i + 1) (more - 1) (c ||| 2 ^ σ i) (row + 1) best1 h2 (by omega) a1' (by omega) (by omega) (ahd_y hσ hc hi hfree) (fun j hj => by
            rw [b2 j hj, a2 row (wf j) (Nat.le_refl _) (by have := (hW.2.2.1 j hj).2; have := w.hnt; omega), hdp j hj]
            show _ = pif ((sbt K (ns K) ||| (c ||| 2 ^ σ i)).testBit (σ i) = true) _ _
            rw [pif_t (by rw [Nat.testBit_or, Nat.testBit_or, Nat.testBit_two_pow_self, Bool.or_true, Bool.or_true])]
            rw [mdD_cg (M := sbt K (ns K) ||| c) (M' := sbt K (ns K) ||| (c ||| 2 ^ σ i)) i (fun j hj => by
              rw [Nat.testBit_or, Nat.testBit_or, Nat.testBit_or, Nat.testBit_two_pow, decide_eq_false (fun e => hne j hj e.symm), Bool.or_false])]) b5 (by rw [b1.g (a := 88) (i := 11) rfl]; exact a4) hl1
          refine ⟨h3, best2, e1, fun r t hr ht => ?_, e3, e4, PB_cg (PB_tr a5 e5') (fun C => ?_), fun D F hD => ?_⟩
          · rw [e2 r t (by omega) ht, b3 r t (by omega) ht, a2 r t hr ht]
          · rw [sek_f hσ hc hi hfree]
            constructor
            · rintro (u | u)
              · exact ⟨Or.inl u.1, u.2⟩
              · exact ⟨Or.inr ⟨by omega, u.1⟩, u.2⟩
            · rintro ⟨u | u, u2⟩
              · exact Or.inl ⟨u, u2⟩
              · exact Or.inr ⟨u.2, u2⟩
          · obtain ⟨D', rfl⟩ : ∃ d, D = d + 1 := ⟨D - 1, by omega⟩
            have a6' := fun F => a6 D' F (by omega)
            have e6' := fun F => e6 D' F (by omega)
            have b6' := fun F => b6 (D' - 4) F
            rw [show D' - 4 + 4 = D' by omega] at b6'
            have hp : 2 ^ σ i ≤ 2 ^ 12 := Nat.pow_le_pow_right (by omega) (by omega)
            have sh : nI 1 <<< (nI (σ i) &&& 31) = nI (2 ^ σ i) := by rw [n_shl (by omega) (by omega), Nat.one_mul]
            simp (disch := omega) only [e75, r75_0, r75_1, r75_2, r75_5, r75_7, r75_9, r75_12, r75_13, r75_14, r75_15, r75_18, r75_21, r75_24, r75_25, r75_27, r75_30, r75_33, r75_34, r75_36, r75_39, r75_40, r75_43, r75_44, r75_45, r75_48, r75_49, r75_51, r75_54, r75_55, r75_56, r75_59, r75_62, r75_63, r75_64, r75_66, r75_67, r75_70, r75_73, r75_75, r75_76, r75_79, r75_80, r75_83, r75_84, r75_86, r75_88, r75_91, r75_92, r75_93, r75_94, r75_95, r75_96, r75_97, r75_98, r75_99, r75_101, r75_103, r75_106, r75_108, r75_111, r75_112, r75_115, r75_117, r75_119, r75_122, r75_123, r75_125, r75_127, r75_129, r75_130, r75_131, r75_134, r75_135, r75_136, r75_137, r75_138, r75_140, r75_143, r75_144, r75_145, r75_146, r75_149, r75_150, r75_152, r75_155, r75_156, r75_157, r75_158, r75_161, r75_162, r75_164, r75_167, r75_169, r75_170, r75_172, r75_173, r75_174, r75_177, r75_179, r75_181, r75_182, r75_183, r75_186, q.hns, hns, g23, q.s5, e5, hs12, kdC, kdM, rpC, rpM, q_rs, q_rn, Option.toList_some, Option.toList_none, List.cons_append, List.nil_append, true_and, and_true, eq_self, ↓reduceIte, not_true_eq_false, not_false_eq_true, Nat.reduceEqDiff, Nat.reduceLeDiff, Nat.reduceLT, Nat.reduceAdd, Nat.reduceMul, Nat.reduceSub, false_or, or_false, true_or, or_true, false_and, and_false, reduceCtorEq, q_n0, q_n1, q_em, q_em2, q_b0, q_b1, Classical.not_not, nI_add, pk_mul, nI_clamp, q_vp, nI_eq, nI_leI, nI_ltI, q_sub, hmf, sh, n_or, show i < 12 by omega, show ¬ 12 < row by omega, show row ≤ 12 by omega, show i < ns K by omega, show frN K σ i - 1 = frN K σ (i + 1) by omega, a6', b6', e6', show ¬ more ≤ 0 by omega, show ¬ 12 ≤ row by omega]
      · -- one that is sent
        have hsent : isSent K (σ i) := e5
        rw [pif_f (fun u => u hsent), Nat.add_zero] at hfs
        have hbit : (sbt K (ns K) ||| c).testBit (σ i) = true := by
          rw [Nat.testBit_or, (sbt_bit K (ns K) (σ i)).mpr ⟨hs, hsent⟩, Bool.true_or]
        obtain ⟨h2, b1, b2, b3, b4, b5, b6⟩ := c66 (T := Tm) (s := σ i) (fr := row) (to' := row + 1) z0 (by rw [x.p (a := 88) (i := 3) rfl]; exact hP) te (tAt_ca (Ts_ca x) ta) hs (WH_ts x hW) (by omega) (by omega) hw
        obtain ⟨h3, best2, e1, e2, e3, e4, e5', e6⟩ := ih (i + 1) more c (row + 1) best h2 (by omega) (x.trans (Tk_ts b1)) (by omega) hmore (ahd_s hc) (fun j hj => by
          rw [b2 j hj, hdp j hj]
          show _ = pif ((sbt K (ns K) ||| c).testBit (σ i) = true) _ _
          rw [pif_t hbit]) b5 (by rw [b1.g (a := 88) (i := 11) rfl]; exact hb) hl
        refine ⟨h3, best2, e1, fun r t hr ht => ?_, e3, e4, PB_cg e5' (fun C => ?_), fun D F hD => ?_⟩
        · rw [e2 r t (by omega) ht, b3 r t (by omega) ht]
        · rw [sek_s hσ hc hi hsent]
        · obtain ⟨D', rfl⟩ : ∃ d, D = d + 1 := ⟨D - 1, by omega⟩
          have e6' := fun F => e6 D' F (by omega)
          have b6' := fun F => b6 (D' - 4) F
          rw [show D' - 4 + 4 = D' by omega] at b6'
          rw [← hfs] at e6'
          simp (disch := omega) only [e75, r75_0, r75_1, r75_2, r75_5, r75_7, r75_9, r75_12, r75_13, r75_14, r75_15, r75_18, r75_21, r75_24, r75_25, r75_27, r75_30, r75_33, r75_34, r75_36, r75_39, r75_40, r75_43, r75_44, r75_45, r75_48, r75_49, r75_51, r75_54, r75_55, r75_56, r75_59, r75_62, r75_63, r75_64, r75_66, r75_67, r75_70, r75_73, r75_75, r75_76, r75_79, r75_80, r75_83, r75_84, r75_86, r75_88, r75_91, r75_92, r75_93, r75_94, r75_95, r75_96, r75_97, r75_98, r75_99, r75_101, r75_103, r75_106, r75_108, r75_111, r75_112, r75_115, r75_117, r75_119, r75_122, r75_123, r75_125, r75_127, r75_129, r75_130, r75_131, r75_134, r75_135, r75_136, r75_137, r75_138, r75_140, r75_143, r75_144, r75_145, r75_146, r75_149, r75_150, r75_152, r75_155, r75_156, r75_157, r75_158, r75_161, r75_162, r75_164, r75_167, r75_169, r75_170, r75_172, r75_173, r75_174, r75_177, r75_179, r75_181, r75_182, r75_183, r75_186, q.hns, hns, g23, q.s5, e5, hs12, kdC, kdM, rpC, rpM, q_rs, q_rn, Option.toList_some, Option.toList_none, List.cons_append, List.nil_append, true_and, and_true, eq_self, ↓reduceIte, not_true_eq_false, not_false_eq_true, Nat.reduceEqDiff, Nat.reduceLeDiff, Nat.reduceLT, Nat.reduceAdd, Nat.reduceMul, Nat.reduceSub, false_or, or_false, true_or, or_true, false_and, and_false, reduceCtorEq, q_n0, q_n1, q_em, q_em2, q_b0, q_b1, Classical.not_not, nI_add, pk_mul, nI_clamp, q_vp, nI_eq, nI_leI, nI_ltI, q_sub, hmf, show i < 12 by omega, show ¬ 12 < row by omega, show row ≤ 12 by omega, show i < ns K by omega, b6', e6', show ¬ 12 ≤ row by omega]
end SK
