/-! flight, ring, of, terms, status, fault -/
theorem q_sIc {x : Hp} {a b i j : Nat} {v w : Int32} (hn : a ≠ b) : sI (sI x a i v) b j w = sI (sI x b j w) a i v := by
  unfold sI
  have : up2 (gI (hz x, hu x, hk x, up2 (gI x) a i v, gJ x, gP x)) b j w = up2 (gI (hz x, hu x, hk x, up2 (gI x) b j w, gJ x, gP x)) a i v := by
    funext c k
    unfold up2 gI
    by_cases h1 : c = a ∧ k = i
    · rw [if_neg (fun q => hn (h1.1.symm.trans q.1))]
      exact (if_pos h1).trans (if_pos h1).symm
    · by_cases h2 : c = b ∧ k = j
      · rw [if_pos h2, if_neg h1]
        exact (if_pos h2).symm
      · rw [if_neg h1, if_neg h2]
        exact (if_neg h1).trans (if_neg h2).symm
  rw [this]
  rfl
theorem q_grc {x : Hp} {a i : Nat} {v : Int32} (ha : 1 ≠ a) : sI (grt x) a i v = grt (sI x a i v) := by
  have e := q_sIc (x := x) (a := 1) (b := a) (i := 10) (j := i) (v := nI 0) (w := v) ha
  unfold grt
  rw [← e]
  rfl
def flK (K : Nat → Int32) (n : Nat) (a b c s : Int32) : Nat → Int32 := fun i => if i = 376 then nI (n + 1) else if i = 9 * n then a else if i = 9 * n + 1 then b else if i = 9 * n + 2 then c else if 9 * n + 3 ≤ i ∧ i < 9 * n + 9 then s else K i
def flh (h : Hp) (n : Nat) (a b c s : Int32) : Hp := sI (sI (sI (sI (sI (sI (sI (sI (sI (sI h 103 (9 * n) a) 103 (9 * n + 1) b) 103 (9 * n + 2) c) 103 (9 * n + 3 + 0) s) 103 (9 * n + 3 + 1) s) 103 (9 * n + 3 + 2) s) 103 (9 * n + 3 + 3) s) 103 (9 * n + 3 + 4) s) 103 (9 * n + 3 + 5) s) 103 376 (nI (n + 1))
section FY
variable (d : Nat) (h : Hp) (F : Po) {K : Nat → Int32}
theorem flh_K (hK : gI h 103 = K) {n : Nat} (a b c s : Int32) : gI (flh h n a b c s) 103 = flK K n a b c s := by
  funext i
  unfold flh flK
  simp only [q_gi, hK, true_and]
  repeat' split
  all_goals first | rfl | omega
theorem m162 (hK : gI h 103 = K) (w : WF K) (hn : nf K < 24) (a b c s : Int32) : cwp true (d + 1) 162 [.ref 101, .int a, .int b, .int c, .int s] h F = F none (flh h (nf K) a b c s) := by
  have h1 := w.hnf
  have hb : ∀ r, r < 6 → 9 * nf K + 3 + r < 8391 := fun r hr => by omega
  simp (disch := omega) only [e162, r162_0, r162_1, r162_3, r162_4, r162_7, r162_8, r162_9, r162_11, r162_12, r162_15, r162_17, r162_18, r162_19, r162_20, r162_23, r162_25, r162_26, r162_27, r162_28, r162_29, r162_30, r162_33, r162_35, r162_36, r162_37, r162_38, r162_39, r162_40, r162_44, r162_46, r162_49, r162_50, r162_53, r162_55, r162_56, r162_57, r162_59, r162_60, r162_62, r162_63, r162_66, r162_69, r162_70, r162_73, r162_76, r162_77, r162_78, r162_79, r162_80, r162_81, r162_42, c153 _ h _ hK w, kdC, kdM, rpC, rpM, q_rs, q_rn, Option.toList_some, Option.toList_none, List.cons_append, List.nil_append, true_and, and_true, eq_self, ↓reduceIte, not_true_eq_false, not_false_eq_true, Nat.reduceEqDiff, Nat.reduceLeDiff, Nat.reduceLT, Nat.reduceAdd, Nat.reduceMul, Nat.reduceSub, false_or, or_false, true_or, or_true, false_and, and_false, reduceCtorEq, q_n0, q_n1, q_em, q_em2, q_b0, q_b1, Classical.not_not, nI_add, pk_mul, nI_clamp, q_vp, nI_eq, nI_leI, nI_ltI, q_sub, q_gs, q_gn, q_gm, q_gIJ, q_gIP, q_gJI, q_gJA, q_gJP, q_gPI, q_gPA, q_gPJ, q_ga, q_gan, q_js, q_jn, q_jm, q_ps, q_pn, q_pm, hK, h1, Nat.zero_add, flh, show 9 * nf K < 8391 by omega, show 9 * nf K + 1 < 8391 by omega, show 9 * nf K + 2 < 8391 by omega, hb 0, hb 1, hb 2, hb 3, hb 4, hb 5]
theorem adh_gn {n : Nat} {a b c s : Int32} {y : Nat} (hy : y < 3 ∨ 7 < y) : gI (adh h n a b c s) y = gI h y := by
  unfold adh
  simp (disch := omega) only [q_gn]
theorem flh_gn {n : Nat} {a b c s : Int32} {y : Nat} (hy : y ≠ 103) : gI (flh h n a b c s) y = gI h y := by
  unfold flh
  simp (disch := omega) only [q_gn]
theorem fly_p {n : Nat} {a b c s : Int32} : gP (flh (adh h n a b c s) n a b c s) = gP h := by
  unfold flh adh
  simp only [q_gPI]
/-- one more flight in both -/
theorem fly_S (z : STS h 0 K) (hK : gI h 103 = K) (hn : nf K < 24) {a b c s : Int32} (ha : rg a (-40) 120) (hb : rg b 0 9) (hc : rg c 1 6) (hs : rg s (-1) 9) : STS (flh (adh h (nf K) a b c s) (nf K) a b c s) 0 (flK K (nf K) a b c s) := by
  have x : Mu h (flh (adh h (nf K) a b c s) (nf K) a b c s) := by
    unfold flh adh
    iterate 20 refine FrS.sI ?_ _ rfl
    exact FrS.refl h
  obtain ⟨pf, pc, pp, pt, ps, px⟩ := STS_iff.mp z
  have hk : ∀ i, i ≠ 376 → (i < 9 * nf K ∨ 9 * nf K + 9 ≤ i) → flK K (nf K) a b c s i = K i := by
    intro i h1 h2
    unfold flK
    rw [if_neg h1, if_neg (by omega), if_neg (by omega), if_neg (by omega), if_neg (by omega)]
  have hg : ∀ y, y ≠ 103 → (y < 3 ∨ 7 < y) → gI (flh (adh h (nf K) a b c s) (nf K) a b c s) y = gI h y := fun y h1 h2 => by
    rw [flh_gn _ h1, adh_gn _ h2]
  have hnn : nf (flK K (nf K) a b c s) = nf K + 1 := by
    show (flK K (nf K) a b c s 376).toNatClampNeg = _
    unfold flK
    rw [if_pos rfl, nI_clamp (by omega)]
  refine STS_iff.mpr ⟨?_, PC_cg (fun i => by rw [hg 24 (by omega) (by omega)]) (fun i h1 h2 => hk i (by omega) (by omega)) pc, PP_cg (by rw [hg 8 (by omega) (by omega)]) (fun c i h1 h2 => by rw [hg c (by omega) (by omega)]) (fun i h1 => hk i (by omega) (by omega)) pp, PT_cg (by rw [hg 11 (by omega) (by omega)]) (fun c i h1 h2 => by rw [hg c (by omega) (by omega)]) (fun i h1 => hk i (by omega) (by omega)) pt, PS_cg (by rw [hg 11 (by omega) (by omega)]) (fun c i h1 h2 => by rw [hg c (by omega) (by omega)]) (fun i h1 => hk i (by omega) (by omega)) (by unfold nt; rw [hk 378 (by omega) (by omega)]; exact Nat.le_refl _) ps, PX_cg (by rw [hg 2 (by omega) (by omega)]) (fun t => by rw [fly_p]) (fun a T => tAt_mu x) (fun i h1 => hk i (by omega) (by omega)) px⟩
  obtain ⟨⟨a1, b1⟩, d1, e1, e2, e3, e4⟩ := pf
  refine ⟨⟨?_, ?_⟩, ?_, ?_, ?_, ?_, ?_⟩
  · unfold flK
    rw [if_pos rfl]
    unfold rg
    rw [nI_toInt (by omega)]
    omega
  · intro f hf
    rw [hnn] at hf
    by_cases e : f = nf K
    · subst e
      unfold flK
      refine ⟨?_, ?_, ?_, ?_⟩
      · rw [if_neg (by omega), if_pos rfl]; exact ha
      · rw [if_neg (by omega), if_neg (by omega), if_pos rfl]; exact hb
      · rw [if_neg (by omega), if_neg (by omega), if_neg (by omega), if_pos rfl]; exact hc
      · intro r hr
        rw [if_neg (by omega), if_neg (by omega), if_neg (by omega), if_neg (by omega), if_pos (by omega)]; exact hs
    · have := b1 f (by omega)
      rw [hk _ (by omega) (by omega), hk (9 * f + 1) (by omega) (by omega), hk (9 * f + 2) (by omega) (by omega)]
      exact ⟨this.1, this.2.1, this.2.2.1, fun r hr => by rw [hk _ (by omega) (by omega)]; exact this.2.2.2 r hr⟩
  · rw [flh_gn _ (by omega)]
    unfold adh flK
    rw [q_gs, if_pos rfl]
  · intro i hi
    rw [flh_gn _ (by omega)]
    unfold adh
    simp (disch := omega) only [q_gn]
    rw [q_gi]
    by_cases e : i = nf K
    · subst e
      unfold flK
      rw [if_pos ⟨rfl, rfl⟩, if_neg (by omega), if_pos (by omega)]
    · rw [if_neg (fun q => e q.2), hk _ (by omega) (by omega)]
      exact e1 i hi
  · intro i hi
    rw [flh_gn _ (by omega)]
    unfold adh
    simp (disch := omega) only [q_gn]
    rw [q_gi]
    by_cases e : i = nf K
    · subst e
      unfold flK
      rw [if_pos ⟨rfl, rfl⟩, if_neg (by omega), if_neg (by omega), if_pos (by omega)]
    · rw [if_neg (fun q => e q.2), q_gn (by omega), hk _ (by omega) (by omega)]
      exact e2 i hi
  · intro i hi
    rw [flh_gn _ (by omega)]
    unfold adh
    simp (disch := omega) only [q_gn]
    rw [q_gi]
    by_cases e : i = nf K
    · subst e
      unfold flK
      rw [if_pos ⟨rfl, rfl⟩, if_neg (by omega), if_neg (by omega), if_neg (by omega), if_pos (by omega)]
    · rw [if_neg (fun q => e q.2), q_gn (by omega), q_gn (by omega), hk _ (by omega) (by omega)]
      exact e3 i hi
  · intro f r hf hr
    rw [flh_gn _ (by omega)]
    unfold adh
    rw [q_gn (by omega)]
    simp only [q_gi, true_and]
    by_cases e : f = nf K
    · subst e
      have hv : flK K (nf K) a b c s (9 * nf K + (3 + r)) = s := by
        unfold flK
        rw [if_neg (by omega), if_neg (by omega), if_neg (by omega), if_neg (by omega), if_pos (by omega)]
      rw [hv]
      repeat' split
      all_goals first | rfl | omega
    · rw [if_neg (by omega), if_neg (by omega), if_neg (by omega), if_neg (by omega), if_neg (by omega), if_neg (by omega), hk _ (by omega) (by omega)]
      simp (disch := omega) only [show (7 = 6) = False by simp, show (7 = 5) = False by simp, show (7 = 4) = False by simp, false_and, ↓reduceIte]
      exact e4 f r hf hr
end FY
/-! the pairs -/
section FP
variable {n : Nat} {h : Hp}
theorem rg_of {x : Int32} {a b : Int32} {lo hi : Int} (h1 : a ≤ x ∧ x ≤ b) (ha : a.toInt = lo) (hb : b.toInt = hi) : rg x lo hi := by
  rw [Int32.le_iff_toInt_le, Int32.le_iff_toInt_le, ha, hb] at h1
  exact h1
theorem grt_K (x : Hp) : gI (grt x) 103 = gI x 103 := by
  unfold grt
  rw [q_gIP, q_gIP, q_gn (by omega)]
theorem flh_grt (x : Hp) (n : Nat) (a b c s : Int32) : flh (grt x) n a b c s = grt (flh x n a b c s) := by
  unfold flh
  simp (disch := omega) only [q_grc]
theorem Inv_gr2 {h1 : Hp} (z : Inv n h) (x : Mu h h1) (hS : STS h1 0 (gI h1 103)) (hg : ∀ b, b = 1 ∨ (b = 101 ∨ (b = 77 ∨ (b = 107 ∨ (b = 76 ∨ (b = 100 ∨ b = 102))))) → gI h1 b = gI h b) : Inv (n + 1) (sI (grt h1) 101 0 (nI 0)) := by
  refine Inv_gr z x hS ?_ ?_ ?_
  · unfold TPS
    rw [hg 77 (by omega), hg 107 (by omega), hg 76 (by omega), hg 101 (by omega)]
    exact z.2.2.1
  · unfold RFS
    rw [hg 100 (by omega), hg 102 (by omega)]
    exact z.2.2.2.1
  · rw [hg 1 (by omega), hg 101 (by omega)]
    exact z.2.2.2.2.1.2
theorem p_flight (z : Inv n h) (a b c : Int32) : PRI n h 87 163 [.int a, .int b, .int c] := by
  intro d
  have w := z.1.1
  have q := z.1.2.1
  have hn := w.hnf
  have hr1 := q_rfK (h := h) (-1) 0
  have hr5 := q_rfK (h := h) (-5) 3
  by_cases hA : -40 ≤ a ∧ a ≤ nI 120
  · by_cases hB : nI 0 ≤ b ∧ b ≤ nI 9
    · by_cases hC : nI 1 ≤ c ∧ c ≤ nI 6
      · by_cases hf : nf (gI h 103) = 24
        · refine ⟨-5, rfc h (-5) 3, rfm (rfc h (-5) 3) (-5) 5, fun F => ?_, fun F => ?_, Inv_rf z (by omega)⟩
          · simp (disch := omega) only [e87, r87_0, r87_1, r87_4, r87_7, r87_8, r87_9, r87_12, r87_15, r87_16, r87_17, r87_20, r87_21, r87_22, r87_25, r87_28, r87_31, r87_33, r87_36, r87_37, r87_39, r87_42, r87_43, r87_44, r87_45, r87_48, r87_51, r87_52, r87_53, r87_54, r87_55, r87_58, r87_61, c129, c130, c133_5, hA, hB, hC, kdC, kdM, rpC, rpM, q_rs, q_rn, Option.toList_some, Option.toList_none, List.cons_append, List.nil_append, true_and, and_true, eq_self, ↓reduceIte, not_true_eq_false, not_false_eq_true, Nat.reduceEqDiff, Nat.reduceLeDiff, Nat.reduceLT, Nat.reduceAdd, Nat.reduceMul, Nat.reduceSub, false_or, or_false, true_or, or_true, false_and, and_false, reduceCtorEq, q_n0, q_n1, q_em, q_em2, q_b0, q_b1, Classical.not_not, nI_add, pk_mul, nI_clamp, q_vp, nI_eq, nI_leI, nI_ltI, q_sub, q.hnf, hn, hf]
          · simp (disch := omega) only [e163, r163_0, r163_1, r163_4, r163_7, r163_8, r163_9, r163_11, r163_14, r163_17, r163_18, r163_19, r163_21, r163_24, r163_27, r163_28, r163_29, r163_32, r163_33, r163_34, r163_37, r163_39, r163_42, r163_43, r163_45, r163_48, r163_49, r163_50, r163_51, r163_52, r163_53, r163_54, r163_57, r163_58, r163_59, r163_62, r163_63, r163_64, r163_67, c151, c143, c153 _ _ _ hr5 w, m144_5, hA, hB, hC, kdC, kdM, rpC, rpM, q_rs, q_rn, Option.toList_some, Option.toList_none, List.cons_append, List.nil_append, true_and, and_true, eq_self, ↓reduceIte, not_true_eq_false, not_false_eq_true, Nat.reduceEqDiff, Nat.reduceLeDiff, Nat.reduceLT, Nat.reduceAdd, Nat.reduceMul, Nat.reduceSub, false_or, or_false, true_or, or_true, false_and, and_false, reduceCtorEq, q_n0, q_n1, q_em, q_em2, q_b0, q_b1, Classical.not_not, nI_add, pk_mul, nI_clamp, q_vp, nI_eq, nI_leI, nI_ltI, q_sub, hf]
        · have hK : gI (grt (adh h (nf (gI h 103)) a b c (nI 0))) 103 = gI h 103 := by rw [grt_K, adh_gn _ (by omega)]
          have hK2 := flh_K _ hK (n := nf (gI h 103)) a b c (nI 0)
          have hS := fly_S h z.1 rfl (by omega) (rg_of hA (by decide) (by decide)) (rg_of hB (by decide) (by decide)) (rg_of hC (by decide) (by decide)) (show rg (nI 0) (-1) 9 from ⟨by decide, by decide⟩)
          refine ⟨nI (nf (gI h 103)), grt (adh h (nf (gI h 103)) a b c (nI 0)), sI (flh (grt (adh h (nf (gI h 103)) a b c (nI 0))) (nf (gI h 103)) a b c (nI 0)) 101 0 (nI 0), fun F => ?_, fun F => ?_, ?_⟩
          · have hq : gI h 3 4 = nI (nf (gI h 103)) := by rw [q.hnf]; exact hn.1
            simp (disch := omega) only [e87, r87_0, r87_1, r87_4, r87_7, r87_8, r87_9, r87_12, r87_15, r87_16, r87_17, r87_20, r87_21, r87_22, r87_25, r87_28, r87_31, r87_33, r87_36, r87_37, r87_39, r87_42, r87_43, r87_44, r87_45, r87_48, r87_51, r87_52, r87_53, r87_54, r87_55, r87_58, r87_61, c129, c130, c135, cc12 _ h _ hq (show nf (gI h 103) < 24 by omega), hA, hB, hC, kdC, kdM, rpC, rpM, q_rs, q_rn, Option.toList_some, Option.toList_none, List.cons_append, List.nil_append, true_and, and_true, eq_self, ↓reduceIte, not_true_eq_false, not_false_eq_true, Nat.reduceEqDiff, Nat.reduceLeDiff, Nat.reduceLT, Nat.reduceAdd, Nat.reduceMul, Nat.reduceSub, false_or, or_false, true_or, or_true, false_and, and_false, reduceCtorEq, q_n0, q_n1, q_em, q_em2, q_b0, q_b1, Classical.not_not, nI_add, pk_mul, nI_clamp, q_vp, nI_eq, nI_leI, nI_ltI, q_sub, hq, show nf (gI h 103) < 24 by omega]
          · have w2 : WF (flK (gI h 103) (nf (gI h 103)) a b c (nI 0)) := hS.1
            have hnn : nf (flK (gI h 103) (nf (gI h 103)) a b c (nI 0)) = nf (gI h 103) + 1 := by
              show (flK (gI h 103) (nf (gI h 103)) a b c (nI 0) 376).toNatClampNeg = _
              unfold flK
              rw [if_pos rfl, nI_clamp (by omega)]
            simp (disch := omega) only [e163, r163_0, r163_1, r163_4, r163_7, r163_8, r163_9, r163_11, r163_14, r163_17, r163_18, r163_19, r163_21, r163_24, r163_27, r163_28, r163_29, r163_32, r163_33, r163_34, r163_37, r163_39, r163_42, r163_43, r163_45, r163_48, r163_49, r163_50, r163_51, r163_52, r163_53, r163_54, r163_57, r163_58, r163_59, r163_62, r163_63, r163_64, r163_67, c151, c143, c153 _ _ _ hK w, c153 _ _ _ hK2 w2, m162 _ _ _ hK w (show nf (gI h 103) < 24 by omega), c145, hA, hB, hC, kdC, kdM, rpC, rpM, q_rs, q_rn, Option.toList_some, Option.toList_none, List.cons_append, List.nil_append, true_and, and_true, eq_self, ↓reduceIte, not_true_eq_false, not_false_eq_true, Nat.reduceEqDiff, Nat.reduceLeDiff, Nat.reduceLT, Nat.reduceAdd, Nat.reduceMul, Nat.reduceSub, false_or, or_false, true_or, or_true, false_and, and_false, reduceCtorEq, q_n0, q_n1, q_em, q_em2, q_b0, q_b1, Classical.not_not, nI_add, pk_mul, nI_clamp, q_vp, nI_eq, nI_leI, nI_ltI, q_sub, hf, hnn, Nat.add_sub_cancel]
          · rw [flh_grt]
            refine Inv_gr2 z ?_ ?_ ?_
            · unfold flh adh
              iterate 20 refine FrS.sI ?_ _ rfl
              exact FrS.refl h
            · rw [flh_K _ (show gI (adh h (nf (gI h 103)) a b c (nI 0)) 103 = gI h 103 from adh_gn _ (by omega))]
              exact hS
            · intro b hb
              rw [flh_gn _ (by omega), adh_gn _ (by omega)]
      · refine ⟨-1, rfc h (-1) 0, rfm (rfc h (-1) 0) (-1) 1, fun F => ?_, fun F => ?_, Inv_rf z (by omega)⟩
        · simp (disch := omega) only [e87, r87_0, r87_1, r87_4, r87_7, r87_8, r87_9, r87_12, r87_15, r87_16, r87_17, r87_20, r87_21, r87_22, r87_25, r87_28, r87_31, r87_33, r87_36, r87_37, r87_39, r87_42, r87_43, r87_44, r87_45, r87_48, r87_51, r87_52, r87_53, r87_54, r87_55, r87_58, r87_61, c129, c130, c133_1, hA, hB, hC, kdC, kdM, rpC, rpM, q_rs, q_rn, Option.toList_some, Option.toList_none, List.cons_append, List.nil_append, true_and, and_true, eq_self, ↓reduceIte, not_true_eq_false, not_false_eq_true, Nat.reduceEqDiff, Nat.reduceLeDiff, Nat.reduceLT, Nat.reduceAdd, Nat.reduceMul, Nat.reduceSub, false_or, or_false, true_or, or_true, false_and, and_false, reduceCtorEq, q_n0, q_n1, q_em, q_em2, q_b0, q_b1, Classical.not_not, nI_add, pk_mul, nI_clamp, q_vp, nI_eq, nI_leI, nI_ltI, q_sub]
        · simp (disch := omega) only [e163, r163_0, r163_1, r163_4, r163_7, r163_8, r163_9, r163_11, r163_14, r163_17, r163_18, r163_19, r163_21, r163_24, r163_27, r163_28, r163_29, r163_32, r163_33, r163_34, r163_37, r163_39, r163_42, r163_43, r163_45, r163_48, r163_49, r163_50, r163_51, r163_52, r163_53, r163_54, r163_57, r163_58, r163_59, r163_62, r163_63, r163_64, r163_67, c151, c143, m144_1, hA, hB, hC, kdC, kdM, rpC, rpM, q_rs, q_rn, Option.toList_some, Option.toList_none, List.cons_append, List.nil_append, true_and, and_true, eq_self, ↓reduceIte, not_true_eq_false, not_false_eq_true, Nat.reduceEqDiff, Nat.reduceLeDiff, Nat.reduceLT, Nat.reduceAdd, Nat.reduceMul, Nat.reduceSub, false_or, or_false, true_or, or_true, false_and, and_false, reduceCtorEq, q_n0, q_n1, q_em, q_em2, q_b0, q_b1, Classical.not_not, nI_add, pk_mul, nI_clamp, q_vp, nI_eq, nI_leI, nI_ltI, q_sub]
    · refine ⟨-1, rfc h (-1) 0, rfm (rfc h (-1) 0) (-1) 1, fun F => ?_, fun F => ?_, Inv_rf z (by omega)⟩
      · simp (disch := omega) only [e87, r87_0, r87_1, r87_4, r87_7, r87_8, r87_9, r87_12, r87_15, r87_16, r87_17, r87_20, r87_21, r87_22, r87_25, r87_28, r87_31, r87_33, r87_36, r87_37, r87_39, r87_42, r87_43, r87_44, r87_45, r87_48, r87_51, r87_52, r87_53, r87_54, r87_55, r87_58, r87_61, c129, c130, c133_1, hA, hB, kdC, kdM, rpC, rpM, q_rs, q_rn, Option.toList_some, Option.toList_none, List.cons_append, List.nil_append, true_and, and_true, eq_self, ↓reduceIte, not_true_eq_false, not_false_eq_true, Nat.reduceEqDiff, Nat.reduceLeDiff, Nat.reduceLT, Nat.reduceAdd, Nat.reduceMul, Nat.reduceSub, false_or, or_false, true_or, or_true, false_and, and_false, reduceCtorEq, q_n0, q_n1, q_em, q_em2, q_b0, q_b1, Classical.not_not, nI_add, pk_mul, nI_clamp, q_vp, nI_eq, nI_leI, nI_ltI, q_sub]
      · simp (disch := omega) only [e163, r163_0, r163_1, r163_4, r163_7, r163_8, r163_9, r163_11, r163_14, r163_17, r163_18, r163_19, r163_21, r163_24, r163_27, r163_28, r163_29, r163_32, r163_33, r163_34, r163_37, r163_39, r163_42, r163_43, r163_45, r163_48, r163_49, r163_50, r163_51, r163_52, r163_53, r163_54, r163_57, r163_58, r163_59, r163_62, r163_63, r163_64, r163_67, c151, c143, m144_1, hA, hB, kdC, kdM, rpC, rpM, q_rs, q_rn, Option.toList_some, Option.toList_none, List.cons_append, List.nil_append, true_and, and_true, eq_self, ↓reduceIte, not_true_eq_false, not_false_eq_true, Nat.reduceEqDiff, Nat.reduceLeDiff, Nat.reduceLT, Nat.reduceAdd, Nat.reduceMul, Nat.reduceSub, false_or, or_false, true_or, or_true, false_and, and_false, reduceCtorEq, q_n0, q_n1, q_em, q_em2, q_b0, q_b1, Classical.not_not, nI_add, pk_mul, nI_clamp, q_vp, nI_eq, nI_leI, nI_ltI, q_sub]
  · refine ⟨-1, rfc h (-1) 0, rfm (rfc h (-1) 0) (-1) 1, fun F => ?_, fun F => ?_, Inv_rf z (by omega)⟩
    · simp (disch := omega) only [e87, r87_0, r87_1, r87_4, r87_7, r87_8, r87_9, r87_12, r87_15, r87_16, r87_17, r87_20, r87_21, r87_22, r87_25, r87_28, r87_31, r87_33, r87_36, r87_37, r87_39, r87_42, r87_43, r87_44, r87_45, r87_48, r87_51, r87_52, r87_53, r87_54, r87_55, r87_58, r87_61, c129, c130, c133_1, hA, kdC, kdM, rpC, rpM, q_rs, q_rn, Option.toList_some, Option.toList_none, List.cons_append, List.nil_append, true_and, and_true, eq_self, ↓reduceIte, not_true_eq_false, not_false_eq_true, Nat.reduceEqDiff, Nat.reduceLeDiff, Nat.reduceLT, Nat.reduceAdd, Nat.reduceMul, Nat.reduceSub, false_or, or_false, true_or, or_true, false_and, and_false, reduceCtorEq, q_n0, q_n1, q_em, q_em2, q_b0, q_b1, Classical.not_not, nI_add, pk_mul, nI_clamp, q_vp, nI_eq, nI_leI, nI_ltI, q_sub]
    · simp (disch := omega) only [e163, r163_0, r163_1, r163_4, r163_7, r163_8, r163_9, r163_11, r163_14, r163_17, r163_18, r163_19, r163_21, r163_24, r163_27, r163_28, r163_29, r163_32, r163_33, r163_34, r163_37, r163_39, r163_42, r163_43, r163_45, r163_48, r163_49, r163_50, r163_51, r163_52, r163_53, r163_54, r163_57, r163_58, r163_59, r163_62, r163_63, r163_64, r163_67, c151, c143, m144_1, hA, kdC, kdM, rpC, rpM, q_rs, q_rn, Option.toList_some, Option.toList_none, List.cons_append, List.nil_append, true_and, and_true, eq_self, ↓reduceIte, not_true_eq_false, not_false_eq_true, Nat.reduceEqDiff, Nat.reduceLeDiff, Nat.reduceLT, Nat.reduceAdd, Nat.reduceMul, Nat.reduceSub, false_or, or_false, true_or, or_true, false_and, and_false, reduceCtorEq, q_n0, q_n1, q_em, q_em2, q_b0, q_b1, Classical.not_not, nI_add, pk_mul, nI_clamp, q_vp, nI_eq, nI_leI, nI_ltI, q_sub]
end FP
