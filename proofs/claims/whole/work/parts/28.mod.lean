/-! the model's small methods -/
section MO
variable (d : Nat) (h : Hp) (F : Po) {K : Nat → Int32}
theorem c143 (x y z : Int32) : cwp true d 143 [.int x, .int y, .int z] h F = F (some (.int (bz (y ≤ x ∧ x ≤ z)))) h := by
  simp only [e143, r143_0, r143_1, r143_2, r143_5, r143_6, r143_7, r143_10, r143_11, r143_14, r143_15, kdC, kdM, rpC, rpM, q_rs, q_rn, Option.toList_some, Option.toList_none, List.cons_append, List.nil_append, true_and, and_true, eq_self, ↓reduceIte, not_true_eq_false, not_false_eq_true, Nat.reduceEqDiff, Nat.reduceLeDiff, Nat.reduceLT, Nat.reduceAdd, Nat.reduceMul, Nat.reduceSub, false_or, or_false, true_or, or_true, false_and, and_false, reduceCtorEq, q_n0, q_n1, q_em, q_em2, q_b0, q_b1, Classical.not_not, q_bif, q_bif2, q_bi1, q_bi2, q_bi3, q_bi4, q_ifF, q_em3, q_em4, Int32.not_lt, Int32.not_le]
theorem c144_1 : cwp true d 144 [.ref 101, .int (-1)] h F = F (some (.int (-1))) (sI (sI h 101 0 (-1)) 102 1 (gI h 102 1 + nI 1)) := by
  simp (disch := omega) only [e144, r144_0, r144_1, r144_2, r144_5, r144_6, r144_9, r144_10, r144_11, r144_12, r144_13, r144_14, r144_15, r144_16, r144_17, kdC, kdM, rpC, rpM, q_rs, q_rn, Option.toList_some, Option.toList_none, List.cons_append, List.nil_append, true_and, and_true, eq_self, ↓reduceIte, not_true_eq_false, not_false_eq_true, Nat.reduceEqDiff, Nat.reduceLeDiff, Nat.reduceLT, Nat.reduceAdd, Nat.reduceMul, Nat.reduceSub, false_or, or_false, true_or, or_true, false_and, and_false, reduceCtorEq, q_n0, q_n1, q_em, q_em2, q_b0, q_b1, Classical.not_not, nI_add, pk_mul, nI_clamp, q_vp, nI_eq, nI_leI, nI_ltI, q_sub, q_gs, q_gn, q_gm, q_gIJ, q_gIP, q_gJI, q_gJA, q_gJP, q_gPI, q_gPA, q_gPJ, q_ga, q_gan, q_js, q_jn, q_jm, q_ps, q_pn, q_pm, show -(-1 : Int32) = nI 1 by decide]
theorem c144_2 : cwp true d 144 [.ref 101, .int (-2)] h F = F (some (.int (-2))) (sI (sI h 101 0 (-2)) 102 2 (gI h 102 2 + nI 1)) := by
  simp (disch := omega) only [e144, r144_0, r144_1, r144_2, r144_5, r144_6, r144_9, r144_10, r144_11, r144_12, r144_13, r144_14, r144_15, r144_16, r144_17, kdC, kdM, rpC, rpM, q_rs, q_rn, Option.toList_some, Option.toList_none, List.cons_append, List.nil_append, true_and, and_true, eq_self, ↓reduceIte, not_true_eq_false, not_false_eq_true, Nat.reduceEqDiff, Nat.reduceLeDiff, Nat.reduceLT, Nat.reduceAdd, Nat.reduceMul, Nat.reduceSub, false_or, or_false, true_or, or_true, false_and, and_false, reduceCtorEq, q_n0, q_n1, q_em, q_em2, q_b0, q_b1, Classical.not_not, nI_add, pk_mul, nI_clamp, q_vp, nI_eq, nI_leI, nI_ltI, q_sub, q_gs, q_gn, q_gm, q_gIJ, q_gIP, q_gJI, q_gJA, q_gJP, q_gPI, q_gPA, q_gPJ, q_ga, q_gan, q_js, q_jn, q_jm, q_ps, q_pn, q_pm, show -(-2 : Int32) = nI 2 by decide]
theorem c144_5 : cwp true d 144 [.ref 101, .int (-5)] h F = F (some (.int (-5))) (sI (sI h 101 0 (-5)) 102 5 (gI h 102 5 + nI 1)) := by
  simp (disch := omega) only [e144, r144_0, r144_1, r144_2, r144_5, r144_6, r144_9, r144_10, r144_11, r144_12, r144_13, r144_14, r144_15, r144_16, r144_17, kdC, kdM, rpC, rpM, q_rs, q_rn, Option.toList_some, Option.toList_none, List.cons_append, List.nil_append, true_and, and_true, eq_self, ↓reduceIte, not_true_eq_false, not_false_eq_true, Nat.reduceEqDiff, Nat.reduceLeDiff, Nat.reduceLT, Nat.reduceAdd, Nat.reduceMul, Nat.reduceSub, false_or, or_false, true_or, or_true, false_and, and_false, reduceCtorEq, q_n0, q_n1, q_em, q_em2, q_b0, q_b1, Classical.not_not, nI_add, pk_mul, nI_clamp, q_vp, nI_eq, nI_leI, nI_ltI, q_sub, q_gs, q_gn, q_gm, q_gIJ, q_gIP, q_gJI, q_gJA, q_gJP, q_gPI, q_gPA, q_gPJ, q_ga, q_gan, q_js, q_jn, q_jm, q_ps, q_pn, q_pm, show -(-5 : Int32) = nI 5 by decide]
theorem c144_6 : cwp true d 144 [.ref 101, .int (-6)] h F = F (some (.int (-6))) (sI (sI h 101 0 (-6)) 102 6 (gI h 102 6 + nI 1)) := by
  simp (disch := omega) only [e144, r144_0, r144_1, r144_2, r144_5, r144_6, r144_9, r144_10, r144_11, r144_12, r144_13, r144_14, r144_15, r144_16, r144_17, kdC, kdM, rpC, rpM, q_rs, q_rn, Option.toList_some, Option.toList_none, List.cons_append, List.nil_append, true_and, and_true, eq_self, ↓reduceIte, not_true_eq_false, not_false_eq_true, Nat.reduceEqDiff, Nat.reduceLeDiff, Nat.reduceLT, Nat.reduceAdd, Nat.reduceMul, Nat.reduceSub, false_or, or_false, true_or, or_true, false_and, and_false, reduceCtorEq, q_n0, q_n1, q_em, q_em2, q_b0, q_b1, Classical.not_not, nI_add, pk_mul, nI_clamp, q_vp, nI_eq, nI_leI, nI_ltI, q_sub, q_gs, q_gn, q_gm, q_gIJ, q_gIP, q_gJI, q_gJA, q_gJP, q_gPI, q_gPA, q_gPJ, q_ga, q_gan, q_js, q_jn, q_jm, q_ps, q_pn, q_pm, show -(-6 : Int32) = nI 6 by decide]
theorem c145 (x : Int32) : cwp true d 145 [.ref 101, .int x] h F = F (some (.int x)) (sI h 101 0 (nI 0)) := by
  simp (disch := omega) only [e145, r145_0, r145_1, r145_2, r145_5, r145_6, kdC, kdM, rpC, rpM, q_rs, q_rn, Option.toList_some, Option.toList_none, List.cons_append, List.nil_append, true_and, and_true, eq_self, ↓reduceIte, not_true_eq_false, not_false_eq_true, Nat.reduceEqDiff, Nat.reduceLeDiff, Nat.reduceLT, Nat.reduceAdd, Nat.reduceMul, Nat.reduceSub, false_or, or_false, true_or, or_true, false_and, and_false, reduceCtorEq, q_n0, q_n1, q_em, q_em2, q_b0, q_b1, Classical.not_not]
theorem q_flag (x : Int32) : (nI 0 ≤ x ∧ x ≤ nI 1) = (x = nI 0 ∨ x = nI 1) := by
  apply propext
  simp only [Int32.le_iff_toInt_le, ← Int32.toInt_inj, show (nI 0).toInt = 0 by decide, show (nI 1).toInt = 1 by decide]
  omega
theorem c149 (hK : gI h 103 = K) {j : Nat} (hj : j < 4) : cwp true d 149 [.ref 101, .int (nI j)] h F = F (some (.int (K (216 + j)))) h := by
  simp (disch := omega) only [e149, r149_0, r149_1, r149_4, r149_7, r149_8, r149_9, r149_10, kdC, kdM, rpC, rpM, q_rs, q_rn, Option.toList_some, Option.toList_none, List.cons_append, List.nil_append, true_and, and_true, eq_self, ↓reduceIte, not_true_eq_false, not_false_eq_true, Nat.reduceEqDiff, Nat.reduceLeDiff, Nat.reduceLT, Nat.reduceAdd, Nat.reduceMul, Nat.reduceSub, false_or, or_false, true_or, or_true, false_and, and_false, reduceCtorEq, q_n0, q_n1, q_em, q_em2, q_b0, q_b1, Classical.not_not, nI_add, pk_mul, nI_clamp, q_vp, nI_eq, nI_leI, nI_ltI, q_sub, hK, show 216 + j < 8391 by omega]
theorem c150 (hK : gI h 103 = K) (w : WF K) (x : Int32) : cwp true (d + 1) 150 [.ref 101, .int x] h F = F (some (.int (bz (nI 0 ≤ x ∧ x < nI (nx K))))) h := by
  have h1 := w.hnx
  simp (disch := omega) only [e150, r150_0, r150_1, r150_2, r150_3, r150_6, r150_9, r150_10, r150_11, r150_12, r150_15, c143, kdC, kdM, rpC, rpM, q_rs, q_rn, Option.toList_some, Option.toList_none, List.cons_append, List.nil_append, true_and, and_true, eq_self, ↓reduceIte, not_true_eq_false, not_false_eq_true, Nat.reduceEqDiff, Nat.reduceLeDiff, Nat.reduceLT, Nat.reduceAdd, Nat.reduceMul, Nat.reduceSub, false_or, or_false, true_or, or_true, false_and, and_false, reduceCtorEq, q_n0, q_n1, q_em, q_em2, q_b0, q_b1, Classical.not_not, nI_add, pk_mul, nI_clamp, q_vp, nI_eq, nI_leI, nI_ltI, q_sub, q_bif, q_bif2, q_bi1, q_bi2, q_bi3, q_bi4, q_ifF, q_em3, q_em4, Int32.not_lt, Int32.not_le, hK, h1, q_lep]
theorem c151 (x : Int32) : cwp true (d + 1) 151 [.int x] h F = F (some (.int (bz (-40 ≤ x ∧ x ≤ nI 120)))) h := by
  simp only [e151, r151_0, r151_1, r151_3, r151_5, r151_8, c143, kdC, kdM, rpC, rpM, q_rs, q_rn, Option.toList_some, Option.toList_none, List.cons_append, List.nil_append, true_and, and_true, eq_self, ↓reduceIte, not_true_eq_false, not_false_eq_true, Nat.reduceEqDiff, Nat.reduceLeDiff, Nat.reduceLT, Nat.reduceAdd, Nat.reduceMul, Nat.reduceSub, false_or, or_false, true_or, or_true, false_and, and_false, reduceCtorEq, q_n0, q_n1, q_em, q_em2, q_b0, q_b1, Classical.not_not, q_bif, q_bif2, q_bi1, q_bi2, q_bi3, q_bi4, q_ifF, q_em3, q_em4, Int32.not_lt, Int32.not_le]
theorem c152 (x : Int32) : cwp true (d + 1) 152 [.int x] h F = F (some (.int (bz (x = nI 0 ∨ x = nI 1)))) h := by
  simp only [e152, r152_0, r152_1, r152_2, r152_3, r152_6, c143, kdC, kdM, rpC, rpM, q_rs, q_rn, Option.toList_some, Option.toList_none, List.cons_append, List.nil_append, true_and, and_true, eq_self, ↓reduceIte, not_true_eq_false, not_false_eq_true, Nat.reduceEqDiff, Nat.reduceLeDiff, Nat.reduceLT, Nat.reduceAdd, Nat.reduceMul, Nat.reduceSub, false_or, or_false, true_or, or_true, false_and, and_false, reduceCtorEq, q_n0, q_n1, q_em, q_em2, q_b0, q_b1, Classical.not_not, q_bif, q_bif2, q_bi1, q_bi2, q_bi3, q_bi4, q_ifF, q_em3, q_em4, Int32.not_lt, Int32.not_le, q_flag]
theorem c153 (hK : gI h 103 = K) (w : WF K) : cwp true d 153 [.ref 101] h F = F (some (.int (nI (nf K)))) h := by
  have h1 := w.hnf
  simp (disch := omega) only [e153, r153_0, r153_1, r153_4, r153_7, r153_8, kdC, kdM, rpC, rpM, q_rs, q_rn, Option.toList_some, Option.toList_none, List.cons_append, List.nil_append, true_and, and_true, eq_self, ↓reduceIte, not_true_eq_false, not_false_eq_true, Nat.reduceEqDiff, Nat.reduceLeDiff, Nat.reduceLT, Nat.reduceAdd, Nat.reduceMul, Nat.reduceSub, false_or, or_false, true_or, or_true, false_and, and_false, reduceCtorEq, q_n0, q_n1, q_em, q_em2, q_b0, q_b1, Classical.not_not, nI_add, pk_mul, nI_clamp, q_vp, nI_eq, nI_leI, nI_ltI, q_sub, hK, h1]
theorem c154 (hK : gI h 103 = K) (w : WF K) (x : Int32) : cwp true (d + 1) 154 [.ref 101, .int x] h F = F (some (.int (bz (nI 0 ≤ x ∧ x < nI (nf K))))) h := by
  have h1 := w.hnf
  simp (disch := omega) only [e154, r154_0, r154_1, r154_2, r154_3, r154_6, r154_7, r154_8, r154_11, c143, c153 _ h _ hK w, kdC, kdM, rpC, rpM, q_rs, q_rn, Option.toList_some, Option.toList_none, List.cons_append, List.nil_append, true_and, and_true, eq_self, ↓reduceIte, not_true_eq_false, not_false_eq_true, Nat.reduceEqDiff, Nat.reduceLeDiff, Nat.reduceLT, Nat.reduceAdd, Nat.reduceMul, Nat.reduceSub, false_or, or_false, true_or, or_true, false_and, and_false, reduceCtorEq, q_n0, q_n1, q_em, q_em2, q_b0, q_b1, Classical.not_not, q_bif, q_bif2, q_bi1, q_bi2, q_bi3, q_bi4, q_ifF, q_em3, q_em4, Int32.not_lt, Int32.not_le, q_lep]
theorem c155 (hK : gI h 103 = K) {f c : Nat} (hf : f < 24) (hc : c < 9) : cwp true d 155 [.ref 101, .int (nI f), .int (nI c)] h F = F (some (.int (K (9 * f + c)))) h := by
  simp (disch := omega) only [e155, r155_0, r155_1, r155_4, r155_5, r155_7, r155_8, r155_9, r155_10, r155_11, r155_12, r155_13, kdC, kdM, rpC, rpM, q_rs, q_rn, Option.toList_some, Option.toList_none, List.cons_append, List.nil_append, true_and, and_true, eq_self, ↓reduceIte, not_true_eq_false, not_false_eq_true, Nat.reduceEqDiff, Nat.reduceLeDiff, Nat.reduceLT, Nat.reduceAdd, Nat.reduceMul, Nat.reduceSub, false_or, or_false, true_or, or_true, false_and, and_false, reduceCtorEq, q_n0, q_n1, q_em, q_em2, q_b0, q_b1, Classical.not_not, nI_add, pk_mul, nI_clamp, q_vp, nI_eq, nI_leI, nI_ltI, q_sub, hK, Nat.zero_add, show 9 * f + c < 8391 by omega]
theorem c156 (hK : gI h 103 = K) {f r : Nat} (hf : f < 24) (hr : r < 6) : cwp true (d + 1) 156 [.ref 101, .int (nI f), .int (nI r)] h F = F (some (.int (K (9 * f + (3 + r))))) h := by
  simp (disch := omega) only [e156, r156_0, r156_1, r156_2, r156_3, r156_4, r156_5, r156_8, c155 _ h _ hK hf (show 3 + r < 9 by omega), kdC, kdM, rpC, rpM, q_rs, q_rn, Option.toList_some, Option.toList_none, List.cons_append, List.nil_append, true_and, and_true, eq_self, ↓reduceIte, not_true_eq_false, not_false_eq_true, Nat.reduceEqDiff, Nat.reduceLeDiff, Nat.reduceLT, Nat.reduceAdd, Nat.reduceMul, Nat.reduceSub, false_or, or_false, true_or, or_true, false_and, and_false, reduceCtorEq, q_n0, q_n1, q_em, q_em2, q_b0, q_b1, Classical.not_not, nI_add, pk_mul, nI_clamp, q_vp, nI_eq, nI_leI, nI_ltI, q_sub]
/-- the worst of a flight's rings, 0 where all are lost -/
def mws (K : Nat → Int32) (f : Nat) : Int32 := q_lp (fun r w => if w < K (9 * f + (3 + r)) then K (9 * f + (3 + r)) else w) (nr K f) 0 (nI 0)
theorem ml157 (hK : gI h 103 = K) (w : WF K) {f : Nat} (hf : f < nf K) : ∀ k r x, r + k = nr K f → wp true (d + 2) 157 4 [.ref 101, .int (nI f), .int x, .int (nI r)] [] h F = F (some (.int (q_lp (fun r w => if w < K (9 * f + (3 + r)) then K (9 * f + (3 + r)) else w) k r x))) h
  | 0, r, x, e => by
    have h1 := w.hnf; have h2 := w.hnr hf
    rw [r157_4]
    simp (disch := omega) only [e157, r157_0, r157_1, r157_2, r157_3, r157_5, r157_6, r157_7, r157_8, r157_11, r157_14, r157_15, r157_16, r157_17, r157_20, r157_21, r157_24, r157_25, r157_26, r157_27, r157_30, r157_31, r157_34, r157_37, r157_38, c155 _ h _ hK (show f < 24 by omega) (show 2 < 9 by omega), kdC, kdM, rpC, rpM, q_rs, q_rn, Option.toList_some, Option.toList_none, List.cons_append, List.nil_append, true_and, and_true, eq_self, ↓reduceIte, not_true_eq_false, not_false_eq_true, Nat.reduceEqDiff, Nat.reduceLeDiff, Nat.reduceLT, Nat.reduceAdd, Nat.reduceMul, Nat.reduceSub, false_or, or_false, true_or, or_true, false_and, and_false, reduceCtorEq, q_n0, q_n1, q_em, q_em2, q_b0, q_b1, Classical.not_not, nI_add, pk_mul, nI_clamp, q_vp, nI_eq, nI_leI, nI_ltI, q_sub, h2, show r = nr K f from e, Nat.le_refl]
    rfl
  | k + 1, r, x, e => by
    have h1 := w.hnf; have h2 := w.hnr hf
    rw [r157_4]
    simp (disch := omega) only [e157, r157_0, r157_1, r157_2, r157_3, r157_5, r157_6, r157_7, r157_8, r157_11, r157_14, r157_15, r157_16, r157_17, r157_20, r157_21, r157_24, r157_25, r157_26, r157_27, r157_30, r157_31, r157_34, r157_37, r157_38, c155 _ h _ hK (show f < 24 by omega) (show 2 < 9 by omega), c156 _ h _ hK (show f < 24 by omega) (show r < 6 by omega), kdC, kdM, rpC, rpM, q_rs, q_rn, Option.toList_some, Option.toList_none, List.cons_append, List.nil_append, true_and, and_true, eq_self, ↓reduceIte, not_true_eq_false, not_false_eq_true, Nat.reduceEqDiff, Nat.reduceLeDiff, Nat.reduceLT, Nat.reduceAdd, Nat.reduceMul, Nat.reduceSub, false_or, or_false, true_or, or_true, false_and, and_false, reduceCtorEq, q_n0, q_n1, q_em, q_em2, q_b0, q_b1, Classical.not_not, nI_add, pk_mul, nI_clamp, q_vp, nI_eq, nI_leI, nI_ltI, q_sub, h2, show ¬ nr K f ≤ r by omega]
    by_cases e2 : x < K (9 * f + (3 + r))
    · simp only [show ¬ K (9 * f + (3 + r)) ≤ x from Int32.not_le.mpr e2, ↓reduceIte]
      refine (ml157 hK w hf k (r + 1) _ (by omega)).trans ?_
      show _ = F (some (.int (q_lp _ k (r + 1) (if x < K (9 * f + (3 + r)) then K (9 * f + (3 + r)) else x)))) h
      rw [if_pos e2]
    · simp only [show K (9 * f + (3 + r)) ≤ x from Int32.not_lt.mp e2, ↓reduceIte]
      refine (ml157 hK w hf k (r + 1) _ (by omega)).trans ?_
      show _ = F (some (.int (q_lp _ k (r + 1) (if x < K (9 * f + (3 + r)) then K (9 * f + (3 + r)) else x)))) h
      rw [if_neg e2]
theorem m157 (hK : gI h 103 = K) (w : WF K) {f : Nat} (hf : f < nf K) : cwp true (d + 2) 157 [.ref 101, .int (nI f)] h F = F (some (.int (mws K f))) h := by
  simp only [e157, r157_0, r157_1, r157_2, r157_3, r157_5, r157_6, r157_7, r157_8, r157_11, r157_14, r157_15, r157_16, r157_17, r157_20, r157_21, r157_24, r157_25, r157_26, r157_27, r157_30, r157_31, r157_34, r157_37, r157_38, kdC, kdM, rpC, rpM, q_rs, q_rn, Option.toList_some, Option.toList_none, List.cons_append, List.nil_append, true_and, and_true, eq_self, ↓reduceIte, not_true_eq_false, not_false_eq_true, Nat.reduceEqDiff, Nat.reduceLeDiff, Nat.reduceLT, Nat.reduceAdd, Nat.reduceMul, Nat.reduceSub, false_or, or_false, true_or, or_true, false_and, and_false, reduceCtorEq, q_n0, q_n1, q_em, q_em2, q_b0, q_b1, Classical.not_not]
  exact ml157 d h F hK w hf _ 0 _ (by omega)
theorem ml158 (hK : gI h 103 = K) (w : WF K) {f : Nat} (hf : f < nf K) : ∀ k r p, r + k = nr K f → wp true (d + 2) 158 4 [.ref 101, .int (nI f), .int (bz p), .int (nI r)] [] h F = F (some (.int (bz (q_lp (fun r p => p ∨ ¬ K (9 * f + (3 + r)) = -1) k r p)))) h
  | 0, r, p, e => by
    have h1 := w.hnf; have h2 := w.hnr hf
    rw [r158_4]
    simp (disch := omega) only [e158, r158_0, r158_1, r158_2, r158_3, r158_5, r158_6, r158_7, r158_8, r158_11, r158_14, r158_15, r158_18, r158_19, r158_20, r158_21, r158_24, r158_25, r158_28, r158_29, r158_32, r158_33, r158_34, r158_37, r158_40, r158_41, c155 _ h _ hK (show f < 24 by omega) (show 2 < 9 by omega), kdC, kdM, rpC, rpM, q_rs, q_rn, Option.toList_some, Option.toList_none, List.cons_append, List.nil_append, true_and, and_true, eq_self, ↓reduceIte, not_true_eq_false, not_false_eq_true, Nat.reduceEqDiff, Nat.reduceLeDiff, Nat.reduceLT, Nat.reduceAdd, Nat.reduceMul, Nat.reduceSub, false_or, or_false, true_or, or_true, false_and, and_false, reduceCtorEq, q_n0, q_n1, q_em, q_em2, q_b0, q_b1, Classical.not_not, nI_add, pk_mul, nI_clamp, q_vp, nI_eq, nI_leI, nI_ltI, q_sub, h2, show r = nr K f from e, Nat.le_refl]
    rfl
  | k + 1, r, p, e => by
    have h1 := w.hnf; have h2 := w.hnr hf
    rw [r158_4]
    simp (disch := omega) only [e158, r158_0, r158_1, r158_2, r158_3, r158_5, r158_6, r158_7, r158_8, r158_11, r158_14, r158_15, r158_18, r158_19, r158_20, r158_21, r158_24, r158_25, r158_28, r158_29, r158_32, r158_33, r158_34, r158_37, r158_40, r158_41, c155 _ h _ hK (show f < 24 by omega) (show 2 < 9 by omega), c156 _ h _ hK (show f < 24 by omega) (show r < 6 by omega), kdC, kdM, rpC, rpM, q_rs, q_rn, Option.toList_some, Option.toList_none, List.cons_append, List.nil_append, true_and, and_true, eq_self, ↓reduceIte, not_true_eq_false, not_false_eq_true, Nat.reduceEqDiff, Nat.reduceLeDiff, Nat.reduceLT, Nat.reduceAdd, Nat.reduceMul, Nat.reduceSub, false_or, or_false, true_or, or_true, false_and, and_false, reduceCtorEq, q_n0, q_n1, q_em, q_em2, q_b0, q_b1, Classical.not_not, nI_add, pk_mul, nI_clamp, q_vp, nI_eq, nI_leI, nI_ltI, q_sub, h2, show ¬ nr K f ≤ r by omega]
    refine Eq.trans ?_ (ml158 hK w hf k (r + 1) (p ∨ ¬ K (9 * f + (3 + r)) = -1) (by omega))
    by_cases e1 : p <;> by_cases e2 : K (9 * f + (3 + r)) = -1 <;> simp only [e1, e2, kdC, kdM, rpC, rpM, q_rs, q_rn, Option.toList_some, Option.toList_none, List.cons_append, List.nil_append, true_and, and_true, eq_self, ↓reduceIte, not_true_eq_false, not_false_eq_true, Nat.reduceEqDiff, Nat.reduceLeDiff, Nat.reduceLT, Nat.reduceAdd, Nat.reduceMul, Nat.reduceSub, false_or, or_false, true_or, or_true, false_and, and_false, reduceCtorEq, q_n0, q_n1, q_em, q_em2, q_b0, q_b1, Classical.not_not, q_bT, q_bF]
theorem q_rel {α β : Type} {f : Nat → α → α} {g : Nat → β → β} (R : Nat → α → β → Prop) (n : Nat) (hs : ∀ i a b, i < n → R i a b → R (i + 1) (f i a) (g i b)) {a : α} {b : β} (h0 : R 0 a b) : R n (q_lp f n 0 a) (q_lp g n 0 b) := by
  have key : ∀ k i a b, i + k = n → R i a b → R n (q_lp f k i a) (q_lp g k i b) := by
    intro k
    induction k with
    | zero => intro i a b e hr; obtain rfl : i = n := e; exact hr
    | succ k ih => intro i a b e hr; exact ih (i + 1) _ _ (by omega) (hs i a b (by omega) hr)
  exact key n 0 a b (by omega) h0
theorem q_m1 : ((-1 : Int32)).toInt = -1 := by decide
theorem q_z0 : (nI 0).toInt = 0 := by decide
/-- the worst is in its bounds; the model's worst and KNOWN by it -/
theorem wst_rg (w : WF K) {f : Nat} (hf : f < nf K) : rg (wst K f) (-1) 9 := by
  have h2 := w.hnr hf
  unfold wst
  apply q_inv (J := fun _ x => rg x (-1) 9)
  · intro r x hr hx
    have h3 := (w.2.1 f hf).2.2.2 r (by omega)
    by_cases e : x < K (9 * f + (3 + r))
    · simp only [e, ↓reduceIte]; exact h3
    · simp only [e, ↓reduceIte]; exact hx
  · exact ⟨by rw [q_m1]; omega, by rw [q_m1]; omega⟩
theorem mws_eq (w : WF K) {f : Nat} (hf : f < nf K) : mws K f = if wst K f < nI 0 then nI 0 else wst K f := by
  unfold mws wst
  apply q_rel (R := fun _ x y => x = if y < nI 0 then nI 0 else y)
  · intro r x y hr e
    subst e
    apply Int32.toInt_inj.mp
    simp only [Int32.lt_iff_toInt_lt, apply_ite Int32.toInt, q_z0]
    repeat' split
    all_goals omega
  · rfl
theorem kno_eq (w : WF K) {f : Nat} (hf : f < nf K) : q_lp (fun r p => p ∨ ¬ K (9 * f + (3 + r)) = -1) (nr K f) 0 False = (¬ wst K f = -1) := by
  have h2 := w.hnr hf
  have hh : rg (wst K f) (-1) 9 ∧ q_lp (fun r p => p ∨ ¬ K (9 * f + (3 + r)) = -1) (nr K f) 0 False = (¬ wst K f = -1) := by
    unfold wst
    apply q_rel (R := fun _ p y => rg y (-1) 9 ∧ p = (¬ y = -1))
    · intro r p y hr e
      obtain ⟨hy, rfl⟩ := e
      have h3 := (w.2.1 f hf).2.2.2 r (by omega)
      simp only [Int32.lt_iff_toInt_lt, ← Int32.toInt_inj, q_m1]
      unfold rg at *
      split
      · refine ⟨h3, propext ?_⟩
        omega
      · refine ⟨hy, propext ?_⟩
        omega
    · exact ⟨⟨by rw [q_m1]; omega, by rw [q_m1]; omega⟩, propext ⟨fun z => z.elim, fun z => absurd rfl z⟩⟩
  exact hh.2
theorem m158 (hK : gI h 103 = K) (w : WF K) {f : Nat} (hf : f < nf K) : cwp true (d + 2) 158 [.ref 101, .int (nI f)] h F = F (some (.int (bz (¬ wst K f = -1)))) h := by
  simp only [e158, r158_0, r158_1, r158_2, r158_3, r158_5, r158_6, r158_7, r158_8, r158_11, r158_14, r158_15, r158_18, r158_19, r158_20, r158_21, r158_24, r158_25, r158_28, r158_29, r158_32, r158_33, r158_34, r158_37, r158_40, r158_41, kdC, kdM, rpC, rpM, q_rs, q_rn, Option.toList_some, Option.toList_none, List.cons_append, List.nil_append, true_and, and_true, eq_self, ↓reduceIte, not_true_eq_false, not_false_eq_true, Nat.reduceEqDiff, Nat.reduceLeDiff, Nat.reduceLT, Nat.reduceAdd, Nat.reduceMul, Nat.reduceSub, false_or, or_false, true_or, or_true, false_and, and_false, reduceCtorEq, q_n0, q_n1, q_em, q_em2, q_b0, q_b1, Classical.not_not]
  rw [← kno_eq w hf]
  have := ml158 d h F hK w hf (nr K f) 0 False (by omega)
  rw [q_bF] at this
  exact this
theorem mws_pos (w : WF K) {f : Nat} (hf : f < nf K) (x : Nat) (hx : x < 2) : (nI x < mws K f) = (nI x < wst K f) := by
  rw [mws_eq w hf]
  apply propext
  simp only [Int32.lt_iff_toInt_lt, apply_ite Int32.toInt, q_z0, nI_toInt (show x < 2 ^ 31 by omega)]
  split
  all_goals omega
theorem m159 (hK : gI h 103 = K) (w : WF K) {f : Nat} (hf : f < nf K) : cwp true (d + 3) 159 [.ref 101, .int (nI f)] h F = F (some (.int (bz (nI 0 < wst K f)))) h := by
  simp (disch := omega) only [e159, r159_0, r159_1, r159_2, r159_5, r159_8, r159_9, r159_12, r159_13, m157 _ h _ hK w hf, kdC, kdM, rpC, rpM, q_rs, q_rn, Option.toList_some, Option.toList_none, List.cons_append, List.nil_append, true_and, and_true, eq_self, ↓reduceIte, not_true_eq_false, not_false_eq_true, Nat.reduceEqDiff, Nat.reduceLeDiff, Nat.reduceLT, Nat.reduceAdd, Nat.reduceMul, Nat.reduceSub, false_or, or_false, true_or, or_true, false_and, and_false, reduceCtorEq, q_n0, q_n1, q_em, q_em2, q_b0, q_b1, Classical.not_not, q_bif, q_bif2, q_bi1, q_bi2, q_bi3, q_bi4, q_ifF, q_em3, q_em4, Int32.not_lt, Int32.not_le, mws_pos w hf 0 (by omega)]
theorem m160 (hK : gI h 103 = K) (w : WF K) {f : Nat} (hf : f < nf K) {wh : Int32} (hw : wh = nI 0 ∨ wh = nI 1) : cwp true (d + 4) 160 [.ref 101, .int (nI f), .int wh] h F = F (some (.int (bz (isOf K wh f)))) h := by
  have hi : (¬ wst K f = -1 ∧ nI 0 < wst K f) = (nI 0 < wst K f) := by
    apply propext
    simp only [Int32.lt_iff_toInt_lt, ← Int32.toInt_inj, q_z0, q_m1]
    omega
  simp (disch := omega) only [e160, r160_0, r160_1, r160_2, r160_5, r160_8, r160_9, r160_12, r160_13, r160_14, r160_17, r160_20, r160_21, r160_24, r160_25, m158 _ h _ hK w hf, m159 _ h _ hK w hf, kdC, kdM, rpC, rpM, q_rs, q_rn, Option.toList_some, Option.toList_none, List.cons_append, List.nil_append, true_and, and_true, eq_self, ↓reduceIte, not_true_eq_false, not_false_eq_true, Nat.reduceEqDiff, Nat.reduceLeDiff, Nat.reduceLT, Nat.reduceAdd, Nat.reduceMul, Nat.reduceSub, false_or, or_false, true_or, or_true, false_and, and_false, reduceCtorEq, q_n0, q_n1, q_em, q_em2, q_b0, q_b1, Classical.not_not, q_bif, q_bif2, q_bi1, q_bi2, q_bi3, q_bi4, q_ifF, q_em3, q_em4, Int32.not_lt, Int32.not_le]
  rcases hw with rfl | rfl
  · simp only [isOf, kdC, kdM, rpC, rpM, q_rs, q_rn, Option.toList_some, Option.toList_none, List.cons_append, List.nil_append, true_and, and_true, eq_self, ↓reduceIte, not_true_eq_false, not_false_eq_true, Nat.reduceEqDiff, Nat.reduceLeDiff, Nat.reduceLT, Nat.reduceAdd, Nat.reduceMul, Nat.reduceSub, false_or, or_false, true_or, or_true, false_and, and_false, reduceCtorEq, q_n0, q_n1, q_em, q_em2, q_b0, q_b1, Classical.not_not, q_bif, q_bif2, q_bi1, q_bi2, q_bi3, q_bi4, q_ifF, q_em3, q_em4, Int32.not_lt, Int32.not_le]
  · simp only [isOf, kdC, kdM, rpC, rpM, q_rs, q_rn, Option.toList_some, Option.toList_none, List.cons_append, List.nil_append, true_and, and_true, eq_self, ↓reduceIte, not_true_eq_false, not_false_eq_true, Nat.reduceEqDiff, Nat.reduceLeDiff, Nat.reduceLT, Nat.reduceAdd, Nat.reduceMul, Nat.reduceSub, false_or, or_false, true_or, or_true, false_and, and_false, reduceCtorEq, q_n0, q_n1, q_em, q_em2, q_b0, q_b1, Classical.not_not, q_bif, q_bif2, q_bi1, q_bi2, q_bi3, q_bi4, q_ifF, q_em3, q_em4, Int32.not_lt, Int32.not_le, hi]
theorem m161 (hK : gI h 103 = K) (w : WF K) {f : Nat} (hf : f < nf K) {wh : Int32} (hw : wh = nI 0 ∨ wh = nI 1) : cwp true (d + 3) 161 [.ref 101, .int (nI f), .int wh] h F = F (some (.int (bz (wh < wst K f)))) h := by
  simp (disch := omega) only [e161, r161_0, r161_1, r161_2, r161_5, r161_6, r161_9, r161_10, r161_13, r161_14, m157 _ h _ hK w hf, kdC, kdM, rpC, rpM, q_rs, q_rn, Option.toList_some, Option.toList_none, List.cons_append, List.nil_append, true_and, and_true, eq_self, ↓reduceIte, not_true_eq_false, not_false_eq_true, Nat.reduceEqDiff, Nat.reduceLeDiff, Nat.reduceLT, Nat.reduceAdd, Nat.reduceMul, Nat.reduceSub, false_or, or_false, true_or, or_true, false_and, and_false, reduceCtorEq, q_n0, q_n1, q_em, q_em2, q_b0, q_b1, Classical.not_not, q_bif, q_bif2, q_bi1, q_bi2, q_bi3, q_bi4, q_ifF, q_em3, q_em4, Int32.not_lt, Int32.not_le]
  rcases hw with rfl | rfl
  · rw [mws_pos w hf 0 (by omega)]
  · rw [mws_pos w hf 1 (by omega)]
end MO
