/-! the model asks a talker -/
def meT (h : Hp) (a b c e g : Int32) : Hp := sI (sI (sI (sI (sI (sA h 112 (clF (gI h 112) 12)) 112 4 a) 112 5 b) 112 6 c) 112 7 e) 112 8 g
def meS (h : Hp) (a b c e g k w m : Int32) : Hp := sI (sI (sI (meT h a b c e g) 112 9 k) 112 10 w) 112 11 m
section MA
variable {h : Hp} {K : Nat → Int32}
theorem ml243 (d : Nat) (h : Hp) (F : Po) (f : Nat → Int32) (v1 v2 : Value) : ∀ k i, i + k = 12 → wp true d 243 2 [.ref 101, v1, v2, .int (nI i)] [] (sA h 112 (clF f i)) F = wp true d 243 21 [.ref 101, v1, v2, .int (nI 12)] [] (sA h 112 (clF f 12)) F
  | 0, i, e => by
    obtain rfl : i = 12 := e
    rw [r243_2]
    simp (disch := omega) only [r243_3, r243_5, kdC, kdM, rpC, rpM, q_rs, q_rn, Option.toList_some, Option.toList_none, List.cons_append, List.nil_append, true_and, and_true, eq_self, ↓reduceIte, not_true_eq_false, not_false_eq_true, Nat.reduceEqDiff, Nat.reduceLeDiff, Nat.reduceLT, Nat.reduceAdd, Nat.reduceMul, Nat.reduceSub, false_or, or_false, true_or, or_true, false_and, and_false, reduceCtorEq, q_n0, q_n1, q_em, q_em2, q_b0, q_b1, Classical.not_not, nI_add, pk_mul, nI_clamp, q_vp, nI_eq, nI_leI, nI_ltI, q_sub, Nat.le_refl]
  | k + 1, i, e => by
    refine Eq.trans ?_ (ml243 d h F f v1 v2 k (i + 1) (by omega))
    have hu : upd (clF f i) i (nI 0) = clF f (i + 1) := by
      funext j
      unfold upd clF
      repeat' split
      all_goals first | rfl | omega
    rw [r243_2]
    simp (disch := omega) only [r243_3, r243_5, r243_8, r243_9, r243_12, r243_13, r243_14, r243_15, r243_18, kdC, kdM, rpC, rpM, q_rs, q_rn, Option.toList_some, Option.toList_none, List.cons_append, List.nil_append, true_and, and_true, eq_self, ↓reduceIte, not_true_eq_false, not_false_eq_true, Nat.reduceEqDiff, Nat.reduceLeDiff, Nat.reduceLT, Nat.reduceAdd, Nat.reduceMul, Nat.reduceSub, false_or, or_false, true_or, or_true, false_and, and_false, reduceCtorEq, q_n0, q_n1, q_em, q_em2, q_b0, q_b1, Classical.not_not, nI_add, pk_mul, nI_clamp, q_vp, nI_eq, nI_leI, nI_ltI, q_sub, show ¬ 12 ≤ i by omega, show i < 12 by omega, q_sIs, hu]
theorem m243i (d : Nat) (F : Po) (v1 v2 : Int32) : cwp true d 243 [.ref 101, .int v1, .int v2] h F = wp true d 243 21 [.ref 101, .int v1, .int v2, .int (nI 12)] [] (sA h 112 (clF (gI h 112) 12)) F := by
  have hl := ml243 d h F (gI h 112) (.int v1) (.int v2) 12 0 (by omega)
  have h0 : sA h 112 (clF (gI h 112) 0) = h := by
    rw [show clF (gI h 112) 0 = gI h 112 from funext fun i => if_neg (by omega), q_sAs]
  rw [h0] at hl
  simp only [r243_0, r243_1, e243]
  exact hl
theorem m243n (hK : gI h 103 = K) {t : Nat} (ht : t < 12) (d : Nat) (F : Po) : cwp true (d + 1) 243 [.ref 101, .int (nI t), .int (-1)] h F = F none (meT h (K (244 + 5 * t)) (K (244 + 5 * t + 1)) (K (244 + 5 * t + 2)) (gI h 119 t) (gI h 120 t)) := by
  rw [m243i]
  simp (disch := omega) only [r243_21, r243_22, r243_25, r243_26, r243_27, r243_28, r243_29, r243_32, r243_33, r243_34, r243_37, r243_38, r243_39, r243_40, r243_41, r243_44, r243_45, r243_46, r243_49, r243_51, r243_52, r243_53, r243_54, r243_57, r243_58, r243_59, r243_62, r243_64, r243_65, r243_68, r243_69, r243_70, r243_71, r243_72, r243_75, r243_77, r243_78, r243_81, r243_82, r243_83, r243_84, r243_85, r243_86, r243_89, e234, r234_0, r234_1, r234_4, r234_7, r234_8, r234_9, r234_10, r234_11, r234_12, r234_13, r234_14, kdC, kdM, rpC, rpM, q_rs, q_rn, Option.toList_some, Option.toList_none, List.cons_append, List.nil_append, true_and, and_true, eq_self, ↓reduceIte, not_true_eq_false, not_false_eq_true, Nat.reduceEqDiff, Nat.reduceLeDiff, Nat.reduceLT, Nat.reduceAdd, Nat.reduceMul, Nat.reduceSub, false_or, or_false, true_or, or_true, false_and, and_false, reduceCtorEq, q_n0, q_n1, q_em, q_em2, q_b0, q_b1, Classical.not_not, nI_add, pk_mul, nI_clamp, q_vp, nI_eq, nI_leI, nI_ltI, q_sub, q_gs, q_gn, q_gm, q_gIJ, q_gIP, q_gJI, q_gJA, q_gJP, q_gPI, q_gPA, q_gPJ, q_ga, q_gan, q_js, q_jn, q_jm, q_ps, q_pn, q_pm, hK, meT, ht, Nat.add_zero, show 244 + 5 * t < 8391 by omega, show 244 + 5 * t + 1 < 8391 by omega, show 244 + 5 * t + 2 < 8391 by omega]
theorem m243 (hK : gI h 103 = K) {t s : Nat} (ht : t < 12) (hs : s < 12) (d : Nat) (F : Po) : cwp true (d + 1) 243 [.ref 101, .int (nI t), .int (nI s)] h F = F none (meS h (K (244 + 5 * t)) (K (244 + 5 * t + 1)) (K (244 + 5 * t + 2)) (gI h 119 t) (gI h 120 t) (K (304 + 6 * s + 2)) (K (304 + 6 * s + 3)) (K (304 + 6 * s + 1))) := by
  rw [m243i]
  simp (disch := omega) only [r243_21, r243_22, r243_25, r243_26, r243_27, r243_28, r243_29, r243_32, r243_33, r243_34, r243_37, r243_38, r243_39, r243_40, r243_41, r243_44, r243_45, r243_46, r243_49, r243_51, r243_52, r243_53, r243_54, r243_57, r243_58, r243_59, r243_62, r243_64, r243_65, r243_68, r243_69, r243_70, r243_71, r243_72, r243_75, r243_77, r243_78, r243_81, r243_82, r243_83, r243_84, r243_85, r243_86, r243_89, r243_90, r243_91, r243_94, r243_96, r243_97, r243_98, r243_99, r243_102, r243_103, r243_104, r243_107, r243_109, r243_110, r243_111, r243_112, r243_115, r243_116, r243_117, r243_120, r243_122, r243_123, r243_124, r243_125, r243_128, r243_129, e234, r234_0, r234_1, r234_4, r234_7, r234_8, r234_9, r234_10, r234_11, r234_12, r234_13, r234_14, e235, r235_0, r235_1, r235_4, r235_7, r235_9, r235_10, r235_11, r235_12, r235_13, r235_14, r235_15, kdC, kdM, rpC, rpM, q_rs, q_rn, Option.toList_some, Option.toList_none, List.cons_append, List.nil_append, true_and, and_true, eq_self, ↓reduceIte, not_true_eq_false, not_false_eq_true, Nat.reduceEqDiff, Nat.reduceLeDiff, Nat.reduceLT, Nat.reduceAdd, Nat.reduceMul, Nat.reduceSub, false_or, or_false, true_or, or_true, false_and, and_false, reduceCtorEq, q_n0, q_n1, q_em, q_em2, q_b0, q_b1, Classical.not_not, nI_add, pk_mul, nI_clamp, q_vp, nI_eq, nI_leI, nI_ltI, q_sub, q_gs, q_gn, q_gm, q_gIJ, q_gIP, q_gJI, q_gJA, q_gJP, q_gPI, q_gPA, q_gPJ, q_ga, q_gan, q_js, q_jn, q_jm, q_ps, q_pn, q_pm, hK, meT, meS, ht, q_nm, Nat.add_zero, show 244 + 5 * t < 8391 by omega, show 244 + 5 * t + 1 < 8391 by omega, show 244 + 5 * t + 2 < 8391 by omega, show 304 + 6 * s + 1 < 8391 by omega, show 304 + 6 * s + 2 < 8391 by omega, show 304 + 6 * s + 3 < 8391 by omega]
theorem meT_a (a b c e g : Int32) : Am h (meT h a b c e g) := by
  have x : Am h (sA h 112 (clF (gI h 112) 12)) := ⟨(FrS.refl h).sA _ (fun _ => rfl), fun _ _ => rfl⟩
  exact ((((x.sI _ rfl).sI _ rfl).sI _ rfl).sI _ rfl).sI _ rfl
theorem meS_a (a b c e g k w m : Int32) : Am h (meS h a b c e g k w m) := (((meT_a (h := h) a b c e g).sI _ rfl).sI _ rfl).sI _ rfl
theorem meT_e (t : Nat) (dp : Int32 × Int32) : ∀ i, i < 12 → gI (meT h (K (244 + 5 * t)) (K (244 + 5 * t + 1)) (K (244 + 5 * t + 2)) dp.1 dp.2) 112 i = envT K t dp (nI 0) (nI 0) (nI 0) i := by
  intro i hi
  unfold meT envT
  simp only [q_gi, true_and, q_ga, clF, hi, ↓reduceIte]
  rcases (show i = 0 ∨ i = 1 ∨ i = 2 ∨ i = 3 ∨ i = 4 ∨ i = 5 ∨ i = 6 ∨ i = 7 ∨ i = 8 ∨ i = 9 ∨ i = 10 ∨ i = 11 by omega) with rfl | rfl | rfl | rfl | rfl | rfl | rfl | rfl | rfl | rfl | rfl | rfl <;> simp
theorem meS_e (t : Nat) (dp : Int32 × Int32) (k w m : Int32) : ∀ i, i < 12 → gI (meS h (K (244 + 5 * t)) (K (244 + 5 * t + 1)) (K (244 + 5 * t + 2)) dp.1 dp.2 k w m) 112 i = envT K t dp k w m i := by
  intro i hi
  unfold meS meT envT
  simp only [q_gi, true_and, q_ga, clF, hi, ↓reduceIte]
  rcases (show i = 0 ∨ i = 1 ∨ i = 2 ∨ i = 3 ∨ i = 4 ∨ i = 5 ∨ i = 6 ∨ i = 7 ∨ i = 8 ∨ i = 9 ∨ i = 10 ∨ i = 11 by omega) with rfl | rfl | rfl | rfl | rfl | rfl | rfl | rfl | rfl | rfl | rfl | rfl <;> simp
end MA
/-- doubts and proofs are in their bounds -/
def dpO (dp : Int32 × Int32) : Prop := rg dp.1 0 100 ∧ rg dp.2 0 1
theorem near_rg (y : Int32) : rg (q_near y (nI 0) (nI 100)) 0 100 := by
  have h2 : (nI 100).toInt = 100 := by decide
  unfold rg q_near
  simp only [Int32.lt_iff_toInt_lt, apply_ite Int32.toInt, q_z0, h2]
  repeat' split
  all_goals omega
theorem swD_o {K : Nat → Int32} {T : Tk} {s t : Nat} {dp : Int32 × Int32} (h : dpO dp) : dpO (swD K T s t dp) := by
  unfold swD
  by_cases c5 : K (304 + 6 * s + 2) = nI 5
  · rw [pif_t c5]
    by_cases cr : K (244 + 5 * t) < K (244 + 5 * byS K s)
    · rw [pif_t cr]; exact ⟨h.1, show rg (nI 1) 0 1 from ⟨by decide, by decide⟩⟩
    · rw [pif_f cr]; exact h
  · rw [pif_f c5]; exact ⟨near_rg _, h.2⟩
theorem shw_o {K : Nat → Int32} {T : Tk} {s t : Nat} {dp : Int32 × Int32} (h : dpO dp) : dpO (shw K T s t dp) := by
  rw [shw_eq]
  by_cases c : isSho K s t
  · rw [pif_t c]; exact swD_o h
  · rw [pif_f c]; exact h
theorem envT_b {K : Nat → Int32} (w : WF K) {t s : Nat} (ht : t < nt K) (hs : s < ns K) {dp : Int32 × Int32} (hd : dpO dp) : ∀ i, i < 12 → bN (envT K t dp (K (304 + 6 * s + 2)) (K (304 + 6 * s + 3)) (K (304 + 6 * s + 1)) i) := by
  intro i _
  obtain ⟨t1, t2, t3, _, _⟩ := w.2.2.2.2.1 t ht
  obtain ⟨_, s1, s2, s3, _, _⟩ := w.2.2.2.2.2 s hs
  unfold envT bN
  repeat' split
  · exact rg_w t1 (by omega) (by omega)
  · exact rg_w t2 (by omega) (by omega)
  · exact rg_w t3 (by omega) (by omega)
  · exact rg_w hd.1 (by omega) (by omega)
  · exact rg_w hd.2 (by omega) (by omega)
  · exact rg_w s2 (by omega) (by omega)
  · exact rg_w s3 (by omega) (by omega)
  · exact rg_w s1 (by omega) (by omega)
  · exact ⟨by decide, by decide⟩
theorem i64_add {x y : Int32} (hx : rg x 0 100) (hy : rg y (-1000000000) 1000000000) : x.toInt64 + y.toInt64 = (x + y).toInt64 := by
  apply Int64.toInt_inj.mp
  rw [lg_i2l_add, Int32.toInt_toInt64, Int32.toInt_add]
  unfold rg at *
  exact (Int.bmod_eq_of_le (by omega) (by omega)).symm
