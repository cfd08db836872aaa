/-! talker, sheet, send -/
section HL
variable (d : Nat) (h : Hp) (F : Po) {K : Nat → Int32}
theorem m232 (hK : gI h 103 = K) (w : WF K) : cwp true d 232 [.ref 101] h F = F (some (.int (nI (nt K)))) h := by
  have h1 := w.hnt
  simp (disch := omega) only [e232, r232_0, r232_1, r232_4, r232_7, r232_8, kdC, kdM, rpC, rpM, q_rs, q_rn, Option.toList_some, Option.toList_none, List.cons_append, List.nil_append, true_and, and_true, eq_self, ↓reduceIte, not_true_eq_false, not_false_eq_true, Nat.reduceEqDiff, Nat.reduceLeDiff, Nat.reduceLT, Nat.reduceAdd, Nat.reduceMul, Nat.reduceSub, false_or, or_false, true_or, or_true, false_and, and_false, reduceCtorEq, q_n0, q_n1, q_em, q_em2, q_b0, q_b1, Classical.not_not, nI_add, pk_mul, nI_clamp, q_vp, nI_eq, nI_leI, nI_ltI, q_sub, hK, h1]
theorem m233 (hK : gI h 103 = K) (w : WF K) : cwp true d 233 [.ref 101] h F = F (some (.int (nI (ns K)))) h := by
  have h1 := w.hns
  simp (disch := omega) only [e233, r233_0, r233_1, r233_4, r233_7, r233_8, kdC, kdM, rpC, rpM, q_rs, q_rn, Option.toList_some, Option.toList_none, List.cons_append, List.nil_append, true_and, and_true, eq_self, ↓reduceIte, not_true_eq_false, not_false_eq_true, Nat.reduceEqDiff, Nat.reduceLeDiff, Nat.reduceLT, Nat.reduceAdd, Nat.reduceMul, Nat.reduceSub, false_or, or_false, true_or, or_true, false_and, and_false, reduceCtorEq, q_n0, q_n1, q_em, q_em2, q_b0, q_b1, Classical.not_not, nI_add, pk_mul, nI_clamp, q_vp, nI_eq, nI_leI, nI_ltI, q_sub, hK, h1]
theorem m234 (hK : gI h 103 = K) {t c : Nat} (ht : t < 12) (hc : c < 5) : cwp true d 234 [.ref 101, .int (nI t), .int (nI c)] h F = F (some (.int (K (244 + 5 * t + c)))) h := by
  simp (disch := omega) only [e234, r234_0, r234_1, r234_4, r234_7, r234_8, r234_9, r234_10, r234_11, r234_12, r234_13, r234_14, kdC, kdM, rpC, rpM, q_rs, q_rn, Option.toList_some, Option.toList_none, List.cons_append, List.nil_append, true_and, and_true, eq_self, ↓reduceIte, not_true_eq_false, not_false_eq_true, Nat.reduceEqDiff, Nat.reduceLeDiff, Nat.reduceLT, Nat.reduceAdd, Nat.reduceMul, Nat.reduceSub, false_or, or_false, true_or, or_true, false_and, and_false, reduceCtorEq, q_n0, q_n1, q_em, q_em2, q_b0, q_b1, Classical.not_not, nI_add, pk_mul, nI_clamp, q_vp, nI_eq, nI_leI, nI_ltI, q_sub, hK, show 244 + 5 * t + c < 8391 by omega]
theorem m235 (hK : gI h 103 = K) {s c : Nat} (hs : s < 12) (hc : c < 6) : cwp true d 235 [.ref 101, .int (nI s), .int (nI c)] h F = F (some (.int (K (304 + 6 * s + c)))) h := by
  simp (disch := omega) only [e235, r235_0, r235_1, r235_4, r235_7, r235_9, r235_10, r235_11, r235_12, r235_13, r235_14, r235_15, kdC, kdM, rpC, rpM, q_rs, q_rn, Option.toList_some, Option.toList_none, List.cons_append, List.nil_append, true_and, and_true, eq_self, ↓reduceIte, not_true_eq_false, not_false_eq_true, Nat.reduceEqDiff, Nat.reduceLeDiff, Nat.reduceLT, Nat.reduceAdd, Nat.reduceMul, Nat.reduceSub, false_or, or_false, true_or, or_true, false_and, and_false, reduceCtorEq, q_n0, q_n1, q_em, q_em2, q_b0, q_b1, Classical.not_not, nI_add, pk_mul, nI_clamp, q_vp, nI_eq, nI_leI, nI_ltI, q_sub, hK, show 304 + 6 * s + c < 8391 by omega]
theorem m236 (hK : gI h 103 = K) (w : WF K) (x : Int32) : cwp true (d + 1) 236 [.ref 101, .int x] h F = F (some (.int (bz (nI 0 ≤ x ∧ x < nI (nt K))))) h := by
  have h1 := w.hnt
  simp (disch := omega) only [e236, r236_0, r236_1, r236_2, r236_3, r236_6, r236_7, r236_8, r236_11, c143, m232 _ h _ hK w, kdC, kdM, rpC, rpM, q_rs, q_rn, Option.toList_some, Option.toList_none, List.cons_append, List.nil_append, true_and, and_true, eq_self, ↓reduceIte, not_true_eq_false, not_false_eq_true, Nat.reduceEqDiff, Nat.reduceLeDiff, Nat.reduceLT, Nat.reduceAdd, Nat.reduceMul, Nat.reduceSub, false_or, or_false, true_or, or_true, false_and, and_false, reduceCtorEq, q_n0, q_n1, q_em, q_em2, q_b0, q_b1, Classical.not_not, q_bif, q_bif2, q_bi1, q_bi2, q_bi3, q_bi4, q_ifF, q_em3, q_em4, Int32.not_lt, Int32.not_le, q_lep]
theorem m237 (hK : gI h 103 = K) (w : WF K) (x : Int32) : cwp true (d + 1) 237 [.ref 101, .int x] h F = F (some (.int (bz (nI 0 ≤ x ∧ x < nI (ns K))))) h := by
  have h1 := w.hns
  simp (disch := omega) only [e237, r237_0, r237_1, r237_2, r237_3, r237_6, r237_7, r237_8, r237_11, c143, m233 _ h _ hK w, kdC, kdM, rpC, rpM, q_rs, q_rn, Option.toList_some, Option.toList_none, List.cons_append, List.nil_append, true_and, and_true, eq_self, ↓reduceIte, not_true_eq_false, not_false_eq_true, Nat.reduceEqDiff, Nat.reduceLeDiff, Nat.reduceLT, Nat.reduceAdd, Nat.reduceMul, Nat.reduceSub, false_or, or_false, true_or, or_true, false_and, and_false, reduceCtorEq, q_n0, q_n1, q_em, q_em2, q_b0, q_b1, Classical.not_not, q_bif, q_bif2, q_bi1, q_bi2, q_bi3, q_bi4, q_ifF, q_em3, q_em4, Int32.not_lt, Int32.not_le, q_lep]
end HL
section HS
variable {n : Nat} {h h' : Hp} {K K' : Nat → Int32}
theorem talker_S (z : STS h 0 K) (x : Mu h h') (hn : nt K < 12) {a b c e g : Int32} (ha : rg a 0 9) (hb : rg b 0 2) (hc : rg c 0 1) (he : rg e 0 100) (hgg : rg g 0 1) (g5 : gI h' 11 5 = nI (nt K + 1)) (g13 : gI h' 11 13 = gI h 11 13)
    (y0 : gI h' 12 = upd (gI h 12) (nt K) a) (y1 : gI h' 13 = upd (gI h 13) (nt K) b) (y2 : gI h' 14 = upd (gI h 14) (nt K) c) (y3 : gI h' 15 = upd (gI h 15) (nt K) e) (y4 : gI h' 16 = upd (gI h 16) (nt K) g)
    (hg : ∀ c, 2 ≤ c → c ≤ 25 → c < 11 ∨ 16 < c → gI h' c = gI h c) (hq : gP h' = gP h)
    (hk : ∀ i, i ≠ 378 → i < 244 + 5 * nt K ∨ 244 + 5 * nt K + 5 ≤ i → K' i = K i) (k1 : K' 378 = nI (nt K + 1)) (k2 : K' (244 + 5 * nt K) = a) (k3 : K' (244 + 5 * nt K + 1) = b) (k4 : K' (244 + 5 * nt K + 2) = c) (k5 : K' (244 + 5 * nt K + 3) = e) (k6 : K' (244 + 5 * nt K + 4) = g) : STS h' 0 K' := by
  have w := z.1
  have h1 := w.hnt
  have hnn : nt K' = nt K + 1 := by show (K' 378).toNatClampNeg = _; rw [k1, nI_clamp (by omega)]
  obtain ⟨pf, pc, pp, pt, ps, px⟩ := STS_iff.mp z
  refine STS_iff.mpr ⟨PF_cg (fun c i h1 h2 => by rw [hg c (by omega) (by omega) (by omega)]) (fun i h1 => hk i (by omega) (by omega)) pf, PC_cg (fun i => by rw [hg 24 (by omega) (by omega) (by omega)]) (fun i h1 h2 => hk i (by omega) (by omega)) pc, PP_cg (by rw [hg 8 (by omega) (by omega) (by omega)]) (fun c i h1 h2 => by rw [hg c (by omega) (by omega) (by omega)]) (fun i h1 => hk i (by omega) (by omega)) pp, ?_, PS_cg g13 (fun c i h1 h2 => by rw [hg c (by omega) (by omega) (by omega)]) (fun i h1 => hk i (by omega) (by omega)) (by omega) ps, PX_cg (by rw [hg 2 (by omega) (by omega) (by omega)]) (fun t => by rw [hq]) (fun a T => tAt_mu x) (fun i h1 => hk i (by omega) (by omega)) px⟩
  obtain ⟨⟨a1, b1⟩, d1, e1, e2, e3, e4, e5⟩ := pt
  have hu : ∀ (cc : Nat) (o : Nat) (v : Int32), o < 5 → AR h K cc 12 (244 + o) 5 → gI h' cc = upd (gI h cc) (nt K) v → K' (244 + 5 * nt K + o) = v → AR h' K' cc 12 (244 + o) 5 := by
    intro cc o v ho z1 z2 z3 i hi
    rw [z2]
    unfold upd
    by_cases e : i = nt K
    · subst e
      rw [if_pos rfl, ← z3]; congr 1; omega
    · rw [if_neg e, hk _ (by omega) (by omega)]
      exact z1 i hi
  refine ⟨⟨?_, ?_⟩, by rw [g5, k1], hu 12 0 a (by omega) e1 y0 k2, hu 13 1 b (by omega) e2 y1 k3, hu 14 2 c (by omega) e3 y2 k4, hu 15 3 e (by omega) e4 y3 k5, hu 16 4 g (by omega) e5 y4 k6⟩
  · rw [k1]
    unfold rg
    rw [nI_toInt (by omega)]
    omega
  · intro i hi
    rw [hnn] at hi
    by_cases e : i = nt K
    · subst e
      rw [k2, k3, k4, k5, k6]
      exact ⟨ha, hb, hc, he, hgg⟩
    · rw [hk _ (by omega) (by omega), hk (244 + 5 * i + 1) (by omega) (by omega), hk (244 + 5 * i + 2) (by omega) (by omega), hk (244 + 5 * i + 3) (by omega) (by omega), hk (244 + 5 * i + 4) (by omega) (by omega)]
      exact b1 i (by omega)
theorem tlk_m (h : Hp) {N : Nat} (a b c e g : Int32) : Mu h (sI (sI (sI (sI (sI (sI (seh h N a b c e g) 103 (244 + 5 * N) a) 103 (244 + 5 * N + 1) b) 103 (244 + 5 * N + 2) c) 103 (244 + 5 * N + 3) e) 103 (244 + 5 * N + 4) g) 103 378 (nI (N + 1))) := by
  unfold seh
  iterate 12 refine FrS.sI ?_ _ rfl
  exact FrS.refl h
theorem p_talker (z : Inv n h) (a b c e g : Int32) : PRI n h 111 238 [.int a, .int b, .int c, .int e, .int g] := by
  intro d
  have w := z.1.1
  have q := z.1.2.1
  have hn := w.hnt
  have hr5 := q_rfK (h := h) (-5) 3
  by_cases hA : (nI 0 ≤ a ∧ a ≤ nI 9) ∧ (nI 0 ≤ b ∧ b ≤ nI 2) ∧ (nI 0 ≤ c ∧ c ≤ nI 1) ∧ (nI 0 ≤ e ∧ e ≤ nI 100) ∧ (nI 0 ≤ g ∧ g ≤ nI 1)
  · obtain ⟨A1, A2, A3, A4, A5⟩ := hA
    have B3 : c = nI 0 ∨ c = nI 1 := by rw [← q_flag]; exact A3
    have B5 : g = nI 0 ∨ g = nI 1 := by rw [← q_flag]; exact A5
    by_cases h12 : nt (gI h 103) = 12
    · refine ⟨-5, rfc h (-5) 3, rfm (rfc h (-5) 3) (-5) 5, fun F => ?_, fun F => ?_, Inv_rf z (by omega)⟩
      · simp (disch := omega) only [e111, r111_0, r111_1, r111_2, r111_4, r111_7, r111_10, r111_11, r111_12, r111_13, r111_16, r111_19, r111_20, r111_23, r111_26, r111_28, r111_29, r111_31, r111_34, r111_37, r111_39, r111_42, r111_45, r111_46, r111_47, r111_50, r111_51, r111_52, r111_55, r111_58, r111_61, r111_63, r111_66, r111_67, r111_69, r111_72, r111_73, r111_74, r111_75, r111_78, r111_81, r111_82, r111_83, r111_84, r111_86, r111_88, r111_91, r111_94, c125, c126, c133_5, A1, A2, B3, A4, B5, kdC, kdM, rpC, rpM, q_rs, q_rn, Option.toList_some, Option.toList_none, List.cons_append, List.nil_append, true_and, and_true, eq_self, ↓reduceIte, not_true_eq_false, not_false_eq_true, Nat.reduceEqDiff, Nat.reduceLeDiff, Nat.reduceLT, Nat.reduceAdd, Nat.reduceMul, Nat.reduceSub, false_or, or_false, true_or, or_true, false_and, and_false, reduceCtorEq, q_n0, q_n1, q_em, q_em2, q_b0, q_b1, Classical.not_not, nI_add, pk_mul, nI_clamp, q_vp, nI_eq, nI_leI, nI_ltI, q_sub, q.hnt, hn, h12]
      · simp (disch := omega) only [e238, r238_0, r238_1, r238_2, r238_4, r238_7, r238_10, r238_11, r238_12, r238_13, r238_16, r238_19, r238_20, r238_21, r238_22, r238_25, r238_28, r238_30, r238_31, r238_33, r238_36, r238_39, r238_41, r238_42, r238_43, r238_46, r238_49, r238_50, r238_51, r238_54, r238_55, r238_56, r238_59, r238_61, r238_63, r238_65, r238_68, r238_69, r238_71, r238_74, r238_75, r238_78, r238_79, r238_81, r238_82, r238_83, r238_85, r238_86, r238_89, r238_91, r238_92, r238_93, r238_94, r238_97, r238_99, r238_100, r238_101, r238_102, r238_103, r238_104, r238_107, r238_109, r238_110, r238_111, r238_112, r238_113, r238_114, r238_117, r238_119, r238_120, r238_121, r238_123, r238_124, r238_125, r238_128, r238_130, r238_131, r238_132, r238_134, r238_135, r238_136, r238_139, r238_142, r238_143, r238_144, r238_145, r238_146, r238_147, r238_148, r238_150, r238_153, c143, m232 _ _ _ hr5 w, m144_5, A1, A2, A3, A4, A5, kdC, kdM, rpC, rpM, q_rs, q_rn, Option.toList_some, Option.toList_none, List.cons_append, List.nil_append, true_and, and_true, eq_self, ↓reduceIte, not_true_eq_false, not_false_eq_true, Nat.reduceEqDiff, Nat.reduceLeDiff, Nat.reduceLT, Nat.reduceAdd, Nat.reduceMul, Nat.reduceSub, false_or, or_false, true_or, or_true, false_and, and_false, reduceCtorEq, q_n0, q_n1, q_em, q_em2, q_b0, q_b1, Classical.not_not, nI_add, pk_mul, nI_clamp, q_vp, nI_eq, nI_leI, nI_ltI, q_sub, h12]
    · have hq : gI h 11 5 = nI (nt (gI h 103)) := by rw [q.hnt]; exact hn.1
      have hl : nt (gI h 103) < 12 := by omega
      have hx := tlk_m h (N := nt (gI h 103)) a b c e g
      have hK : gI (grt (seh h (nt (gI h 103)) a b c e g)) 103 = gI h 103 := by
        rw [grt_K]
        unfold seh
        simp (disch := omega) only [q_gn]
      have h378 : gI (grt (seh h (nt (gI h 103)) a b c e g)) 103 378 = nI (nt (gI h 103)) := by rw [hK]; exact hn.1
      have gs : ∀ y, y ≠ 103 → gI (sI (sI (sI (sI (sI (sI (seh h (nt (gI h 103)) a b c e g) 103 (244 + 5 * nt (gI h 103)) a) 103 (244 + 5 * nt (gI h 103) + 1) b) 103 (244 + 5 * nt (gI h 103) + 2) c) 103 (244 + 5 * nt (gI h 103) + 3) e) 103 (244 + 5 * nt (gI h 103) + 4) g) 103 378 (nI (nt (gI h 103) + 1))) y = gI (seh h (nt (gI h 103)) a b c e g) y := by
        intro y hy
        rw [q_gn hy, q_gn hy, q_gn hy, q_gn hy, q_gn hy, q_gn hy]
      have hK0 : gI (seh h (nt (gI h 103)) a b c e g) 103 = gI h 103 := by
        unfold seh
        simp (disch := omega) only [q_gn]
      have hS : STS (sI (sI (sI (sI (sI (sI (seh h (nt (gI h 103)) a b c e g) 103 (244 + 5 * nt (gI h 103)) a) 103 (244 + 5 * nt (gI h 103) + 1) b) 103 (244 + 5 * nt (gI h 103) + 2) c) 103 (244 + 5 * nt (gI h 103) + 3) e) 103 (244 + 5 * nt (gI h 103) + 4) g) 103 378 (nI (nt (gI h 103) + 1))) 0 (gI (sI (sI (sI (sI (sI (sI (seh h (nt (gI h 103)) a b c e g) 103 (244 + 5 * nt (gI h 103)) a) 103 (244 + 5 * nt (gI h 103) + 1) b) 103 (244 + 5 * nt (gI h 103) + 2) c) 103 (244 + 5 * nt (gI h 103) + 3) e) 103 (244 + 5 * nt (gI h 103) + 4) g) 103 378 (nI (nt (gI h 103) + 1))) 103) := by
        refine talker_S z.1 hx hl (rg_of A1 (by decide) (by decide)) (rg_of A2 (by decide) (by decide)) (rg_of A3 (by decide) (by decide)) (rg_of A4 (by decide) (by decide)) (rg_of A5 (by decide) (by decide)) ?_ ?_ ?_ ?_ ?_ ?_ ?_ ?_ ?_ ?_ ?_ ?_ ?_ ?_ ?_ ?_
        · rw [gs _ (by omega)]; unfold seh; rw [q_gs]
        · rw [gs _ (by omega)]; unfold seh; rw [q_gm (by omega), q_gn (by omega), q_gn (by omega), q_gn (by omega), q_gn (by omega), q_gn (by omega)]
        · rw [gs _ (by omega)]; unfold seh; rw [q_gn (by omega), q_gn (by omega), q_gn (by omega), q_gn (by omega), q_gn (by omega), q_gsu]
        · rw [gs _ (by omega)]; unfold seh; rw [q_gn (by omega), q_gn (by omega), q_gn (by omega), q_gn (by omega), q_gsu, q_gn (by omega)]
        · rw [gs _ (by omega)]; unfold seh; rw [q_gn (by omega), q_gn (by omega), q_gn (by omega), q_gsu, q_gn (by omega), q_gn (by omega)]
        · rw [gs _ (by omega)]; unfold seh; rw [q_gn (by omega), q_gn (by omega), q_gsu, q_gn (by omega), q_gn (by omega), q_gn (by omega)]
        · rw [gs _ (by omega)]; unfold seh; rw [q_gn (by omega), q_gsu, q_gn (by omega), q_gn (by omega), q_gn (by omega), q_gn (by omega)]
        · intro y h1 h2 h3
          rw [gs _ (by omega)]; unfold seh; rw [q_gn (by omega), q_gn (by omega), q_gn (by omega), q_gn (by omega), q_gn (by omega), q_gn (by omega)]
        · unfold seh; simp only [q_gPI]
        · intro i h1 h2
          rw [q_gm h1, q_gm (by omega), q_gm (by omega), q_gm (by omega), q_gm (by omega), q_gm (by omega), hK0]
        · rw [q_gs]
        · rw [q_gm (by omega), q_gm (by omega), q_gm (by omega), q_gm (by omega), q_gm (by omega), q_gs]
        · rw [q_gm (by omega), q_gm (by omega), q_gm (by omega), q_gm (by omega), q_gs]
        · rw [q_gm (by omega), q_gm (by omega), q_gm (by omega), q_gs]
        · rw [q_gm (by omega), q_gm (by omega), q_gs]
        · rw [q_gm (by omega), q_gs]
      refine ⟨nI (nt (gI h 103)), grt (seh h (nt (gI h 103)) a b c e g), sI (sI (sI (sI (sI (sI (sI (grt (seh h (nt (gI h 103)) a b c e g)) 103 (244 + 5 * nt (gI h 103)) a) 103 (244 + 5 * nt (gI h 103) + 1) b) 103 (244 + 5 * nt (gI h 103) + 2) c) 103 (244 + 5 * nt (gI h 103) + 3) e) 103 (244 + 5 * nt (gI h 103) + 4) g) 103 378 (nI (nt (gI h 103) + 1))) 101 0 (nI 0), fun F => ?_, fun F => ?_, ?_⟩
      · simp (disch := omega) only [e111, r111_0, r111_1, r111_2, r111_4, r111_7, r111_10, r111_11, r111_12, r111_13, r111_16, r111_19, r111_20, r111_23, r111_26, r111_28, r111_29, r111_31, r111_34, r111_37, r111_39, r111_42, r111_45, r111_46, r111_47, r111_50, r111_51, r111_52, r111_55, r111_58, r111_61, r111_63, r111_66, r111_67, r111_69, r111_72, r111_73, r111_74, r111_75, r111_78, r111_81, r111_82, r111_83, r111_84, r111_86, r111_88, r111_91, r111_94, c125, c126, cc22 _ h _ hq hl, c135, A1, A2, B3, A4, B5, kdC, kdM, rpC, rpM, q_rs, q_rn, Option.toList_some, Option.toList_none, List.cons_append, List.nil_append, true_and, and_true, eq_self, ↓reduceIte, not_true_eq_false, not_false_eq_true, Nat.reduceEqDiff, Nat.reduceLeDiff, Nat.reduceLT, Nat.reduceAdd, Nat.reduceMul, Nat.reduceSub, false_or, or_false, true_or, or_true, false_and, and_false, reduceCtorEq, q_n0, q_n1, q_em, q_em2, q_b0, q_b1, Classical.not_not, nI_add, pk_mul, nI_clamp, q_vp, nI_eq, nI_leI, nI_ltI, q_sub, hq, hl]
      · simp (disch := omega) only [e238, r238_0, r238_1, r238_2, r238_4, r238_7, r238_10, r238_11, r238_12, r238_13, r238_16, r238_19, r238_20, r238_21, r238_22, r238_25, r238_28, r238_30, r238_31, r238_33, r238_36, r238_39, r238_41, r238_42, r238_43, r238_46, r238_49, r238_50, r238_51, r238_54, r238_55, r238_56, r238_59, r238_61, r238_63, r238_65, r238_68, r238_69, r238_71, r238_74, r238_75, r238_78, r238_79, r238_81, r238_82, r238_83, r238_85, r238_86, r238_89, r238_91, r238_92, r238_93, r238_94, r238_97, r238_99, r238_100, r238_101, r238_102, r238_103, r238_104, r238_107, r238_109, r238_110, r238_111, r238_112, r238_113, r238_114, r238_117, r238_119, r238_120, r238_121, r238_123, r238_124, r238_125, r238_128, r238_130, r238_131, r238_132, r238_134, r238_135, r238_136, r238_139, r238_142, r238_143, r238_144, r238_145, r238_146, r238_147, r238_148, r238_150, r238_153, c143, m232 _ _ _ hK w, c145, A1, A2, A3, A4, A5, kdC, kdM, rpC, rpM, q_rs, q_rn, Option.toList_some, Option.toList_none, List.cons_append, List.nil_append, true_and, and_true, eq_self, ↓reduceIte, not_true_eq_false, not_false_eq_true, Nat.reduceEqDiff, Nat.reduceLeDiff, Nat.reduceLT, Nat.reduceAdd, Nat.reduceMul, Nat.reduceSub, false_or, or_false, true_or, or_true, false_and, and_false, reduceCtorEq, q_n0, q_n1, q_em, q_em2, q_b0, q_b1, Classical.not_not, nI_add, pk_mul, nI_clamp, q_vp, nI_eq, nI_leI, nI_ltI, q_sub, q_gs, q_gn, q_gm, q_gIJ, q_gIP, q_gJI, q_gJA, q_gJP, q_gPI, q_gPA, q_gPJ, q_ga, q_gan, q_js, q_jn, q_jm, q_ps, q_pn, q_pm, h12, h378, show 244 + 5 * nt (gI h 103) < 8391 by omega, show 244 + 5 * nt (gI h 103) + 1 < 8391 by omega, show 244 + 5 * nt (gI h 103) + 2 < 8391 by omega, show 244 + 5 * nt (gI h 103) + 3 < 8391 by omega, show 244 + 5 * nt (gI h 103) + 4 < 8391 by omega]
      · iterate 6 rw [q_grc (by omega)]
        refine Inv_gr2 z hx hS ?_
        intro y hy
        rw [gs _ (by omega)]; unfold seh; rw [q_gn (by omega), q_gn (by omega), q_gn (by omega), q_gn (by omega), q_gn (by omega), q_gn (by omega)]
  · refine ⟨-1, rfc h (-1) 0, rfm (rfc h (-1) 0) (-1) 1, fun F => ?_, fun F => ?_, Inv_rf z (by omega)⟩
    · by_cases A1 : nI 0 ≤ a ∧ a ≤ nI 9
      · by_cases A2 : nI 0 ≤ b ∧ b ≤ nI 2
        · by_cases A3 : c = nI 0 ∨ c = nI 1
          · by_cases A4 : nI 0 ≤ e ∧ e ≤ nI 100
            · by_cases A5 : g = nI 0 ∨ g = nI 1
              · exact absurd ⟨A1, A2, by rw [q_flag]; exact A3, A4, by rw [q_flag]; exact A5⟩ hA
              · simp (disch := omega) only [e111, r111_0, r111_1, r111_2, r111_4, r111_7, r111_10, r111_11, r111_12, r111_13, r111_16, r111_19, r111_20, r111_23, r111_26, r111_28, r111_29, r111_31, r111_34, r111_37, r111_39, r111_42, r111_45, r111_46, r111_47, r111_50, r111_51, r111_52, r111_55, r111_58, r111_61, r111_63, r111_66, r111_67, r111_69, r111_72, r111_73, r111_74, r111_75, r111_78, r111_81, r111_82, r111_83, r111_84, r111_86, r111_88, r111_91, r111_94, c125, c126, c133_1, A1, A2, A3, A4, A5, kdC, kdM, rpC, rpM, q_rs, q_rn, Option.toList_some, Option.toList_none, List.cons_append, List.nil_append, true_and, and_true, eq_self, ↓reduceIte, not_true_eq_false, not_false_eq_true, Nat.reduceEqDiff, Nat.reduceLeDiff, Nat.reduceLT, Nat.reduceAdd, Nat.reduceMul, Nat.reduceSub, false_or, or_false, true_or, or_true, false_and, and_false, reduceCtorEq, q_n0, q_n1, q_em, q_em2, q_b0, q_b1, Classical.not_not, nI_add, pk_mul, nI_clamp, q_vp, nI_eq, nI_leI, nI_ltI, q_sub]
            · simp (disch := omega) only [e111, r111_0, r111_1, r111_2, r111_4, r111_7, r111_10, r111_11, r111_12, r111_13, r111_16, r111_19, r111_20, r111_23, r111_26, r111_28, r111_29, r111_31, r111_34, r111_37, r111_39, r111_42, r111_45, r111_46, r111_47, r111_50, r111_51, r111_52, r111_55, r111_58, r111_61, r111_63, r111_66, r111_67, r111_69, r111_72, r111_73, r111_74, r111_75, r111_78, r111_81, r111_82, r111_83, r111_84, r111_86, r111_88, r111_91, r111_94, c125, c126, c133_1, A1, A2, A3, A4, kdC, kdM, rpC, rpM, q_rs, q_rn, Option.toList_some, Option.toList_none, List.cons_append, List.nil_append, true_and, and_true, eq_self, ↓reduceIte, not_true_eq_false, not_false_eq_true, Nat.reduceEqDiff, Nat.reduceLeDiff, Nat.reduceLT, Nat.reduceAdd, Nat.reduceMul, Nat.reduceSub, false_or, or_false, true_or, or_true, false_and, and_false, reduceCtorEq, q_n0, q_n1, q_em, q_em2, q_b0, q_b1, Classical.not_not, nI_add, pk_mul, nI_clamp, q_vp, nI_eq, nI_leI, nI_ltI, q_sub]
          · simp (disch := omega) only [e111, r111_0, r111_1, r111_2, r111_4, r111_7, r111_10, r111_11, r111_12, r111_13, r111_16, r111_19, r111_20, r111_23, r111_26, r111_28, r111_29, r111_31, r111_34, r111_37, r111_39, r111_42, r111_45, r111_46, r111_47, r111_50, r111_51, r111_52, r111_55, r111_58, r111_61, r111_63, r111_66, r111_67, r111_69, r111_72, r111_73, r111_74, r111_75, r111_78, r111_81, r111_82, r111_83, r111_84, r111_86, r111_88, r111_91, r111_94, c125, c126, c133_1, A1, A2, A3, kdC, kdM, rpC, rpM, q_rs, q_rn, Option.toList_some, Option.toList_none, List.cons_append, List.nil_append, true_and, and_true, eq_self, ↓reduceIte, not_true_eq_false, not_false_eq_true, Nat.reduceEqDiff, Nat.reduceLeDiff, Nat.reduceLT, Nat.reduceAdd, Nat.reduceMul, Nat.reduceSub, false_or, or_false, true_or, or_true, false_and, and_false, reduceCtorEq, q_n0, q_n1, q_em, q_em2, q_b0, q_b1, Classical.not_not, nI_add, pk_mul, nI_clamp, q_vp, nI_eq, nI_leI, nI_ltI, q_sub]
        · simp (disch := omega) only [e111, r111_0, r111_1, r111_2, r111_4, r111_7, r111_10, r111_11, r111_12, r111_13, r111_16, r111_19, r111_20, r111_23, r111_26, r111_28, r111_29, r111_31, r111_34, r111_37, r111_39, r111_42, r111_45, r111_46, r111_47, r111_50, r111_51, r111_52, r111_55, r111_58, r111_61, r111_63, r111_66, r111_67, r111_69, r111_72, r111_73, r111_74, r111_75, r111_78, r111_81, r111_82, r111_83, r111_84, r111_86, r111_88, r111_91, r111_94, c125, c126, c133_1, A1, A2, kdC, kdM, rpC, rpM, q_rs, q_rn, Option.toList_some, Option.toList_none, List.cons_append, List.nil_append, true_and, and_true, eq_self, ↓reduceIte, not_true_eq_false, not_false_eq_true, Nat.reduceEqDiff, Nat.reduceLeDiff, Nat.reduceLT, Nat.reduceAdd, Nat.reduceMul, Nat.reduceSub, false_or, or_false, true_or, or_true, false_and, and_false, reduceCtorEq, q_n0, q_n1, q_em, q_em2, q_b0, q_b1, Classical.not_not, nI_add, pk_mul, nI_clamp, q_vp, nI_eq, nI_leI, nI_ltI, q_sub]
      · simp (disch := omega) only [e111, r111_0, r111_1, r111_2, r111_4, r111_7, r111_10, r111_11, r111_12, r111_13, r111_16, r111_19, r111_20, r111_23, r111_26, r111_28, r111_29, r111_31, r111_34, r111_37, r111_39, r111_42, r111_45, r111_46, r111_47, r111_50, r111_51, r111_52, r111_55, r111_58, r111_61, r111_63, r111_66, r111_67, r111_69, r111_72, r111_73, r111_74, r111_75, r111_78, r111_81, r111_82, r111_83, r111_84, r111_86, r111_88, r111_91, r111_94, c125, c126, c133_1, A1, kdC, kdM, rpC, rpM, q_rs, q_rn, Option.toList_some, Option.toList_none, List.cons_append, List.nil_append, true_and, and_true, eq_self, ↓reduceIte, not_true_eq_false, not_false_eq_true, Nat.reduceEqDiff, Nat.reduceLeDiff, Nat.reduceLT, Nat.reduceAdd, Nat.reduceMul, Nat.reduceSub, false_or, or_false, true_or, or_true, false_and, and_false, reduceCtorEq, q_n0, q_n1, q_em, q_em2, q_b0, q_b1, Classical.not_not, nI_add, pk_mul, nI_clamp, q_vp, nI_eq, nI_leI, nI_ltI, q_sub]
    · by_cases A1 : nI 0 ≤ a ∧ a ≤ nI 9
      · by_cases A2 : nI 0 ≤ b ∧ b ≤ nI 2
        · by_cases A3 : nI 0 ≤ c ∧ c ≤ nI 1
          · by_cases A4 : nI 0 ≤ e ∧ e ≤ nI 100
            · by_cases A5 : nI 0 ≤ g ∧ g ≤ nI 1
              · exact absurd ⟨A1, A2, A3, A4, A5⟩ hA
              · simp (disch := omega) only [e238, r238_0, r238_1, r238_2, r238_4, r238_7, r238_10, r238_11, r238_12, r238_13, r238_16, r238_19, r238_20, r238_21, r238_22, r238_25, r238_28, r238_30, r238_31, r238_33, r238_36, r238_39, r238_41, r238_42, r238_43, r238_46, r238_49, r238_50, r238_51, r238_54, r238_55, r238_56, r238_59, r238_61, r238_63, r238_65, r238_68, r238_69, r238_71, r238_74, r238_75, r238_78, r238_79, r238_81, r238_82, r238_83, r238_85, r238_86, r238_89, r238_91, r238_92, r238_93, r238_94, r238_97, r238_99, r238_100, r238_101, r238_102, r238_103, r238_104, r238_107, r238_109, r238_110, r238_111, r238_112, r238_113, r238_114, r238_117, r238_119, r238_120, r238_121, r238_123, r238_124, r238_125, r238_128, r238_130, r238_131, r238_132, r238_134, r238_135, r238_136, r238_139, r238_142, r238_143, r238_144, r238_145, r238_146, r238_147, r238_148, r238_150, r238_153, c143, m144_1, A1, A2, A3, A4, A5, kdC, kdM, rpC, rpM, q_rs, q_rn, Option.toList_some, Option.toList_none, List.cons_append, List.nil_append, true_and, and_true, eq_self, ↓reduceIte, not_true_eq_false, not_false_eq_true, Nat.reduceEqDiff, Nat.reduceLeDiff, Nat.reduceLT, Nat.reduceAdd, Nat.reduceMul, Nat.reduceSub, false_or, or_false, true_or, or_true, false_and, and_false, reduceCtorEq, q_n0, q_n1, q_em, q_em2, q_b0, q_b1, Classical.not_not, nI_add, pk_mul, nI_clamp, q_vp, nI_eq, nI_leI, nI_ltI, q_sub]
            · simp (disch := omega) only [e238, r238_0, r238_1, r238_2, r238_4, r238_7, r238_10, r238_11, r238_12, r238_13, r238_16, r238_19, r238_20, r238_21, r238_22, r238_25, r238_28, r238_30, r238_31, r238_33, r238_36, r238_39, r238_41, r238_42, r238_43, r238_46, r238_49, r238_50, r238_51, r238_54, r238_55, r238_56, r238_59, r238_61, r238_63, r238_65, r238_68, r238_69, r238_71, r238_74, r238_75, r238_78, r238_79, r238_81, r238_82, r238_83, r238_85, r238_86, r238_89, r238_91, r238_92, r238_93, r238_94, r238_97, r238_99, r238_100, r238_101, r238_102, r238_103, r238_104, r238_107, r238_109, r238_110, r238_111, r238_112, r238_113, r238_114, r238_117, r238_119, r238_120, r238_121, r238_123, r238_124, r238_125, r238_128, r238_130, r238_131, r238_132, r238_134, r238_135, r238_136, r238_139, r238_142, r238_143, r238_144, r238_145, r238_146, r238_147, r238_148, r238_150, r238_153, c143, m144_1, A1, A2, A3, A4, kdC, kdM, rpC, rpM, q_rs, q_rn, Option.toList_some, Option.toList_none, List.cons_append, List.nil_append, true_and, and_true, eq_self, ↓reduceIte, not_true_eq_false, not_false_eq_true, Nat.reduceEqDiff, Nat.reduceLeDiff, Nat.reduceLT, Nat.reduceAdd, Nat.reduceMul, Nat.reduceSub, false_or, or_false, true_or, or_true, false_and, and_false, reduceCtorEq, q_n0, q_n1, q_em, q_em2, q_b0, q_b1, Classical.not_not, nI_add, pk_mul, nI_clamp, q_vp, nI_eq, nI_leI, nI_ltI, q_sub]
          · simp (disch := omega) only [e238, r238_0, r238_1, r238_2, r238_4, r238_7, r238_10, r238_11, r238_12, r238_13, r238_16, r238_19, r238_20, r238_21, r238_22, r238_25, r238_28, r238_30, r238_31, r238_33, r238_36, r238_39, r238_41, r238_42, r238_43, r238_46, r238_49, r238_50, r238_51, r238_54, r238_55, r238_56, r238_59, r238_61, r238_63, r238_65, r238_68, r238_69, r238_71, r238_74, r238_75, r238_78, r238_79, r238_81, r238_82, r238_83, r238_85, r238_86, r238_89, r238_91, r238_92, r238_93, r238_94, r238_97, r238_99, r238_100, r238_101, r238_102, r238_103, r238_104, r238_107, r238_109, r238_110, r238_111, r238_112, r238_113, r238_114, r238_117, r238_119, r238_120, r238_121, r238_123, r238_124, r238_125, r238_128, r238_130, r238_131, r238_132, r238_134, r238_135, r238_136, r238_139, r238_142, r238_143, r238_144, r238_145, r238_146, r238_147, r238_148, r238_150, r238_153, c143, m144_1, A1, A2, A3, kdC, kdM, rpC, rpM, q_rs, q_rn, Option.toList_some, Option.toList_none, List.cons_append, List.nil_append, true_and, and_true, eq_self, ↓reduceIte, not_true_eq_false, not_false_eq_true, Nat.reduceEqDiff, Nat.reduceLeDiff, Nat.reduceLT, Nat.reduceAdd, Nat.reduceMul, Nat.reduceSub, false_or, or_false, true_or, or_true, false_and, and_false, reduceCtorEq, q_n0, q_n1, q_em, q_em2, q_b0, q_b1, Classical.not_not, nI_add, pk_mul, nI_clamp, q_vp, nI_eq, nI_leI, nI_ltI, q_sub]
        · simp (disch := omega) only [e238, r238_0, r238_1, r238_2, r238_4, r238_7, r238_10, r238_11, r238_12, r238_13, r238_16, r238_19, r238_20, r238_21, r238_22, r238_25, r238_28, r238_30, r238_31, r238_33, r238_36, r238_39, r238_41, r238_42, r238_43, r238_46, r238_49, r238_50, r238_51, r238_54, r238_55, r238_56, r238_59, r238_61, r238_63, r238_65, r238_68, r238_69, r238_71, r238_74, r238_75, r238_78, r238_79, r238_81, r238_82, r238_83, r238_85, r238_86, r238_89, r238_91, r238_92, r238_93, r238_94, r238_97, r238_99, r238_100, r238_101, r238_102, r238_103, r238_104, r238_107, r238_109, r238_110, r238_111, r238_112, r238_113, r238_114, r238_117, r238_119, r238_120, r238_121, r238_123, r238_124, r238_125, r238_128, r238_130, r238_131, r238_132, r238_134, r238_135, r238_136, r238_139, r238_142, r238_143, r238_144, r238_145, r238_146, r238_147, r238_148, r238_150, r238_153, c143, m144_1, A1, A2, kdC, kdM, rpC, rpM, q_rs, q_rn, Option.toList_some, Option.toList_none, List.cons_append, List.nil_append, true_and, and_true, eq_self, ↓reduceIte, not_true_eq_false, not_false_eq_true, Nat.reduceEqDiff, Nat.reduceLeDiff, Nat.reduceLT, Nat.reduceAdd, Nat.reduceMul, Nat.reduceSub, false_or, or_false, true_or, or_true, false_and, and_false, reduceCtorEq, q_n0, q_n1, q_em, q_em2, q_b0, q_b1, Classical.not_not, nI_add, pk_mul, nI_clamp, q_vp, nI_eq, nI_leI, nI_ltI, q_sub]
      · simp (disch := omega) only [e238, r238_0, r238_1, r238_2, r238_4, r238_7, r238_10, r238_11, r238_12, r238_13, r238_16, r238_19, r238_20, r238_21, r238_22, r238_25, r238_28, r238_30, r238_31, r238_33, r238_36, r238_39, r238_41, r238_42, r238_43, r238_46, r238_49, r238_50, r238_51, r238_54, r238_55, r238_56, r238_59, r238_61, r238_63, r238_65, r238_68, r238_69, r238_71, r238_74, r238_75, r238_78, r238_79, r238_81, r238_82, r238_83, r238_85, r238_86, r238_89, r238_91, r238_92, r238_93, r238_94, r238_97, r238_99, r238_100, r238_101, r238_102, r238_103, r238_104, r238_107, r238_109, r238_110, r238_111, r238_112, r238_113, r238_114, r238_117, r238_119, r238_120, r238_121, r238_123, r238_124, r238_125, r238_128, r238_130, r238_131, r238_132, r238_134, r238_135, r238_136, r238_139, r238_142, r238_143, r238_144, r238_145, r238_146, r238_147, r238_148, r238_150, r238_153, c143, m144_1, A1, kdC, kdM, rpC, rpM, q_rs, q_rn, Option.toList_some, Option.toList_none, List.cons_append, List.nil_append, true_and, and_true, eq_self, ↓reduceIte, not_true_eq_false, not_false_eq_true, Nat.reduceEqDiff, Nat.reduceLeDiff, Nat.reduceLT, Nat.reduceAdd, Nat.reduceMul, Nat.reduceSub, false_or, or_false, true_or, or_true, false_and, and_false, reduceCtorEq, q_n0, q_n1, q_em, q_em2, q_b0, q_b1, Classical.not_not, nI_add, pk_mul, nI_clamp, q_vp, nI_eq, nI_leI, nI_ltI, q_sub]
/-- a turn found -/
theorem tin_sp (mi : Nat → Int32) (x : Nat) : ∀ (a : Nat) (T : Nat → Int32), ∃ p, p ≤ a ∧ (∀ i, i < p → tin mi x a T i = T i) ∧ tin mi x a T p = nI x ∧ (∀ i, p ≤ i → i < a → tin mi x a T (i + 1) = T i) ∧ (∀ i, a < i → tin mi x a T i = T i) ∧ (∀ i, p ≤ i → i < a → mi x < mi (T i).toNatClampNeg) ∧ (p = 0 ∨ ¬ mi x < mi (T (p - 1)).toNatClampNeg)
  | 0, T => ⟨0, Nat.le_refl 0, fun i hi => by omega, pk_us, fun i h1 h2 => by omega, fun i hi => pk_un (by omega), fun i h1 h2 => by omega, Or.inl rfl⟩
  | a + 1, T => by
    unfold tin
    by_cases e : mi x < mi (T a).toNatClampNeg
    · rw [pif_t e]
      obtain ⟨p, hp, q1, q2, q3, q4, q5, q6⟩ := tin_sp mi x a (upd T (a + 1) (T a))
      have hu : ∀ i, i ≤ a → upd T (a + 1) (T a) i = T i := fun i hi => pk_un (by omega)
      refine ⟨p, by omega, fun i hi => ?_, q2, fun i h1 h2 => ?_, fun i hi => ?_, fun i h1 h2 => ?_, ?_⟩
      · rw [q1 i hi, hu i (by omega)]
      · by_cases e2 : i = a
        · subst e2
          rw [q4 (i + 1) (by omega)]
          exact pk_us
        · rw [q3 i h1 (by omega), hu i (by omega)]
      · rw [q4 i (by omega)]
        exact pk_un (by omega)
      · by_cases e2 : i = a
        · subst e2; exact e
        · have := q5 i h1 (by omega)
          rw [hu i (by omega)] at this
          exact this
      · rcases q6 with q6 | q6
        · exact Or.inl q6
        · by_cases e3 : p = 0
          · exact Or.inl e3
          · rw [hu (p - 1) (by omega)] at q6
            exact Or.inr q6
    · rw [pif_f e]
      exact ⟨a + 1, Nat.le_refl _, fun i hi => pk_un (by omega), pk_us, fun i h1 h2 => by omega, fun i hi => pk_un (by omega), fun i h1 h2 => by omega, Or.inr e⟩
end HS
