/-! says: the class -/
def wN (K : Nat → Int32) (f : Nat) : Nat := ((K (9 * f)).toInt + 40).toNat
def cw (a : Nat) : Int32 := nI a - nI 40
theorem cw_i {a : Nat} (ha : a ≤ 160) : (cw a).toInt = (a : Int) - 40 := by
  unfold cw
  rw [Int32.toInt_sub, nI_toInt (by omega), nI_toInt (by omega)]
  exact Int.bmod_eq_of_le (by omega) (by omega)
theorem cw_lt {a b : Nat} (ha : a ≤ 160) (hb : b ≤ 160) : (cw a < cw b) = (a < b) := by
  rw [Int32.lt_iff_toInt_lt, cw_i ha, cw_i hb]
  apply propext
  omega
theorem cw_sub {a b : Nat} (h : b ≤ a) : cw a - cw b = nI (a - b) := by
  apply Int32.toBitVec_inj.1
  show (BitVec.ofNat 32 a - BitVec.ofNat 32 40) - (BitVec.ofNat 32 b - BitVec.ofNat 32 40) = BitVec.ofNat 32 (a - b)
  apply BitVec.eq_of_toNat_eq
  simp only [BitVec.toNat_sub, BitVec.toNat_ofNat]
  omega
theorem cw_K {K : Nat → Int32} (w : WF K) {f : Nat} (hf : f < nf K) : K (9 * f) = cw (wN K f) ∧ wN K f ≤ 160 := by
  obtain ⟨h1, h2⟩ := (w.2.1 f hf).1
  have hn : wN K f ≤ 160 := by unfold wN; omega
  refine ⟨?_, hn⟩
  apply Int32.toInt_inj.1
  rw [cw_i hn]
  unfold wN
  omega
theorem of_bad {K : Nat → Int32} {wh : Int32} (hw : wh = nI 0 ∨ wh = nI 1) {f : Nat} (hb : wh < wst K f) : isOf K wh f := by
  unfold isOf
  rcases hw with rfl | rfl
  · rw [if_pos rfl]
    intro e
    rw [e] at hb
    exact absurd hb (by decide)
  · rw [if_neg q_01]
    rw [Int32.lt_iff_toInt_lt] at *
    have k1 : (nI 1).toInt = 1 := by decide
    have k0 : (nI 0).toInt = 0 := by decide
    omega
noncomputable def loW (P : Nat → Prop) (w : Nat → Nat) : Nat → Nat
  | 0 => 160
  | n + 1 => pif (P n) (if w n < loW P w n then w n else loW P w n) (loW P w n)
noncomputable def hiW (P : Nat → Prop) (w : Nat → Nat) : Nat → Nat
  | 0 => 0
  | n + 1 => pif (P n) (if hiW P w n < w n then w n else hiW P w n) (hiW P w n)
theorem lo_le {P : Nat → Prop} {w : Nat → Nat} : ∀ n, loW P w n ≤ 160 ∧ ∀ f, f < n → P f → loW P w n ≤ w f
  | 0 => ⟨Nat.le_refl _, fun f hf => by omega⟩
  | n + 1 => by
    obtain ⟨h1, h2⟩ := lo_le (P := P) (w := w) n
    unfold loW
    by_cases c : P n
    · rw [pif_t c]
      refine ⟨by split <;> omega, fun f hf hp => ?_⟩
      by_cases e : f = n
      · subst e; split <;> omega
      · have := h2 f (by omega) hp
        split <;> omega
    · rw [pif_f c]
      refine ⟨h1, fun f hf hp => ?_⟩
      by_cases e : f = n
      · subst e; exact absurd hp c
      · exact h2 f (by omega) hp
theorem hi_le {P : Nat → Prop} {w : Nat → Nat} : ∀ n, (∀ f, f < n → w f ≤ 160) → hiW P w n ≤ 160 ∧ ∀ f, f < n → P f → w f ≤ hiW P w n
  | 0, _ => ⟨Nat.zero_le _, fun f hf => by omega⟩
  | n + 1, hw => by
    obtain ⟨h1, h2⟩ := hi_le (P := P) (w := w) n (fun f hf => hw f (by omega))
    have h3 := hw n (by omega)
    unfold hiW
    by_cases c : P n
    · rw [pif_t c]
      refine ⟨by split <;> omega, fun f hf hp => ?_⟩
      by_cases e : f = n
      · subst e; split <;> omega
      · have := h2 f (by omega) hp
        split <;> omega
    · rw [pif_f c]
      refine ⟨h1, fun f hf hp => ?_⟩
      by_cases e : f = n
      · subst e; exact absurd hp c
      · exact h2 f (by omega) hp
section SY
variable {h : Hp} {K : Nat → Int32} {wh : Int32}
theorem cl80 (w : WF K) (q : RS h 0 K) (d : Nat) (F : Po) : ∀ k f, f + k = nf K → wp true (d + 2) 80 4 [.ref 86, .int wh, .int (nI (cntT (fun f => wh < wst K f) f)), .int (nI f)] [] h F = F (some (.int (nI (cntT (fun f => wh < wst K f) (nf K))))) h
  | 0, f, e => by
    obtain rfl : f = nf K := e
    have h1 := w.hnf
    rw [r80_4]
    simp (disch := omega) only [e80, r80_0, r80_1, r80_2, r80_3, r80_5, r80_6, r80_9, r80_12, r80_15, r80_16, r80_17, r80_20, r80_21, r80_22, r80_25, r80_28, r80_29, r80_30, r80_33, r80_36, r80_37, kdC, kdM, rpC, rpM, q_rs, q_rn, Option.toList_some, Option.toList_none, List.cons_append, List.nil_append, true_and, and_true, eq_self, ↓reduceIte, not_true_eq_false, not_false_eq_true, Nat.reduceEqDiff, Nat.reduceLeDiff, Nat.reduceLT, Nat.reduceAdd, Nat.reduceMul, Nat.reduceSub, false_or, or_false, true_or, or_true, false_and, and_false, reduceCtorEq, q_n0, q_n1, q_em, q_em2, q_b0, q_b1, Classical.not_not, nI_add, pk_mul, nI_clamp, q_vp, nI_eq, nI_leI, nI_ltI, q_sub, q.hnf, h1, Nat.le_refl]
  | k + 1, f, e => by
    have h1 := w.hnf
    refine Eq.trans ?_ (cl80 w q d F k (f + 1) (by omega))
    rw [r80_4, cnt_s]
    by_cases c : wh < wst K f
    · rw [pif_t c]
      simp (disch := omega) only [e80, r80_0, r80_1, r80_2, r80_3, r80_5, r80_6, r80_9, r80_12, r80_15, r80_16, r80_17, r80_20, r80_21, r80_22, r80_25, r80_28, r80_29, r80_30, r80_33, r80_36, r80_37, kdC, kdM, rpC, rpM, q_rs, q_rn, Option.toList_some, Option.toList_none, List.cons_append, List.nil_append, true_and, and_true, eq_self, ↓reduceIte, not_true_eq_false, not_false_eq_true, Nat.reduceEqDiff, Nat.reduceLeDiff, Nat.reduceLT, Nat.reduceAdd, Nat.reduceMul, Nat.reduceSub, false_or, or_false, true_or, or_true, false_and, and_false, reduceCtorEq, q_n0, q_n1, q_em, q_em2, q_b0, q_b1, Classical.not_not, nI_add, pk_mul, nI_clamp, q_vp, nI_eq, nI_leI, nI_ltI, q_sub, q.hnf, h1, show ¬ nf K ≤ f by omega, cc17 _ h _ w q wh (show f < nf K by omega), q_bt c, c127_1]
    · rw [pif_f c]
      simp (disch := omega) only [e80, r80_0, r80_1, r80_2, r80_3, r80_5, r80_6, r80_9, r80_12, r80_15, r80_16, r80_17, r80_20, r80_21, r80_22, r80_25, r80_28, r80_29, r80_30, r80_33, r80_36, r80_37, kdC, kdM, rpC, rpM, q_rs, q_rn, Option.toList_some, Option.toList_none, List.cons_append, List.nil_append, true_and, and_true, eq_self, ↓reduceIte, not_true_eq_false, not_false_eq_true, Nat.reduceEqDiff, Nat.reduceLeDiff, Nat.reduceLT, Nat.reduceAdd, Nat.reduceMul, Nat.reduceSub, false_or, or_false, true_or, or_true, false_and, and_false, reduceCtorEq, q_n0, q_n1, q_em, q_em2, q_b0, q_b1, Classical.not_not, nI_add, pk_mul, nI_clamp, q_vp, nI_eq, nI_leI, nI_ltI, q_sub, q.hnf, h1, show ¬ nf K ≤ f by omega, cc17 _ h _ w q wh (show f < nf K by omega), q_bf c, c127_0, Nat.add_zero]
theorem c80 (w : WF K) (q : RS h 0 K) (d : Nat) (F : Po) : cwp true (d + 2) 80 [.ref 86, .int wh] h F = F (some (.int (nI (cntT (fun f => wh < wst K f) (nf K))))) h := by
  refine Eq.trans ?_ (cl80 w q d F (nf K) 0 (by omega))
  simp (disch := omega) only [r80_0, r80_1, r80_2, r80_3, e80]
  rfl
theorem lp_cnt (P : Nat → Prop) : ∀ n, q_lp (fun f x => x + bz (P f)) n 0 (nI 0) = nI (cntT P n)
  | 0 => rfl
  | n + 1 => by
    rw [q_lpR, lp_cnt P n, Nat.zero_add, cnt_s]
    by_cases c : P n
    · rw [q_bt c, pif_t c, nI_add]
    · rw [q_bf c, pif_f c, nI_add]
theorem cl83a (w : WF K) (q : RS h 0 K) (y v6 : Value) (d : Nat) (F : Po) : ∀ k f, f + k = nf K → wp true (d + 3) 83 10 [.ref 86, .int wh, y, .int (cw (loW (isOf K wh) (wN K) f)), .int (cw (hiW (isOf K wh) (wN K) f)), .int (nI f), v6] [] h F = wp true (d + 3) 83 73 [.ref 86, .int wh, y, .int (cw (loW (isOf K wh) (wN K) (nf K))), .int (cw (hiW (isOf K wh) (wN K) (nf K))), .int (nI (nf K)), v6] [] h F
  | 0, f, e => by
    obtain rfl : f = nf K := e
    have h1 := w.hnf
    rw [r83_10]
    simp (disch := omega) only [r83_12, r83_13, r83_16, r83_19, kdC, kdM, rpC, rpM, q_rs, q_rn, Option.toList_some, Option.toList_none, List.cons_append, List.nil_append, true_and, and_true, eq_self, ↓reduceIte, not_true_eq_false, not_false_eq_true, Nat.reduceEqDiff, Nat.reduceLeDiff, Nat.reduceLT, Nat.reduceAdd, Nat.reduceMul, Nat.reduceSub, false_or, or_false, true_or, or_true, false_and, and_false, reduceCtorEq, q_n0, q_n1, q_em, q_em2, q_b0, q_b1, Classical.not_not, nI_add, pk_mul, nI_clamp, q_vp, nI_eq, nI_leI, nI_ltI, q_sub, q.hnf, h1, Nat.le_refl]
  | k + 1, f, e => by
    have h1 := w.hnf
    have hf : f < nf K := by omega
    refine Eq.trans ?_ (cl83a w q y v6 d F k (f + 1) (by omega))
    obtain ⟨e1, e2⟩ := cw_K w hf
    have l1 := (lo_le (P := isOf K wh) (w := wN K) f).1
    have l2 := (hi_le (P := isOf K wh) (w := wN K) f (fun g hg => (cw_K w (show g < nf K by omega)).2)).1
    have s1 : loW (isOf K wh) (wN K) (f + 1) = pif (isOf K wh f) (if wN K f < loW (isOf K wh) (wN K) f then wN K f else loW (isOf K wh) (wN K) f) (loW (isOf K wh) (wN K) f) := rfl
    have s2 : hiW (isOf K wh) (wN K) (f + 1) = pif (isOf K wh f) (if hiW (isOf K wh) (wN K) f < wN K f then wN K f else hiW (isOf K wh) (wN K) f) (hiW (isOf K wh) (wN K) f) := rfl
    rw [s1, s2, r83_10]
    generalize loW (isOf K wh) (wN K) f = lo at *
    generalize hiW (isOf K wh) (wN K) f = hi at *
    by_cases c : isOf K wh f
    · rw [pif_t c, pif_t c]
      have m1 : (if cw (wN K f) < cw lo then cw (wN K f) else cw lo) = cw (if wN K f < lo then wN K f else lo) := by
        simp (disch := omega) only [cw_lt]
        split <;> rfl
      have m2 : (if cw hi < cw (wN K f) then cw (wN K f) else cw hi) = cw (if hi < wN K f then wN K f else hi) := by
        simp (disch := omega) only [cw_lt]
        split <;> rfl
      simp (disch := omega) only [r83_12, r83_13, r83_16, r83_19, r83_22, r83_23, r83_26, r83_27, r83_29, r83_32, r83_35, r83_36, r83_37, r83_40, r83_43, r83_45, r83_46, r83_49, r83_50, r83_52, r83_53, r83_56, r83_59, r83_61, r83_62, r83_65, r83_67, r83_70, kdC, kdM, rpC, rpM, q_rs, q_rn, Option.toList_some, Option.toList_none, List.cons_append, List.nil_append, true_and, and_true, eq_self, ↓reduceIte, not_true_eq_false, not_false_eq_true, Nat.reduceEqDiff, Nat.reduceLeDiff, Nat.reduceLT, Nat.reduceAdd, Nat.reduceMul, Nat.reduceSub, false_or, or_false, true_or, or_true, false_and, and_false, reduceCtorEq, q_n0, q_n1, q_em, q_em2, q_b0, q_b1, Classical.not_not, nI_add, pk_mul, nI_clamp, q_vp, nI_eq, nI_leI, nI_ltI, q_sub, q.hnf, h1, show ¬ nf K ≤ f by omega, cc16 _ h _ w q wh hf, q_bt c, q.w, e1, m1, m2, show f < 24 by omega]
    · rw [pif_f c, pif_f c]
      simp (disch := omega) only [r83_12, r83_13, r83_16, r83_19, r83_22, r83_23, r83_26, r83_27, r83_29, r83_32, r83_35, r83_36, r83_37, r83_40, r83_43, r83_45, r83_46, r83_49, r83_50, r83_52, r83_53, r83_56, r83_59, r83_61, r83_62, r83_65, r83_67, r83_70, kdC, kdM, rpC, rpM, q_rs, q_rn, Option.toList_some, Option.toList_none, List.cons_append, List.nil_append, true_and, and_true, eq_self, ↓reduceIte, not_true_eq_false, not_false_eq_true, Nat.reduceEqDiff, Nat.reduceLeDiff, Nat.reduceLT, Nat.reduceAdd, Nat.reduceMul, Nat.reduceSub, false_or, or_false, true_or, or_true, false_and, and_false, reduceCtorEq, q_n0, q_n1, q_em, q_em2, q_b0, q_b1, Classical.not_not, nI_add, pk_mul, nI_clamp, q_vp, nI_eq, nI_leI, nI_ltI, q_sub, q.hnf, h1, show ¬ nf K ≤ f by omega, cc16 _ h _ w q wh hf, q_bf c]
/-- the value of a flight -/
noncomputable def vN (K : Nat → Int32) (wh : Int32) (B : Prop) (f : Nat) : Nat := pif B (wN K f - loW (isOf K wh) (wN K) (nf K)) (hiW (isOf K wh) (wN K) (nf K) - wN K f)
theorem cl83b (w : WF K) (z : STS h 0 K) (B : Prop) : ∀ k f V (v6 : Value), f + k = nf K → (∀ g, g < f → V g = pif (isOf K wh g) (nI (vN K wh B g)) (-1)) → ∃ V', (∀ g, g < nf K → V' g = pif (isOf K wh g) (nI (vN K wh B g)) (-1)) ∧ ∀ d F, wp true (d + 3) 83 76 [.ref 86, .int wh, .int (bz B), .int (cw (loW (isOf K wh) (wN K) (nf K))), .int (cw (hiW (isOf K wh) (wN K) (nf K))), .int (nI f), v6] [] (sA h 87 V) F = F none (sA h 87 V')
  | 0, f, V, v6, e, i1 => by
    obtain rfl : f = nf K := e
    have h1 := w.hnf
    have q := (STS_fr ((Fr.refl h).sA (a := 87) V (fun _ => rfl)) (Or.inl rfl) z).2.1
    refine ⟨V, i1, fun d F => ?_⟩
    rw [r83_76]
    simp (disch := omega) only [r83_78, r83_79, r83_82, r83_85, r83_88, r83_89, r83_92, r83_93, r83_96, r83_99, r83_101, r83_102, r83_103, r83_104, r83_107, r83_109, r83_110, r83_113, r83_116, r83_118, r83_119, r83_120, r83_122, r83_123, r83_126, r83_128, r83_129, r83_132, r83_133, r83_135, r83_138, r83_141, r83_143, r83_146, r83_147, r83_148, r83_151, r83_154, kdC, kdM, rpC, rpM, q_rs, q_rn, Option.toList_some, Option.toList_none, List.cons_append, List.nil_append, true_and, and_true, eq_self, ↓reduceIte, not_true_eq_false, not_false_eq_true, Nat.reduceEqDiff, Nat.reduceLeDiff, Nat.reduceLT, Nat.reduceAdd, Nat.reduceMul, Nat.reduceSub, false_or, or_false, true_or, or_true, false_and, and_false, reduceCtorEq, q_n0, q_n1, q_em, q_em2, q_b0, q_b1, Classical.not_not, nI_add, pk_mul, nI_clamp, q_vp, nI_eq, nI_leI, nI_ltI, q_sub, q.hnf, h1, Nat.le_refl]
  | k + 1, f, V, v6, e, i1 => by
    have h1 := w.hnf
    have hf : f < nf K := by omega
    have q := (STS_fr ((Fr.refl h).sA (a := 87) V (fun _ => rfl)) (Or.inl rfl) z).2.1
    obtain ⟨e1, e2⟩ := cw_K w hf
    have l1 := lo_le (P := isOf K wh) (w := wN K) (nf K)
    have l2 := hi_le (P := isOf K wh) (w := wN K) (nf K) (fun g hg => (cw_K w hg).2)
    have hup : ∀ v g, g < f + 1 → (v = pif (isOf K wh f) (nI (vN K wh B f)) (-1)) → upd V f v g = pif (isOf K wh g) (nI (vN K wh B g)) (-1) := by
      intro v g hg hv
      unfold upd
      by_cases eg : g = f
      · rw [if_pos eg, eg]; exact hv
      · rw [if_neg eg]; exact i1 g (by omega)
    by_cases c : isOf K wh f
    · have a1 := l1.2 f hf c
      have a2 := l2.2 f hf c
      obtain ⟨V', b1, b2⟩ := cl83b w z B k (f + 1) (upd V f (nI (vN K wh B f))) (.int (nI (vN K wh B f))) (by omega) (fun g hg => hup _ g hg (by rw [pif_t c]))
      refine ⟨V', b1, fun d F => ?_⟩
      refine Eq.trans ?_ (b2 d F)
      rw [r83_76]
      unfold vN
      generalize loW (isOf K wh) (wN K) (nf K) = lo at *
      generalize hiW (isOf K wh) (wN K) (nf K) = hi at *
      by_cases cB : B
      · rw [pif_t cB, q_bt cB]
        simp (disch := omega) only [r83_78, r83_79, r83_82, r83_85, r83_88, r83_89, r83_92, r83_93, r83_96, r83_99, r83_101, r83_102, r83_103, r83_104, r83_107, r83_109, r83_110, r83_113, r83_116, r83_118, r83_119, r83_120, r83_122, r83_123, r83_126, r83_128, r83_129, r83_132, r83_133, r83_135, r83_138, r83_141, r83_143, r83_146, r83_147, r83_148, r83_151, kdC, kdM, rpC, rpM, q_rs, q_rn, Option.toList_some, Option.toList_none, List.cons_append, List.nil_append, true_and, and_true, eq_self, ↓reduceIte, not_true_eq_false, not_false_eq_true, Nat.reduceEqDiff, Nat.reduceLeDiff, Nat.reduceLT, Nat.reduceAdd, Nat.reduceMul, Nat.reduceSub, false_or, or_false, true_or, or_true, false_and, and_false, reduceCtorEq, q_n0, q_n1, q_em, q_em2, q_b0, q_b1, Classical.not_not, nI_add, pk_mul, nI_clamp, q_vp, nI_eq, nI_leI, nI_ltI, q_sub, q.hnf, h1, show ¬ nf K ≤ f by omega, cc16 _ _ _ w q wh hf, q_bt c, q.w, e1, cw_sub, q_sIs, show f < 24 by omega]
      · rw [pif_f cB, q_bf cB]
        simp (disch := omega) only [r83_78, r83_79, r83_82, r83_85, r83_88, r83_89, r83_92, r83_93, r83_96, r83_99, r83_101, r83_102, r83_103, r83_104, r83_107, r83_109, r83_110, r83_113, r83_116, r83_118, r83_119, r83_120, r83_122, r83_123, r83_126, r83_128, r83_129, r83_132, r83_133, r83_135, r83_138, r83_141, r83_143, r83_146, r83_147, r83_148, r83_151, kdC, kdM, rpC, rpM, q_rs, q_rn, Option.toList_some, Option.toList_none, List.cons_append, List.nil_append, true_and, and_true, eq_self, ↓reduceIte, not_true_eq_false, not_false_eq_true, Nat.reduceEqDiff, Nat.reduceLeDiff, Nat.reduceLT, Nat.reduceAdd, Nat.reduceMul, Nat.reduceSub, false_or, or_false, true_or, or_true, false_and, and_false, reduceCtorEq, q_n0, q_n1, q_em, q_em2, q_b0, q_b1, Classical.not_not, nI_add, pk_mul, nI_clamp, q_vp, nI_eq, nI_leI, nI_ltI, q_sub, q.hnf, h1, show ¬ nf K ≤ f by omega, cc16 _ _ _ w q wh hf, q_bt c, q.w, e1, cw_sub, q_sIs, show f < 24 by omega]
    · by_cases cB : B
      · obtain ⟨V', b1, b2⟩ := cl83b w z B k (f + 1) (upd V f (-1)) (.int (cw (wN K f) - cw (loW (isOf K wh) (wN K) (nf K)))) (by omega) (fun g hg => hup _ g hg (by rw [pif_f c]))
        refine ⟨V', b1, fun d F => ?_⟩
        refine Eq.trans ?_ (b2 d F)
        rw [r83_76, q_bt cB]
        simp (disch := omega) only [r83_78, r83_79, r83_82, r83_85, r83_88, r83_89, r83_92, r83_93, r83_96, r83_99, r83_101, r83_102, r83_103, r83_104, r83_107, r83_109, r83_110, r83_113, r83_116, r83_118, r83_119, r83_120, r83_122, r83_123, r83_126, r83_128, r83_129, r83_132, r83_133, r83_135, r83_138, r83_141, r83_143, r83_146, r83_147, r83_148, r83_151, kdC, kdM, rpC, rpM, q_rs, q_rn, Option.toList_some, Option.toList_none, List.cons_append, List.nil_append, true_and, and_true, eq_self, ↓reduceIte, not_true_eq_false, not_false_eq_true, Nat.reduceEqDiff, Nat.reduceLeDiff, Nat.reduceLT, Nat.reduceAdd, Nat.reduceMul, Nat.reduceSub, false_or, or_false, true_or, or_true, false_and, and_false, reduceCtorEq, q_n0, q_n1, q_em, q_em2, q_b0, q_b1, Classical.not_not, nI_add, pk_mul, nI_clamp, q_vp, nI_eq, nI_leI, nI_ltI, q_sub, q.hnf, h1, show ¬ nf K ≤ f by omega, cc16 _ _ _ w q wh hf, q_bf c, q.w, e1, q_sIs, show f < 24 by omega]
      · obtain ⟨V', b1, b2⟩ := cl83b w z B k (f + 1) (upd V f (-1)) (.int (cw (hiW (isOf K wh) (wN K) (nf K)) - cw (wN K f))) (by omega) (fun g hg => hup _ g hg (by rw [pif_f c]))
        refine ⟨V', b1, fun d F => ?_⟩
        refine Eq.trans ?_ (b2 d F)
        rw [r83_76, q_bf cB]
        simp (disch := omega) only [r83_78, r83_79, r83_82, r83_85, r83_88, r83_89, r83_92, r83_93, r83_96, r83_99, r83_101, r83_102, r83_103, r83_104, r83_107, r83_109, r83_110, r83_113, r83_116, r83_118, r83_119, r83_120, r83_122, r83_123, r83_126, r83_128, r83_129, r83_132, r83_133, r83_135, r83_138, r83_141, r83_143, r83_146, r83_147, r83_148, r83_151, kdC, kdM, rpC, rpM, q_rs, q_rn, Option.toList_some, Option.toList_none, List.cons_append, List.nil_append, true_and, and_true, eq_self, ↓reduceIte, not_true_eq_false, not_false_eq_true, Nat.reduceEqDiff, Nat.reduceLeDiff, Nat.reduceLT, Nat.reduceAdd, Nat.reduceMul, Nat.reduceSub, false_or, or_false, true_or, or_true, false_and, and_false, reduceCtorEq, q_n0, q_n1, q_em, q_em2, q_b0, q_b1, Classical.not_not, nI_add, pk_mul, nI_clamp, q_vp, nI_eq, nI_leI, nI_ltI, q_sub, q.hnf, h1, show ¬ nf K ≤ f by omega, cc16 _ _ _ w q wh hf, q_bf c, q.w, e1, q_sIs, show f < 24 by omega]
theorem c83 (z : STS h 0 K) (B : Prop) : ∃ V, (∀ g, g < nf K → V g = pif (isOf K wh g) (nI (vN K wh B g)) (-1)) ∧ ∀ d F, cwp true (d + 3) 83 [.ref 86, .int wh, .int (bz B)] h F = F none (sA h 87 V) := by
  obtain ⟨V, a1, a2⟩ := cl83b (wh := wh) z.1 z B (nf K) 0 (gI h 87) jn (by omega) (fun g hg => by omega)
  refine ⟨V, a1, fun d F => ?_⟩
  have hl := cl83a (wh := wh) z.1 z.2.1 (.int (bz B)) jn d F (nf K) 0 (by omega)
  have k1 : nI 120 = cw (loW (isOf K wh) (wN K) 0) := by show nI 120 = cw 160; decide
  have k2 : (-40 : Int32) = cw (hiW (isOf K wh) (wN K) 0) := by show (-40 : Int32) = cw 0; decide
  rw [q_sAs] at a2
  refine Eq.trans ?_ (a2 d F)
  simp (disch := omega) only [r83_0, r83_2, r83_3, r83_5, r83_7, r83_8, e83]
  rw [k1, k2]
  refine Eq.trans hl ?_
  simp (disch := omega) only [r83_73, r83_74]
theorem vN_le (w : WF K) {B : Prop} {f : Nat} (hf : f < nf K) : vN K wh B f ≤ 160 := by
  have l2 := (hi_le (P := isOf K wh) (w := wN K) (nf K) (fun g hg => (cw_K w hg).2)).1
  have l3 := (cw_K w hf).2
  unfold vN
  by_cases c : B
  · rw [pif_t c]; omega
  · rw [pif_f c]; omega
/-- the sum of some -/
noncomputable def snN (Q : Nat → Prop) (g : Nat → Nat) : Nat → Nat
  | 0 => 0
  | n + 1 => snN Q g n + pif (Q n) (g n) 0
theorem sn_le {Q : Nat → Prop} {g : Nat → Nat} : ∀ n, (∀ f, f < n → g f ≤ 160) → snN Q g n ≤ 160 * cntT Q n
  | 0, _ => Nat.le_refl _
  | n + 1, hg => by
    have h1 := sn_le (Q := Q) (g := g) n (fun f hf => hg f (by omega))
    have h2 := hg n (by omega)
    rw [cnt_s]
    unfold snN
    by_cases c : Q n
    · rw [pif_t c, pif_t c]; omega
    · rw [pif_f c, pif_f c]; omega
end SY
