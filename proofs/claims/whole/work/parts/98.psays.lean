/-! says: what is counted -/
section SC
variable {h : Hp} {K : Nat → Int32} {wh : Int32}
noncomputable def saysC (K : Nat → Int32) (wh : Int32) : Nat := zN (isOf K wh) (fun i => (wN K i : Int)) (nf K) (fun k s => if k = (cntT (fun f => wh < wst K f) (nf K) : Int) ∧ s < (snN (fun f => wh < wst K f) (wN K) (nf K) : Int) + 1 then 1 else 0)
theorem bd_le (hw : wh = nI 0 ∨ wh = nI 1) (n : Nat) : cntT (fun f => wh < wst K f) n ≤ cntT (isOf K wh) n := cnt_mo n (fun i _ u => of_bad hw u)
theorem snB1 (hw : wh = nI 0 ∨ wh = nI 1) {B : Prop} (hB : B) : ∀ n, n ≤ nf K → (snN (fun f => isOf K wh f ∧ (wh < wst K f ↔ B)) (vN K wh B) n : Int) = (snN (fun f => wh < wst K f) (wN K) n : Int) - (cntT (fun f => wh < wst K f) n : Int) * (loW (isOf K wh) (wN K) (nf K) : Int)
  | 0, _ => by
    show (0 : Int) = 0 - 0 * _
    rw [Int.zero_mul]; rfl
  | n + 1, hn => by
    have ih := snB1 hw hB n (by omega)
    have l1 := (lo_le (P := isOf K wh) (w := wN K) (nf K)).2 n (by omega)
    rw [cnt_s]
    unfold snN
    by_cases c : wh < wst K n
    · have cp := of_bad hw c
      have l2 := l1 cp
      rw [pif_t ⟨cp, ⟨fun _ => hB, fun _ => c⟩⟩, pif_t c, pif_t c]
      have hv : vN K wh B n = wN K n - loW (isOf K wh) (wN K) (nf K) := by unfold vN; rw [pif_t hB]
      rw [hv, Int.natCast_add, ih, Int.natCast_add, Int.natCast_add, Int.add_mul]
      omega
    · rw [pif_f (fun u => c (u.2.mpr hB)), pif_f c, pif_f c]
      exact ih
theorem snB2 (w : WF K) (hw : wh = nI 0 ∨ wh = nI 1) {B : Prop} (hB : ¬ B) : ∀ n, n ≤ nf K → (snN (fun f => isOf K wh f ∧ (wh < wst K f ↔ B)) (vN K wh B) n : Int) = ((cntT (isOf K wh) n : Int) - (cntT (fun f => wh < wst K f) n : Int)) * (hiW (isOf K wh) (wN K) (nf K) : Int) - (sW (isOf K wh) (fun i => (wN K i : Int)) n - (snN (fun f => wh < wst K f) (wN K) n : Int))
  | 0, _ => by
    show (0 : Int) = (0 - 0) * _ - (0 - 0)
    simp
  | n + 1, hn => by
    have ih := snB2 w hw hB n (by omega)
    have l1 := (hi_le (P := isOf K wh) (w := wN K) (nf K) (fun g hg => (cw_K w hg).2)).2 n (by omega)
    rw [cnt_s, cnt_s]
    unfold snN sW
    by_cases cp : isOf K wh n
    · have l2 := l1 cp
      by_cases c : wh < wst K n
      · rw [pif_f (fun u => hB (u.2.mp c)), pif_t c, pif_t c, pif_t cp, pif_t cp]
        rw [Int.natCast_add, Int.natCast_add, Int.natCast_add, Int.natCast_add, ih]
        have e1 : (cntT (isOf K wh) n : Int) + ((1 : Nat) : Int) - ((cntT (fun f => wh < wst K f) n : Int) + ((1 : Nat) : Int)) = (cntT (isOf K wh) n : Int) - (cntT (fun f => wh < wst K f) n : Int) := by omega
        rw [e1]
        omega
      · rw [pif_t ⟨cp, ⟨fun u => absurd u c, fun u => absurd u hB⟩⟩, pif_f c, pif_f c, pif_t cp, pif_t cp]
        have hv : vN K wh B n = hiW (isOf K wh) (wN K) (nf K) - wN K n := by unfold vN; rw [pif_f hB]
        rw [hv, Int.natCast_add, Int.natCast_add, Int.natCast_add, Int.natCast_add, ih]
        have e1 : (cntT (isOf K wh) n : Int) + ((1 : Nat) : Int) - ((cntT (fun f => wh < wst K f) n : Int) + ((0 : Nat) : Int)) = (cntT (isOf K wh) n : Int) - (cntT (fun f => wh < wst K f) n : Int) + 1 := by omega
        rw [e1, Int.add_mul, Int.one_mul]
        omega
    · have c : ¬ wh < wst K n := fun u => cp (of_bad hw u)
      rw [pif_f (fun u => cp u.1), pif_f c, pif_f c, pif_f cp, pif_f cp]
      rw [Int.natCast_add, Int.natCast_add, Int.natCast_add, Int.natCast_add, ih]
      simp
theorem v_bd (w : WF K) (B : Prop) : ∀ i, i < nf K → isOf K wh i → 0 ≤ (fun i => (vN K wh B i : Int)) i ∧ (fun i => (vN K wh B i : Int)) i ≤ 160 := fun i hi _ => by
  have := vN_le (wh := wh) (B := B) w hi
  show 0 ≤ (vN K wh B i : Int) ∧ (vN K wh B i : Int) ≤ 160
  omega
theorem w_bd (w : WF K) : ∀ i, i < nf K → isOf K wh i → 0 ≤ (fun i => (wN K i : Int)) i ∧ (fun i => (wN K i : Int)) i ≤ 160 := fun i hi _ => by
  have := (cw_K w hi).2
  show 0 ≤ (wN K i : Int) ∧ (wN K i : Int) ≤ 160
  omega
theorem says_b (w : WF K) (hw : wh = nI 0 ∨ wh = nI 1) {B : Prop} (hB : B) : sumN (tb (isOf K wh) (fun i => (vN K wh B i : Int)) (nf K) (cntT (fun f => wh < wst K f) (nf K))) (snN (fun f => isOf K wh f ∧ (wh < wst K f ↔ B)) (vN K wh B) (nf K) + 1) = saysC K wh := by
  have hs := snB1 (K := K) hw hB (nf K) (Nat.le_refl _)
  rw [tb_sum]
  rw [zN_bd (nf K) _ (fun k s => if k = (cntT (fun f => wh < wst K f) (nf K) : Int) ∧ s < (snN (fun f => isOf K wh f ∧ (wh < wst K f ↔ B)) (vN K wh B) (nf K) : Int) + 1 then 1 else 0) (v_bd w B) (fun k s h1 h2 h3 h4 => by
    by_cases c : k = (cntT (fun f => wh < wst K f) (nf K) : Int) ∧ s < (snN (fun f => isOf K wh f ∧ (wh < wst K f ↔ B)) (vN K wh B) (nf K) : Int) + 1
    · rw [if_pos c, if_pos (by omega)]
    · rw [if_neg c, if_neg (by omega)])]
  rw [zN_w (w := fun i => (wN K i : Int) - (loW (isOf K wh) (wN K) (nf K) : Int)) (nf K) _ (fun i hi hp => by
    have l1 := (lo_le (P := isOf K wh) (w := wN K) (nf K)).2 i hi hp
    show (vN K wh B i : Int) = _
    unfold vN
    rw [pif_t hB]
    omega)]
  rw [zN_sh]
  unfold saysC
  refine zN_e (nf K) (fun k s => ?_)
  rw [hs]
  by_cases c : k = (cntT (fun f => wh < wst K f) (nf K) : Int)
  · subst c
    by_cases c2 : s < (snN (fun f => wh < wst K f) (wN K) (nf K) : Int) + 1
    · rw [if_pos ⟨rfl, by omega⟩, if_pos ⟨rfl, c2⟩]
    · rw [if_neg (fun u => by omega), if_neg (fun u => c2 u.2)]
  · rw [if_neg (fun u => c u.1), if_neg (fun u => c u.1)]
theorem says_n (w : WF K) (hw : wh = nI 0 ∨ wh = nI 1) {B : Prop} (hB : ¬ B) : sumN (tb (isOf K wh) (fun i => (vN K wh B i : Int)) (nf K) (cntT (isOf K wh) (nf K) - cntT (fun f => wh < wst K f) (nf K))) (snN (fun f => isOf K wh f ∧ (wh < wst K f ↔ B)) (vN K wh B) (nf K) + 1) = saysC K wh := by
  have hs := snB2 (K := K) w hw hB (nf K) (Nat.le_refl _)
  have hle := bd_le (K := K) hw (nf K)
  rw [tb_sum]
  rw [zN_bd (nf K) _ (fun k s => if k = (cntT (isOf K wh) (nf K) : Int) - (cntT (fun f => wh < wst K f) (nf K) : Int) ∧ s < (snN (fun f => isOf K wh f ∧ (wh < wst K f ↔ B)) (vN K wh B) (nf K) : Int) + 1 then 1 else 0) (v_bd w B) (fun k s h1 h2 h3 h4 => by
    by_cases c : k = (cntT (isOf K wh) (nf K) : Int) - (cntT (fun f => wh < wst K f) (nf K) : Int) ∧ s < (snN (fun f => isOf K wh f ∧ (wh < wst K f ↔ B)) (vN K wh B) (nf K) : Int) + 1
    · rw [if_pos c, if_pos (by omega)]
    · rw [if_neg c, if_neg (by omega)])]
  rw [zN_w (w := fun i => (hiW (isOf K wh) (wN K) (nf K) : Int) - (wN K i : Int)) (nf K) _ (fun i hi hp => by
    have l1 := (hi_le (P := isOf K wh) (w := wN K) (nf K) (fun g hg => (cw_K w hg).2)).2 i hi hp
    show (vN K wh B i : Int) = _
    unfold vN
    rw [pif_f hB]
    omega)]
  rw [zN_rf]
  unfold saysC
  refine zN_e (nf K) (fun k s => ?_)
  rw [hs]
  by_cases c : k = (cntT (fun f => wh < wst K f) (nf K) : Int)
  · subst c
    by_cases c2 : s < (snN (fun f => wh < wst K f) (wN K) (nf K) : Int) + 1
    · rw [if_pos ⟨rfl, by omega⟩, if_pos ⟨rfl, c2⟩]
    · rw [if_neg (fun u => by omega), if_neg (fun u => c2 u.2)]
  · rw [if_neg (fun u => by omega), if_neg (fun u => c u.1)]
theorem c82 (z : STS h 0 K) (hw : wh = nI 0 ∨ wh = nI 1) (h121 : 121 ≤ hz h) (hW : gP h 86 2 = none ∨ ∃ A, okW h A) : ∃ V h1 A T', ((gP h 86 2 = none ∧ h1 = nwW (sA h 87 V) ∧ A = hz h) ∨ (h1 = sA h 87 V ∧ okW h A)) ∧ ∀ d F, cwp true (d + 4) 82 [.ref 86, .int wh] h F = F (some (.int (nI (saysC K wh)))) (sA h1 A T') := by
  have w := z.1
  have q := z.2.1
  have hnf := w.hnf
  have hN := cnt_le (isOf K wh) (nf K)
  have hle := bd_le (K := K) hw (nf K)
  obtain ⟨V, a1, a2⟩ := c83 (wh := wh) z (cntT (fun f => wh < wst K f) (nf K) ≤ cntT (isOf K wh) (nf K) - cntT (fun f => wh < wst K f) (nf K))
  have qV := (STS_fr ((Fr.refl h).sA (a := 87) V (fun _ => rfl)) (Or.inl rfl) z).2.1
  have h18 := fun F d => cc18 d h F w q wh
  rw [lp_cnt] at h18
  have h80 := fun F d => c80 (wh := wh) w q d F
  have hbd := sn_le (Q := fun f => isOf K wh f ∧ (wh < wst K f ↔ cntT (fun f => wh < wst K f) (nf K) ≤ cntT (isOf K wh) (nf K) - cntT (fun f => wh < wst K f) (nf K))) (g := vN K wh (cntT (fun f => wh < wst K f) (nf K) ≤ cntT (isOf K wh) (nf K) - cntT (fun f => wh < wst K f) (nf K))) (nf K) (fun f hf => vN_le w hf)
  have hl := fun v2 v3 d F => cl82 z a1 v2 v3 d F (nf K) 0 (by omega)
  have hcB : ∀ n, cntT (fun f => wh < wst K f) n + cntT (fun f => isOf K wh f ∧ ¬ wh < wst K f) n = cntT (isOf K wh) n := by
    intro n
    induction n with
    | zero => rfl
    | succ n ih =>
      rw [cnt_s, cnt_s, cnt_s]
      by_cases c : wh < wst K n
      · rw [pif_t c, pif_f (fun u => u.2 c), pif_t (of_bad hw c)]; omega
      · by_cases cp : isOf K wh n
        · rw [pif_f c, pif_t ⟨cp, c⟩, pif_t cp]; omega
        · rw [pif_f c, pif_f (fun u => cp u.1), pif_f cp]; omega
  by_cases cB : cntT (fun f => wh < wst K f) (nf K) ≤ cntT (isOf K wh) (nf K) - cntT (fun f => wh < wst K f) (nf K)
  · have hsy := says_b w hw cB
    have hq : cntT (fun f => isOf K wh f ∧ (wh < wst K f ↔ cntT (fun f => wh < wst K f) (nf K) ≤ cntT (isOf K wh) (nf K) - cntT (fun f => wh < wst K f) (nf K))) (nf K) ≤ cntT (fun f => wh < wst K f) (nf K) := cnt_mo (nf K) (fun i _ u => u.2.mpr cB)
    obtain ⟨h1, A, T', b1, b2⟩ := c84 (h := sA h 87 V) (n := nf K) (c := cntT (fun f => wh < wst K f) (nf K)) (b := snN (fun f => isOf K wh f ∧ (wh < wst K f ↔ cntT (fun f => wh < wst K f) (nf K) ≤ cntT (isOf K wh) (nf K) - cntT (fun f => wh < wst K f) (nf K))) (vN K wh (cntT (fun f => wh < wst K f) (nf K) ≤ cntT (isOf K wh) (nf K) - cntT (fun f => wh < wst K f) (nf K))) (nf K)) (P := isOf K wh) (v := vN K wh (cntT (fun f => wh < wst K f) (nf K) ≤ cntT (isOf K wh) (nf K) - cntT (fun f => wh < wst K f) (nf K))) h121 hW (by rw [qV.hnf]; exact hnf.1) hnf.2 (fun f hf => by rw [q_ga]; exact a1 f hf) (fun f hf => vN_le w hf) (by omega) (by omega)
    refine ⟨V, h1, A, T', b1, fun d F => ?_⟩
    rw [hsy] at b2
    have a2' := fun F => a2 d F
    have b2' := fun F => b2 (d + 1) F
    have hl' := fun v2 v3 => hl v2 v3 (d + 2) F
    rw [q_bt cB] at a2' hl'
    generalize snN (fun f => isOf K wh f ∧ (wh < wst K f ↔ cntT (fun f => wh < wst K f) (nf K) ≤ cntT (isOf K wh) (nf K) - cntT (fun f => wh < wst K f) (nf K))) (vN K wh (cntT (fun f => wh < wst K f) (nf K) ≤ cntT (isOf K wh) (nf K) - cntT (fun f => wh < wst K f) (nf K))) (nf K) = bd at *
    generalize cntT (fun f => wh < wst K f) (nf K) = b at *
    generalize cntT (isOf K wh) (nf K) = N at *
    simp (disch := omega) only [r82_0, r82_1, r82_2, r82_5, r82_6, r82_7, r82_10, r82_11, r82_14, r82_15, r82_16, r82_17, r82_18, r82_19, r82_22, r82_23, r82_26, r82_27, r82_29, r82_30, r82_31, r82_33, r82_36, r82_37, r82_39, r82_40, e82, h80, h18, a2', kdC, kdM, rpC, rpM, q_rs, q_rn, Option.toList_some, Option.toList_none, List.cons_append, List.nil_append, true_and, and_true, eq_self, ↓reduceIte, not_true_eq_false, not_false_eq_true, Nat.reduceEqDiff, Nat.reduceLeDiff, Nat.reduceLT, Nat.reduceAdd, Nat.reduceMul, Nat.reduceSub, false_or, or_false, true_or, or_true, false_and, and_false, reduceCtorEq, q_n0, q_n1, q_em, q_em2, q_b0, q_b1, Classical.not_not, nI_add, pk_mul, nI_clamp, q_vp, nI_eq, nI_leI, nI_ltI, q_sub, show ¬ N - b < b by omega]
    refine Eq.trans (hl' (.int (nI b)) (.int (nI (N - b)))) ?_
    simp (disch := omega) only [r82_98, r82_99, r82_100, r82_101, r82_104, r82_106, r82_109, b2', kdC, kdM, rpC, rpM, q_rs, q_rn, Option.toList_some, Option.toList_none, List.cons_append, List.nil_append, true_and, and_true, eq_self, ↓reduceIte, not_true_eq_false, not_false_eq_true, Nat.reduceEqDiff, Nat.reduceLeDiff, Nat.reduceLT, Nat.reduceAdd, Nat.reduceMul, Nat.reduceSub, false_or, or_false, true_or, or_true, false_and, and_false, reduceCtorEq, q_n0, q_n1, q_em, q_em2, q_b0, q_b1, Classical.not_not, nI_add, pk_mul, nI_clamp, q_vp, nI_eq, nI_leI, nI_ltI, q_sub, show ¬ N - b < b by omega]
  · have hsy := says_n w hw cB
    have hq : cntT (fun f => isOf K wh f ∧ (wh < wst K f ↔ cntT (fun f => wh < wst K f) (nf K) ≤ cntT (isOf K wh) (nf K) - cntT (fun f => wh < wst K f) (nf K))) (nf K) ≤ cntT (fun f => isOf K wh f ∧ ¬ wh < wst K f) (nf K) := cnt_mo (nf K) (fun i _ u => ⟨u.1, fun v => cB (u.2.mp v)⟩)
    have hq2 := hcB (nf K)
    obtain ⟨h1, A, T', b1, b2⟩ := c84 (h := sA h 87 V) (n := nf K) (c := cntT (isOf K wh) (nf K) - cntT (fun f => wh < wst K f) (nf K)) (b := snN (fun f => isOf K wh f ∧ (wh < wst K f ↔ cntT (fun f => wh < wst K f) (nf K) ≤ cntT (isOf K wh) (nf K) - cntT (fun f => wh < wst K f) (nf K))) (vN K wh (cntT (fun f => wh < wst K f) (nf K) ≤ cntT (isOf K wh) (nf K) - cntT (fun f => wh < wst K f) (nf K))) (nf K)) (P := isOf K wh) (v := vN K wh (cntT (fun f => wh < wst K f) (nf K) ≤ cntT (isOf K wh) (nf K) - cntT (fun f => wh < wst K f) (nf K))) h121 hW (by rw [qV.hnf]; exact hnf.1) hnf.2 (fun f hf => by rw [q_ga]; exact a1 f hf) (fun f hf => vN_le w hf) (by omega) (by omega)
    refine ⟨V, h1, A, T', b1, fun d F => ?_⟩
    rw [hsy] at b2
    have a2' := fun F => a2 d F
    have b2' := fun F => b2 (d + 1) F
    have hl' := fun v2 v3 => hl v2 v3 (d + 2) F
    rw [q_bf cB] at a2' hl'
    generalize snN (fun f => isOf K wh f ∧ (wh < wst K f ↔ cntT (fun f => wh < wst K f) (nf K) ≤ cntT (isOf K wh) (nf K) - cntT (fun f => wh < wst K f) (nf K))) (vN K wh (cntT (fun f => wh < wst K f) (nf K) ≤ cntT (isOf K wh) (nf K) - cntT (fun f => wh < wst K f) (nf K))) (nf K) = bd at *
    generalize cntT (fun f => isOf K wh f ∧ ¬ wh < wst K f) (nf K) = b' at *
    generalize cntT (fun f => wh < wst K f) (nf K) = b at *
    generalize cntT (isOf K wh) (nf K) = N at *
    simp (disch := omega) only [r82_0, r82_1, r82_2, r82_5, r82_6, r82_7, r82_10, r82_11, r82_14, r82_15, r82_16, r82_17, r82_18, r82_19, r82_22, r82_23, r82_26, r82_27, r82_29, r82_30, r82_31, r82_33, r82_36, r82_37, r82_39, r82_40, e82, h80, h18, a2', kdC, kdM, rpC, rpM, q_rs, q_rn, Option.toList_some, Option.toList_none, List.cons_append, List.nil_append, true_and, and_true, eq_self, ↓reduceIte, not_true_eq_false, not_false_eq_true, Nat.reduceEqDiff, Nat.reduceLeDiff, Nat.reduceLT, Nat.reduceAdd, Nat.reduceMul, Nat.reduceSub, false_or, or_false, true_or, or_true, false_and, and_false, reduceCtorEq, q_n0, q_n1, q_em, q_em2, q_b0, q_b1, Classical.not_not, nI_add, pk_mul, nI_clamp, q_vp, nI_eq, nI_leI, nI_ltI, q_sub, show N - b < b by omega]
    refine Eq.trans (hl' (.int (nI b)) (.int (nI (N - b)))) ?_
    simp (disch := omega) only [r82_98, r82_99, r82_100, r82_101, r82_104, r82_106, r82_109, b2', kdC, kdM, rpC, rpM, q_rs, q_rn, Option.toList_some, Option.toList_none, List.cons_append, List.nil_append, true_and, and_true, eq_self, ↓reduceIte, not_true_eq_false, not_false_eq_true, Nat.reduceEqDiff, Nat.reduceLeDiff, Nat.reduceLT, Nat.reduceAdd, Nat.reduceMul, Nat.reduceSub, false_or, or_false, true_or, or_true, false_and, and_false, reduceCtorEq, q_n0, q_n1, q_em, q_em2, q_b0, q_b1, Classical.not_not, nI_add, pk_mul, nI_clamp, q_vp, nI_eq, nI_leI, nI_ltI, q_sub, show N - b < b by omega]
/-- inAll -/
theorem cl81 {N b : Nat} (hb : b ≤ N) (hN : N ≤ 24) (v1 : Value) (d : Nat) (F : Po) : ∀ k i, i + k = b → wp true d 81 21 [.ref 86, v1, .int (nI N), .int (nI b), .long (lN (chN (N - b + i) i)), jn, .int (nI (i + 1))] [] h F = F (some (.int (nI (chN N b)))) h
  | 0, i, e => by
    obtain rfl : i = b := e
    rw [r81_21, show N - i + i = N by omega]
    have := chN_le N i
    have h2 : 2 ^ N ≤ 2 ^ 24 := Nat.pow_le_pow_right (by omega) hN
    simp (disch := omega) only [e81, r81_0, r81_1, r81_4, r81_5, r81_8, r81_9, r81_10, r81_11, r81_14, r81_15, r81_16, r81_18, r81_19, r81_23, r81_24, r81_27, r81_29, r81_30, r81_31, r81_32, r81_34, r81_35, r81_36, r81_37, r81_39, r81_40, r81_41, r81_43, r81_46, r81_49, r81_51, r81_52, kdC, kdM, rpC, rpM, q_rs, q_rn, Option.toList_some, Option.toList_none, List.cons_append, List.nil_append, true_and, and_true, eq_self, ↓reduceIte, not_true_eq_false, not_false_eq_true, Nat.reduceEqDiff, Nat.reduceLeDiff, Nat.reduceLT, Nat.reduceAdd, Nat.reduceMul, Nat.reduceSub, false_or, or_false, true_or, or_true, false_and, and_false, reduceCtorEq, q_n0, q_n1, q_em, q_em2, q_b0, q_b1, Classical.not_not, nI_add, pk_mul, nI_clamp, q_vp, nI_eq, nI_leI, nI_ltI, q_sub, lN_i, show i < i + 1 by omega]
  | k + 1, i, e => by
    refine Eq.trans ?_ (cl81 hb hN v1 d F k (i + 1) (by omega))
    have hid := ch_id (N - b + i) i
    have hl := chN_le (N - b + i) i
    have h2 : 2 ^ (N - b + i) ≤ 2 ^ 24 := Nat.pow_le_pow_right (by omega) (by omega)
    have hdv : chN (N - b + i) i * (N - b + (i + 1)) / (i + 1) = chN (N - b + (i + 1)) (i + 1) := by
      rw [show N - b + (i + 1) = N - b + i + 1 by omega, Nat.mul_comm, ← hid, Nat.mul_comm, Nat.mul_div_cancel _ (by omega)]
    have hml : chN (N - b + i) i * (N - b + (i + 1)) ≤ 2 ^ 24 * 25 := Nat.mul_le_mul (by omega) (by omega)
    rw [← hdv, r81_21]
    generalize chN (N - b + i) i = C at *
    generalize hcm : C * (N - b + (i + 1)) = CM at *
    simp (disch := omega) only [r81_23, r81_24, r81_27, r81_29, r81_30, r81_31, r81_32, r81_34, r81_35, r81_36, r81_37, r81_39, r81_40, r81_41, r81_43, r81_46, kdC, kdM, rpC, rpM, q_rs, q_rn, Option.toList_some, Option.toList_none, List.cons_append, List.nil_append, true_and, and_true, eq_self, ↓reduceIte, not_true_eq_false, not_false_eq_true, Nat.reduceEqDiff, Nat.reduceLeDiff, Nat.reduceLT, Nat.reduceAdd, Nat.reduceMul, Nat.reduceSub, false_or, or_false, true_or, or_true, false_and, and_false, reduceCtorEq, q_n0, q_n1, q_em, q_em2, q_b0, q_b1, Classical.not_not, nI_add, pk_mul, nI_clamp, q_vp, nI_eq, nI_leI, nI_ltI, q_sub, nI_l, lN_mul, pk_lDiv, pk_lEQ, hcm, show ¬ b < i + 1 by omega]
theorem c81 (z : STS h 0 K) (hw : wh = nI 0 ∨ wh = nI 1) (d : Nat) (F : Po) : cwp true (d + 4) 81 [.ref 86, .int wh] h F = F (some (.int (nI (chN (cntT (isOf K wh) (nf K)) (cntT (fun f => wh < wst K f) (nf K)))))) h := by
  have w := z.1
  have q := z.2.1
  have hnf := w.hnf
  have hN := cnt_le (isOf K wh) (nf K)
  have hle := bd_le (K := K) hw (nf K)
  have h18 := fun F d => cc18 d h F w q wh
  rw [lp_cnt] at h18
  have h80 := fun F d => c80 (wh := wh) w q d F
  have hl := cl81 (h := h) hle (by omega) (.int wh) (d + 4) F (cntT (fun f => wh < wst K f) (nf K)) 0 (by omega)
  rw [ch_0] at hl
  refine Eq.trans ?_ hl
  simp (disch := omega) only [r81_0, r81_1, r81_4, r81_5, r81_8, r81_9, r81_10, r81_11, r81_14, r81_15, r81_16, r81_18, r81_19, e81, h18, h80, kdC, kdM, rpC, rpM, q_rs, q_rn, Option.toList_some, Option.toList_none, List.cons_append, List.nil_append, true_and, and_true, eq_self, ↓reduceIte, not_true_eq_false, not_false_eq_true, Nat.reduceEqDiff, Nat.reduceLeDiff, Nat.reduceLT, Nat.reduceAdd, Nat.reduceMul, Nat.reduceSub, false_or, or_false, true_or, or_true, false_and, and_false, reduceCtorEq, q_n0, q_n1, q_em, q_em2, q_b0, q_b1, Classical.not_not]
end SC
