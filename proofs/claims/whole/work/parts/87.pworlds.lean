/-! worlds drawn: the model -/
theorem m242 {h : Hp} {x : Nat} (hx : gI h 101 34 = nI x) (hl : x < 1000003) (d : Nat) (F : Po) : cwp true d 242 [.ref 101, .int (nI 100)] h F = F (some (.int (nI (nxd x % 100)))) (sI h 101 34 (nI (nxd x))) := by
  have hmod : 1103 * x + 12345 - (1103 * x + 12345) / 1000003 * 1000003 = nxd x := by
    unfold nxd
    have := Nat.div_add_mod (x * 1103 + 12345) 1000003
    rw [Nat.mul_comm 1103 x]
    omega
  have hmod2 : ∀ n, n - n / 100 * 100 = n % 100 := fun n => by omega
  have hnl := nxd_lt x
  simp (disch := omega) only [e242, r242_0, r242_1, r242_4, r242_5, r242_8, r242_9, r242_10, r242_13, r242_14, r242_17, r242_18, r242_19, r242_22, r242_23, r242_26, r242_27, r242_28, hx, kdC, kdM, rpC, rpM, q_rs, q_rn, Option.toList_some, Option.toList_none, List.cons_append, List.nil_append, true_and, and_true, eq_self, ↓reduceIte, not_true_eq_false, not_false_eq_true, Nat.reduceEqDiff, Nat.reduceLeDiff, Nat.reduceLT, Nat.reduceAdd, Nat.reduceMul, Nat.reduceSub, false_or, or_false, true_or, or_true, false_and, and_false, reduceCtorEq, q_n0, q_n1, q_em, q_em2, q_b0, q_b1, Classical.not_not, nI_add, pk_mul, nI_clamp, q_vp, nI_eq, nI_leI, nI_ltI, q_sub, q_gs, q_gn, q_gm, q_gIJ, q_gIP, q_gJI, q_gJA, q_gJP, q_gPI, q_gPA, q_gPJ, q_ga, q_gan, q_js, q_jn, q_jm, q_ps, q_pn, q_pm, nI_l, lN_mul, lN_add, pk_lDiv, lN_sub, lN_i, pk_lEQ, pk_div, hmod, hmod2, q_gs]
def mhS (a i : Nat) : Bool := mwS a i || (Nat.beq a 101 && Nat.beq i 34)
theorem Mw_mh {h h' : Hp} (x : FrS mwS h h') : FrS mhS h h' := x.mono (fun a i e => (bor e).1)
theorem Mh_fr {h h' : Hp} (x : FrS mhS h h') : Fr h h' := x.mono (fun a i e => by
  unfold mhS mwS mtS ms
  cases q1 : Nat.beq a 112 with
  | true => obtain rfl := Nat.eq_of_beq_eq_true q1; cases e
  | false =>
    cases q2 : Nat.beq a 119 with
    | true => obtain rfl := Nat.eq_of_beq_eq_true q2; cases e
    | false =>
      cases q3 : Nat.beq a 120 with
      | true => obtain rfl := Nat.eq_of_beq_eq_true q3; cases e
      | false =>
        cases q4 : Nat.beq a 101 with
        | false => rfl
        | true =>
          obtain rfl := Nat.eq_of_beq_eq_true q4
          have hs : scr 101 i = (Nat.ble 10 i || false) := rfl
          have hi : ¬ 10 ≤ i := by
            intro z
            rw [hs, Nat.ble_eq_true_of_le z] at e
            cases e
          cases q5 : Nat.ble 17 i with
          | true => have := Nat.le_of_ble_eq_true q5; omega
          | false =>
            cases q6 : Nat.beq i 33 with
            | true => have := Nat.eq_of_beq_eq_true q6; omega
            | false =>
              cases q7 : Nat.beq i 32 with
              | true => have := Nat.eq_of_beq_eq_true q7; omega
              | false =>
                cases q8 : Nat.beq i 34 with
                | true => have := Nat.eq_of_beq_eq_true q8; omega
                | false => rfl)
section MW
variable {h : Hp} {K : Nat → Int32} {T Ts : Tk} {tm ts x : Nat} {σ : Nat → Nat}
theorem whD_s (t p : Nat) : ∀ k, (∀ j, p ≤ j → j < p + k → ¬ isSent K (σ j)) → whD K T σ x t (p + k) = whD K T σ x t p ∧ whX K σ x (p + k) = whX K σ x p
  | 0, _ => ⟨rfl, rfl⟩
  | k + 1, hh => by
    obtain ⟨i1, i2⟩ := whD_s t p k (fun j h1 h2 => hh j h1 (by omega))
    have hb := hh (p + k) (by omega) (by omega)
    refine ⟨?_, ?_⟩
    · show pif (isSent K (σ (p + k)) ∧ _) _ _ = _
      rw [pif_f (fun u => hb u.1)]; exact i1
    · show pif (isSent K (σ (p + k))) _ _ = _
      rw [pif_f hb]; exact i2
theorem sbt_no (hσ : isTurn K σ) {j : Nat} (hj : j < ns K) (e : (sbt K (ns K)).testBit (σ j) = false) : ¬ isSent K (σ j) := fun u => by
  rw [(sbt_bit K (ns K) (σ j)).mpr ⟨hσ.1 j hj, u⟩] at e; cases e
theorem ml246h (hK : gI h 103 = K) (w : WF K) (htm : tm < 10) (te : tEq K tm T) (hσ : isTurn K σ) (hx : x < 1000003) (v2 v6 : Value) : ∀ n p l h0, ns K - p ≤ n → p ≤ ns K → atP K σ l p → FrS mhS h h0 → (∀ u, u < nt K → MD h0 u = whD K T σ x u p) → gI h0 101 34 = nI (whX K σ x p) → ∃ h', FrS mhS h h' ∧ (∀ u, u < nt K → MD h' u = whD K T σ x u (ns K)) ∧ gI h' 101 34 = nI (whX K σ x (ns K)) ∧ ∀ d F, wp true (d + 69) 246 53 [.ref 101, .int (nI tm), v2, .int (nI (sbt K (ns K))), .int (nI 1), .int (on (q_lp (afB K (sbt K (ns K)) l) (ns K) 0 none)), v6] [] h0 F = wp true (d + 69) 246 97 [.ref 101, .int (nI tm), v2, .int (nI (sbt K (ns K))), .int (nI 1), .int (-1), v6] [] h' F := by
  have h1 := w.hns
  have hP : 2 ^ ns K ≤ 2 ^ 12 := Nat.pow_le_pow_right (by omega) h1.2
  have hM : sbt K (ns K) < 4096 := by have := sbt_lt K (ns K); omega
  intro n
  induction n with
  | zero =>
    intro p l h0 hn hp hl y i1 i2
    obtain rfl : p = ns K := by omega
    rcases af_turn (M := sbt K (ns K)) hσ hl with ⟨q1, _⟩ | ⟨i, a1, a2, _⟩
    · refine ⟨h0, y, i1, i2, fun d F => ?_⟩
      rw [q1, r246_53]
      simp (disch := omega) only [r246_55, r246_56, on_n, kdC, kdM, rpC, rpM, q_rs, q_rn, Option.toList_some, Option.toList_none, List.cons_append, List.nil_append, true_and, and_true, eq_self, ↓reduceIte, not_true_eq_false, not_false_eq_true, Nat.reduceEqDiff, Nat.reduceLeDiff, Nat.reduceLT, Nat.reduceAdd, Nat.reduceMul, Nat.reduceSub, false_or, or_false, true_or, or_true, false_and, and_false, reduceCtorEq, q_n0, q_n1, q_em, q_em2, q_b0, q_b1, Classical.not_not]
    · omega
  | succ n ih =>
    intro p l h0 hn hp hl y i1 i2
    have hK0 : gI h0 103 = K := (Mh_fr y).K.trans hK
    rcases af_turn (M := sbt K (ns K)) hσ hl with ⟨q1, q2⟩ | ⟨i, a1, a2, a3, a4, a5⟩
    · have hsk := fun u => whD_s (K := K) (T := T) (σ := σ) (x := x) u p (ns K - p) (fun j b1 b2 => sbt_no hσ (by omega) (q2 j b1 (by omega)))
      rw [show p + (ns K - p) = ns K by omega] at hsk
      refine ⟨h0, y, fun u hu => by rw [(hsk u).1]; exact i1 u hu, by rw [(hsk 0).2]; exact i2, fun d F => ?_⟩
      rw [q1, r246_53]
      simp (disch := omega) only [r246_55, r246_56, on_n, kdC, kdM, rpC, rpM, q_rs, q_rn, Option.toList_some, Option.toList_none, List.cons_append, List.nil_append, true_and, and_true, eq_self, ↓reduceIte, not_true_eq_false, not_false_eq_true, Nat.reduceEqDiff, Nat.reduceLeDiff, Nat.reduceLT, Nat.reduceAdd, Nat.reduceMul, Nat.reduceSub, false_or, or_false, true_or, or_true, false_and, and_false, reduceCtorEq, q_n0, q_n1, q_em, q_em2, q_b0, q_b1, Classical.not_not]
    · have hsk := fun u => whD_s (K := K) (T := T) (σ := σ) (x := x) u p (i - p) (fun j b1 b2 => sbt_no hσ (by omega) (a5 j b1 (by omega)))
      rw [show p + (i - p) = i by omega] at hsk
      have hs := hσ.1 i a2
      have hse : isSent K (σ i) := ((sbt_bit K (ns K) (σ i)).mp a4).2
      have i1' : ∀ u, u < nt K → MD h0 u = whD K T σ x u i := fun u hu => by rw [(hsk u).1]; exact i1 u hu
      have i2' : gI h0 101 34 = nI (whX K σ x i) := by rw [(hsk 0).2]; exact i2
      have hX : whX K σ x (i + 1) = nxd (whX K σ x i) := by
        show pif (isSent K (σ i)) _ _ = _
        rw [pif_t hse]
      have h242 := fun F d => m242 i2' (whX_lt hx i) d F
      have y1 : FrS mhS h0 (sI h0 101 34 (nI (nxd (whX K σ x i)))) := (FrS.refl h0).sI _ rfl
      have hK1 : gI (sI h0 101 34 (nI (nxd (whX K σ x i)))) 103 = K := (Mh_fr y1).K.trans hK0
      have hmd : ∀ u, MD (sI h0 101 34 (nI (nxd (whX K σ x i)))) u = MD h0 u := fun u => by unfold MD; rw [q_gn (by omega), q_gn (by omega)]
      have g34 : gI (sI h0 101 34 (nI (nxd (whX K σ x i)))) 101 34 = nI (nxd (whX K σ x i)) := q_gs _ _ _ _
      generalize sI h0 101 34 (nI (nxd (whX K σ x i))) = g0 at *
      have hl2 : atP K σ (some (σ i)) (i + 1) := Or.inr ⟨i, a2, rfl, rfl⟩
      have t2 := fun F d => c149 d g0 F hK1 (show 2 < 4 by omega)
      by_cases c : nI (nxd (whX K σ x i) % 100) < K 218
      · obtain ⟨h', c1, c2, c3, c4⟩ := ih (i + 1) (some (σ i)) g0 (by omega) (by omega) hl2 (y.trans y1) (by
          intro u hu
          rw [hmd, i1' u hu]
          show _ = pif (isSent K (σ i) ∧ ¬ nI (nxd (whX K σ x i) % 100) < K 218) _ _
          rw [pif_f (fun z => z.2 c)]) (by rw [hX]; exact g34)
        refine ⟨h', c1, c2, c3, fun d F => ?_⟩
        have h245 := fun F d => m245 (h := g0) hK1 w hM (l := some (σ i)) (fun j ej => by cases ej; exact hs) d F
        rw [on_s] at h245
        refine Eq.trans ?_ (c4 d F)
        rw [a3, r246_53]
        simp (disch := omega) only [r246_55, r246_56, r246_59, r246_61, r246_64, r246_65, r246_67, r246_70, r246_71, r246_72, r246_75, r246_78, r246_79, r246_81, r246_82, r246_85, r246_86, r246_87, r246_89, r246_92, r246_94, h242, t2, c, h245, on_s, q_nm, kdC, kdM, rpC, rpM, q_rs, q_rn, Option.toList_some, Option.toList_none, List.cons_append, List.nil_append, true_and, and_true, eq_self, ↓reduceIte, not_true_eq_false, not_false_eq_true, Nat.reduceEqDiff, Nat.reduceLeDiff, Nat.reduceLT, Nat.reduceAdd, Nat.reduceMul, Nat.reduceSub, false_or, or_false, true_or, or_true, false_and, and_false, reduceCtorEq, q_n0, q_n1, q_em, q_em2, q_b0, q_b1, Classical.not_not, nI_add, pk_mul, nI_clamp, q_vp, nI_eq, nI_leI, nI_ltI, q_sub]
      · obtain ⟨g, b1, b2, b3, b4⟩ := m244 (T := T) hK1 w htm te hs (fun u hu => by rw [hmd, i1' u hu]; exact whD_o w hu i)
        have hKg : gI g 103 = K := (Mt_fr b1).K.trans hK1
        obtain ⟨h', c1, c2, c3, c4⟩ := ih (i + 1) (some (σ i)) g (by omega) (by omega) hl2 (y.trans (y1.trans (Mw_mh (Mt_mw b1)))) (by
          intro u hu
          rw [b2 u hu, hmd, i1' u hu]
          show _ = pif (isSent K (σ i) ∧ ¬ nI (nxd (whX K σ x i) % 100) < K 218) _ _
          rw [pif_t ⟨hse, c⟩]) (by rw [hX, b1.g (a := 101) (i := 34) rfl]; exact g34)
        refine ⟨h', c1, c2, c3, fun d F => ?_⟩
        have b4' := fun F => b4 d F
        have h245 := fun F d => m245 (h := g) hKg w hM (l := some (σ i)) (fun j ej => by cases ej; exact hs) d F
        rw [on_s] at h245
        refine Eq.trans ?_ (c4 d F)
        rw [a3, r246_53]
        simp (disch := omega) only [r246_55, r246_56, r246_59, r246_61, r246_64, r246_65, r246_67, r246_70, r246_71, r246_72, r246_75, r246_78, r246_79, r246_81, r246_82, r246_85, r246_86, r246_87, r246_89, r246_92, r246_94, h242, t2, c, b4', h245, on_s, q_nm, kdC, kdM, rpC, rpM, q_rs, q_rn, Option.toList_some, Option.toList_none, List.cons_append, List.nil_append, true_and, and_true, eq_self, ↓reduceIte, not_true_eq_false, not_false_eq_true, Nat.reduceEqDiff, Nat.reduceLeDiff, Nat.reduceLT, Nat.reduceAdd, Nat.reduceMul, Nat.reduceSub, false_or, or_false, true_or, or_true, false_and, and_false, reduceCtorEq, q_n0, q_n1, q_em, q_em2, q_b0, q_b1, Classical.not_not, nI_add, pk_mul, nI_clamp, q_vp, nI_eq, nI_leI, nI_ltI, q_sub]
theorem m246h (hK : gI h 103 = K) (w : WF K) (htm : tm < 10) (te : tEq K tm T) (hts : ts < 10) (te2 : tEq K ts Ts) (hσ : isTurn K σ) (hx : x < 1000003) (h34 : gI h 101 34 = nI x) : ∃ h', FrS mhS h h' ∧ gI h' 101 34 = nI (whX K σ x (ns K)) ∧ ∀ d F, cwp true (d + 69) 246 [.ref 101, .int (nI tm), .int (nI ts), .int (nI (sbt K (ns K))), .int (nI 1)] h F = F (some (.int (nI (whC K T Ts σ x)))) h' := by
  have h1 := w.hns
  have hP : 2 ^ ns K ≤ 2 ^ 12 := Nat.pow_le_pow_right (by omega) h1.2
  have hM : sbt K (ns K) < 4096 := by have := sbt_lt K (ns K); omega
  obtain ⟨g1, a1, a2, a3⟩ := ml246a hK w (.int (nI tm)) (.int (nI ts)) (.int (nI (sbt K (ns K)))) (.int (nI 1)) jn (nt K) 0 h (by omega) (FrS.refl h) (fun u hu => by omega)
  have x1 : FrS mtS h (sI g1 101 33 (-1)) := a1.sI _ rfl
  have hK1 : gI (sI g1 101 33 (-1)) 103 = K := (Mt_fr x1).K.trans hK
  have md1 : ∀ u, MD (sI g1 101 33 (-1)) u = MD g1 u := fun u => by unfold MD; rw [q_gn (by omega), q_gn (by omega)]
  obtain ⟨g2, b1, b2, b3, b4⟩ := ml246h (T := T) (tm := tm) (x := x) hK w htm te hσ hx (.int (nI ts)) jn (ns K) 0 none (sI g1 101 33 (-1)) (by omega) (by omega) (Or.inl ⟨rfl, rfl⟩) (Mw_mh (Mt_mw x1)) (fun u hu => by rw [md1]; exact a2 u hu) (by rw [x1.g (a := 101) (i := 34) rfl]; exact h34)
  have x3 : FrS mhS h (sI g2 101 32 (nI 0)) := b1.sI _ rfl
  have hK3 : gI (sI g2 101 32 (nI 0)) 103 = K := (Mh_fr x3).K.trans hK
  have md3 : ∀ u, MD (sI g2 101 32 (nI 0)) u = MD g2 u := fun u => by unfold MD; rw [q_gn (by omega), q_gn (by omega)]
  obtain ⟨g4, c1, c2, c3⟩ := ml246c (T := Ts) (ts := ts) hK3 w hts te2 (.int (nI tm)) (.int (nI (sbt K (ns K)))) (.int (nI 1)) (nt K) 0 (sI g2 101 32 (nI 0)) (by omega) (FrS.refl _) (q_gs _ _ _ _)
  have hcn : cntT (fun t => isStp K Ts t (MD (sI g2 101 32 (nI 0)) t)) (nt K) = whC K T Ts σ x := cnt_cg (nt K) (fun t ht => by show isStp K Ts t (MD (sI g2 101 32 (nI 0)) t) ↔ isStp K Ts t (whD K T σ x t (ns K)); rw [md3, b2 t (by omega)])
  rw [hcn] at c3
  refine ⟨g4, x3.trans (Mw_mh (Mv_mw c1)), ?_, fun d F => ?_⟩
  · rw [c1.g (a := 101) (i := 34) rfl, q_gm (by omega)]; exact b3
  · have h245 := fun F d => m245 (h := sI g1 101 33 (-1)) hK1 w hM (l := none) (fun j ej => by cases ej) d F
    rw [on_n] at h245
    simp (disch := omega) only [r246_0, r246_1, e246]
    refine Eq.trans (a3 (d + 68) F) ?_
    simp (disch := omega) only [r246_40, r246_41, r246_42, r246_45, r246_46, r246_47, r246_48, r246_51, h245, kdC, kdM, rpC, rpM, q_rs, q_rn, Option.toList_some, Option.toList_none, List.cons_append, List.nil_append, true_and, and_true, eq_self, ↓reduceIte, not_true_eq_false, not_false_eq_true, Nat.reduceEqDiff, Nat.reduceLeDiff, Nat.reduceLT, Nat.reduceAdd, Nat.reduceMul, Nat.reduceSub, false_or, or_false, true_or, or_true, false_and, and_false, reduceCtorEq, q_n0, q_n1, q_em, q_em2, q_b0, q_b1, Classical.not_not]
    refine Eq.trans (b4 d F) ?_
    simp (disch := omega) only [r246_97, r246_98, r246_99, r246_102, r246_103, r246_105, r246_106, kdC, kdM, rpC, rpM, q_rs, q_rn, Option.toList_some, Option.toList_none, List.cons_append, List.nil_append, true_and, and_true, eq_self, ↓reduceIte, not_true_eq_false, not_false_eq_true, Nat.reduceEqDiff, Nat.reduceLeDiff, Nat.reduceLT, Nat.reduceAdd, Nat.reduceMul, Nat.reduceSub, false_or, or_false, true_or, or_true, false_and, and_false, reduceCtorEq, q_n0, q_n1, q_em, q_em2, q_b0, q_b1, Classical.not_not]
    exact c3 (d + 1) F
theorem ml258 (hK : gI h 103 = K) (w : WF K) (htm : tm < 10) (te : tEq K tm T) (hts : ts < 10) (te2 : tEq K ts Ts) (hσ : isTurn K σ) {n : Nat} (hn : n ≤ 60) (v4 : Value) : ∀ k i x c h0, i + k = n → x < 1000003 → c ≤ i → FrS mhS h h0 → gI h0 101 34 = nI x → ∃ h', FrS mhS h h' ∧ ∀ d F, wp true (d + 71) 258 51 [.ref 101, .int (nI tm), .int (nI ts), .int (nI n), v4, .int (nI c), .int (nI i)] [] h0 F = F (some (.int (nI (c + whN K T Ts σ k x)))) h'
  | 0, i, x, c, h0, e, hx, hc, y, h34 => by
    obtain rfl : i = n := e
    refine ⟨h0, y, fun d F => ?_⟩
    rw [r258_51]
    simp (disch := omega) only [e258, r258_0, r258_1, r258_2, r258_5, r258_8, r258_9, r258_10, r258_13, r258_16, r258_17, r258_18, r258_20, r258_23, r258_26, r258_28, r258_29, r258_31, r258_34, r258_37, r258_38, r258_39, r258_40, r258_42, r258_45, r258_46, r258_48, r258_49, r258_53, r258_54, r258_57, r258_59, r258_60, r258_61, r258_62, r258_63, r258_66, r258_67, r258_70, r258_73, r258_74, r258_77, r258_78, r258_79, r258_81, r258_84, r258_87, r258_89, kdC, kdM, rpC, rpM, q_rs, q_rn, Option.toList_some, Option.toList_none, List.cons_append, List.nil_append, true_and, and_true, eq_self, ↓reduceIte, not_true_eq_false, not_false_eq_true, Nat.reduceEqDiff, Nat.reduceLeDiff, Nat.reduceLT, Nat.reduceAdd, Nat.reduceMul, Nat.reduceSub, false_or, or_false, true_or, or_true, false_and, and_false, reduceCtorEq, q_n0, q_n1, q_em, q_em2, q_b0, q_b1, Classical.not_not, nI_add, pk_mul, nI_clamp, q_vp, nI_eq, nI_leI, nI_ltI, q_sub, Nat.le_refl]
    rfl
  | k + 1, i, x, c, h0, e, hx, hc, y, h34 => by
    have hK0 : gI h0 103 = K := (Mh_fr y).K.trans hK
    obtain ⟨g, b1, b2, b3⟩ := m246h (T := T) (Ts := Ts) hK0 w htm te hts te2 hσ hx h34
    have hKg : gI g 103 = K := (Mh_fr b1).K.trans hK0
    have hnt := w.hnt
    have hC : whC K T Ts σ x ≤ 12 := by have := cnt_le (fun t => isStp K Ts t (whD K T σ x t (ns K))) (nt K); unfold whC; omega
    have t1 := fun F d => c149 d g F hKg (show 1 < 4 by omega)
    by_cases cc : nI (whC K T Ts σ x) < K 217
    · obtain ⟨h', a1, a2⟩ := ml258 hK w htm te hts te2 hσ hn v4 k (i + 1) (whX K σ x (ns K)) c g (by omega) (whX_lt hx _) (by omega) (y.trans b1) b2
      refine ⟨h', a1, fun d F => ?_⟩
      show _ = F (some (.int (nI (c + (pif (nI (whC K T Ts σ x) < K 217) 0 1 + whN K T Ts σ k (whX K σ x (ns K))))))) h'
      rw [pif_t cc, Nat.zero_add]
      refine Eq.trans ?_ (a2 d F)
      have b4 := fun F => b3 d F
      rw [r258_51]
      simp (disch := omega) only [e258, r258_0, r258_1, r258_2, r258_5, r258_8, r258_9, r258_10, r258_13, r258_16, r258_17, r258_18, r258_20, r258_23, r258_26, r258_28, r258_29, r258_31, r258_34, r258_37, r258_38, r258_39, r258_40, r258_42, r258_45, r258_46, r258_48, r258_49, r258_53, r258_54, r258_57, r258_59, r258_60, r258_61, r258_62, r258_63, r258_66, r258_67, r258_70, r258_73, r258_74, r258_77, r258_78, r258_79, r258_81, r258_84, r258_87, r258_89, e247, r247_0, r247_1, r247_2, r247_3, r247_4, r247_6, r247_9, r247_10, r247_11, r247_14, r247_17, r247_18, r247_21, r247_22, m241 _ h0 _ hK0 w, b4, t1, cc, kdC, kdM, rpC, rpM, q_rs, q_rn, Option.toList_some, Option.toList_none, List.cons_append, List.nil_append, true_and, and_true, eq_self, ↓reduceIte, not_true_eq_false, not_false_eq_true, Nat.reduceEqDiff, Nat.reduceLeDiff, Nat.reduceLT, Nat.reduceAdd, Nat.reduceMul, Nat.reduceSub, false_or, or_false, true_or, or_true, false_and, and_false, reduceCtorEq, q_n0, q_n1, q_em, q_em2, q_b0, q_b1, Classical.not_not, nI_add, pk_mul, nI_clamp, q_vp, nI_eq, nI_leI, nI_ltI, q_sub, Nat.add_zero, show ¬ n ≤ i by omega]
    · obtain ⟨h', a1, a2⟩ := ml258 hK w htm te hts te2 hσ hn v4 k (i + 1) (whX K σ x (ns K)) (c + 1) g (by omega) (whX_lt hx _) (by omega) (y.trans b1) b2
      refine ⟨h', a1, fun d F => ?_⟩
      show _ = F (some (.int (nI (c + (pif (nI (whC K T Ts σ x) < K 217) 0 1 + whN K T Ts σ k (whX K σ x (ns K))))))) h'
      rw [pif_f cc, show c + (1 + whN K T Ts σ k (whX K σ x (ns K))) = c + 1 + whN K T Ts σ k (whX K σ x (ns K)) by omega]
      refine Eq.trans ?_ (a2 d F)
      have b4 := fun F => b3 d F
      rw [r258_51]
      simp (disch := omega) only [e258, r258_0, r258_1, r258_2, r258_5, r258_8, r258_9, r258_10, r258_13, r258_16, r258_17, r258_18, r258_20, r258_23, r258_26, r258_28, r258_29, r258_31, r258_34, r258_37, r258_38, r258_39, r258_40, r258_42, r258_45, r258_46, r258_48, r258_49, r258_53, r258_54, r258_57, r258_59, r258_60, r258_61, r258_62, r258_63, r258_66, r258_67, r258_70, r258_73, r258_74, r258_77, r258_78, r258_79, r258_81, r258_84, r258_87, r258_89, e247, r247_0, r247_1, r247_2, r247_3, r247_4, r247_6, r247_9, r247_10, r247_11, r247_14, r247_17, r247_18, r247_21, r247_22, m241 _ h0 _ hK0 w, b4, t1, cc, kdC, kdM, rpC, rpM, q_rs, q_rn, Option.toList_some, Option.toList_none, List.cons_append, List.nil_append, true_and, and_true, eq_self, ↓reduceIte, not_true_eq_false, not_false_eq_true, Nat.reduceEqDiff, Nat.reduceLeDiff, Nat.reduceLT, Nat.reduceAdd, Nat.reduceMul, Nat.reduceSub, false_or, or_false, true_or, or_true, false_and, and_false, reduceCtorEq, q_n0, q_n1, q_em, q_em2, q_b0, q_b1, Classical.not_not, nI_add, pk_mul, nI_clamp, q_vp, nI_eq, nI_leI, nI_ltI, q_sub, show ¬ n ≤ i by omega]
end MW
theorem p_worlds {n : Nat} {h : Hp} (z : Inv n h) (a b e c : Int32) : PRI n h 120 258 [.int a, .int b, .int e, .int c] := by
  intro d
  have w := z.1.1
  have hn := w.hnx
  by_cases hE : nI 1 ≤ e ∧ e ≤ nI 60
  · by_cases hC : nI 0 ≤ c ∧ c ≤ nI 1000000
    · by_cases hAB : (nI 0 ≤ a ∧ a < nI (nx (gI h 103))) ∧ (nI 0 ≤ b ∧ b < nI (nx (gI h 103)))
      · obtain ⟨hA, hB⟩ := hAB
        obtain ⟨t1, ht1, rfl⟩ := q_ix (by omega) hA.1 hA.2
        obtain ⟨t2, ht2, rfl⟩ := q_ix (by omega) hB.1 hB.2
        obtain ⟨x, hx, rfl⟩ := q_ix2 (by omega) hC.1 hC.2
        obtain ⟨m, hm, rfl⟩ := q_ix2 (x := e) (m := 60) (by omega) (by
          have := hE.1
          rw [Int32.le_iff_toInt_le] at *
          have k1 : (nI 1).toInt = 1 := by decide
          have k0 : (nI 0).toInt = 0 := by decide
          omega) hE.2
        obtain ⟨s1, T1, p1, p2, p3⟩ := z.1.2.2.1 t1 ht1
        obtain ⟨s2, T2, r1, r2, r3⟩ := z.1.2.2.1 t2 ht2
        obtain ⟨σ, hσ, hu⟩ := z.1.2.2.2
        obtain ⟨h1, mm, wf, x1, x2, x3, x4, x5, x6, x7⟩ := c136 z (v := nI 1) (Or.inr rfl) ht1 ht2 p1 r1
        have z1 := STS_fr x1 (Or.inl rfl) z.1
        obtain ⟨h2, y1, y2⟩ := cl77 (T := T1) (Ts := T2) z1 x2 p3 (tAt_fr x1 p2) x3 r3 (tAt_fr x1 r2) x4 x5 hσ (fun i hi => by rw [x1.g (a := 23) (i := i) rfl]; exact hu i hi) (n := m) (by omega) (.int (nI x)) m 0 x 0 h1 jn jn (by omega) (by omega) (by omega) (FrS.refl h1) (fun i hi => x6 i (by omega))
        have f2 := x1.trans (Tk_fr y1)
        obtain ⟨h3, v1, v2⟩ := ml258 (h := sI h2 101 34 (nI x)) (T := T1) (Ts := T2) (tm := t1) (ts := t2) (K := gI h 103) (by rw [q_gn (by omega)]; exact f2.K) w (by omega) p3 (by omega) r3 hσ (n := m) (by omega) (.int (nI x)) m 0 x 0 (sI h2 101 34 (nI x)) (by omega) (by omega) (by omega) (FrS.refl _) (q_gs _ _ _ _)
        have f3 : Fr h h3 := (f2.sI _ rfl).trans (Mh_fr v1)
        refine ⟨nI (0 + whN (gI h 103) T1 T2 σ m x), h2, h3, fun F => ?_, fun F => ?_, Inv_fr f3 z⟩
        · have x7' := fun F => x7 (d + 896) F
          have y2' := fun F => y2 (d + 893) F
          simp (disch := omega) only [e120, r120_0, r120_1, r120_2, r120_4, r120_7, r120_10, r120_12, r120_13, r120_16, r120_19, r120_22, r120_23, r120_24, r120_25, r120_26, r120_29, r120_32, r120_33, r120_34, r120_35, r120_38, r120_39, r120_41, r120_44, c125, hE, hC, x7', e77, r77_0, r77_1, r77_2, r77_3, r77_5, r77_6, kdC, kdM, rpC, rpM, q_rs, q_rn, Option.toList_some, Option.toList_none, List.cons_append, List.nil_append, true_and, and_true, eq_self, ↓reduceIte, not_true_eq_false, not_false_eq_true, Nat.reduceEqDiff, Nat.reduceLeDiff, Nat.reduceLT, Nat.reduceAdd, Nat.reduceMul, Nat.reduceSub, false_or, or_false, true_or, or_true, false_and, and_false, reduceCtorEq, q_n0, q_n1, q_em, q_em2, q_b0, q_b1, Classical.not_not]
          rw [y2']
          simp (disch := omega) only [e120, r120_0, r120_1, r120_2, r120_4, r120_7, r120_10, r120_12, r120_13, r120_16, r120_19, r120_22, r120_23, r120_24, r120_25, r120_26, r120_29, r120_32, r120_33, r120_34, r120_35, r120_38, r120_39, r120_41, r120_44, kdC, kdM, rpC, rpM, q_rs, q_rn, Option.toList_some, Option.toList_none, List.cons_append, List.nil_append, true_and, and_true, eq_self, ↓reduceIte, not_true_eq_false, not_false_eq_true, Nat.reduceEqDiff, Nat.reduceLeDiff, Nat.reduceLT, Nat.reduceAdd, Nat.reduceMul, Nat.reduceSub, false_or, or_false, true_or, or_true, false_and, and_false, reduceCtorEq, q_n0, q_n1, q_em, q_em2, q_b0, q_b1, Classical.not_not]
        · refine Eq.trans ?_ (v2 (d + 829) F)
          simp (disch := omega) only [r258_0, r258_1, r258_2, r258_5, r258_8, r258_9, r258_10, r258_13, r258_16, r258_17, r258_18, r258_20, r258_23, r258_26, r258_28, r258_29, r258_31, r258_34, r258_37, r258_38, r258_39, r258_40, r258_42, r258_45, r258_46, r258_48, r258_49, e258, c150 _ _ _ f2.K w, c143, hA, hB, hE, hC, kdC, kdM, rpC, rpM, q_rs, q_rn, Option.toList_some, Option.toList_none, List.cons_append, List.nil_append, true_and, and_true, eq_self, ↓reduceIte, not_true_eq_false, not_false_eq_true, Nat.reduceEqDiff, Nat.reduceLeDiff, Nat.reduceLT, Nat.reduceAdd, Nat.reduceMul, Nat.reduceSub, false_or, or_false, true_or, or_true, false_and, and_false, reduceCtorEq, q_n0, q_n1, q_em, q_em2, q_b0, q_b1, Classical.not_not]
      · have hno := fun F => c136n z (v := nI 1) hAB (d + 896) F
        refine ⟨-1, h, h, fun F => ?_, fun F => ?_, Inv_fr (Fr.refl h) z⟩
        · simp (disch := omega) only [e120, r120_0, r120_1, r120_2, r120_4, r120_7, r120_10, r120_12, r120_13, r120_16, r120_19, r120_22, r120_23, r120_24, r120_25, r120_26, r120_29, r120_32, r120_33, r120_34, r120_35, r120_38, r120_39, r120_41, r120_44, c125, hE, hC, hno, kdC, kdM, rpC, rpM, q_rs, q_rn, Option.toList_some, Option.toList_none, List.cons_append, List.nil_append, true_and, and_true, eq_self, ↓reduceIte, not_true_eq_false, not_false_eq_true, Nat.reduceEqDiff, Nat.reduceLeDiff, Nat.reduceLT, Nat.reduceAdd, Nat.reduceMul, Nat.reduceSub, false_or, or_false, true_or, or_true, false_and, and_false, reduceCtorEq, q_n0, q_n1, q_em, q_em2, q_b0, q_b1, Classical.not_not]
        · by_cases hA : nI 0 ≤ a ∧ a < nI (nx (gI h 103))
          · have hB : ¬ (nI 0 ≤ b ∧ b < nI (nx (gI h 103))) := fun u => hAB ⟨hA, u⟩
            simp (disch := omega) only [e258, r258_0, r258_1, r258_2, r258_5, r258_8, r258_9, r258_10, r258_13, r258_16, r258_17, r258_18, r258_20, r258_23, r258_26, r258_28, r258_29, r258_31, r258_34, r258_37, r258_38, r258_39, r258_40, r258_42, r258_45, r258_46, r258_48, r258_49, r258_53, r258_54, r258_57, r258_59, r258_60, r258_61, r258_62, r258_63, r258_66, r258_67, r258_70, r258_73, r258_74, r258_77, r258_78, r258_79, r258_81, r258_84, r258_87, r258_89, c150 _ _ _ rfl w, hA, hB, kdC, kdM, rpC, rpM, q_rs, q_rn, Option.toList_some, Option.toList_none, List.cons_append, List.nil_append, true_and, and_true, eq_self, ↓reduceIte, not_true_eq_false, not_false_eq_true, Nat.reduceEqDiff, Nat.reduceLeDiff, Nat.reduceLT, Nat.reduceAdd, Nat.reduceMul, Nat.reduceSub, false_or, or_false, true_or, or_true, false_and, and_false, reduceCtorEq, q_n0, q_n1, q_em, q_em2, q_b0, q_b1, Classical.not_not]
          · simp (disch := omega) only [e258, r258_0, r258_1, r258_2, r258_5, r258_8, r258_9, r258_10, r258_13, r258_16, r258_17, r258_18, r258_20, r258_23, r258_26, r258_28, r258_29, r258_31, r258_34, r258_37, r258_38, r258_39, r258_40, r258_42, r258_45, r258_46, r258_48, r258_49, r258_53, r258_54, r258_57, r258_59, r258_60, r258_61, r258_62, r258_63, r258_66, r258_67, r258_70, r258_73, r258_74, r258_77, r258_78, r258_79, r258_81, r258_84, r258_87, r258_89, c150 _ _ _ rfl w, hA, kdC, kdM, rpC, rpM, q_rs, q_rn, Option.toList_some, Option.toList_none, List.cons_append, List.nil_append, true_and, and_true, eq_self, ↓reduceIte, not_true_eq_false, not_false_eq_true, Nat.reduceEqDiff, Nat.reduceLeDiff, Nat.reduceLT, Nat.reduceAdd, Nat.reduceMul, Nat.reduceSub, false_or, or_false, true_or, or_true, false_and, and_false, reduceCtorEq, q_n0, q_n1, q_em, q_em2, q_b0, q_b1, Classical.not_not]
    · refine ⟨-1, h, h, fun F => ?_, fun F => ?_, Inv_fr (Fr.refl h) z⟩
      · simp (disch := omega) only [e120, r120_0, r120_1, r120_2, r120_4, r120_7, r120_10, r120_12, r120_13, r120_16, r120_19, r120_22, r120_23, r120_24, r120_25, r120_26, r120_29, r120_32, r120_33, r120_34, r120_35, r120_38, r120_39, r120_41, r120_44, c125, hE, hC, kdC, kdM, rpC, rpM, q_rs, q_rn, Option.toList_some, Option.toList_none, List.cons_append, List.nil_append, true_and, and_true, eq_self, ↓reduceIte, not_true_eq_false, not_false_eq_true, Nat.reduceEqDiff, Nat.reduceLeDiff, Nat.reduceLT, Nat.reduceAdd, Nat.reduceMul, Nat.reduceSub, false_or, or_false, true_or, or_true, false_and, and_false, reduceCtorEq, q_n0, q_n1, q_em, q_em2, q_b0, q_b1, Classical.not_not]
      · by_cases hA : nI 0 ≤ a ∧ a < nI (nx (gI h 103)) <;> by_cases hB : nI 0 ≤ b ∧ b < nI (nx (gI h 103)) <;>
        simp (disch := omega) only [e258, r258_0, r258_1, r258_2, r258_5, r258_8, r258_9, r258_10, r258_13, r258_16, r258_17, r258_18, r258_20, r258_23, r258_26, r258_28, r258_29, r258_31, r258_34, r258_37, r258_38, r258_39, r258_40, r258_42, r258_45, r258_46, r258_48, r258_49, r258_53, r258_54, r258_57, r258_59, r258_60, r258_61, r258_62, r258_63, r258_66, r258_67, r258_70, r258_73, r258_74, r258_77, r258_78, r258_79, r258_81, r258_84, r258_87, r258_89, c150 _ _ _ rfl w, c143, hA, hB, hE, hC, kdC, kdM, rpC, rpM, q_rs, q_rn, Option.toList_some, Option.toList_none, List.cons_append, List.nil_append, true_and, and_true, eq_self, ↓reduceIte, not_true_eq_false, not_false_eq_true, Nat.reduceEqDiff, Nat.reduceLeDiff, Nat.reduceLT, Nat.reduceAdd, Nat.reduceMul, Nat.reduceSub, false_or, or_false, true_or, or_true, false_and, and_false, reduceCtorEq, q_n0, q_n1, q_em, q_em2, q_b0, q_b1, Classical.not_not]
  · refine ⟨-1, h, h, fun F => ?_, fun F => ?_, Inv_fr (Fr.refl h) z⟩
    · simp (disch := omega) only [e120, r120_0, r120_1, r120_2, r120_4, r120_7, r120_10, r120_12, r120_13, r120_16, r120_19, r120_22, r120_23, r120_24, r120_25, r120_26, r120_29, r120_32, r120_33, r120_34, r120_35, r120_38, r120_39, r120_41, r120_44, c125, hE, kdC, kdM, rpC, rpM, q_rs, q_rn, Option.toList_some, Option.toList_none, List.cons_append, List.nil_append, true_and, and_true, eq_self, ↓reduceIte, not_true_eq_false, not_false_eq_true, Nat.reduceEqDiff, Nat.reduceLeDiff, Nat.reduceLT, Nat.reduceAdd, Nat.reduceMul, Nat.reduceSub, false_or, or_false, true_or, or_true, false_and, and_false, reduceCtorEq, q_n0, q_n1, q_em, q_em2, q_b0, q_b1, Classical.not_not]
    · by_cases hA : nI 0 ≤ a ∧ a < nI (nx (gI h 103)) <;> by_cases hB : nI 0 ≤ b ∧ b < nI (nx (gI h 103)) <;>
      simp (disch := omega) only [e258, r258_0, r258_1, r258_2, r258_5, r258_8, r258_9, r258_10, r258_13, r258_16, r258_17, r258_18, r258_20, r258_23, r258_26, r258_28, r258_29, r258_31, r258_34, r258_37, r258_38, r258_39, r258_40, r258_42, r258_45, r258_46, r258_48, r258_49, r258_53, r258_54, r258_57, r258_59, r258_60, r258_61, r258_62, r258_63, r258_66, r258_67, r258_70, r258_73, r258_74, r258_77, r258_78, r258_79, r258_81, r258_84, r258_87, r258_89, c150 _ _ _ rfl w, c143, hA, hB, hE, kdC, kdM, rpC, rpM, q_rs, q_rn, Option.toList_some, Option.toList_none, List.cons_append, List.nil_append, true_and, and_true, eq_self, ↓reduceIte, not_true_eq_false, not_false_eq_true, Nat.reduceEqDiff, Nat.reduceLeDiff, Nat.reduceLT, Nat.reduceAdd, Nat.reduceMul, Nat.reduceSub, false_or, or_false, true_or, or_true, false_and, and_false, reduceCtorEq, q_n0, q_n1, q_em, q_em2, q_b0, q_b1, Classical.not_not]
