/-! the model shows a sheet -/
theorem q_a1 (x : Int32) : (x &&& nI 1 = nI 0) = ¬ (x &&& nI 1 = nI 1) := by
  obtain ⟨j, hj, e⟩ := pk_andE x (m := nI 1) 1 (by decide)
  rw [e, nI_eq (by omega) (by omega), nI_eq (by omega) (by omega)]
  apply propext
  omega
theorem half_le (a : Int) (h : -1000000000 ≤ a ∧ a ≤ 1000000000) : -1000000000 ≤ a.tdiv 2 ∧ a.tdiv 2 ≤ 1000000000 := by
  rcases Int.le_total 0 a with q | q
  · rw [Int.tdiv_eq_ediv_of_nonneg q]; omega
  · have e : a = -(-a) := by omega
    rw [e, Int.neg_tdiv, Int.tdiv_eq_ediv_of_nonneg (by omega)]
    omega
theorem i64_half {y : Int32} (hy : bN y) : y.toInt64 / lN 2 = (y / nI 2).toInt64 ∧ bN (y / nI 2) := by
  have hh := half_le y.toInt hy
  have h1 : (y / nI 2).toInt = y.toInt.tdiv 2 := by
    rw [Int32.toInt_div, show (nI 2).toInt = 2 by decide]
    exact Int.bmod_eq_of_le (by omega) (by omega)
  refine ⟨?_, ?_⟩
  · apply Int64.toInt_inj.mp
    rw [Int64.toInt_div, Int32.toInt_toInt64, Int32.toInt_toInt64, show (lN 2).toInt = 2 by decide, h1]
    exact Int.bmod_eq_of_le (by omega) (by omega)
  · unfold bN rg
    rw [h1]
    exact hh
def mtS (a i : Nat) : Bool := ms a i || (Nat.beq a 119 || (Nat.beq a 120 || (Nat.beq a 101 && Nat.beq i 33)))
theorem Am_mt {h h' : Hp} (x : Am h h') : FrS mtS h h' := x.1.mono (fun a i e => (bor e).1)
theorem Mt_fr {h h' : Hp} (x : FrS mtS h h') : Fr h h' := x.mono (fun a i e => by
  have key : ∀ k j, scr k j = true → ¬ (a = k ∧ i = j) := by
    rintro k j hk ⟨rfl, rfl⟩
    rw [hk] at e; cases e
  unfold mtS ms
  cases q1 : Nat.beq a 112 with
  | true => obtain rfl := Nat.eq_of_beq_eq_true q1; cases e
  | false =>
    cases q2 : Nat.beq a 119 with
    | true => obtain rfl := Nat.eq_of_beq_eq_true q2; cases e
    | false =>
      cases q3 : Nat.beq a 120 with
      | true => obtain rfl := Nat.eq_of_beq_eq_true q3; cases e
      | false =>
        cases q4 : Nat.beq a 101 with
        | false => rfl
        | true =>
          obtain rfl := Nat.eq_of_beq_eq_true q4
          have hs : scr 101 i = (Nat.ble 10 i || false) := rfl
          have hi : ¬ 10 ≤ i := by
            intro z
            rw [hs, Nat.ble_eq_true_of_le z] at e
            cases e
          cases q5 : Nat.ble 17 i with
          | true => have := Nat.le_of_ble_eq_true q5; omega
          | false =>
            cases q6 : Nat.beq i 33 with
            | true => have := Nat.eq_of_beq_eq_true q6; omega
            | false => rfl)
def MD (h : Hp) (t : Nat) : Int32 × Int32 := (gI h 119 t, gI h 120 t)
section MW
variable {h : Hp} {K : Nat → Int32} {T : Tk} {tm s : Nat}
theorem ml244 (hK : gI h 103 = K) (w : WF K) (htm : tm < 10) (te : tEq K tm T) (hs : s < ns K) (hO : ∀ u, u < nt K → dpO (MD h u)) : ∀ k t h0, t + k = nt K → FrS mtS h h0 → (∀ u, u < t → MD h0 u = shw K T s u (MD h u)) → (∀ u, t ≤ u → u < nt K → MD h0 u = MD h u) → ∃ h', FrS mtS h h' ∧ (∀ u, u < nt K → MD h' u = shw K T s u (MD h u)) ∧ gI h' 101 33 = q_lp (fpW K s (fun t => t)) k t (gI h0 101 33) ∧ ∀ d F, wp true (d + 68) 244 2 [.ref 101, .int (nI s), .int (nI tm), .int (nI t)] [] h0 F = F none h'
  | 0, t, h0, e, x, i1, i2 => by
    obtain rfl : t = nt K := e
    have h2 := w.hnt
    have hK0 : gI h0 103 = K := (Mt_fr x).K.trans hK
    refine ⟨h0, x, i1, rfl, fun d F => ?_⟩
    rw [r244_2]
    simp (disch := omega) only [e244, r244_0, r244_1, r244_3, r244_4, r244_7, r244_10, r244_11, r244_12, r244_13, r244_14, r244_17, r244_20, r244_21, r244_22, r244_23, r244_26, r244_27, r244_28, r244_29, r244_32, r244_33, r244_34, r244_35, r244_38, r244_41, r244_42, r244_43, r244_44, r244_47, r244_48, r244_51, r244_52, r244_53, r244_54, r244_57, r244_58, r244_59, r244_60, r244_61, r244_64, r244_65, r244_68, r244_71, r244_74, r244_75, r244_78, r244_79, r244_80, r244_81, r244_82, r244_85, r244_86, r244_89, r244_90, r244_91, r244_92, r244_93, r244_96, r244_99, r244_102, r244_103, r244_104, r244_105, r244_108, r244_109, r244_110, r244_111, r244_114, r244_115, r244_118, r244_119, r244_120, r244_123, r244_124, r244_125, r244_126, r244_127, r244_128, r244_129, r244_132, r244_134, r244_137, r244_138, r244_141, r244_144, r244_145, r244_148, r244_149, r244_152, r244_153, r244_154, r244_156, r244_159, r244_160, r244_163, r244_166, m232 _ h0 _ hK0 w, kdC, kdM, rpC, rpM, q_rs, q_rn, Option.toList_some, Option.toList_none, List.cons_append, List.nil_append, true_and, and_true, eq_self, ↓reduceIte, not_true_eq_false, not_false_eq_true, Nat.reduceEqDiff, Nat.reduceLeDiff, Nat.reduceLT, Nat.reduceAdd, Nat.reduceMul, Nat.reduceSub, false_or, or_false, true_or, or_true, false_and, and_false, reduceCtorEq, q_n0, q_n1, q_em, q_em2, q_b0, q_b1, Classical.not_not, nI_add, pk_mul, nI_clamp, q_vp, nI_eq, nI_leI, nI_ltI, q_sub, Nat.le_refl]
  | k + 1, t, h0, e, x, i1, i2 => by
    have h1 := w.hns
    have h2 := w.hnt
    have ht : t < nt K := by omega
    have ht12 : t < 12 := by omega
    have hs12 : s < 12 := by omega
    have hK0 : gI h0 103 = K := (Mt_fr x).K.trans hK
    have hme := i2 t (Nat.le_refl _) ht
    obtain ⟨⟨b, hb, eb⟩, _⟩ := w.2.2.2.2.2 s hs
    have hby : byS K s = b := by unfold byS; rw [eb, nI_clamp (by omega)]
    have hb12 : b < 12 := by omega
    have g0 := fun F d => m235 d h0 F hK0 hs12 (show 0 < 6 by omega)
    have g1 := fun F d => m235 d h0 F hK0 hs12 (show 1 < 6 by omega)
    have g2 := fun F d => m235 d h0 F hK0 hs12 (show 2 < 6 by omega)
    have g4 := fun F d => m235 d h0 F hK0 hs12 (show 4 < 6 by omega)
    have t0 := fun F d => m234 d h0 F hK0 ht12 (show 0 < 5 by omega)
    have t1 := fun F d => m234 d h0 F hK0 ht12 (show 1 < 5 by omega)
    have tb := fun F d => m234 d h0 F hK0 hb12 (show 0 < 5 by omega)
    -- how it goes on when this one has become dp and what is first proved fp
    have go : ∀ g : Hp, FrS mtS h0 g → MD g t = shw K T s t (MD h t) → (∀ u, u ≠ t → MD g u = MD h0 u) → gI g 101 33 = fpW K s (fun t => t) t (gI h0 101 33) → (∀ d F, wp true (d + 68) 244 2 [.ref 101, .int (nI s), .int (nI tm), .int (nI t)] [] h0 F = wp true (d + 68) 244 2 [.ref 101, .int (nI s), .int (nI tm), .int (nI (t + 1))] [] g F) → ∃ h', FrS mtS h h' ∧ (∀ u, u < nt K → MD h' u = shw K T s u (MD h u)) ∧ gI h' 101 33 = q_lp (fpW K s (fun t => t)) (k + 1) t (gI h0 101 33) ∧ ∀ d F, wp true (d + 68) 244 2 [.ref 101, .int (nI s), .int (nI tm), .int (nI t)] [] h0 F = F none h' := by
      intro g xg m1 m2 m3 hst
      obtain ⟨h', a1, a2, a3, a4⟩ := ml244 hK w htm te hs hO k (t + 1) g (by omega) (x.trans xg) (by
        intro u hu
        by_cases eu : u = t
        · subst eu; exact m1
        · rw [m2 u eu]; exact i1 u (by omega)) (by
        intro u hu1 hu2
        rw [m2 u (by omega)]; exact i2 u (by omega) hu2)
      refine ⟨h', a1, a2, ?_, fun d F => ?_⟩
      · rw [a3, m3]; rfl
      · rw [hst]; exact a4 d F
    by_cases c : isSho K s t
    · obtain ⟨ca, cb⟩ := c
      have ca' : ¬ nI t = K (304 + 6 * s) := fun z => ca z.symm
      by_cases c5 : K (304 + 6 * s + 2) = nI 5
      · by_cases cr : K (244 + 5 * t) < K (244 + 5 * byS K s)
        · have cr' : K (244 + 5 * t) < K (244 + 5 * b) := by rw [← hby]; exact cr
          have hd : shw K T s t (MD h t) = ((MD h t).1, nI 1) := by rw [shw_eq, pif_t ⟨ca, cb⟩]; unfold swD; rw [pif_t c5, pif_t cr]
          have n33 : gI (sI h0 120 t (nI 1)) 101 33 = gI h0 101 33 := by rw [q_gn (by omega)]
          have hK1 : gI (sI h0 120 t (nI 1)) 103 = K := by rw [q_gn (by omega)]; exact hK0
          have g1b := fun F d => m235 d (sI h0 120 t (nI 1)) F hK1 hs12 (show 1 < 6 by omega)
          by_cases cf : gI h0 101 33 = -1
          · refine go (sI (sI h0 120 t (nI 1)) 101 33 (K (304 + 6 * s + 1))) (((FrS.refl h0).sI _ rfl).sI _ rfl) ?_ (fun u hu => ?_) ?_ (fun d F => ?_)
            · rw [hd, ← hme]; unfold MD; rw [q_gn (by omega), q_gn (by omega), q_gn (by omega), q_gs]
            · unfold MD; rw [q_gn (by omega), q_gn (by omega), q_gn (by omega), q_gm hu]
            · rw [q_gs]; unfold fpW swP; rw [pif_t ⟨ca, cb⟩, pif_t ⟨⟨c5, cr⟩, cf⟩]
            · rw [r244_2]
              simp (disch := omega) only [r244_3, r244_4, r244_7, r244_10, r244_11, r244_12, r244_13, r244_14, r244_17, r244_20, r244_21, r244_22, r244_23, r244_26, r244_27, r244_28, r244_29, r244_32, r244_33, r244_34, r244_35, r244_38, r244_41, r244_42, r244_43, r244_44, r244_47, r244_48, r244_51, r244_52, r244_53, r244_54, r244_57, r244_58, r244_59, r244_60, r244_61, r244_64, r244_65, r244_68, r244_71, r244_74, r244_75, r244_78, r244_79, r244_80, r244_81, r244_82, r244_85, r244_86, r244_89, r244_90, r244_91, r244_92, r244_93, r244_96, r244_99, r244_102, r244_103, r244_104, r244_105, r244_108, r244_109, r244_110, r244_111, r244_114, r244_115, r244_118, r244_119, r244_120, r244_123, r244_124, r244_125, r244_126, r244_127, r244_128, r244_129, r244_132, r244_134, r244_137, r244_138, r244_141, r244_144, r244_145, r244_148, r244_149, r244_152, r244_153, r244_154, r244_156, r244_159, r244_160, r244_163, m232 _ h0 _ hK0 w, g0, g1b, g2, g4, t0, t1, eb, tb, c5, cr', cb, q_a1, n33, cf, kdC, kdM, rpC, rpM, q_rs, q_rn, Option.toList_some, Option.toList_none, List.cons_append, List.nil_append, true_and, and_true, eq_self, ↓reduceIte, not_true_eq_false, not_false_eq_true, Nat.reduceEqDiff, Nat.reduceLeDiff, Nat.reduceLT, Nat.reduceAdd, Nat.reduceMul, Nat.reduceSub, false_or, or_false, true_or, or_true, false_and, and_false, reduceCtorEq, q_n0, q_n1, q_em, q_em2, q_b0, q_b1, Classical.not_not, nI_add, pk_mul, nI_clamp, q_vp, nI_eq, nI_leI, nI_ltI, q_sub, Nat.add_zero, ht12, show ¬ nt K ≤ t by omega, eq_false (show ¬ t = b from fun z => ca (by rw [eb, z]))]
          · refine go (sI h0 120 t (nI 1)) ((FrS.refl h0).sI _ rfl) ?_ (fun u hu => ?_) ?_ (fun d F => ?_)
            · rw [hd, ← hme]; unfold MD; rw [q_gn (by omega), q_gs]
            · unfold MD; rw [q_gn (by omega), q_gm hu]
            · rw [n33]; unfold fpW swP; rw [pif_t ⟨ca, cb⟩, pif_f (fun z => cf z.2)]
            · rw [r244_2]
              simp (disch := omega) only [r244_3, r244_4, r244_7, r244_10, r244_11, r244_12, r244_13, r244_14, r244_17, r244_20, r244_21, r244_22, r244_23, r244_26, r244_27, r244_28, r244_29, r244_32, r244_33, r244_34, r244_35, r244_38, r244_41, r244_42, r244_43, r244_44, r244_47, r244_48, r244_51, r244_52, r244_53, r244_54, r244_57, r244_58, r244_59, r244_60, r244_61, r244_64, r244_65, r244_68, r244_71, r244_74, r244_75, r244_78, r244_79, r244_80, r244_81, r244_82, r244_85, r244_86, r244_89, r244_90, r244_91, r244_92, r244_93, r244_96, r244_99, r244_102, r244_103, r244_104, r244_105, r244_108, r244_109, r244_110, r244_111, r244_114, r244_115, r244_118, r244_119, r244_120, r244_123, r244_124, r244_125, r244_126, r244_127, r244_128, r244_129, r244_132, r244_134, r244_137, r244_138, r244_141, r244_144, r244_145, r244_148, r244_149, r244_152, r244_153, r244_154, r244_156, r244_159, r244_160, r244_163, m232 _ h0 _ hK0 w, g0, g2, g4, t0, t1, eb, tb, c5, cr', cb, q_a1, n33, cf, kdC, kdM, rpC, rpM, q_rs, q_rn, Option.toList_some, Option.toList_none, List.cons_append, List.nil_append, true_and, and_true, eq_self, ↓reduceIte, not_true_eq_false, not_false_eq_true, Nat.reduceEqDiff, Nat.reduceLeDiff, Nat.reduceLT, Nat.reduceAdd, Nat.reduceMul, Nat.reduceSub, false_or, or_false, true_or, or_true, false_and, and_false, reduceCtorEq, q_n0, q_n1, q_em, q_em2, q_b0, q_b1, Classical.not_not, nI_add, pk_mul, nI_clamp, q_vp, nI_eq, nI_leI, nI_ltI, q_sub, Nat.add_zero, ht12, show ¬ nt K ≤ t by omega, eq_false (show ¬ t = b from fun z => ca (by rw [eb, z]))]
        · have cr' : ¬ K (244 + 5 * t) < K (244 + 5 * b) := by rw [← hby]; exact cr
          have hd : shw K T s t (MD h t) = MD h t := by rw [shw_eq, pif_t ⟨ca, cb⟩]; unfold swD; rw [pif_t c5, pif_f cr]
          refine go h0 (FrS.refl h0) (by rw [hd, hme]) (fun u _ => rfl) ?_ (fun d F => ?_)
          · unfold fpW swP; rw [pif_t ⟨ca, cb⟩, pif_f (fun z => cr z.1.2)]
          · rw [r244_2]
            simp (disch := omega) only [r244_3, r244_4, r244_7, r244_10, r244_11, r244_12, r244_13, r244_14, r244_17, r244_20, r244_21, r244_22, r244_23, r244_26, r244_27, r244_28, r244_29, r244_32, r244_33, r244_34, r244_35, r244_38, r244_41, r244_42, r244_43, r244_44, r244_47, r244_48, r244_51, r244_52, r244_53, r244_54, r244_57, r244_58, r244_59, r244_60, r244_61, r244_64, r244_65, r244_68, r244_71, r244_74, r244_75, r244_78, r244_79, r244_80, r244_81, r244_82, r244_85, r244_86, r244_89, r244_90, r244_91, r244_92, r244_93, r244_96, r244_99, r244_102, r244_103, r244_104, r244_105, r244_108, r244_109, r244_110, r244_111, r244_114, r244_115, r244_118, r244_119, r244_120, r244_123, r244_124, r244_125, r244_126, r244_127, r244_128, r244_129, r244_132, r244_134, r244_137, r244_138, r244_141, r244_144, r244_145, r244_148, r244_149, r244_152, r244_153, r244_154, r244_156, r244_159, r244_160, r244_163, m232 _ h0 _ hK0 w, g0, g2, g4, t0, t1, eb, tb, c5, cr', cb, q_a1, kdC, kdM, rpC, rpM, q_rs, q_rn, Option.toList_some, Option.toList_none, List.cons_append, List.nil_append, true_and, and_true, eq_self, ↓reduceIte, not_true_eq_false, not_false_eq_true, Nat.reduceEqDiff, Nat.reduceLeDiff, Nat.reduceLT, Nat.reduceAdd, Nat.reduceMul, Nat.reduceSub, false_or, or_false, true_or, or_true, false_and, and_false, reduceCtorEq, q_n0, q_n1, q_em, q_em2, q_b0, q_b1, Classical.not_not, nI_add, pk_mul, nI_clamp, q_vp, nI_eq, nI_leI, nI_ltI, q_sub, Nat.add_zero, show ¬ nt K ≤ t by omega, eq_false (show ¬ t = b from fun z => ca (by rw [eb, z]))]
      · have hfp : fpW K s (fun t => t) t (gI h0 101 33) = gI h0 101 33 := by unfold fpW swP; rw [pif_t ⟨ca, cb⟩, pif_f (fun z => c5 z.1.1)]
        have hd : shw K T s t (MD h t) = (q_near ((MD h t).1 + movS K T s t (MD h t)) (nI 0) (nI 100), (MD h t).2) := by rw [shw_eq, pif_t ⟨ca, cb⟩]; unfold swD; rw [pif_f c5]
        have h243 := fun F d => m243 (h := h0) hK0 ht12 hs12 d F
        have hA := meS_a (h := h0) (K (244 + 5 * t)) (K (244 + 5 * t + 1)) (K (244 + 5 * t + 2)) (gI h0 119 t) (gI h0 120 t) (K (304 + 6 * s + 2)) (K (304 + 6 * s + 3)) (K (304 + 6 * s + 1))
        have hE := meS_e (h := h0) (K := K) t (gI h0 119 t, gI h0 120 t) (K (304 + 6 * s + 2)) (K (304 + 6 * s + 3)) (K (304 + 6 * s + 1))
        generalize meS h0 (K (244 + 5 * t)) (K (244 + 5 * t + 1)) (K (244 + 5 * t + 2)) (gI h0 119 t) (gI h0 120 t) (K (304 + 6 * s + 2)) (K (304 + 6 * s + 3)) (K (304 + 6 * s + 1)) = g3 at *
        have hE' : ∀ i, i < 12 → gI g3 112 i = envT K t (MD h t) (K (304 + 6 * s + 2)) (K (304 + 6 * s + 3)) (K (304 + 6 * s + 1)) i := by rw [← hme]; exact hE
        have hm := tEq_m te (hd := 1) (by omega) hE'
        obtain ⟨g5, x1, x2, x3, x4, x5⟩ := m200 (hA.fr.K.trans hK0) htm te.1 (hd := 1) (by omega) hm
        have hA5 : Am h0 g5 := hA.trans x1
        have hK5 : gI g5 103 = K := hA5.fr.K.trans hK0
        have n119 : gI g5 119 = gI h0 119 := hA5.n (by omega) (by omega)
        have n120 : gI g5 120 = gI h0 120 := hA5.n (by omega) (by omega)
        have n33 : gI g5 101 33 = gI h0 101 33 := hA5.1.g (a := 101) (i := 33) rfl
        have g2b := fun F d => m235 d g5 F hK5 hs12 (show 2 < 6 by omega)
        have hO' := hO t ht
        have hb' : bN ((tv T 1 (envT K t (MD h t) (K (304 + 6 * s + 2)) (K (304 + 6 * s + 3)) (K (304 + 6 * s + 1)))).getD (nI 0)) := by
          have hbe := envT_b w ht hs hO'
          cases es : tSay T 1 (envT K t (MD h t) (K (304 + 6 * s + 2)) (K (304 + 6 * s + 3)) (K (304 + 6 * s + 1))) with
          | none => unfold tv; rw [es]; exact ⟨by decide, by decide⟩
          | some l =>
            obtain ⟨y, rfl⟩ : ∃ y, l = [y] := by
              obtain ⟨u, u1, u2⟩ := te.2.2.1 1 (envT K t (MD h t) (K (304 + 6 * s + 2)) (K (304 + 6 * s + 3)) (K (304 + 6 * s + 1))) (by omega)
              rcases u2 with ⟨_, u3⟩ | ⟨y, _, u3⟩
              · rw [es] at u3; cases u3
              · rw [es] at u3; cases u3; exact ⟨y, rfl⟩
            have := tv_b hbe es
            unfold tv; rw [es]; exact this
        have hx3 : gJ g5 101 21 = ((tv T 1 (envT K t (MD h t) (K (304 + 6 * s + 2)) (K (304 + 6 * s + 3)) (K (304 + 6 * s + 1)))).getD (nI 0)).toInt64 := by
          rw [x3]
          cases tv T 1 (envT K t (MD h t) (K (304 + 6 * s + 2)) (K (304 + 6 * s + 3)) (K (304 + 6 * s + 1))) with
          | none => exact (nI_l (by omega)).symm
          | some y => rfl
        have hmv : movS K T s t (MD h t) = (if K (304 + 6 * s + 2) = nI 6 then (tv T 1 (envT K t (MD h t) (K (304 + 6 * s + 2)) (K (304 + 6 * s + 3)) (K (304 + 6 * s + 1)))).getD (nI 0) / nI 2 else (tv T 1 (envT K t (MD h t) (K (304 + 6 * s + 2)) (K (304 + 6 * s + 3)) (K (304 + 6 * s + 1)))).getD (nI 0)) := rfl
        have n119t : gI g5 119 t = (MD h t).1 := by rw [n119, ← hme]; rfl
        generalize (tv T 1 (envT K t (MD h t) (K (304 + 6 * s + 2)) (K (304 + 6 * s + 3)) (K (304 + 6 * s + 1)))).getD (nI 0) = v at *
        obtain ⟨hv1, hv2⟩ := i64_half hb'
        have x5' := fun d F => x5 d F
        refine go (sI g5 119 t (q_near ((MD h t).1 + movS K T s t (MD h t)) (nI 0) (nI 100))) ((Am_mt hA5).sI _ rfl) ?_ (fun u hu => ?_) ?_ (fun d F => ?_)
        · rw [hd]; unfold MD; rw [q_gs, q_gn (by omega), n120]
          have := congrArg Prod.snd hme
          show (_, gI h0 120 t) = (_, gI h 120 t)
          rw [show gI h0 120 t = gI h 120 t from this]
        · unfold MD; rw [q_gm hu, q_gn (by omega), n119, n120]
        · rw [q_gn (by omega), n33, hfp]
        · rw [hmv, r244_2]
          by_cases c6 : K (304 + 6 * s + 2) = nI 6
          · rw [if_pos c6]
            simp (disch := omega) only [r244_3, r244_4, r244_7, r244_10, r244_11, r244_12, r244_13, r244_14, r244_17, r244_20, r244_21, r244_22, r244_23, r244_26, r244_27, r244_28, r244_29, r244_32, r244_33, r244_34, r244_35, r244_38, r244_41, r244_42, r244_43, r244_44, r244_47, r244_48, r244_51, r244_52, r244_53, r244_54, r244_57, r244_58, r244_59, r244_60, r244_61, r244_64, r244_65, r244_68, r244_71, r244_74, r244_75, r244_78, r244_79, r244_80, r244_81, r244_82, r244_85, r244_86, r244_89, r244_90, r244_91, r244_92, r244_93, r244_96, r244_99, r244_102, r244_103, r244_104, r244_105, r244_108, r244_109, r244_110, r244_111, r244_114, r244_115, r244_118, r244_119, r244_120, r244_123, r244_124, r244_125, r244_126, r244_127, r244_128, r244_129, r244_132, r244_134, r244_137, r244_138, r244_141, r244_144, r244_145, r244_148, r244_149, r244_152, r244_153, r244_154, r244_156, r244_159, r244_160, r244_163, m232 _ h0 _ hK0 w, g0, g2, g2b, g4, t0, t1, eb, h243, x5', hx3, n119t, hv1, i64_add hO'.1 hv2, c202 (show nI 0 ≤ nI 100 by decide), c6, cb, q_a1, kdC, kdM, rpC, rpM, q_rs, q_rn, Option.toList_some, Option.toList_none, List.cons_append, List.nil_append, true_and, and_true, eq_self, ↓reduceIte, not_true_eq_false, not_false_eq_true, Nat.reduceEqDiff, Nat.reduceLeDiff, Nat.reduceLT, Nat.reduceAdd, Nat.reduceMul, Nat.reduceSub, false_or, or_false, true_or, or_true, false_and, and_false, reduceCtorEq, q_n0, q_n1, q_em, q_em2, q_b0, q_b1, Classical.not_not, nI_add, pk_mul, nI_clamp, q_vp, nI_eq, nI_leI, nI_ltI, q_sub, Nat.add_zero, ht12, show ¬ lN 2 = lN 0 by decide, show ¬ nt K ≤ t by omega, eq_false (show ¬ t = b from fun z => ca (by rw [eb, z]))]
          · rw [if_neg c6]
            simp (disch := omega) only [r244_3, r244_4, r244_7, r244_10, r244_11, r244_12, r244_13, r244_14, r244_17, r244_20, r244_21, r244_22, r244_23, r244_26, r244_27, r244_28, r244_29, r244_32, r244_33, r244_34, r244_35, r244_38, r244_41, r244_42, r244_43, r244_44, r244_47, r244_48, r244_51, r244_52, r244_53, r244_54, r244_57, r244_58, r244_59, r244_60, r244_61, r244_64, r244_65, r244_68, r244_71, r244_74, r244_75, r244_78, r244_79, r244_80, r244_81, r244_82, r244_85, r244_86, r244_89, r244_90, r244_91, r244_92, r244_93, r244_96, r244_99, r244_102, r244_103, r244_104, r244_105, r244_108, r244_109, r244_110, r244_111, r244_114, r244_115, r244_118, r244_119, r244_120, r244_123, r244_124, r244_125, r244_126, r244_127, r244_128, r244_129, r244_132, r244_134, r244_137, r244_138, r244_141, r244_144, r244_145, r244_148, r244_149, r244_152, r244_153, r244_154, r244_156, r244_159, r244_160, r244_163, m232 _ h0 _ hK0 w, g0, g2, g2b, g4, t0, t1, eb, h243, x5', hx3, n119t, i64_add hO'.1 hb', c202 (show nI 0 ≤ nI 100 by decide), c5, c6, cb, q_a1, kdC, kdM, rpC, rpM, q_rs, q_rn, Option.toList_some, Option.toList_none, List.cons_append, List.nil_append, true_and, and_true, eq_self, ↓reduceIte, not_true_eq_false, not_false_eq_true, Nat.reduceEqDiff, Nat.reduceLeDiff, Nat.reduceLT, Nat.reduceAdd, Nat.reduceMul, Nat.reduceSub, false_or, or_false, true_or, or_true, false_and, and_false, reduceCtorEq, q_n0, q_n1, q_em, q_em2, q_b0, q_b1, Classical.not_not, nI_add, pk_mul, nI_clamp, q_vp, nI_eq, nI_leI, nI_ltI, q_sub, Nat.add_zero, ht12, show ¬ nt K ≤ t by omega, eq_false (show ¬ t = b from fun z => ca (by rw [eb, z]))]
    · have hd : shw K T s t (MD h t) = MD h t := by rw [shw_eq, pif_f c]
      have hfp : fpW K s (fun t => t) t (gI h0 101 33) = gI h0 101 33 := by unfold fpW; rw [pif_f c]
      refine go h0 (FrS.refl h0) (by rw [hd, hme]) (fun u _ => rfl) hfp.symm (fun d F => ?_)
      rw [r244_2]
      by_cases ca : K (304 + 6 * s) = nI t
      · simp (disch := omega) only [r244_3, r244_4, r244_7, r244_10, r244_11, r244_12, r244_13, r244_14, r244_17, r244_20, r244_21, r244_22, r244_23, r244_26, r244_27, r244_28, r244_29, r244_32, r244_33, r244_34, r244_35, r244_38, r244_41, r244_42, r244_43, r244_44, r244_47, r244_48, r244_51, r244_52, r244_53, r244_54, r244_57, r244_58, r244_59, r244_60, r244_61, r244_64, r244_65, r244_68, r244_71, r244_74, r244_75, r244_78, r244_79, r244_80, r244_81, r244_82, r244_85, r244_86, r244_89, r244_90, r244_91, r244_92, r244_93, r244_96, r244_99, r244_102, r244_103, r244_104, r244_105, r244_108, r244_109, r244_110, r244_111, r244_114, r244_115, r244_118, r244_119, r244_120, r244_123, r244_124, r244_125, r244_126, r244_127, r244_128, r244_129, r244_132, r244_134, r244_137, r244_138, r244_141, r244_144, r244_145, r244_148, r244_149, r244_152, r244_153, r244_154, r244_156, r244_159, r244_160, r244_163, m232 _ h0 _ hK0 w, g0, ca, kdC, kdM, rpC, rpM, q_rs, q_rn, Option.toList_some, Option.toList_none, List.cons_append, List.nil_append, true_and, and_true, eq_self, ↓reduceIte, not_true_eq_false, not_false_eq_true, Nat.reduceEqDiff, Nat.reduceLeDiff, Nat.reduceLT, Nat.reduceAdd, Nat.reduceMul, Nat.reduceSub, false_or, or_false, true_or, or_true, false_and, and_false, reduceCtorEq, q_n0, q_n1, q_em, q_em2, q_b0, q_b1, Classical.not_not, nI_add, pk_mul, nI_clamp, q_vp, nI_eq, nI_leI, nI_ltI, q_sub, Nat.add_zero, show ¬ nt K ≤ t by omega]
      · have cb : ¬ (K (304 + 6 * s + 4) >>> (K (244 + 5 * t + 1) &&& 31) &&& nI 1 = nI 1) := fun z => c ⟨ca, z⟩
        simp (disch := omega) only [r244_3, r244_4, r244_7, r244_10, r244_11, r244_12, r244_13, r244_14, r244_17, r244_20, r244_21, r244_22, r244_23, r244_26, r244_27, r244_28, r244_29, r244_32, r244_33, r244_34, r244_35, r244_38, r244_41, r244_42, r244_43, r244_44, r244_47, r244_48, r244_51, r244_52, r244_53, r244_54, r244_57, r244_58, r244_59, r244_60, r244_61, r244_64, r244_65, r244_68, r244_71, r244_74, r244_75, r244_78, r244_79, r244_80, r244_81, r244_82, r244_85, r244_86, r244_89, r244_90, r244_91, r244_92, r244_93, r244_96, r244_99, r244_102, r244_103, r244_104, r244_105, r244_108, r244_109, r244_110, r244_111, r244_114, r244_115, r244_118, r244_119, r244_120, r244_123, r244_124, r244_125, r244_126, r244_127, r244_128, r244_129, r244_132, r244_134, r244_137, r244_138, r244_141, r244_144, r244_145, r244_148, r244_149, r244_152, r244_153, r244_154, r244_156, r244_159, r244_160, r244_163, m232 _ h0 _ hK0 w, g0, g4, t1, eb, cb, q_a1, kdC, kdM, rpC, rpM, q_rs, q_rn, Option.toList_some, Option.toList_none, List.cons_append, List.nil_append, true_and, and_true, eq_self, ↓reduceIte, not_true_eq_false, not_false_eq_true, Nat.reduceEqDiff, Nat.reduceLeDiff, Nat.reduceLT, Nat.reduceAdd, Nat.reduceMul, Nat.reduceSub, false_or, or_false, true_or, or_true, false_and, and_false, reduceCtorEq, q_n0, q_n1, q_em, q_em2, q_b0, q_b1, Classical.not_not, nI_add, pk_mul, nI_clamp, q_vp, nI_eq, nI_leI, nI_ltI, q_sub, Nat.add_zero, show ¬ nt K ≤ t by omega, eq_false (show ¬ t = b from fun z => ca (by rw [eb, z]))]
end MW
