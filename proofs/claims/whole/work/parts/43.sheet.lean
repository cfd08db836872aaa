/-! sheet, send, count -/
section SH
variable {n : Nat} {h h' : Hp} {K K' : Nat → Int32}
theorem sheet_S (z : STS h 0 K) (x : Mu h h') (hn : ns K < 12) {t : Nat} {b c e g : Int32} (ht : t < nt K) (hb : rg b 0 400) (hc : rg c 0 7) (he : rg e (-50) 50) (hgg : rg g 0 7) (g5 : gI h' 11 5 = gI h 11 5) (g13 : gI h' 11 13 = nI (ns K + 1))
    (y0 : gI h' 17 = upd (gI h 17) (ns K) (nI t)) (y1 : gI h' 18 = upd (gI h 18) (ns K) b) (y2 : gI h' 19 = upd (gI h 19) (ns K) c) (y3 : gI h' 20 = upd (gI h 20) (ns K) e) (y4 : gI h' 21 = upd (gI h 21) (ns K) g) (y5 : gI h' 22 = upd (gI h 22) (ns K) (nI 0)) (y6 : gI h' 23 = tin (upd (gI h 18) (ns K) b) (ns K) (ns K) (gI h 23))
    (hg : ∀ c, 2 ≤ c → c ≤ 25 → c ≠ 11 → c < 17 ∨ 23 < c → gI h' c = gI h c) (hq : gP h' = gP h)
    (hk : ∀ i, i ≠ 379 → i < 304 + 6 * ns K ∨ 304 + 6 * ns K + 6 ≤ i → K' i = K i) (k1 : K' 379 = nI (ns K + 1)) (k2 : K' (304 + 6 * ns K) = nI t) (k3 : K' (304 + 6 * ns K + 1) = b) (k4 : K' (304 + 6 * ns K + 2) = c) (k5 : K' (304 + 6 * ns K + 3) = e) (k6 : K' (304 + 6 * ns K + 4) = g) (k7 : K' (304 + 6 * ns K + 5) = nI 0) : STS h' 0 K' := by
  have w := z.1
  have h1 := w.hns
  have h2 := w.hnt
  have hnn : ns K' = ns K + 1 := by show (K' 379).toNatClampNeg = _; rw [k1, nI_clamp (by omega)]
  have hnt : nt K' = nt K := by unfold nt; rw [hk 378 (by omega) (by omega)]
  obtain ⟨pf, pc, pp, pt, ps, px⟩ := STS_iff.mp z
  refine STS_iff.mpr ⟨PF_cg (fun c i h1 h2 => by rw [hg c (by omega) (by omega) (by omega) (by omega)]) (fun i h1 => hk i (by omega) (by omega)) pf, PC_cg (fun i => by rw [hg 24 (by omega) (by omega) (by omega) (by omega)]) (fun i h1 h2 => hk i (by omega) (by omega)) pc, PP_cg (by rw [hg 8 (by omega) (by omega) (by omega) (by omega)]) (fun c i h1 h2 => by rw [hg c (by omega) (by omega) (by omega) (by omega)]) (fun i h1 => hk i (by omega) (by omega)) pp, PT_cg g5 (fun c i h1 h2 => by rw [hg c (by omega) (by omega) (by omega) (by omega)]) (fun i h1 => hk i (by omega) (by omega)) pt, ?_, PX_cg (by rw [hg 2 (by omega) (by omega) (by omega) (by omega)]) (fun t => by rw [hq]) (fun a T => tAt_mu x) (fun i h1 => hk i (by omega) (by omega)) px⟩
  obtain ⟨⟨a1, b1⟩, ⟨d1, e1, e2, e3, e4, e5, e6⟩, σ, u1, u2⟩ := ps
  have hu : ∀ (cc : Nat) (o : Nat) (v : Int32), o < 6 → AR h K cc 12 (304 + o) 6 → gI h' cc = upd (gI h cc) (ns K) v → K' (304 + 6 * ns K + o) = v → AR h' K' cc 12 (304 + o) 6 := by
    intro cc o v ho z1 z2 z3 i hi
    rw [z2]
    unfold upd
    by_cases e : i = ns K
    · subst e
      rw [if_pos rfl, ← z3]; congr 1; omega
    · rw [if_neg e, hk _ (by omega) (by omega)]
      exact z1 i hi
  refine ⟨⟨?_, ?_⟩, ⟨by rw [g13, k1], hu 17 0 _ (by omega) e1 y0 k2, hu 18 1 b (by omega) e2 y1 k3, hu 19 2 c (by omega) e3 y2 k4, hu 20 3 e (by omega) e4 y3 k5, hu 21 4 g (by omega) e5 y4 k6, hu 22 5 _ (by omega) e6 y5 k7⟩, ?_⟩
  · rw [k1]
    unfold rg
    rw [nI_toInt (by omega)]
    omega
  · intro i hi
    rw [hnn] at hi
    by_cases e : i = ns K
    · subst e
      rw [k2, k3, k4, k5, k6, k7]
      exact ⟨⟨t, by omega, rfl⟩, hb, hc, he, hgg, by decide, by decide⟩
    · rw [hk _ (by omega) (by omega), hk (304 + 6 * i + 1) (by omega) (by omega), hk (304 + 6 * i + 2) (by omega) (by omega), hk (304 + 6 * i + 3) (by omega) (by omega), hk (304 + 6 * i + 4) (by omega) (by omega), hk (304 + 6 * i + 5) (by omega) (by omega)]
      obtain ⟨⟨t', j1, j2⟩, j3⟩ := b1 i (by omega)
      exact ⟨⟨t', by omega, j2⟩, j3⟩
  · obtain ⟨p, hp, q1, q2, q3, q4, q5, q6⟩ := tin_sp (upd (gI h 18) (ns K) b) (ns K) (ns K) (gI h 23)
    have hmi : ∀ s, s < ns K → upd (gI h 18) (ns K) b s = K (304 + 6 * s + 1) := by
      intro s hs
      rw [gup _ _ _ _ (by omega), e2 s (by omega)]
      congr 1; omega
    have hmn : upd (gI h 18) (ns K) b (ns K) = b := guq _ _ _
    have hm' : ∀ s, s < ns K → K' (304 + 6 * s + 1) = K (304 + 6 * s + 1) := fun s hs => hk _ (by omega) (by omega)
    have hT : ∀ i, i < ns K → (gI h 23 i).toNatClampNeg = σ i := by
      intro i hi
      have := u1.1 i hi
      rw [u2 i hi, nI_clamp (by omega)]
    refine ⟨fun i => if i < p then σ i else if i = p then ns K else σ (i - 1), ⟨?_, ?_⟩, ?_⟩
    · intro i hi
      rw [hnn] at *
      show (if i < p then σ i else if i = p then ns K else σ (i - 1)) < ns K + 1
      split
      · have := u1.1 i (by omega); omega
      · split
        · omega
        · have := u1.1 (i - 1) (by omega); omega
    · have hlo : ∀ i, i < p → ltS K' (σ i) (ns K) := by
        intro i hi
        have hs := u1.1 i (by omega)
        rcases q6 with q6 | q6
        · omega
        · rw [hT (p - 1) (by omega), hmn, hmi _ (u1.1 (p - 1) (by omega)), Int32.not_lt] at q6
          have hle : K (304 + 6 * σ i + 1) ≤ K (304 + 6 * σ (p - 1) + 1) := by
            by_cases e : i = p - 1
            · rw [e]; exact Int32.le_refl _
            · have hj := u1.2 i (p - 1) (by omega) (by omega)
              unfold ltS at hj
              rcases hj with hj | hj
              · exact Int32.le_of_lt hj
              · rw [hj.1]; exact Int32.le_refl _
          unfold ltS
          rw [hm' _ hs, k3]
          rw [Int32.le_iff_toInt_le] at hle q6
          rw [Int32.lt_iff_toInt_lt, ← Int32.toInt_inj]
          omega
      have hhi : ∀ i, p ≤ i → i < ns K → ltS K' (ns K) (σ i) := by
        intro i h1 h2
        have := q5 i h1 h2
        rw [hT i h2, hmn, hmi _ (u1.1 i h2)] at this
        unfold ltS
        rw [hm' _ (u1.1 i h2), k3]
        exact Or.inl this
      have hold : ∀ i j, i < j → j < ns K → ltS K' (σ i) (σ j) := by
        intro i j hij hj
        have := u1.2 i j hij hj
        unfold ltS at *
        rw [hm' _ (u1.1 i (by omega)), hm' _ (u1.1 j hj)]
        exact this
      intro i j hij hj
      rw [hnn] at hj
      show ltS K' (if i < p then σ i else if i = p then ns K else σ (i - 1)) (if j < p then σ j else if j = p then ns K else σ (j - 1))
      by_cases c1 : j < p
      · rw [if_pos c1, if_pos (by omega)]
        exact hold i j hij (by omega)
      · rw [if_neg c1]
        by_cases c2 : j = p
        · rw [if_pos c2, if_pos (by omega)]
          exact hlo i (by omega)
        · rw [if_neg c2]
          by_cases c3 : i < p
          · rw [if_pos c3]
            exact hold i (j - 1) (by omega) (by omega)
          · rw [if_neg c3]
            by_cases c4 : i = p
            · rw [if_pos c4]
              exact hhi (j - 1) (by omega) (by omega)
            · rw [if_neg c4]
              exact hold (i - 1) (j - 1) (by omega) (by omega)
    · intro i hi
      rw [hnn] at hi
      rw [show (23 + 0 : Nat) = 23 from rfl, y6]
      show _ = nI (if i < p then σ i else if i = p then ns K else σ (i - 1))
      by_cases c1 : i < p
      · rw [if_pos c1, q1 i c1]
        exact u2 i (by omega)
      · rw [if_neg c1]
        by_cases c2 : i = p
        · rw [if_pos c2, c2, q2]
        · rw [if_neg c2]
          obtain ⟨j, rfl⟩ : ∃ j, i = j + 1 := ⟨i - 1, by omega⟩
          rw [q3 j (by omega) (by omega), Nat.add_sub_cancel]
          exact u2 j (by omega)
noncomputable def shK (h : Hp) (N : Nat) (a b c e g : Int32) : Hp := sI (sI (sI (sI (sI (sI (sI h 103 (304 + 6 * N) a) 103 (304 + 6 * N + 1) b) 103 (304 + 6 * N + 2) c) 103 (304 + 6 * N + 3) e) 103 (304 + 6 * N + 4) g) 103 (304 + 6 * N + 5) (nI 0)) 103 379 (nI (N + 1))
theorem shK_n (h : Hp) (N : Nat) (a b c e g : Int32) {y : Nat} (hy : y ≠ 103) : gI (shK h N a b c e g) y = gI h y := by
  unfold shK
  rw [q_gn hy, q_gn hy, q_gn hy, q_gn hy, q_gn hy, q_gn hy, q_gn hy]
theorem fil_n (h : Hp) (N : Nat) (a b c e g : Int32) {y : Nat} (hy : y ≠ 11) (h2 : y < 17 ∨ 23 < y) : gI (fil h N a b c e g) y = gI h y := by
  unfold fil fih
  rw [q_gn hy, q_gan (by omega), q_gn (by omega), q_gn (by omega), q_gn (by omega), q_gn (by omega), q_gn (by omega), q_gn (by omega)]
theorem fil_m (h : Hp) (N : Nat) (a b c e g : Int32) : Mu h (shK (fil h N a b c e g) N a b c e g) := by
  unfold shK fil fih
  iterate 8 refine FrS.sI ?_ _ rfl
  refine FrS.sA ?_ _ (fun _ => rfl)
  iterate 6 refine FrS.sI ?_ _ rfl
  exact FrS.refl h
theorem p_sheet (z : Inv n h) (a b c e g : Int32) : PRI n h 112 239 [.int a, .int b, .int c, .int e, .int g] := by
  intro d
  have w := z.1.1
  have q := z.1.2.1
  have hn := w.hns
  have hnt := w.hnt
  have hr2 := q_rfK (h := h) (-2) 1
  have hr5 := q_rfK (h := h) (-5) 3
  by_cases hA : (nI 0 ≤ b ∧ b ≤ nI 400) ∧ (nI 0 ≤ c ∧ c ≤ nI 7) ∧ (-50 ≤ e ∧ e ≤ nI 50) ∧ (nI 0 ≤ g ∧ g ≤ nI 7)
  · obtain ⟨A1, A2, A3, A4⟩ := hA
    by_cases hB : nI 0 ≤ a ∧ a < nI (nt (gI h 103))
    · obtain ⟨t, ht, rfl⟩ := q_ix (by omega) hB.1 hB.2
      by_cases h12 : ns (gI h 103) = 12
      · refine ⟨-5, rfc h (-5) 3, rfm (rfc h (-5) 3) (-5) 5, fun F => ?_, fun F => ?_, Inv_rf z (by omega)⟩
        · simp (disch := omega) only [e112, r112_0, r112_1, r112_2, r112_5, r112_8, r112_11, r112_12, r112_13, r112_15, r112_18, r112_21, r112_23, r112_25, r112_27, r112_30, r112_33, r112_35, r112_36, r112_38, r112_41, r112_44, r112_45, r112_46, r112_49, r112_50, r112_51, r112_52, r112_53, r112_56, r112_59, r112_62, r112_63, r112_64, r112_67, r112_70, r112_71, r112_73, r112_76, r112_77, r112_78, r112_81, r112_84, r112_87, r112_89, r112_92, r112_93, r112_95, r112_98, r112_99, r112_100, r112_101, r112_104, r112_107, r112_108, r112_109, r112_110, r112_112, r112_114, r112_117, r112_120, c125, c133_5, A1, A2, A3, A4, hB, kdC, kdM, rpC, rpM, q_rs, q_rn, Option.toList_some, Option.toList_none, List.cons_append, List.nil_append, true_and, and_true, eq_self, ↓reduceIte, not_true_eq_false, not_false_eq_true, Nat.reduceEqDiff, Nat.reduceLeDiff, Nat.reduceLT, Nat.reduceAdd, Nat.reduceMul, Nat.reduceSub, false_or, or_false, true_or, or_true, false_and, and_false, reduceCtorEq, q_n0, q_n1, q_em, q_em2, q_b0, q_b1, Classical.not_not, nI_add, pk_mul, nI_clamp, q_vp, nI_eq, nI_leI, nI_ltI, q_sub, q.hnt, hnt, q.hns, hn, h12, show t ≤ nt (gI h 103) - 1 by omega]
        · simp (disch := omega) only [e239, r239_0, r239_1, r239_2, r239_5, r239_8, r239_11, r239_12, r239_13, r239_15, r239_18, r239_21, r239_23, r239_25, r239_27, r239_30, r239_33, r239_35, r239_36, r239_38, r239_41, r239_44, r239_45, r239_46, r239_49, r239_50, r239_51, r239_52, r239_55, r239_58, r239_59, r239_61, r239_64, r239_65, r239_66, r239_69, r239_71, r239_73, r239_75, r239_78, r239_79, r239_81, r239_84, r239_85, r239_88, r239_90, r239_92, r239_93, r239_94, r239_96, r239_97, r239_100, r239_102, r239_103, r239_104, r239_105, r239_108, r239_110, r239_111, r239_112, r239_113, r239_114, r239_115, r239_118, r239_120, r239_121, r239_122, r239_123, r239_124, r239_125, r239_128, r239_130, r239_131, r239_132, r239_134, r239_135, r239_136, r239_139, r239_141, r239_142, r239_143, r239_145, r239_146, r239_147, r239_150, r239_152, r239_153, r239_154, r239_155, r239_156, r239_157, r239_160, r239_163, r239_164, r239_165, r239_166, r239_167, r239_168, r239_169, r239_171, r239_174, c143, m233 _ _ _ hr5 w, m236 _ _ _ hr5 w, m144_5, A1, A2, A3, A4, hB, kdC, kdM, rpC, rpM, q_rs, q_rn, Option.toList_some, Option.toList_none, List.cons_append, List.nil_append, true_and, and_true, eq_self, ↓reduceIte, not_true_eq_false, not_false_eq_true, Nat.reduceEqDiff, Nat.reduceLeDiff, Nat.reduceLT, Nat.reduceAdd, Nat.reduceMul, Nat.reduceSub, false_or, or_false, true_or, or_true, false_and, and_false, reduceCtorEq, q_n0, q_n1, q_em, q_em2, q_b0, q_b1, Classical.not_not, nI_add, pk_mul, nI_clamp, q_vp, nI_eq, nI_leI, nI_ltI, q_sub, h12]
      · have hq : gI h 11 13 = nI (ns (gI h 103)) := by rw [q.hns]; exact hn.1
        have hl : ns (gI h 103) < 12 := by omega
        have hT : ∀ i, i < ns (gI h 103) → ∃ j, j < 12 ∧ gI h 23 i = nI j := by
          obtain ⟨σ, u1, u2⟩ := z.1.2.2.2
          intro i hi
          exact ⟨σ i, by have := u1.1 i hi; omega, u2 i hi⟩
        have hx := fil_m h (ns (gI h 103)) (nI t) b c e g
        have hK0 : gI (fil h (ns (gI h 103)) (nI t) b c e g) 103 = gI h 103 := fil_n _ _ _ _ _ _ _ (by omega) (by omega)
        have hK : gI (grt (fil h (ns (gI h 103)) (nI t) b c e g)) 103 = gI h 103 := by rw [grt_K, hK0]
        have h379 : gI (grt (fil h (ns (gI h 103)) (nI t) b c e g)) 103 379 = nI (ns (gI h 103)) := by rw [hK]; exact hn.1
        have hS : STS (shK (fil h (ns (gI h 103)) (nI t) b c e g) (ns (gI h 103)) (nI t) b c e g) 0 (gI (shK (fil h (ns (gI h 103)) (nI t) b c e g) (ns (gI h 103)) (nI t) b c e g) 103) := by
          refine sheet_S z.1 hx hl ht (rg_of A1 (by decide) (by decide)) (rg_of A2 (by decide) (by decide)) (rg_of A3 (by decide) (by decide)) (rg_of A4 (by decide) (by decide)) ?_ ?_ ?_ ?_ ?_ ?_ ?_ ?_ ?_ ?_ ?_ ?_ ?_ ?_ ?_ ?_ ?_ ?_ ?_
          · rw [shK_n _ _ _ _ _ _ _ (by omega)]; unfold fil fih; rw [q_gm (by omega), q_gan (by omega), q_gn (by omega), q_gn (by omega), q_gn (by omega), q_gn (by omega), q_gn (by omega), q_gn (by omega)]
          · rw [shK_n _ _ _ _ _ _ _ (by omega)]; unfold fil; rw [q_gs]
          · rw [shK_n _ _ _ _ _ _ _ (by omega)]; unfold fil fih; rw [q_gn (by omega), q_gan (by omega), q_gn (by omega), q_gn (by omega), q_gn (by omega), q_gn (by omega), q_gn (by omega), q_gsu]
          · rw [shK_n _ _ _ _ _ _ _ (by omega)]; unfold fil fih; rw [q_gn (by omega), q_gan (by omega), q_gn (by omega), q_gn (by omega), q_gn (by omega), q_gn (by omega), q_gsu, q_gn (by omega)]
          · rw [shK_n _ _ _ _ _ _ _ (by omega)]; unfold fil fih; rw [q_gn (by omega), q_gan (by omega), q_gn (by omega), q_gn (by omega), q_gn (by omega), q_gsu, q_gn (by omega), q_gn (by omega)]
          · rw [shK_n _ _ _ _ _ _ _ (by omega)]; unfold fil fih; rw [q_gn (by omega), q_gan (by omega), q_gn (by omega), q_gn (by omega), q_gsu, q_gn (by omega), q_gn (by omega), q_gn (by omega)]
          · rw [shK_n _ _ _ _ _ _ _ (by omega)]; unfold fil fih; rw [q_gn (by omega), q_gan (by omega), q_gn (by omega), q_gsu, q_gn (by omega), q_gn (by omega), q_gn (by omega), q_gn (by omega)]
          · rw [shK_n _ _ _ _ _ _ _ (by omega)]; unfold fil fih; rw [q_gn (by omega), q_gan (by omega), q_gsu, q_gn (by omega), q_gn (by omega), q_gn (by omega), q_gn (by omega), q_gn (by omega)]
          · rw [shK_n _ _ _ _ _ _ _ (by omega)]; unfold fil; rw [q_gn (by omega), q_ga]
          · intro y h1 h2 h3 h4
            rw [shK_n _ _ _ _ _ _ _ (by omega), fil_n _ _ _ _ _ _ _ h3 h4]
          · unfold shK fil fih; simp only [q_gPI, q_gPA]
          · intro i h1 h2
            unfold shK
            rw [q_gm h1, q_gm (by omega), q_gm (by omega), q_gm (by omega), q_gm (by omega), q_gm (by omega), q_gm (by omega), hK0]
          · unfold shK; rw [q_gs]
          · unfold shK; rw [q_gm (by omega), q_gm (by omega), q_gm (by omega), q_gm (by omega), q_gm (by omega), q_gm (by omega), q_gs]
          · unfold shK; rw [q_gm (by omega), q_gm (by omega), q_gm (by omega), q_gm (by omega), q_gm (by omega), q_gs]
          · unfold shK; rw [q_gm (by omega), q_gm (by omega), q_gm (by omega), q_gm (by omega), q_gs]
          · unfold shK; rw [q_gm (by omega), q_gm (by omega), q_gm (by omega), q_gs]
          · unfold shK; rw [q_gm (by omega), q_gm (by omega), q_gs]
          · unfold shK; rw [q_gm (by omega), q_gs]
        refine ⟨nI (ns (gI h 103)), grt (fil h (ns (gI h 103)) (nI t) b c e g), sI (shK (grt (fil h (ns (gI h 103)) (nI t) b c e g)) (ns (gI h 103)) (nI t) b c e g) 101 0 (nI 0), fun F => ?_, fun F => ?_, ?_⟩
        · simp (disch := omega) only [e112, r112_0, r112_1, r112_2, r112_5, r112_8, r112_11, r112_12, r112_13, r112_15, r112_18, r112_21, r112_23, r112_25, r112_27, r112_30, r112_33, r112_35, r112_36, r112_38, r112_41, r112_44, r112_45, r112_46, r112_49, r112_50, r112_51, r112_52, r112_53, r112_56, r112_59, r112_62, r112_63, r112_64, r112_67, r112_70, r112_71, r112_73, r112_76, r112_77, r112_78, r112_81, r112_84, r112_87, r112_89, r112_92, r112_93, r112_95, r112_98, r112_99, r112_100, r112_101, r112_104, r112_107, r112_108, r112_109, r112_110, r112_112, r112_114, r112_117, r112_120, c125, cc23 _ h _ hq hl hT, c135, A1, A2, A3, A4, hB, kdC, kdM, rpC, rpM, q_rs, q_rn, Option.toList_some, Option.toList_none, List.cons_append, List.nil_append, true_and, and_true, eq_self, ↓reduceIte, not_true_eq_false, not_false_eq_true, Nat.reduceEqDiff, Nat.reduceLeDiff, Nat.reduceLT, Nat.reduceAdd, Nat.reduceMul, Nat.reduceSub, false_or, or_false, true_or, or_true, false_and, and_false, reduceCtorEq, q_n0, q_n1, q_em, q_em2, q_b0, q_b1, Classical.not_not, nI_add, pk_mul, nI_clamp, q_vp, nI_eq, nI_leI, nI_ltI, q_sub, q.hnt, hnt, hq, hl, show t ≤ nt (gI h 103) - 1 by omega]
        · simp (disch := omega) only [e239, r239_0, r239_1, r239_2, r239_5, r239_8, r239_11, r239_12, r239_13, r239_15, r239_18, r239_21, r239_23, r239_25, r239_27, r239_30, r239_33, r239_35, r239_36, r239_38, r239_41, r239_44, r239_45, r239_46, r239_49, r239_50, r239_51, r239_52, r239_55, r239_58, r239_59, r239_61, r239_64, r239_65, r239_66, r239_69, r239_71, r239_73, r239_75, r239_78, r239_79, r239_81, r239_84, r239_85, r239_88, r239_90, r239_92, r239_93, r239_94, r239_96, r239_97, r239_100, r239_102, r239_103, r239_104, r239_105, r239_108, r239_110, r239_111, r239_112, r239_113, r239_114, r239_115, r239_118, r239_120, r239_121, r239_122, r239_123, r239_124, r239_125, r239_128, r239_130, r239_131, r239_132, r239_134, r239_135, r239_136, r239_139, r239_141, r239_142, r239_143, r239_145, r239_146, r239_147, r239_150, r239_152, r239_153, r239_154, r239_155, r239_156, r239_157, r239_160, r239_163, r239_164, r239_165, r239_166, r239_167, r239_168, r239_169, r239_171, r239_174, c143, m233 _ _ _ hK w, m236 _ _ _ hK w, c145, A1, A2, A3, A4, hB, kdC, kdM, rpC, rpM, q_rs, q_rn, Option.toList_some, Option.toList_none, List.cons_append, List.nil_append, true_and, and_true, eq_self, ↓reduceIte, not_true_eq_false, not_false_eq_true, Nat.reduceEqDiff, Nat.reduceLeDiff, Nat.reduceLT, Nat.reduceAdd, Nat.reduceMul, Nat.reduceSub, false_or, or_false, true_or, or_true, false_and, and_false, reduceCtorEq, q_n0, q_n1, q_em, q_em2, q_b0, q_b1, Classical.not_not, nI_add, pk_mul, nI_clamp, q_vp, nI_eq, nI_leI, nI_ltI, q_sub, q_gs, q_gn, q_gm, q_gIJ, q_gIP, q_gJI, q_gJA, q_gJP, q_gPI, q_gPA, q_gPJ, q_ga, q_gan, q_js, q_jn, q_jm, q_ps, q_pn, q_pm, h12, h379, shK, show 304 + 6 * ns (gI h 103) < 8391 by omega, show 304 + 6 * ns (gI h 103) + 1 < 8391 by omega, show 304 + 6 * ns (gI h 103) + 2 < 8391 by omega, show 304 + 6 * ns (gI h 103) + 3 < 8391 by omega, show 304 + 6 * ns (gI h 103) + 4 < 8391 by omega, show 304 + 6 * ns (gI h 103) + 5 < 8391 by omega]
        · rw [show shK (grt (fil h (ns (gI h 103)) (nI t) b c e g)) (ns (gI h 103)) (nI t) b c e g = grt (shK (fil h (ns (gI h 103)) (nI t) b c e g) (ns (gI h 103)) (nI t) b c e g) by unfold shK; iterate 7 rw [q_grc (by omega)]]
          refine Inv_gr2 z hx hS ?_
          intro y hy
          rw [shK_n _ _ _ _ _ _ _ (by omega), fil_n _ _ _ _ _ _ _ (by omega) (by omega)]
    · refine ⟨-2, rfc h (-2) 1, rfm (rfc h (-2) 1) (-2) 2, fun F => ?_, fun F => ?_, Inv_rf z (by omega)⟩
      · simp (disch := omega) only [e112, r112_0, r112_1, r112_2, r112_5, r112_8, r112_11, r112_12, r112_13, r112_15, r112_18, r112_21, r112_23, r112_25, r112_27, r112_30, r112_33, r112_35, r112_36, r112_38, r112_41, r112_44, r112_45, r112_46, r112_49, r112_50, r112_51, r112_52, r112_53, r112_56, r112_59, r112_62, r112_63, r112_64, r112_67, r112_70, r112_71, r112_73, r112_76, r112_77, r112_78, r112_81, r112_84, r112_87, r112_89, r112_92, r112_93, r112_95, r112_98, r112_99, r112_100, r112_101, r112_104, r112_107, r112_108, r112_109, r112_110, r112_112, r112_114, r112_117, r112_120, c125, c133_2, A1, A2, A3, A4, hB, kdC, kdM, rpC, rpM, q_rs, q_rn, Option.toList_some, Option.toList_none, List.cons_append, List.nil_append, true_and, and_true, eq_self, ↓reduceIte, not_true_eq_false, not_false_eq_true, Nat.reduceEqDiff, Nat.reduceLeDiff, Nat.reduceLT, Nat.reduceAdd, Nat.reduceMul, Nat.reduceSub, false_or, or_false, true_or, or_true, false_and, and_false, reduceCtorEq, q_n0, q_n1, q_em, q_em2, q_b0, q_b1, Classical.not_not, q.hnt, hnt, q_lep]
      · simp (disch := omega) only [e239, r239_0, r239_1, r239_2, r239_5, r239_8, r239_11, r239_12, r239_13, r239_15, r239_18, r239_21, r239_23, r239_25, r239_27, r239_30, r239_33, r239_35, r239_36, r239_38, r239_41, r239_44, r239_45, r239_46, r239_49, r239_50, r239_51, r239_52, r239_55, r239_58, r239_59, r239_61, r239_64, r239_65, r239_66, r239_69, r239_71, r239_73, r239_75, r239_78, r239_79, r239_81, r239_84, r239_85, r239_88, r239_90, r239_92, r239_93, r239_94, r239_96, r239_97, r239_100, r239_102, r239_103, r239_104, r239_105, r239_108, r239_110, r239_111, r239_112, r239_113, r239_114, r239_115, r239_118, r239_120, r239_121, r239_122, r239_123, r239_124, r239_125, r239_128, r239_130, r239_131, r239_132, r239_134, r239_135, r239_136, r239_139, r239_141, r239_142, r239_143, r239_145, r239_146, r239_147, r239_150, r239_152, r239_153, r239_154, r239_155, r239_156, r239_157, r239_160, r239_163, r239_164, r239_165, r239_166, r239_167, r239_168, r239_169, r239_171, r239_174, c143, m236 _ _ _ hr2 w, m144_2, A1, A2, A3, A4, hB, kdC, kdM, rpC, rpM, q_rs, q_rn, Option.toList_some, Option.toList_none, List.cons_append, List.nil_append, true_and, and_true, eq_self, ↓reduceIte, not_true_eq_false, not_false_eq_true, Nat.reduceEqDiff, Nat.reduceLeDiff, Nat.reduceLT, Nat.reduceAdd, Nat.reduceMul, Nat.reduceSub, false_or, or_false, true_or, or_true, false_and, and_false, reduceCtorEq, q_n0, q_n1, q_em, q_em2, q_b0, q_b1, Classical.not_not, nI_add, pk_mul, nI_clamp, q_vp, nI_eq, nI_leI, nI_ltI, q_sub]
  · refine ⟨-1, rfc h (-1) 0, rfm (rfc h (-1) 0) (-1) 1, fun F => ?_, fun F => ?_, Inv_rf z (by omega)⟩
    · by_cases A1 : nI 0 ≤ b ∧ b ≤ nI 400
      · by_cases A2 : nI 0 ≤ c ∧ c ≤ nI 7
        · by_cases A3 : -50 ≤ e ∧ e ≤ nI 50
          · by_cases A4 : nI 0 ≤ g ∧ g ≤ nI 7
            · exact absurd ⟨A1, A2, A3, A4⟩ hA
            · simp (disch := omega) only [e112, r112_0, r112_1, r112_2, r112_5, r112_8, r112_11, r112_12, r112_13, r112_15, r112_18, r112_21, r112_23, r112_25, r112_27, r112_30, r112_33, r112_35, r112_36, r112_38, r112_41, r112_44, r112_45, r112_46, r112_49, r112_50, r112_51, r112_52, r112_53, r112_56, r112_59, r112_62, r112_63, r112_64, r112_67, r112_70, r112_71, r112_73, r112_76, r112_77, r112_78, r112_81, r112_84, r112_87, r112_89, r112_92, r112_93, r112_95, r112_98, r112_99, r112_100, r112_101, r112_104, r112_107, r112_108, r112_109, r112_110, r112_112, r112_114, r112_117, r112_120, c125, c133_1, A1, A2, A3, A4, kdC, kdM, rpC, rpM, q_rs, q_rn, Option.toList_some, Option.toList_none, List.cons_append, List.nil_append, true_and, and_true, eq_self, ↓reduceIte, not_true_eq_false, not_false_eq_true, Nat.reduceEqDiff, Nat.reduceLeDiff, Nat.reduceLT, Nat.reduceAdd, Nat.reduceMul, Nat.reduceSub, false_or, or_false, true_or, or_true, false_and, and_false, reduceCtorEq, q_n0, q_n1, q_em, q_em2, q_b0, q_b1, Classical.not_not, nI_add, pk_mul, nI_clamp, q_vp, nI_eq, nI_leI, nI_ltI, q_sub]
          · simp (disch := omega) only [e112, r112_0, r112_1, r112_2, r112_5, r112_8, r112_11, r112_12, r112_13, r112_15, r112_18, r112_21, r112_23, r112_25, r112_27, r112_30, r112_33, r112_35, r112_36, r112_38, r112_41, r112_44, r112_45, r112_46, r112_49, r112_50, r112_51, r112_52, r112_53, r112_56, r112_59, r112_62, r112_63, r112_64, r112_67, r112_70, r112_71, r112_73, r112_76, r112_77, r112_78, r112_81, r112_84, r112_87, r112_89, r112_92, r112_93, r112_95, r112_98, r112_99, r112_100, r112_101, r112_104, r112_107, r112_108, r112_109, r112_110, r112_112, r112_114, r112_117, r112_120, c125, c133_1, A1, A2, A3, kdC, kdM, rpC, rpM, q_rs, q_rn, Option.toList_some, Option.toList_none, List.cons_append, List.nil_append, true_and, and_true, eq_self, ↓reduceIte, not_true_eq_false, not_false_eq_true, Nat.reduceEqDiff, Nat.reduceLeDiff, Nat.reduceLT, Nat.reduceAdd, Nat.reduceMul, Nat.reduceSub, false_or, or_false, true_or, or_true, false_and, and_false, reduceCtorEq, q_n0, q_n1, q_em, q_em2, q_b0, q_b1, Classical.not_not, nI_add, pk_mul, nI_clamp, q_vp, nI_eq, nI_leI, nI_ltI, q_sub]
        · simp (disch := omega) only [e112, r112_0, r112_1, r112_2, r112_5, r112_8, r112_11, r112_12, r112_13, r112_15, r112_18, r112_21, r112_23, r112_25, r112_27, r112_30, r112_33, r112_35, r112_36, r112_38, r112_41, r112_44, r112_45, r112_46, r112_49, r112_50, r112_51, r112_52, r112_53, r112_56, r112_59, r112_62, r112_63, r112_64, r112_67, r112_70, r112_71, r112_73, r112_76, r112_77, r112_78, r112_81, r112_84, r112_87, r112_89, r112_92, r112_93, r112_95, r112_98, r112_99, r112_100, r112_101, r112_104, r112_107, r112_108, r112_109, r112_110, r112_112, r112_114, r112_117, r112_120, c125, c133_1, A1, A2, kdC, kdM, rpC, rpM, q_rs, q_rn, Option.toList_some, Option.toList_none, List.cons_append, List.nil_append, true_and, and_true, eq_self, ↓reduceIte, not_true_eq_false, not_false_eq_true, Nat.reduceEqDiff, Nat.reduceLeDiff, Nat.reduceLT, Nat.reduceAdd, Nat.reduceMul, Nat.reduceSub, false_or, or_false, true_or, or_true, false_and, and_false, reduceCtorEq, q_n0, q_n1, q_em, q_em2, q_b0, q_b1, Classical.not_not, nI_add, pk_mul, nI_clamp, q_vp, nI_eq, nI_leI, nI_ltI, q_sub]
      · simp (disch := omega) only [e112, r112_0, r112_1, r112_2, r112_5, r112_8, r112_11, r112_12, r112_13, r112_15, r112_18, r112_21, r112_23, r112_25, r112_27, r112_30, r112_33, r112_35, r112_36, r112_38, r112_41, r112_44, r112_45, r112_46, r112_49, r112_50, r112_51, r112_52, r112_53, r112_56, r112_59, r112_62, r112_63, r112_64, r112_67, r112_70, r112_71, r112_73, r112_76, r112_77, r112_78, r112_81, r112_84, r112_87, r112_89, r112_92, r112_93, r112_95, r112_98, r112_99, r112_100, r112_101, r112_104, r112_107, r112_108, r112_109, r112_110, r112_112, r112_114, r112_117, r112_120, c125, c133_1, A1, kdC, kdM, rpC, rpM, q_rs, q_rn, Option.toList_some, Option.toList_none, List.cons_append, List.nil_append, true_and, and_true, eq_self, ↓reduceIte, not_true_eq_false, not_false_eq_true, Nat.reduceEqDiff, Nat.reduceLeDiff, Nat.reduceLT, Nat.reduceAdd, Nat.reduceMul, Nat.reduceSub, false_or, or_false, true_or, or_true, false_and, and_false, reduceCtorEq, q_n0, q_n1, q_em, q_em2, q_b0, q_b1, Classical.not_not, nI_add, pk_mul, nI_clamp, q_vp, nI_eq, nI_leI, nI_ltI, q_sub]
    · by_cases A1 : nI 0 ≤ b ∧ b ≤ nI 400
      · by_cases A2 : nI 0 ≤ c ∧ c ≤ nI 7
        · by_cases A3 : -50 ≤ e ∧ e ≤ nI 50
          · by_cases A4 : nI 0 ≤ g ∧ g ≤ nI 7
            · exact absurd ⟨A1, A2, A3, A4⟩ hA
            · simp (disch := omega) only [e239, r239_0, r239_1, r239_2, r239_5, r239_8, r239_11, r239_12, r239_13, r239_15, r239_18, r239_21, r239_23, r239_25, r239_27, r239_30, r239_33, r239_35, r239_36, r239_38, r239_41, r239_44, r239_45, r239_46, r239_49, r239_50, r239_51, r239_52, r239_55, r239_58, r239_59, r239_61, r239_64, r239_65, r239_66, r239_69, r239_71, r239_73, r239_75, r239_78, r239_79, r239_81, r239_84, r239_85, r239_88, r239_90, r239_92, r239_93, r239_94, r239_96, r239_97, r239_100, r239_102, r239_103, r239_104, r239_105, r239_108, r239_110, r239_111, r239_112, r239_113, r239_114, r239_115, r239_118, r239_120, r239_121, r239_122, r239_123, r239_124, r239_125, r239_128, r239_130, r239_131, r239_132, r239_134, r239_135, r239_136, r239_139, r239_141, r239_142, r239_143, r239_145, r239_146, r239_147, r239_150, r239_152, r239_153, r239_154, r239_155, r239_156, r239_157, r239_160, r239_163, r239_164, r239_165, r239_166, r239_167, r239_168, r239_169, r239_171, r239_174, c143, m144_1, A1, A2, A3, A4, kdC, kdM, rpC, rpM, q_rs, q_rn, Option.toList_some, Option.toList_none, List.cons_append, List.nil_append, true_and, and_true, eq_self, ↓reduceIte, not_true_eq_false, not_false_eq_true, Nat.reduceEqDiff, Nat.reduceLeDiff, Nat.reduceLT, Nat.reduceAdd, Nat.reduceMul, Nat.reduceSub, false_or, or_false, true_or, or_true, false_and, and_false, reduceCtorEq, q_n0, q_n1, q_em, q_em2, q_b0, q_b1, Classical.not_not, nI_add, pk_mul, nI_clamp, q_vp, nI_eq, nI_leI, nI_ltI, q_sub]
          · simp (disch := omega) only [e239, r239_0, r239_1, r239_2, r239_5, r239_8, r239_11, r239_12, r239_13, r239_15, r239_18, r239_21, r239_23, r239_25, r239_27, r239_30, r239_33, r239_35, r239_36, r239_38, r239_41, r239_44, r239_45, r239_46, r239_49, r239_50, r239_51, r239_52, r239_55, r239_58, r239_59, r239_61, r239_64, r239_65, r239_66, r239_69, r239_71, r239_73, r239_75, r239_78, r239_79, r239_81, r239_84, r239_85, r239_88, r239_90, r239_92, r239_93, r239_94, r239_96, r239_97, r239_100, r239_102, r239_103, r239_104, r239_105, r239_108, r239_110, r239_111, r239_112, r239_113, r239_114, r239_115, r239_118, r239_120, r239_121, r239_122, r239_123, r239_124, r239_125, r239_128, r239_130, r239_131, r239_132, r239_134, r239_135, r239_136, r239_139, r239_141, r239_142, r239_143, r239_145, r239_146, r239_147, r239_150, r239_152, r239_153, r239_154, r239_155, r239_156, r239_157, r239_160, r239_163, r239_164, r239_165, r239_166, r239_167, r239_168, r239_169, r239_171, r239_174, c143, m144_1, A1, A2, A3, kdC, kdM, rpC, rpM, q_rs, q_rn, Option.toList_some, Option.toList_none, List.cons_append, List.nil_append, true_and, and_true, eq_self, ↓reduceIte, not_true_eq_false, not_false_eq_true, Nat.reduceEqDiff, Nat.reduceLeDiff, Nat.reduceLT, Nat.reduceAdd, Nat.reduceMul, Nat.reduceSub, false_or, or_false, true_or, or_true, false_and, and_false, reduceCtorEq, q_n0, q_n1, q_em, q_em2, q_b0, q_b1, Classical.not_not, nI_add, pk_mul, nI_clamp, q_vp, nI_eq, nI_leI, nI_ltI, q_sub]
        · simp (disch := omega) only [e239, r239_0, r239_1, r239_2, r239_5, r239_8, r239_11, r239_12, r239_13, r239_15, r239_18, r239_21, r239_23, r239_25, r239_27, r239_30, r239_33, r239_35, r239_36, r239_38, r239_41, r239_44, r239_45, r239_46, r239_49, r239_50, r239_51, r239_52, r239_55, r239_58, r239_59, r239_61, r239_64, r239_65, r239_66, r239_69, r239_71, r239_73, r239_75, r239_78, r239_79, r239_81, r239_84, r239_85, r239_88, r239_90, r239_92, r239_93, r239_94, r239_96, r239_97, r239_100, r239_102, r239_103, r239_104, r239_105, r239_108, r239_110, r239_111, r239_112, r239_113, r239_114, r239_115, r239_118, r239_120, r239_121, r239_122, r239_123, r239_124, r239_125, r239_128, r239_130, r239_131, r239_132, r239_134, r239_135, r239_136, r239_139, r239_141, r239_142, r239_143, r239_145, r239_146, r239_147, r239_150, r239_152, r239_153, r239_154, r239_155, r239_156, r239_157, r239_160, r239_163, r239_164, r239_165, r239_166, r239_167, r239_168, r239_169, r239_171, r239_174, c143, m144_1, A1, A2, kdC, kdM, rpC, rpM, q_rs, q_rn, Option.toList_some, Option.toList_none, List.cons_append, List.nil_append, true_and, and_true, eq_self, ↓reduceIte, not_true_eq_false, not_false_eq_true, Nat.reduceEqDiff, Nat.reduceLeDiff, Nat.reduceLT, Nat.reduceAdd, Nat.reduceMul, Nat.reduceSub, false_or, or_false, true_or, or_true, false_and, and_false, reduceCtorEq, q_n0, q_n1, q_em, q_em2, q_b0, q_b1, Classical.not_not, nI_add, pk_mul, nI_clamp, q_vp, nI_eq, nI_leI, nI_ltI, q_sub]
      · simp (disch := omega) only [e239, r239_0, r239_1, r239_2, r239_5, r239_8, r239_11, r239_12, r239_13, r239_15, r239_18, r239_21, r239_23, r239_25, r239_27, r239_30, r239_33, r239_35, r239_36, r239_38, r239_41, r239_44, r239_45, r239_46, r239_49, r239_50, r239_51, r239_52, r239_55, r239_58, r239_59, r239_61, r239_64, r239_65, r239_66, r239_69, r239_71, r239_73, r239_75, r239_78, r239_79, r239_81, r239_84, r239_85, r239_88, r239_90, r239_92, r239_93, r239_94, r239_96, r239_97, r239_100, r239_102, r239_103, r239_104, r239_105, r239_108, r239_110, r239_111, r239_112, r239_113, r239_114, r239_115, r239_118, r239_120, r239_121, r239_122, r239_123, r239_124, r239_125, r239_128, r239_130, r239_131, r239_132, r239_134, r239_135, r239_136, r239_139, r239_141, r239_142, r239_143, r239_145, r239_146, r239_147, r239_150, r239_152, r239_153, r239_154, r239_155, r239_156, r239_157, r239_160, r239_163, r239_164, r239_165, r239_166, r239_167, r239_168, r239_169, r239_171, r239_174, c143, m144_1, A1, kdC, kdM, rpC, rpM, q_rs, q_rn, Option.toList_some, Option.toList_none, List.cons_append, List.nil_append, true_and, and_true, eq_self, ↓reduceIte, not_true_eq_false, not_false_eq_true, Nat.reduceEqDiff, Nat.reduceLeDiff, Nat.reduceLT, Nat.reduceAdd, Nat.reduceMul, Nat.reduceSub, false_or, or_false, true_or, or_true, false_and, and_false, reduceCtorEq, q_n0, q_n1, q_em, q_em2, q_b0, q_b1, Classical.not_not, nI_add, pk_mul, nI_clamp, q_vp, nI_eq, nI_leI, nI_ltI, q_sub]
theorem send_S (z : STS h 0 K) {s : Nat} (hs : s < ns K) {v : Int32} (hv : rg v 0 1) : STS (sI (sI h 22 s v) 103 (304 + 6 * s + 5) v) 0 (upd K (304 + 6 * s + 5) v) := by
  have x : Mu h (sI (sI h 22 s v) 103 (304 + 6 * s + 5) v) := ((FrS.refl h).sI _ rfl).sI _ rfl
  have w := z.1
  have h1 := w.hns
  obtain ⟨pf, pc, pp, pt, ps, px⟩ := STS_iff.mp z
  have hk : ∀ i, i ≠ 304 + 6 * s + 5 → upd K (304 + 6 * s + 5) v i = K i := fun i hi => gup _ _ _ _ hi
  have hg : ∀ y, y ≠ 103 → y ≠ 22 → gI (sI (sI h 22 s v) 103 (304 + 6 * s + 5) v) y = gI h y := fun y h1 h2 => by rw [q_gn h1, q_gn h2]
  refine STS_iff.mpr ⟨PF_cg (fun c i h1 h2 => by rw [hg c (by omega) (by omega)]) (fun i h1 => hk i (by omega)) pf, PC_cg (fun i => by rw [hg 24 (by omega) (by omega)]) (fun i h1 h2 => hk i (by omega)) pc, PP_cg (by rw [hg 8 (by omega) (by omega)]) (fun c i h1 h2 => by rw [hg c (by omega) (by omega)]) (fun i h1 => hk i (by omega)) pp, PT_cg (by rw [hg 11 (by omega) (by omega)]) (fun c i h1 h2 => by rw [hg c (by omega) (by omega)]) (fun i h1 => hk i (by omega)) pt, ?_, PX_cg (by rw [hg 2 (by omega) (by omega)]) (fun t => by rw [q_gPI, q_gPI]) (fun a T => tAt_mu x) (fun i h1 => hk i (by omega)) px⟩
  obtain ⟨⟨a1, b1⟩, ⟨d1, e1, e2, e3, e4, e5, e6⟩, σ, u1, u2⟩ := ps
  have hn : ns (upd K (304 + 6 * s + 5) v) = ns K := by unfold ns; rw [hk 379 (by omega)]
  have ht : nt (upd K (304 + 6 * s + 5) v) = nt K := by unfold nt; rw [hk 378 (by omega)]
  refine ⟨⟨by rw [hk 379 (by omega)]; exact a1, ?_⟩, ⟨by rw [hg 11 (by omega) (by omega), hk 379 (by omega)]; exact d1, AR_cg (fun i hi => by rw [hg 17 (by omega) (by omega)]) (fun i hi => hk _ (by omega)) e1, AR_cg (fun i hi => by rw [hg 18 (by omega) (by omega)]) (fun i hi => hk _ (by omega)) e2, AR_cg (fun i hi => by rw [hg 19 (by omega) (by omega)]) (fun i hi => hk _ (by omega)) e3, AR_cg (fun i hi => by rw [hg 20 (by omega) (by omega)]) (fun i hi => hk _ (by omega)) e4, AR_cg (fun i hi => by rw [hg 21 (by omega) (by omega)]) (fun i hi => hk _ (by omega)) e5, ?_⟩, σ, ⟨fun i hi => ?_, fun i j hij hj => ?_⟩, fun i hi => ?_⟩
  · intro i hi
    rw [hn] at hi
    rw [hk _ (by omega), hk (304 + 6 * i + 1) (by omega), hk (304 + 6 * i + 2) (by omega), hk (304 + 6 * i + 3) (by omega), hk (304 + 6 * i + 4) (by omega), ht]
    obtain ⟨j1, j2, j3, j4, j5, j6⟩ := b1 i hi
    refine ⟨j1, j2, j3, j4, j5, ?_⟩
    by_cases e : i = s
    · subst e; rw [guq]; exact hv
    · rw [hk _ (by omega)]; exact j6
  · intro i hi
    rw [q_gn (by omega), q_gi]
    by_cases e : i = s
    · subst e
      rw [if_pos ⟨rfl, rfl⟩, show 309 + 6 * i = 304 + 6 * i + 5 by omega, guq]
    · rw [if_neg (fun q => e q.2), hk _ (by omega)]; exact e6 i hi
  · rw [hn] at *; exact u1.1 i hi
  · rw [hn] at hj
    have := u1.2 i j hij hj
    unfold ltS at *
    rw [hk _ (by omega), hk (304 + 6 * σ j + 1) (by omega)]
    exact this
  · rw [hn] at hi
    rw [hg (23 + 0) (by omega) (by omega)]
    exact u2 i hi
theorem p_send (z : Inv n h) (a b : Int32) : PRI n h 113 240 [.int a, .int b] := by
  intro d
  have w := z.1.1
  have q := z.1.2.1
  have hn := w.hns
  have hr2 := q_rfK (h := h) (-2) 1
  by_cases hB : nI 0 ≤ b ∧ b ≤ nI 1
  · have hB2 : b = nI 0 ∨ b = nI 1 := by rw [← q_flag]; exact hB
    by_cases hA : nI 0 ≤ a ∧ a < nI (ns (gI h 103))
    · obtain ⟨s, hs, rfl⟩ := q_ix (by omega) hA.1 hA.2
      have hS := send_S z.1 hs (rg_of hB (by decide) (by decide))
      have hK : gI (grt (sI h 22 s b)) 103 = gI h 103 := by rw [grt_K, q_gn (by omega)]
      refine ⟨gI h 103 (304 + 6 * s + 5), grt (sI h 22 s b), sI (sI (grt (sI h 22 s b)) 103 (304 + 6 * s + 5) b) 101 0 (nI 0), fun F => ?_, fun F => ?_, ?_⟩
      · simp (disch := omega) only [e113, r113_0, r113_1, r113_4, r113_7, r113_8, r113_9, r113_12, r113_13, r113_14, r113_17, r113_20, r113_21, r113_24, r113_27, r113_28, r113_30, r113_33, r113_34, r113_35, r113_38, r113_41, r113_44, r113_45, r113_46, r113_47, r113_48, r113_51, r113_54, r113_57, r113_58, r113_59, r113_60, r113_61, r113_62, r113_65, c126, cc25 _ h _ w q, c135, hA, hB2, kdC, kdM, rpC, rpM, q_rs, q_rn, Option.toList_some, Option.toList_none, List.cons_append, List.nil_append, true_and, and_true, eq_self, ↓reduceIte, not_true_eq_false, not_false_eq_true, Nat.reduceEqDiff, Nat.reduceLeDiff, Nat.reduceLT, Nat.reduceAdd, Nat.reduceMul, Nat.reduceSub, false_or, or_false, true_or, or_true, false_and, and_false, reduceCtorEq, q_n0, q_n1, q_em, q_em2, q_b0, q_b1, Classical.not_not, nI_add, pk_mul, nI_clamp, q_vp, nI_eq, nI_leI, nI_ltI, q_sub, q.s5, show s < 12 by omega]
      · simp (disch := omega) only [e240, r240_0, r240_1, r240_2, r240_3, r240_6, r240_9, r240_10, r240_11, r240_14, r240_15, r240_16, r240_17, r240_20, r240_23, r240_24, r240_26, r240_29, r240_30, r240_33, r240_35, r240_36, r240_37, r240_38, r240_39, r240_40, r240_41, r240_42, r240_45, r240_46, r240_47, r240_49, r240_50, r240_53, r240_54, r240_55, r240_56, r240_57, r240_59, r240_62, c143, m237 _ _ _ hK w, c145, hA, hB, kdC, kdM, rpC, rpM, q_rs, q_rn, Option.toList_some, Option.toList_none, List.cons_append, List.nil_append, true_and, and_true, eq_self, ↓reduceIte, not_true_eq_false, not_false_eq_true, Nat.reduceEqDiff, Nat.reduceLeDiff, Nat.reduceLT, Nat.reduceAdd, Nat.reduceMul, Nat.reduceSub, false_or, or_false, true_or, or_true, false_and, and_false, reduceCtorEq, q_n0, q_n1, q_em, q_em2, q_b0, q_b1, Classical.not_not, nI_add, pk_mul, nI_clamp, q_vp, nI_eq, nI_leI, nI_ltI, q_sub, hK, show 304 + 6 * s + 5 < 8391 by omega]
      · rw [q_grc (by omega)]
        refine Inv_gr2 z (((FrS.refl h).sI _ rfl).sI _ rfl) ?_ (fun b hb => by rw [q_gn (by omega), q_gn (by omega)])
        rw [q_gsu, q_gn (by omega)]
        exact hS
    · refine ⟨-2, rfc h (-2) 1, rfm (rfc h (-2) 1) (-2) 2, fun F => ?_, fun F => ?_, Inv_rf z (by omega)⟩
      · simp (disch := omega) only [e113, r113_0, r113_1, r113_4, r113_7, r113_8, r113_9, r113_12, r113_13, r113_14, r113_17, r113_20, r113_21, r113_24, r113_27, r113_28, r113_30, r113_33, r113_34, r113_35, r113_38, r113_41, r113_44, r113_45, r113_46, r113_47, r113_48, r113_51, r113_54, r113_57, r113_58, r113_59, r113_60, r113_61, r113_62, r113_65, c126, cc25 _ h _ w q, c133_2, hA, hB2, kdC, kdM, rpC, rpM, q_rs, q_rn, Option.toList_some, Option.toList_none, List.cons_append, List.nil_append, true_and, and_true, eq_self, ↓reduceIte, not_true_eq_false, not_false_eq_true, Nat.reduceEqDiff, Nat.reduceLeDiff, Nat.reduceLT, Nat.reduceAdd, Nat.reduceMul, Nat.reduceSub, false_or, or_false, true_or, or_true, false_and, and_false, reduceCtorEq, q_n0, q_n1, q_em, q_em2, q_b0, q_b1, Classical.not_not, nI_add, pk_mul, nI_clamp, q_vp, nI_eq, nI_leI, nI_ltI, q_sub]
      · simp (disch := omega) only [e240, r240_0, r240_1, r240_2, r240_3, r240_6, r240_9, r240_10, r240_11, r240_14, r240_15, r240_16, r240_17, r240_20, r240_23, r240_24, r240_26, r240_29, r240_30, r240_33, r240_35, r240_36, r240_37, r240_38, r240_39, r240_40, r240_41, r240_42, r240_45, r240_46, r240_47, r240_49, r240_50, r240_53, r240_54, r240_55, r240_56, r240_57, r240_59, r240_62, c143, m237 _ _ _ hr2 w, m144_2, hA, hB, kdC, kdM, rpC, rpM, q_rs, q_rn, Option.toList_some, Option.toList_none, List.cons_append, List.nil_append, true_and, and_true, eq_self, ↓reduceIte, not_true_eq_false, not_false_eq_true, Nat.reduceEqDiff, Nat.reduceLeDiff, Nat.reduceLT, Nat.reduceAdd, Nat.reduceMul, Nat.reduceSub, false_or, or_false, true_or, or_true, false_and, and_false, reduceCtorEq, q_n0, q_n1, q_em, q_em2, q_b0, q_b1, Classical.not_not, nI_add, pk_mul, nI_clamp, q_vp, nI_eq, nI_leI, nI_ltI, q_sub]
  · have hB2 : ¬ (b = nI 0 ∨ b = nI 1) := by rw [← q_flag]; exact hB
    refine ⟨-1, rfc h (-1) 0, rfm (rfc h (-1) 0) (-1) 1, fun F => ?_, fun F => ?_, Inv_rf z (by omega)⟩
    · simp (disch := omega) only [e113, r113_0, r113_1, r113_4, r113_7, r113_8, r113_9, r113_12, r113_13, r113_14, r113_17, r113_20, r113_21, r113_24, r113_27, r113_28, r113_30, r113_33, r113_34, r113_35, r113_38, r113_41, r113_44, r113_45, r113_46, r113_47, r113_48, r113_51, r113_54, r113_57, r113_58, r113_59, r113_60, r113_61, r113_62, r113_65, c126, c133_1, hB2, kdC, kdM, rpC, rpM, q_rs, q_rn, Option.toList_some, Option.toList_none, List.cons_append, List.nil_append, true_and, and_true, eq_self, ↓reduceIte, not_true_eq_false, not_false_eq_true, Nat.reduceEqDiff, Nat.reduceLeDiff, Nat.reduceLT, Nat.reduceAdd, Nat.reduceMul, Nat.reduceSub, false_or, or_false, true_or, or_true, false_and, and_false, reduceCtorEq, q_n0, q_n1, q_em, q_em2, q_b0, q_b1, Classical.not_not, nI_add, pk_mul, nI_clamp, q_vp, nI_eq, nI_leI, nI_ltI, q_sub]
    · simp (disch := omega) only [e240, r240_0, r240_1, r240_2, r240_3, r240_6, r240_9, r240_10, r240_11, r240_14, r240_15, r240_16, r240_17, r240_20, r240_23, r240_24, r240_26, r240_29, r240_30, r240_33, r240_35, r240_36, r240_37, r240_38, r240_39, r240_40, r240_41, r240_42, r240_45, r240_46, r240_47, r240_49, r240_50, r240_53, r240_54, r240_55, r240_56, r240_57, r240_59, r240_62, c143, m144_1, hB, kdC, kdM, rpC, rpM, q_rs, q_rn, Option.toList_some, Option.toList_none, List.cons_append, List.nil_append, true_and, and_true, eq_self, ↓reduceIte, not_true_eq_false, not_false_eq_true, Nat.reduceEqDiff, Nat.reduceLeDiff, Nat.reduceLT, Nat.reduceAdd, Nat.reduceMul, Nat.reduceSub, false_or, or_false, true_or, or_true, false_and, and_false, reduceCtorEq, q_n0, q_n1, q_em, q_em2, q_b0, q_b1, Classical.not_not, nI_add, pk_mul, nI_clamp, q_vp, nI_eq, nI_leI, nI_ltI, q_sub]
end SH
