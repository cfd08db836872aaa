/-! text: the pair -/
theorem c2_mu {h h' : Hp} (x : FrS c2S h h') : Mu h h' := x.mono (fun a i e => by
  unfold c2S
  have key : ∀ k, mus k i = true → Nat.beq a k = false := by
    intro k hk
    cases q : Nat.beq a k with
    | false => rfl
    | true =>
      obtain rfl := Nat.eq_of_beq_eq_true q
      rw [hk] at e; cases e
  rw [key 76 rfl, key 78 rfl, key 79 rfl]
  rfl)
theorem m2_mu {h h' : Hp} (x : FrS m2S h h') : Mu h h' := x.mono (fun a i e => by
  unfold m2S
  have key : ∀ k, mus k i = true → Nat.beq a k = false := by
    intro k hk
    cases q : Nat.beq a k with
    | false => rfl
    | true =>
      obtain rfl := Nat.eq_of_beq_eq_true q
      rw [hk] at e; cases e
  rw [key 109 rfl, key 110 rfl, key 111 rfl]
  cases q : Nat.beq a 101 with
  | false => rfl
  | true =>
    obtain rfl := Nat.eq_of_beq_eq_true q
    cases q2 : Nat.ble 8 i with
    | false => rfl
    | true =>
      have hm : mus 101 i = true := by
        show ((Nat.ble 2 101 && Nat.ble 101 24) || (Nat.beq 101 103 || ((Nat.beq 101 1 && Nat.ble 10 i) || ((Nat.beq 101 101 && (Nat.beq i 0 || Nat.ble 8 i)) || _)))) = true
        rw [q2]
        cases Nat.beq i 0 <;> rfl
      rw [hm] at e
      cases e)
theorem m2_c {a : Nat} (h1 : a ≤ 100) (i : Nat) : m2S a i = false := by
  have key : ∀ k, 100 < k → Nat.beq a k = false := by
    intro k hk
    cases q : Nat.beq a k with
    | false => rfl
    | true => have := Nat.eq_of_beq_eq_true q; omega
  unfold m2S
  rw [key 109 (by omega), key 110 (by omega), key 111 (by omega), key 101 (by omega)]
  rfl
theorem c2_c {a : Nat} (h1 : a ≤ 75) (i : Nat) : c2S a i = false := by
  have key : ∀ k, 75 < k → Nat.beq a k = false := by
    intro k hk
    cases q : Nat.beq a k with
    | false => rfl
    | true => have := Nat.eq_of_beq_eq_true q; omega
  unfold c2S
  rw [key 76 (by omega), key 78 (by omega), key 79 (by omega)]
  rfl
theorem kd25 (h : Hp) : kdm true h 25 = (25, 10) := rfl
theorem p_text {n : Nat} {h : Hp} (z : Inv n h) : PRI n h 94 188 [] := by
  intro d
  have w := z.1.1
  have q := z.1.2.1
  have hx := w.hnx
  obtain ⟨n0, hn0, l1, l2⟩ := TPS.len z.2.2.1
  obtain ⟨T1, T2, T3⟩ := z.2.2.1
  have hz121 := z.2.2.2.2.2.2.1.1
  have hW := z.2.2.2.2.2.1
  have g25 : gI (sI h 76 1 (nI 0)) 2 5 = nI (nx (gI h 103)) := by rw [q_gn (by omega), q.hnx]; exact hx.1
  by_cases c10 : nx (gI h 103) = 10
  · refine ⟨-5, rfc (sI h 76 1 (nI 0)) (-5) 3, rfm (rfc (tp0 h) (-5) 3) (-5) 5, fun F => ?_, fun F => ?_, Inv_rf (tp0_I z) (by omega)⟩
    · rw [c10] at g25
      simp (disch := omega) only [e94, r94_0, r94_1, r94_4, r94_7, r94_8, r94_9, r94_12, r94_13, r94_16, r94_17, r94_20, r94_23, r94_25, r94_28, r94_29, r94_31, r94_34, r94_35, r94_36, r94_39, r94_40, r94_43, r94_43n, r94_44, r94_44n, r94_45, r94_45n, r94_48, r94_49, r94_50, r94_53, r94_56, r94_59, r94_60, r94_62, r94_65, r94_66, r94_67, r94_68, r94_71, r94_72, r94_75, r94_78, r94_79, r94_82, r94_85, r94_85n, r94_86, r94_86n, r94_87, r94_88, r94_91, r94_92, r94_95, r94_96, r94_97, r94_100, r94_101, r94_102, r94_105, r94_108, r94_109, r94_110, r94_113, l1, g25, c133_5, kdC, kdM, rpC, rpM, q_rs, q_rn, Option.toList_some, Option.toList_none, List.cons_append, List.nil_append, true_and, and_true, eq_self, ↓reduceIte, not_true_eq_false, not_false_eq_true, Nat.reduceEqDiff, Nat.reduceLeDiff, Nat.reduceLT, Nat.reduceAdd, Nat.reduceMul, Nat.reduceSub, false_or, or_false, true_or, or_true, false_and, and_false, reduceCtorEq, q_n0, q_n1, q_em, q_em2, q_b0, q_b1, Classical.not_not, nI_add, pk_mul, nI_clamp, q_vp, nI_eq, nI_leI, nI_ltI, q_sub, Nat.lt_irrefl]
    · have hK : gI (rfc (sI h 76 1 (nI 0)) (-5) 3) 103 380 = nI 10 := by
        rw [q_rfK, q_gn (by omega), hx.1, c10]
      simp (disch := omega) only [e188, r188_0, r188_1, r188_4, r188_7, r188_8, r188_10, r188_13, r188_14, r188_15, r188_18, r188_19, r188_21, r188_24, r188_25, r188_26, r188_29, r188_32, r188_33, r188_35, r188_38, r188_39, r188_40, r188_43, r188_46, r188_47, r188_48, r188_49, r188_52, r188_55, r188_56, r188_57, r188_58, r188_61, r188_62, r188_63, r188_65, r188_66, r188_69, r188_72, r188_73, r188_76, r188_79, r188_82, r188_83, r188_84, r188_85, r188_86, r188_87, r188_88, r188_91, r188_92, r188_93, r188_94, r188_95, r188_98, r188_101, r188_104, r188_105, r188_106, r188_107, r188_108, r188_109, r188_110, r188_113, r188_114, r188_115, r188_116, r188_119, r188_122, r188_123, r188_126, r188_129, r188_130, r188_131, r188_132, r188_133, r188_134, r188_135, r188_136, r188_139, kd103, hK, m144_5, tp0_rf, kdC, kdM, rpC, rpM, q_rs, q_rn, Option.toList_some, Option.toList_none, List.cons_append, List.nil_append, true_and, and_true, eq_self, ↓reduceIte, not_true_eq_false, not_false_eq_true, Nat.reduceEqDiff, Nat.reduceLeDiff, Nat.reduceLT, Nat.reduceAdd, Nat.reduceMul, Nat.reduceSub, false_or, or_false, true_or, or_true, false_and, and_false, reduceCtorEq, q_n0, q_n1, q_em, q_em2, q_b0, q_b1, Classical.not_not, nI_add, pk_mul, nI_clamp, q_vp, nI_eq, nI_leI, nI_ltI, q_sub]
  · have ht10 : nx (gI h 103) < 10 := by omega
    obtain ⟨m, m1, m2, m3⟩ := tk_ex (gI h 77) n0
    have o : TOK (gI h 77) n0 m := ⟨fun i hi => (T1 i hi).2, hn0, m1, m2, m3⟩
    have hm4 := o.m400
    have x0 : Mu h (sI h 76 1 (nI 0)) := (FrS.refl h).sI _ rfl
    have hT0 : ∀ i, i < 400 → gI (sI h 76 1 (nI 0)) 77 i = gI h 77 i := fun i hi => by rw [q_gn (by omega)]
    rcases rd_all o with ⟨i, cs, HD, P1, P2, P3, a1, a2, a3, a4, a5, a6⟩ | ⟨k, a5, a6⟩
    · -- it is a TEXT
      obtain ⟨h1, b1, b2, b3, b4, b5, v3, b6⟩ := a5 (sI h 76 1 (nI 0)) hT0
      have ez1 : hz h1 = hz h := b1.1.1
      obtain ⟨f, f2, e1, e2, e3⟩ := c41_t (h := h1) (z := cs.length) (i := i) (by rw [ez1]; exact hz121) b4 b5 a2 a1
      obtain ⟨z1, z2⟩ := txN_z (h := h1) cs.length f i f2
      have zo := fun b (hb : b < hz h1) => txN_o (h := h1) cs.length f i f2 hb
      obtain ⟨⟨y1, y2⟩, ⟨y3, y4, y5⟩, y6, y7⟩ := txN_n (h := h1) cs.length f i f2
      have hc41 : ∀ D F, 80 ≤ D → cwp true D 41 [.ref 76, .int (nI n0)] (sI h 76 1 (nI 0)) F = F (some (.ref (hz h))) (txN h1 cs.length f i f2) := by
        intro D F hD
        rw [b6 D F hD]
        obtain ⟨D', rfl⟩ : ∃ d, D = d + 1 := ⟨D - 1, by omega⟩
        rw [e3, ez1]
      have huE : hu (txN h1 cs.length f i f2) ≤ hu h + 450 := by
        rw [z2, b1.1.2.1]
        show hu h + 2 + cs.length + 4 * i ≤ hu h + 450
        omega
      generalize txN h1 cs.length f i f2 = g4 at *
      rw [ez1] at z1 zo y1 y2 y3 y4 y5 y6 y7
      -- what g4 has of h
      have x1 : Mu h h1 := x0.trans (c2_mu b1)
      have gI4 : ∀ b i, b < hz h → mus b i = false → gI g4 b i = gI h b i := fun b i hb hm => by rw [(zo b hb).1]; exact x1.g hm
      have gP4 : ∀ b i, b < hz h → mus b i = false → gP g4 b i = gP h b i := fun b i hb hm => by rw [(zo b hb).2.1]; exact x1.p hm
      have hk4 : ∀ b, b < hz h → hk g4 b = hk h b := fun b hb => by rw [(zo b hb).2.2]; exact congrFun b1.1.2.2 b
      have lo4 : ∀ b, b ≤ 75 → gI g4 b = gI h b := fun b hb => by rw [(zo b (by omega)).1, b1.G (fun i => c2_c hb i), q_gn (by omega)]
      have g103 : gI g4 103 = gI h 103 := by rw [(zo 103 (by omega)).1, b1.G (a := 103) (fun _ => rfl), q_gn (by omega)]
      have g101 : gI g4 101 = gI h 101 := by rw [(zo 101 (by omega)).1, b1.G (a := 101) (fun _ => rfl), q_gn (by omega)]
      have g106 : gI g4 106 = gI h 106 := by rw [(zo 106 (by omega)).1, b1.G (a := 106) (fun _ => rfl), q_gn (by omega)]
      have g107 : gI g4 107 = gI h 107 := by rw [(zo 107 (by omega)).1, b1.G (a := 107) (fun _ => rfl), q_gn (by omega)]
      have g77 : gI g4 77 = gI h 77 := by rw [(zo 77 (by omega)).1, b1.G (a := 77) (fun _ => rfl), q_gn (by omega)]
      have g100 : gI g4 100 = gI h 100 := by rw [(zo 100 (by omega)).1, b1.G (a := 100) (fun _ => rfl), q_gn (by omega)]
      have g102 : gI g4 102 = gI h 102 := by rw [(zo 102 (by omega)).1, b1.G (a := 102) (fun _ => rfl), q_gn (by omega)]
      have g761 : gI g4 76 1 = nI 0 := by rw [(zo 76 (by omega)).1, b1.g (a := 76) (i := 1) rfl, q_gs]
      have p25 : ∀ i, gP g4 25 i = gP h 25 i := fun i => gP4 25 i (by omega) rfl
      -- the class's heap
      generalize hHc : grt (sI (sP (sI g4 1 11 (-1)) 25 (nx (gI h 103)) (some (hz h))) 2 5 (nI (nx (gI h 103) + 1))) = H1 at *
      have cI : ∀ b, b ≠ 1 → b ≠ 2 → gI H1 b = gI g4 b := by
        intro b hb1 hb2
        rw [← hHc]
        unfold grt
        rw [q_gIP, q_gIP, q_gn hb1, q_gn hb2, q_gIP, q_gn hb1]
      have cM : ∀ b i, mus b i = false → gI H1 b i = gI g4 b i := by
        intro b i hm
        by_cases h1' : b = 1
        · subst h1'
          rw [← hHc]
          unfold grt
          rw [q_gIP, q_gIP, q_gm (fun u => by rw [u] at hm; cases hm), q_gn (by omega), q_gIP, q_gm (fun u => by rw [u] at hm; cases hm)]
        · by_cases h2' : b = 2
          · subst h2'; cases hm
          · rw [cI b h1' h2']
      have c2' : ∀ i, i ≠ 5 → gI H1 2 i = gI g4 2 i := by
        intro i hi
        rw [← hHc]
        unfold grt
        rw [q_gIP, q_gIP, q_gn (by omega), q_gm hi, q_gIP, q_gn (by omega)]
      have c25' : gI H1 2 5 = nI (nx (gI h 103) + 1) := by
        rw [← hHc]
        unfold grt
        rw [q_gIP, q_gIP, q_gn (by omega), q_gs]
      have c110 : gI H1 1 10 = nI 0 := by
        rw [← hHc]
        unfold grt
        rw [q_gIP, q_gIP, q_gs]
      have c111 : gI H1 1 11 = -1 := by
        rw [← hHc]
        unfold grt
        rw [q_gIP, q_gIP, q_gm (by omega), q_gn (by omega), q_gIP, q_gs]
      have cP : ∀ b i, b ≠ 88 → (b = 25 → i ≠ nx (gI h 103)) → gP H1 b i = gP g4 b i := by
        intro b i hb1 hb2
        rw [← hHc]
        unfold grt
        rw [q_pn hb1, q_pn hb1, q_gPI, q_gPI]
        by_cases e : b = 25
        · subst e; rw [q_pm (hb2 rfl), q_gPI]
        · rw [q_pn e, q_gPI]
      have cP25 : gP H1 25 (nx (gI h 103)) = some (hz h) := by
        rw [← hHc]
        unfold grt
        rw [q_pn (by omega), q_pn (by omega), q_gPI, q_gPI, q_ps]
      have cP88 : gP H1 88 12 = none := by
        rw [← hHc]
        unfold grt
        rw [q_pm (by omega), q_ps]
      have cZ : hz H1 = hz g4 ∧ hu H1 = hu g4 ∧ hk H1 = hk g4 := by rw [← hHc]; exact ⟨rfl, rfl, rfl⟩
      have hcl : ∀ F, cwp true (d + 900) 94 [.ref 1] h F = F (some (.int (nI (nx (gI h 103))))) H1 := by
        intro F
        have e41 := fun F => hc41 (d + 899) F (by omega)
        have k9 : kdm true (sI g4 1 11 (-1)) (hz h) = (9, 2) := by rw [kd_big hz121]; exact y3
        have g2a : gI (sI g4 1 11 (-1)) 2 5 = nI (nx (gI h 103)) := by rw [q_gn (by omega), lo4 2 (by omega), q.hnx]; exact hx.1
        have g2b : gI (sP (sI g4 1 11 (-1)) 25 (nx (gI h 103)) (some (hz h))) 2 5 = nI (nx (gI h 103)) := by rw [q_gIP]; exact g2a
        rw [← hHc]
        simp (disch := omega) only [e94, r94_0, r94_1, r94_4, r94_7, r94_8, r94_9, r94_12, r94_13, r94_16, r94_17, r94_20, r94_23, r94_25, r94_28, r94_29, r94_31, r94_34, r94_35, r94_36, r94_39, r94_40, r94_43, r94_43n, r94_44, r94_44n, r94_45, r94_45n, r94_48, r94_49, r94_50, r94_53, r94_56, r94_59, r94_60, r94_62, r94_65, r94_66, r94_67, r94_68, r94_71, r94_72, r94_75, r94_78, r94_79, r94_82, r94_85, r94_85n, r94_86, r94_86n, r94_87, r94_88, r94_91, r94_92, r94_95, r94_96, r94_97, r94_100, r94_101, r94_102, r94_105, r94_108, r94_109, r94_110, r94_113, l1, g25, e41, kd25, k9, wkT, elc, g2a, g2b, c135, q_gs, kdC, kdM, rpC, rpM, q_rs, q_rn, Option.toList_some, Option.toList_none, List.cons_append, List.nil_append, true_and, and_true, eq_self, ↓reduceIte, not_true_eq_false, not_false_eq_true, Nat.reduceEqDiff, Nat.reduceLeDiff, Nat.reduceLT, Nat.reduceAdd, Nat.reduceMul, Nat.reduceSub, false_or, or_false, true_or, or_true, false_and, and_false, reduceCtorEq, q_n0, q_n1, q_em, q_em2, q_b0, q_b1, Classical.not_not, nI_add, pk_mul, nI_clamp, q_vp, nI_eq, nI_leI, nI_ltI, q_sub, ht10, Nat.add_sub_cancel]
      -- the model
      obtain ⟨h', r1, r2, r3, r4, r5, r6⟩ := a6 H1 (fun i hi => by rw [cI 106 (by omega) (by omega), g106]; exact hW i hi) (fun i hi => by rw [cI 107 (by omega) (by omega), g107]; exact (T1 i hi).1.symm) (by rw [cI 101 (by omega) (by omega), g101]; exact l2)
      have m103 : gI h' 103 = gI h 103 := by rw [r1.G (a := 103) (fun _ => rfl), cI 103 (by omega) (by omega), g103]
      have up0 : ∀ i, upd (gI h' 103) (381 + nx (gI h 103)) (nI m) i = gI h' 103 i ∨ (i = 381 + nx (gI h 103) ∧ upd (gI h' 103) (381 + nx (gI h 103)) (nI m) i = nI m) := by
        intro i
        unfold upd
        by_cases e : i = 381 + nx (gI h 103)
        · rw [if_pos e]; exact Or.inr ⟨e, rfl⟩
        · rw [if_neg e]; exact Or.inl rfl
      obtain ⟨X, s1, s2, s3, s4⟩ := ml188 hm4 ht10 r4 r5 m 0 (upd (gI h' 103) (381 + nx (gI h 103)) (nI m)) (by omega) (fun i hi => by omega) (fun i _ _ => up0 i) (by unfold upd; rw [if_pos rfl])
      have sX : ∀ i, i ≠ 381 + nx (gI h 103) → ¬ (391 + 400 * nx (gI h 103) ≤ i ∧ i < 391 + 400 * nx (gI h 103) + 400) → ¬ (4391 + 400 * nx (gI h 103) ≤ i ∧ i < 4391 + 400 * nx (gI h 103) + 400) → X i = gI h 103 i := by
        intro i h1 h2 h3
        rcases s2 i h2 h3 with u | u
        · rw [u, m103]
        · exact absurd u.1 h1
      have X380 : X 380 = nI (nx (gI h 103)) := by rw [sX 380 (by omega) (by omega) (by omega)]; exact hx.1
      -- the last heap
      generalize hH2 : sI (sA h' 103 (upd X 380 (nI (nx (gI h 103) + 1)))) 101 0 (nI 0) = H2 at *
      have fI : ∀ b, b ≠ 101 → b ≠ 103 → gI H2 b = gI h' b := fun b hb1 hb2 => by rw [← hH2, q_gn hb1, q_gan hb2]
      have f103 : gI H2 103 = upd X 380 (nI (nx (gI h 103) + 1)) := by rw [← hH2, q_gn (by omega), q_ga]
      have f101 : ∀ i, i ≠ 0 → gI H2 101 i = gI h' 101 i := fun i hi => by rw [← hH2, q_gm hi, q_gan (by omega)]
      have f1010 : gI H2 101 0 = nI 0 := by rw [← hH2, q_gs]
      have fZ : hz H2 = hz h' ∧ hu H2 = hu h' ∧ hk H2 = hk h' ∧ gP H2 = gP h' := by rw [← hH2]; exact ⟨rfl, rfl, rfl, rfl⟩
      have xH : Mu H1 H2 := (m2_mu r1).trans (by rw [← hH2]; exact ((FrS.refl h').sA _ (fun _ => rfl)).sI _ rfl)
      have K' : ∀ i, i ≠ 380 → gI H2 103 i = X i := fun i hi => by rw [f103]; unfold upd; rw [if_neg hi]
      refine ⟨nI (nx (gI h 103)), H1, H2, hcl, fun F => ?_, ?_⟩
      · have k380 : gI H1 103 380 = nI (nx (gI h 103)) := by rw [cI 103 (by omega) (by omega), g103]; exact hx.1
        have kk380 : gI h' 103 380 = nI (nx (gI h 103)) := by rw [m103]; exact hx.1
        have r6' := fun F => r6 (d + 899) F (by omega)
        have s4' := s4 (d + 900) F
        rw [← q_sIA h' 103 (381 + nx (gI h 103)) (nI m)] at s4'
        simp (disch := omega) only [r188_0, r188_1, r188_4, r188_7, r188_8, r188_10, r188_13, r188_14, r188_15, r188_18, r188_19, r188_21, r188_24, r188_25, r188_26, r188_29, r188_32, r188_33, r188_35, r188_38, r188_39, r188_40, r188_43, r188_46, r188_47, r188_48, r188_49, r188_52, r188_55, r188_56, r188_57, r188_58, r188_61, r188_62, r188_63, e188, kd103, k380, r6', kk380, r4, kdC, kdM, rpC, rpM, q_rs, q_rn, Option.toList_some, Option.toList_none, List.cons_append, List.nil_append, true_and, and_true, eq_self, ↓reduceIte, not_true_eq_false, not_false_eq_true, Nat.reduceEqDiff, Nat.reduceLeDiff, Nat.reduceLT, Nat.reduceAdd, Nat.reduceMul, Nat.reduceSub, false_or, or_false, true_or, or_true, false_and, and_false, reduceCtorEq, q_n0, q_n1, q_em, q_em2, q_b0, q_b1, Classical.not_not, nI_add, pk_mul, nI_clamp, q_vp, nI_eq, nI_leI, nI_ltI, q_sub, show ¬ nx (gI h 103) = 10 by omega, show 381 + nx (gI h 103) < 8391 by omega]
        refine Eq.trans s4' ?_
        rw [← hH2]
        simp (disch := omega) only [r188_122, r188_123, r188_126, r188_129, r188_130, r188_131, r188_132, r188_133, r188_134, r188_135, r188_136, r188_139, kd103, q_ga, X380, q_sIs, c145, kdC, kdM, rpC, rpM, q_rs, q_rn, Option.toList_some, Option.toList_none, List.cons_append, List.nil_append, true_and, and_true, eq_self, ↓reduceIte, not_true_eq_false, not_false_eq_true, Nat.reduceEqDiff, Nat.reduceLeDiff, Nat.reduceLT, Nat.reduceAdd, Nat.reduceMul, Nat.reduceSub, false_or, or_false, true_or, or_true, false_and, and_false, reduceCtorEq, q_n0, q_n1, q_em, q_em2, q_b0, q_b1, Classical.not_not, nI_add, pk_mul, nI_clamp, q_vp, nI_eq, nI_leI, nI_ltI, q_sub]
      · have eZ : hz H2 = hz h + 3 := by rw [fZ.1, r1.1.1, cZ.1, z1]
        refine Inv_tx z (t := nx (gI h 103)) (T := (f, cs.length, f2, i)) rfl ht10 eZ (by rw [fZ.2.1, r1.1.2.1, cZ.2.1]; exact huE) (fun b i hb hm => by rw [xH.g hm, cM b i hm]; exact gI4 b i hb hm) (fun b i hb hm h25 => by rw [xH.p hm, cP b i (fun u => by rw [u] at hm; cases hm) h25]; exact gP4 b i hb hm) (fun b hb => by rw [fZ.2.2.1, r1.1.2.2, cZ.2.2]; exact hk4 b hb) ⟨by rw [xH.p (mus_big hz121), cP _ _ (by omega) (by omega)]; exact y1, by rw [xH.p (mus_big hz121), cP _ _ (by omega) (by omega)]; exact y2⟩ ⟨by rw [fZ.2.2.1, r1.1.2.2, cZ.2.2]; exact y3, by rw [fZ.2.2.1, r1.1.2.2, cZ.2.2]; exact y4, by rw [fZ.2.2.1, r1.1.2.2, cZ.2.2]; exact y5⟩ ⟨by rw [xH.G (fun i => mus_big (by omega)), cI _ (by omega) (by omega)]; exact y6, by rw [xH.G (fun i => mus_big (by omega)), cI _ (by omega) (by omega)]; exact y7⟩ (by rw [fZ.2.2.2, r1.p (m2_c (by omega) _)]; exact cP25) (by rw [fZ.2.2.2, r1.p (m2_c (by omega) _)]; exact cP88) (fun c i h1' h2' h3' h4' => ?_) ?_ ?_ ?_ ?_ ?_ ?_ ?_ ?_ ?_
        · rw [fI c (by omega) (by omega), r1.g (m2_c (by omega) _)]
          by_cases e : c = 2
          · subst e
            rw [c2' i (by omega), lo4 2 (by omega)]
          · rw [cI c (by omega) e, lo4 c (by omega)]
        · rw [fI 2 (by omega) (by omega), r1.g (m2_c (by omega) _)]; exact c25'
        · rw [f103]; unfold upd; rw [if_pos rfl]
        · intro i hi
          rw [K' i (by omega)]
          exact sX i (by omega) (by omega) (by omega)
        · intro t' ht'
          rw [K' _ (by omega)]
          exact sX _ (by omega) (by omega) (by omega)
        · intro k hk
          rw [K' _ (by omega), K' _ (by omega)]
          exact ⟨sX _ (by omega) (by omega) (by omega), sX _ (by omega) (by omega) (by omega)⟩
        · refine tEq_new o a1 a2 a3 a4 (fun k hk => ?_) (fun k hk => ?_) ?_ (fun j hj => ?_)
          · rw [e1 k hk]
            have := b2 k hk
            rw [Nat.zero_add] at this
            exact this
          · obtain ⟨u1, u2, u3, u4⟩ := b3 k hk
            rw [e2 _ (by omega), e2 _ (by omega), e2 _ (by omega), e2 _ (by omega)]
            exact ⟨u1, u2, u3, u4⟩
          · rw [K' _ (by omega)]; exact s3
          · rw [K' _ (by omega), K' _ (by omega)]
            exact s1 j hj
        · refine ⟨fun i hi => ?_, ?_, ?_⟩
          · rw [fI 77 (by omega) (by omega), fI 107 (by omega) (by omega), r1.G (a := 77) (fun _ => rfl), r1.G (a := 107) (fun _ => rfl), cI 77 (by omega) (by omega), cI 107 (by omega) (by omega), g77, g107]
            exact T1 i hi
          · rw [fI 76 (by omega) (by omega), r1.G (a := 76) (fun _ => rfl), cI 76 (by omega) (by omega), g761, f101 8 (by omega), r3]
          · rw [fI 76 (by omega) (by omega), r1.G (a := 76) (fun _ => rfl), cI 76 (by omega) (by omega), g761]
            exact ⟨by decide, by decide⟩
        · unfold RFS
          rw [fI 100 (by omega) (by omega), fI 102 (by omega) (by omega), r1.G (a := 100) (fun _ => rfl), r1.G (a := 102) (fun _ => rfl), cI 100 (by omega) (by omega), cI 102 (by omega) (by omega), g100, g102]
          exact z.2.2.2.1
        · rw [fI 1 (by omega) (by omega), r1.G (a := 1) (fun _ => rfl), c110, c111, f1010, f101 9 (by omega), r2]
          exact ⟨rfl, rfl⟩
    · -- it is none
      obtain ⟨h1, b1, b2, b3⟩ := a5 (sI h 76 1 (nI 0)) hT0
      have x1 : Mu h h1 := x0.trans (c2_mu b1)
      generalize hHc : rfc (sI h1 1 11 (nI (tpl (gI h 77) n0 k))) (-6) 4 = H1 at *
      have cI : ∀ b, b ≠ 1 → b ≠ 100 → gI H1 b = gI h1 b := by
        intro b hb1 hb2
        rw [← hHc]
        unfold rfc
        rw [q_gn hb2, q_gn hb1, q_gn hb1]
      have c110 : gI H1 1 10 = -6 := by rw [← hHc]; unfold rfc; rw [q_gn (by omega), q_gs]
      have c111 : gI H1 1 11 = nI (tpl (gI h 77) n0 k) := by rw [← hHc]; unfold rfc; rw [q_gn (by omega), q_gm (by omega), q_gs]
      have c100 : gI H1 100 = upd (gI h1 100) 4 (gI h1 100 4 + nI 1) := by
        rw [← hHc]
        unfold rfc
        rw [q_gsu, q_gn (by omega), q_gn (by omega)]
      have cX : Mu h1 H1 := by rw [← hHc]; exact (((FrS.refl h1).sI _ rfl).sI _ rfl).sI _ rfl
      have o1 : ∀ b, b ≠ 76 → b ≠ 78 → b ≠ 79 → gI h1 b = gI h b := by
        intro b n1 n2 n3
        have hb : ∀ i, c2S b i = false := by
          intro i
          unfold c2S
          have key : ∀ k, b ≠ k → Nat.beq b k = false := by
            intro k hk
            cases q : Nat.beq b k with
            | false => rfl
            | true => exact absurd (Nat.eq_of_beq_eq_true q) hk
          rw [key 76 n1, key 78 n2, key 79 n3]
          rfl
        rw [b1.G hb, q_gn n1]
      have o761 : gI h1 76 1 = nI 0 := by rw [b1.g (a := 76) (i := 1) rfl, q_gs]
      obtain ⟨h', r1, r2, r3, r6⟩ := a6 H1 (fun i hi => by rw [cI 106 (by omega) (by omega), o1 106 (by omega) (by omega) (by omega)]; exact hW i hi) (fun i hi => by rw [cI 107 (by omega) (by omega), o1 107 (by omega) (by omega) (by omega)]; exact (T1 i hi).1.symm) (by rw [cI 101 (by omega) (by omega), o1 101 (by omega) (by omega) (by omega)]; exact l2)
      have xH : Mu h (rfm h' (-6) 6) := ((x1.trans cX).trans (m2_mu r1)).trans (((FrS.refl h').sI _ rfl).sI _ rfl)
      have fI : ∀ b, b ≠ 101 → b ≠ 102 → gI (rfm h' (-6) 6) b = gI h' b := fun b hb1 hb2 => by unfold rfm; rw [q_gn hb2, q_gn hb1]
      have gM : ∀ b, b ≤ 75 → b ≠ 1 → gI (rfm h' (-6) 6) b = gI h b := by
        intro b hb1 hb2
        rw [fI b (by omega) (by omega), r1.G (fun i => m2_c (by omega) i), cI b hb2 (by omega), o1 b (by omega) (by omega) (by omega)]
      have gK : gI (rfm h' (-6) 6) 103 = gI h 103 := by rw [fI 103 (by omega) (by omega), r1.G (a := 103) (fun _ => rfl), cI 103 (by omega) (by omega), o1 103 (by omega) (by omega) (by omega)]
      have g88 : gI (rfm h' (-6) 6) 88 = gI h 88 := by rw [fI 88 (by omega) (by omega), r1.G (fun i => m2_c (by omega) i), cI 88 (by omega) (by omega), o1 88 (by omega) (by omega) (by omega)]
      have pH1 : gP H1 = gP h1 := by rw [← hHc]; rfl
      have p2 : ∀ b i, m2S b i = false → c2S b i = false → gP (rfm h' (-6) 6) b i = gP h b i := by
        intro b i e1 e2
        show gP h' b i = _
        rw [r1.p e1, pH1, b1.p e2]
        rfl
      refine ⟨-6, H1, rfm h' (-6) 6, fun F => ?_, fun F => ?_, ?_⟩
      · have b3' := fun F => b3 (d + 899) F (by omega)
        rw [← hHc]
        simp (disch := omega) only [e94, r94_0, r94_1, r94_4, r94_7, r94_8, r94_9, r94_12, r94_13, r94_16, r94_17, r94_20, r94_23, r94_25, r94_28, r94_29, r94_31, r94_34, r94_35, r94_36, r94_39, r94_40, r94_43, r94_43n, r94_44, r94_44n, r94_45, r94_45n, r94_48, r94_49, r94_50, r94_53, r94_56, r94_59, r94_60, r94_62, r94_65, r94_66, r94_67, r94_68, r94_71, r94_72, r94_75, r94_78, r94_79, r94_82, r94_85, r94_85n, r94_86, r94_86n, r94_87, r94_88, r94_91, r94_92, r94_95, r94_96, r94_97, r94_100, r94_101, r94_102, r94_105, r94_108, r94_109, r94_110, r94_113, l1, g25, b3', b2, c133_6, kdC, kdM, rpC, rpM, q_rs, q_rn, Option.toList_some, Option.toList_none, List.cons_append, List.nil_append, true_and, and_true, eq_self, ↓reduceIte, not_true_eq_false, not_false_eq_true, Nat.reduceEqDiff, Nat.reduceLeDiff, Nat.reduceLT, Nat.reduceAdd, Nat.reduceMul, Nat.reduceSub, false_or, or_false, true_or, or_true, false_and, and_false, reduceCtorEq, q_n0, q_n1, q_em, q_em2, q_b0, q_b1, Classical.not_not, nI_add, pk_mul, nI_clamp, q_vp, nI_eq, nI_leI, nI_ltI, q_sub, ht10]
      · have k380 : gI H1 103 380 = nI (nx (gI h 103)) := by rw [cI 103 (by omega) (by omega), o1 103 (by omega) (by omega) (by omega)]; exact hx.1
        have r6' := fun F => r6 (d + 899) F (by omega)
        simp (disch := omega) only [e188, r188_0, r188_1, r188_4, r188_7, r188_8, r188_10, r188_13, r188_14, r188_15, r188_18, r188_19, r188_21, r188_24, r188_25, r188_26, r188_29, r188_32, r188_33, r188_35, r188_38, r188_39, r188_40, r188_43, r188_46, r188_47, r188_48, r188_49, r188_52, r188_55, r188_56, r188_57, r188_58, r188_61, r188_62, r188_63, r188_65, r188_66, r188_69, r188_72, r188_73, r188_76, r188_79, r188_82, r188_83, r188_84, r188_85, r188_86, r188_87, r188_88, r188_91, r188_92, r188_93, r188_94, r188_95, r188_98, r188_101, r188_104, r188_105, r188_106, r188_107, r188_108, r188_109, r188_110, r188_113, r188_114, r188_115, r188_116, r188_119, r188_122, r188_123, r188_126, r188_129, r188_130, r188_131, r188_132, r188_133, r188_134, r188_135, r188_136, r188_139, kd103, k380, r6', m144_6, kdC, kdM, rpC, rpM, q_rs, q_rn, Option.toList_some, Option.toList_none, List.cons_append, List.nil_append, true_and, and_true, eq_self, ↓reduceIte, not_true_eq_false, not_false_eq_true, Nat.reduceEqDiff, Nat.reduceLeDiff, Nat.reduceLT, Nat.reduceAdd, Nat.reduceMul, Nat.reduceSub, false_or, or_false, true_or, or_true, false_and, and_false, reduceCtorEq, q_n0, q_n1, q_em, q_em2, q_b0, q_b1, Classical.not_not, nI_add, pk_mul, nI_clamp, q_vp, nI_eq, nI_leI, nI_ltI, q_sub, c10]
      · refine Inv_mu xH z (STS_mu0 xH gK (fun c i h1' h2' _ => by rw [gM c (by omega) (by omega)]) (fun t' => p2 25 t' (m2_c (by omega) _) (c2_c (by omega) _)) z.1) ⟨fun i hi => ?_, ?_, ?_⟩ ?_ ?_ (CAS_mu0 xH gK (by rw [g88]) (p2 88 12 (m2_c (by omega) _) rfl) (p2 88 13 (m2_c (by omega) _) rfl) z.2.2.2.2.2.2.2.2)
        · rw [fI 77 (by omega) (by omega), fI 107 (by omega) (by omega), r1.G (a := 77) (fun _ => rfl), r1.G (a := 107) (fun _ => rfl), cI 77 (by omega) (by omega), cI 107 (by omega) (by omega), o1 77 (by omega) (by omega) (by omega), o1 107 (by omega) (by omega) (by omega)]
          exact T1 i hi
        · have e8 : gI (rfm h' (-6) 6) 101 8 = nI 0 := by unfold rfm; rw [q_gn (by omega), q_gm (by omega)]; exact r3
          rw [fI 76 (by omega) (by omega), r1.G (a := 76) (fun _ => rfl), cI 76 (by omega) (by omega), o761, e8]
        · rw [fI 76 (by omega) (by omega), r1.G (a := 76) (fun _ => rfl), cI 76 (by omega) (by omega), o761]
          exact ⟨by decide, by decide⟩
        · have e1 : gI (rfm h' (-6) 6) 100 = upd (gI h 100) 4 (gI h 100 4 + nI 1) := by
            rw [fI 100 (by omega) (by omega), r1.G (a := 100) (fun _ => rfl), c100, o1 100 (by omega) (by omega) (by omega)]
          have e2 : gI (rfm h' (-6) 6) 102 = upd (gI h 102) 6 (gI h 102 6 + nI 1) := by
            unfold rfm
            rw [q_gsu, q_gn (by omega), r1.G (a := 102) (fun _ => rfl), cI 102 (by omega) (by omega), o1 102 (by omega) (by omega) (by omega)]
          unfold RFS
          rw [e1, e2]
          obtain ⟨u1, u2, u3, u4, u5⟩ := z.2.2.2.1
          simp [upd, u1, u2, u3, u4, u5]
        · have e0 : gI (rfm h' (-6) 6) 101 0 = -6 := by unfold rfm; rw [q_gn (by omega), q_gs]
          have e9 : gI (rfm h' (-6) 6) 101 9 = nI (tpl (gI h 77) n0 k) := by unfold rfm; rw [q_gn (by omega), q_gm (by omega)]; exact r2
          rw [fI 1 (by omega) (by omega), r1.G (a := 1) (fun _ => rfl), c110, c111, e0, e9]
          exact ⟨rfl, rfl⟩
