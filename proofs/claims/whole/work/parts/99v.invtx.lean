/-! text: what holds behind it -/
theorem tEq_p {K K' : Nat → Int32} {t : Nat} {T : Tk} (h1 : K' (381 + t) = K (381 + t)) (h2 : ∀ k, k < 400 * t + 400 → K' (391 + k) = K (391 + k) ∧ K' (4391 + k) = K (4391 + k)) (z : tEq K t T) : tEq K' t T := by
  have hl := rg_n z.1 (by omega)
  have hm : ∀ hd env, mSay K' t hd env = mSay K t hd env := by
    intro hd env
    unfold mSay
    rw [h1]
    refine mAsk_cg ?_ ?_ _ _
    · funext k
      unfold cda
      split
      · exact (h2 k (by omega)).1
      · rfl
    · funext k
      unfold cda
      split
      · exact (h2 k (by omega)).2
      · rfl
  unfold tEq at *
  simp only [hm, h1]
  exact z
theorem al_u {a b n U : Nat} (h1 : a ≤ b + 450) (h2 : b ≤ U + 450 * n) : a ≤ U + 450 * (n + 1) := by
  rw [Nat.mul_add, Nat.mul_one, ← Nat.add_assoc]
  exact Nat.le_trans h1 (Nat.add_le_add_right h2 450)
theorem Inv_tx {n : Nat} {h H : Hp} (z : Inv n h) {t : Nat} {T : Tk} (ht : nx (gI h 103) = t) (ht10 : t < 10) (ez : hz H = hz h + 3) (eu : hu H ≤ hu h + 450)
    (eg : ∀ b i, b < hz h → mus b i = false → gI H b i = gI h b i) (ep : ∀ b i, b < hz h → mus b i = false → (b = 25 → i ≠ t) → gP H b i = gP h b i) (ek : ∀ b, b < hz h → hk H b = hk h b)
    (nw : gP H (hz h) 0 = some (hz h + 1) ∧ gP H (hz h) 1 = some (hz h + 2)) (nk : hk H (hz h) = (9, 2) ∧ hk H (hz h + 1) = (20, T.2.1) ∧ hk H (hz h + 2) = (20, 4 * T.2.2.2)) (ng : gI H (hz h + 1) = T.1 ∧ gI H (hz h + 2) = T.2.2.1)
    (e25 : gP H 25 t = some (hz h)) (e88 : gP H 88 12 = none) (ec : ∀ c i, 2 ≤ c → c ≤ 24 → (c = 8 → i ≤ 2) → ¬ (c = 2 ∧ i = 5) → gI H c i = gI h c i) (e2 : gI H 2 5 = nI (t + 1))
    (k0 : gI H 103 380 = nI (t + 1)) (k1 : ∀ i, i < 380 → gI H 103 i = gI h 103 i) (k2 : ∀ t', t' < t → gI H 103 (381 + t') = gI h 103 (381 + t')) (k3 : ∀ k, k < 400 * t → gI H 103 (391 + k) = gI h 103 (391 + k) ∧ gI H 103 (4391 + k) = gI h 103 (4391 + k))
    (te : tEq (gI H 103) t T) (hT : TPS H) (hR : RFS H) (h5 : gI H 1 10 = gI H 101 0 ∧ gI H 1 11 = gI H 101 9) : Inv (n + 1) H := by
  obtain ⟨i1, i2, i3, i4, i5, i6, ⟨t1, t2, t3⟩, i8, i9⟩ := z
  have hnx := i1.1.hnx
  rw [ht] at hnx
  have tA : ∀ a T', tAt h a T' → tAt H a T' := by
    rintro a T' ⟨s, c, ⟨q1, q2, q3, q4, q5, q6⟩, p0, p1, r0, r1, r2, g0, g1⟩
    have gg : ∀ b, 121 ≤ b → b < hz h → gI H b = gI h b := fun b hb1 hb2 => funext fun i => eg b i hb2 (mus_big hb1)
    exact ⟨s, c, by rw [ez]; exact ⟨q1, by omega, q3, by omega, q5, by omega⟩, by rw [ep a 0 q2 (mus_big q1) (by omega)]; exact p0, by rw [ep a 1 q2 (mus_big q1) (by omega)]; exact p1, by rw [ek a q2]; exact r0, by rw [ek s q4]; exact r1, by rw [ek c q6]; exact r2, by rw [gg s q3 q4]; exact g0, by rw [gg c q5 q6]; exact g1⟩
  have tN : tAt H (hz h) T := ⟨hz h + 1, hz h + 2, by rw [ez]; omega, nw.1, nw.2, nk.1, nk.2.1, nk.2.2, ng.1, ng.2⟩
  have hK' : nx (gI H 103) = t + 1 := by unfold nx; rw [k0, nI_clamp (by omega)]
  refine ⟨?_, ?_, hT, hR, h5, ?_, ⟨by rw [ez]; omega, ?_, ?_⟩, ?_, CAS_none e88⟩
  · have iz := STS_iff.mp i1
    refine STS_iff.mpr ⟨PF_cg (fun c i h1 h2 => ec c i (by omega) (by omega) (by omega) (by omega)) (fun i hi => k1 i (by omega)) iz.1, PC_cg (fun i => ec 24 i (by omega) (by omega) (by omega) (by omega)) (fun i h1 h2 => k1 i (by omega)) iz.2.1, PP_cg (ec 8 2 (by omega) (by omega) (by omega) (by omega)) (fun c i h1 h2 => ec c i (by omega) (by omega) (by omega) (by omega)) (fun i hi => k1 i (by omega)) iz.2.2.1, PT_cg (ec 11 5 (by omega) (by omega) (by omega) (by omega)) (fun c i h1 h2 => ec c i (by omega) (by omega) (by omega) (by omega)) (fun i hi => k1 i (by omega)) iz.2.2.2.1, PS_cg (ec 11 13 (by omega) (by omega) (by omega) (by omega)) (fun c i h1 h2 => ec c i (by omega) (by omega) (by omega) (by omega)) (fun i hi => k1 i (by omega)) (by unfold nt; rw [k1 378 (by omega)]; exact Nat.le_refl _) iz.2.2.2.2.1, ?_⟩
    refine ⟨by rw [k0]; exact ⟨by rw [nI_toInt (by omega)]; omega, by rw [nI_toInt (by omega)]; omega⟩, by rw [e2, k0], fun t' ht' => ?_⟩
    rw [hK'] at ht'
    by_cases e : t' = t
    · subst e
      exact ⟨hz h, T, e25, tN, te⟩
    · obtain ⟨a, T', b1, b2, b3⟩ := iz.2.2.2.2.2.2.2 t' (by rw [ht]; omega)
      refine ⟨a, T', ?_, tA a T' b2, tEq_p (k2 t' (by omega)) (fun k hk => k3 k (by omega)) b3⟩
      show gP H 25 t' = some a
      rw [ep 25 t' (by omega) rfl (fun _ => e)]
      exact b1
  · intro k hk
    obtain ⟨a1, a2, a3⟩ := i2 k hk
    rw [eg 75 k (by omega) rfl, eg 105 k (by omega) rfl]
    refine ⟨a1, a2, fun e => ?_⟩
    have hm : imK H k = imK h k := by
      unfold imK
      funext i
      exact eg 104 _ (by omega) rfl
    rw [hm]
    have ho : 25 + 24 * k = 25 ∨ 25 + 24 * k = 49 := by omega
    exact STS_of (fun c i h1 h2 h3 => eg _ i (by omega) (mus_im ho h1 h2)) (fun t' => ep _ t' (by omega) (mus_im (c := 25) ho (by omega) (by omega)) (by omega)) tA (a3 e)
  · intro i hi
    rw [eg 106 i (by omega) rfl]; exact i6 i hi
  · intro b hb1 hb2 hb3
    rw [ez] at hb2
    by_cases e : b < hz h
    · rw [ek b e] at hb3
      obtain ⟨s, c, p0, p1, q1, q2⟩ := t2 b hb1 e hb3
      rw [ep b 0 e (mus_big hb1) (by omega), ep b 1 e (mus_big hb1) (by omega), ez]
      exact ⟨s, c, p0, p1, by omega, by omega⟩
    · rcases (show b = hz h ∨ b = hz h + 1 ∨ b = hz h + 2 by omega) with rfl | rfl | rfl
      · exact ⟨hz h + 1, hz h + 2, nw.1, nw.2, by rw [ez]; omega, by rw [ez]; omega⟩
      · rw [nk.2.1] at hb3; cases hb3
      · rw [nk.2.2] at hb3; cases hb3
  · intro c hc t' ht' a ha
    rw [ez]
    by_cases e : c = 25 ∧ t' = t
    · rw [e.1, e.2, e25] at ha
      cases ha
      exact ⟨t1, by omega, nk.1⟩
    · rw [ep c t' (by omega) (by rcases hc with rfl | rfl | rfl <;> rfl) (fun u v => e ⟨u, v⟩)] at ha
      obtain ⟨q1, q2, q3⟩ := t3 c hc t' ht' a ha
      exact ⟨q1, by omega, by rw [ek a q2]; exact q3⟩
  · rcases i8 with ⟨h1, h2, h3⟩ | ⟨A, h1, h2, h3, h4, h5', h6, h7⟩
    · exact Or.inl ⟨by rw [ep 86 2 (by omega) rfl (by omega)]; exact h1, by rw [ez]; omega, al_u eu h3⟩
    · refine Or.inr ⟨A, by rw [ep 86 2 (by omega) rfl (by omega)]; exact h1, h2, by rw [ez]; omega, by rw [ek A h3]; exact h4, fun b hb1 hb2 hb3 => ?_, by rw [ez]; omega, al_u eu h7⟩
      rw [ez] at hb2
      by_cases e : b < hz h
      · rw [ek b e] at hb3
        rw [ep b 0 e (mus_big hb1) (by omega), ep b 1 e (mus_big hb1) (by omega)]
        exact h5' b hb1 e hb3
      · rcases (show b = hz h ∨ b = hz h + 1 ∨ b = hz h + 2 by omega) with rfl | rfl | rfl
        · rw [nw.1, nw.2]
          exact ⟨fun q => by cases q; omega, fun q => by cases q; omega⟩
        · rw [nk.2.1] at hb3; cases hb3
        · rw [nk.2.2] at hb3; cases hb3
/-! text: the model keeps the tokens -/
section MTX
variable {B : Nat → Int32} {n m : Nat}
theorem kd103 (h : Hp) : kdm true h 103 = (20, 8391) := rfl
theorem ml188 (hm : m ≤ 400) {t : Nat} (ht : t < 10) {h : Hp} (h13 : gI h 101 13 = nI m) (tk : TKS h B n (m + 1)) : ∀ k j (X : Nat → Int32), j + k = m → (∀ i, i < j → X (391 + (400 * t + i)) = mcJ B n i ∧ X (4391 + (400 * t + i)) = mvJ B n i) → (∀ i, ¬ (391 + 400 * t ≤ i ∧ i < 391 + 400 * t + 400) → ¬ (4391 + 400 * t ≤ i ∧ i < 4391 + 400 * t + 400) → X i = gI h 103 i ∨ (i = 381 + t ∧ X i = nI m)) → X (381 + t) = nI m → ∃ X' : Nat → Int32, (∀ i, i < m → X' (391 + (400 * t + i)) = mcJ B n i ∧ X' (4391 + (400 * t + i)) = mvJ B n i) ∧ (∀ i, ¬ (391 + 400 * t ≤ i ∧ i < 391 + 400 * t + 400) → ¬ (4391 + 400 * t ≤ i ∧ i < 4391 + 400 * t + 400) → X' i = gI h 103 i ∨ (i = 381 + t ∧ X' i = nI m)) ∧ X' (381 + t) = nI m ∧ ∀ d F, wp true d 188 64 [.ref 101, .int (nI t), .int (nI j)] [] (sA h 103 X) F = wp true d 188 122 [.ref 101, .int (nI t), .int (nI m)] [] (sA h 103 X') F
  | 0, j, X, e, i1, i2, i3 => by
    obtain rfl : j = m := e
    have g13 : gI (sA h 103 X) 101 13 = nI j := by rw [q_gan (by omega)]; exact h13
    refine ⟨X, i1, i2, i3, fun d F => ?_⟩
    rw [r188_64]
    simp (disch := omega) only [r188_65, r188_66, r188_69, g13, kdC, kdM, rpC, rpM, q_rs, q_rn, Option.toList_some, Option.toList_none, List.cons_append, List.nil_append, true_and, and_true, eq_self, ↓reduceIte, not_true_eq_false, not_false_eq_true, Nat.reduceEqDiff, Nat.reduceLeDiff, Nat.reduceLT, Nat.reduceAdd, Nat.reduceMul, Nat.reduceSub, false_or, or_false, true_or, or_true, false_and, and_false, reduceCtorEq, q_n0, q_n1, q_em, q_em2, q_b0, q_b1, Classical.not_not, nI_add, pk_mul, nI_clamp, q_vp, nI_eq, nI_leI, nI_ltI, q_sub, Nat.le_refl]
  | k + 1, j, X, e, i1, i2, i3 => by
    have g13 : gI (sA h 103 X) 101 13 = nI m := by rw [q_gan (by omega)]; exact h13
    obtain ⟨t1, t2, _⟩ := tk j (by omega)
    have g109 : gI (sA h 103 X) 109 j = mcJ B n j := by rw [q_gan (by omega)]; exact t1
    have g110 : gI (sA h 103 (upd X (391 + 400 * t + j) (mcJ B n j))) 110 j = mvJ B n j := by rw [q_gan (by omega)]; exact t2
    obtain ⟨X', a1, a2, a3, a4⟩ := ml188 hm ht h13 tk k (j + 1) (upd (upd X (391 + 400 * t + j) (mcJ B n j)) (4391 + 400 * t + j) (mvJ B n j)) (by omega) (by
      intro i hi
      unfold upd
      by_cases ei : i = j
      · subst ei
        rw [if_neg (by omega), if_pos (by omega), if_pos (by omega)]
        exact ⟨rfl, rfl⟩
      · rw [if_neg (by omega), if_neg (by omega), if_neg (by omega), if_neg (by omega)]
        exact i1 i (by omega)) (by
      intro i h1 h2
      unfold upd
      rw [if_neg (by omega), if_neg (by omega)]
      exact i2 i h1 h2) (by unfold upd; rw [if_neg (by omega), if_neg (by omega)]; exact i3)
    refine ⟨X', a1, a2, a3, fun d F => ?_⟩
    refine Eq.trans ?_ (a4 d F)
    rw [r188_64]
    simp (disch := omega) only [r188_65, r188_66, r188_69, r188_72, r188_73, r188_76, r188_79, r188_82, r188_83, r188_84, r188_85, r188_86, r188_87, r188_88, r188_91, r188_92, r188_93, r188_94, r188_95, r188_98, r188_101, r188_104, r188_105, r188_106, r188_107, r188_108, r188_109, r188_110, r188_113, r188_114, r188_115, r188_116, r188_119, kd103, g13, g109, g110, q_sIs, kdC, kdM, rpC, rpM, q_rs, q_rn, Option.toList_some, Option.toList_none, List.cons_append, List.nil_append, true_and, and_true, eq_self, ↓reduceIte, not_true_eq_false, not_false_eq_true, Nat.reduceEqDiff, Nat.reduceLeDiff, Nat.reduceLT, Nat.reduceAdd, Nat.reduceMul, Nat.reduceSub, false_or, or_false, true_or, or_true, false_and, and_false, reduceCtorEq, q_n0, q_n1, q_em, q_em2, q_b0, q_b1, Classical.not_not, nI_add, pk_mul, nI_clamp, q_vp, nI_eq, nI_leI, nI_ltI, q_sub, show ¬ m ≤ j by omega, show j < 401 by omega, show 391 + 400 * t + j < 8391 by omega, show 4391 + 400 * t + j < 8391 by omega]
end MTX
