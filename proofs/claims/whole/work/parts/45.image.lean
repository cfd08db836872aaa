/-! image, back -/
section EVC
variable {c c' v v' : Nat → Int32} {e : Nat} {env : Nat → Int32}
theorem ev_cg (hc : cda c e = cda c' e) (hv : cda v e = cda v' e) : ∀ n, ev c v e env n = ev c' v' e env n
  | 0 => rfl
  | n + 1 => by
    funext tag live go br
    have hs : ∀ E, fsum c e E = fsum c' e E := fun E => by funext live s; unfold fsum; rw [hc]
    have ht : ∀ E, fterm c e E = fterm c' e E := fun E => by funext live s; unfold fterm; rw [hc]
    have hx : ∀ E, ftest c e E = ftest c' e E := fun E => by funext live s; unfold ftest; rw [hc]
    have hb : ∀ E, fboth c e E = fboth c' e E := fun E => by funext live s; unfold fboth; rw [hc]
    have hn : fnot c e = fnot c' e := by funext s; unfold fnot; rw [hc]
    have hp : ∀ E, fpart c v e env E = fpart c' v' e env E := fun E => by funext live go br; unfold fpart; rw [hc, hv]
    have hq : ∀ E E', fpos c e E E' = fpos c' e E E' := fun E E' => by funext live go br; unfold fpos; rw [hc]
    unfold ev
    simp only [hs, ht, hx, hb, hn, hp, hq, ev_cg hc hv n]
theorem mAsk_cg (hc : cda c e = cda c' e) (hv : cda v e = cda v' e) (hd : Int32) (go : Nat) : mAsk c v e env hd go = mAsk c' v' e env hd go := by
  unfold mAsk ecl
  simp only [hc, ev_cg hc hv]
end EVC
section IMG
variable {h h' : Hp} {K K' : Nat → Int32} {n : Nat}
theorem tEq_k (hk : ∀ i, i < 8391 → K' i = K i) {t : Nat} (ht : t < 10) {T : Tk} (z : tEq K t T) : tEq K' t T := by
  have h0 := rg_n z.1 (by omega)
  have hs : ∀ hd env, mSay K' t hd env = mSay K t hd env := by
    intro hd env
    unfold mSay
    rw [hk (381 + t) (by omega)]
    refine mAsk_cg ?_ ?_ _ _
    · funext k
      unfold cda
      split
      · exact hk _ (by omega)
      · rfl
    · funext k
      unfold cda
      split
      · exact hk _ (by omega)
      · rfl
  unfold tEq at *
  simp only [hs, hk (381 + t) (by omega)]
  exact z
/-- what stands doesn't hang on places that are none -/
theorem STS_K (hk : ∀ i, i < 8391 → K' i = K i) {o : Nat} (z : STS h o K) : STS h o K' := by
  obtain ⟨w, ⟨⟨a1, a2, a3, a4, a5⟩, ⟨b1, b2, b3, b4⟩, c1, ⟨d1, d2⟩, ⟨e1, e2, e3, e4, e5⟩, ⟨f1, f2, f3, f4, f5, f6⟩⟩, tx, σ, u1, u2⟩ := z
  have n1 : nf K' = nf K := by unfold nf; rw [hk 376 (by omega)]
  have n2 : np K' = np K := by unfold np; rw [hk 377 (by omega)]
  have n3 : nt K' = nt K := by unfold nt; rw [hk 378 (by omega)]
  have n4 : ns K' = ns K := by unfold ns; rw [hk 379 (by omega)]
  have n5 : nx K' = nx K := by unfold nx; rw [hk 380 (by omega)]
  have l1 := w.hnf; have l2 := w.hnp; have l3 := w.hnt; have l4 := w.hns; have l5 := w.hnx
  have hA : ∀ c n b s, b + s * n < 8391 → AR h K c n b s → AR h K' c n b s := by
    intro c n b s hb z i hi
    have h1 : s * i ≤ s * n := Nat.mul_le_mul_left s (by omega)
    rw [hk _ (by omega)]
    exact z i hi
  obtain ⟨⟨v1, v2, v3, v4, v5⟩, vb, ⟨t1, t2, t3, t4⟩, vp, vt, vs⟩ := w
  refine ⟨⟨⟨by rw [hk _ (by omega)]; exact v1, by rw [hk _ (by omega)]; exact v2, by rw [hk _ (by omega)]; exact v3, by rw [hk _ (by omega)]; exact v4, by rw [hk _ (by omega)]; exact v5⟩, fun f hf => ?_, ⟨by rw [hk _ (by omega)]; exact t1, by rw [hk _ (by omega)]; exact t2, by rw [hk _ (by omega)]; exact t3, by rw [hk _ (by omega)]; exact t4⟩, fun p hp => ?_, fun t ht => ?_, fun s hs => ?_⟩, ⟨⟨by rw [hk _ (by omega)]; exact a1, by rw [hk _ (by omega)]; exact a2, by rw [hk _ (by omega)]; exact a3, by rw [hk _ (by omega)]; exact a4, by rw [hk _ (by omega)]; exact a5⟩, ⟨hA _ _ _ _ (by omega) b1, hA _ _ _ _ (by omega) b2, hA _ _ _ _ (by omega) b3, fun f r hf hr => by rw [hk _ (by omega)]; exact b4 f r hf hr⟩, hA _ _ _ _ (by omega) c1, ⟨hA _ _ _ _ (by omega) d1, hA _ _ _ _ (by omega) d2⟩, ⟨hA _ _ _ _ (by omega) e1, hA _ _ _ _ (by omega) e2, hA _ _ _ _ (by omega) e3, hA _ _ _ _ (by omega) e4, hA _ _ _ _ (by omega) e5⟩, ⟨hA _ _ _ _ (by omega) f1, hA _ _ _ _ (by omega) f2, hA _ _ _ _ (by omega) f3, hA _ _ _ _ (by omega) f4, hA _ _ _ _ (by omega) f5, hA _ _ _ _ (by omega) f6⟩⟩, fun t ht => ?_, σ, ⟨fun i hi => ?_, fun i j hij hj => ?_⟩, fun i hi => ?_⟩
  · rw [n1] at hf
    rw [hk _ (by omega), hk (9 * f + 1) (by omega), hk (9 * f + 2) (by omega)]
    have := vb f hf
    exact ⟨this.1, this.2.1, this.2.2.1, fun r hr => by rw [hk _ (by omega)]; exact this.2.2.2 r hr⟩
  · rw [n2] at hp
    rw [hk _ (by omega), hk (220 + 2 * p + 1) (by omega)]
    exact vp p hp
  · rw [n3] at ht
    rw [hk _ (by omega), hk (244 + 5 * t + 1) (by omega), hk (244 + 5 * t + 2) (by omega), hk (244 + 5 * t + 3) (by omega), hk (244 + 5 * t + 4) (by omega)]
    exact vt t ht
  · rw [n4] at hs
    rw [hk _ (by omega), hk (304 + 6 * s + 1) (by omega), hk (304 + 6 * s + 2) (by omega), hk (304 + 6 * s + 3) (by omega), hk (304 + 6 * s + 4) (by omega), hk (304 + 6 * s + 5) (by omega), n3]
    exact vs s hs
  · rw [n5] at ht
    obtain ⟨a, T, y1, y2, y3⟩ := tx t ht
    exact ⟨a, T, y1, y2, tEq_k hk (by omega) y3⟩
  · rw [n4] at *; exact u1.1 i hi
  · rw [n4] at hj
    have h1 := u1.1 i (by omega)
    have h2 := u1.1 j hj
    have := u1.2 i j hij hj
    unfold ltS at *
    rw [hk _ (by omega), hk (304 + 6 * σ j + 1) (by omega)]
    exact this
  · rw [n4] at hi; exact u2 i hi
theorem Inv_w (z : Inv n h) (e : hz h' = hz h ∧ hu h' = hu h ∧ hk h' = hk h) (g : ∀ a, 121 ≤ a ∨ a = 106 ∨ a = 77 ∨ a = 107 ∨ a = 76 ∨ a = 100 ∨ a = 102 → gI h' a = gI h a) (p : ∀ a, 121 ≤ a → gP h' a = gP h a) (p86 : gP h' 86 2 = gP h 86 2) (hS : STS h' 0 (gI h' 103)) (hI : IMS h') (hX : TXA h') (h8 : gI h' 101 8 = gI h 101 8) (h5 : gI h' 1 10 = gI h' 101 0 ∧ gI h' 1 11 = gI h' 101 9) (hC : gP h' 88 12 = none) : Inv (n + 1) h' := by
  obtain ⟨i1, i2, i3, i4, i5, i6, i7, i8, i9⟩ := z
  refine ⟨hS, hI, ?_, ?_, h5, ?_, ⟨?_, ?_, hX⟩, ALS_mono ?_, CAS_none hC⟩
  · unfold TPS
    rw [g 77 (by omega), g 107 (by omega), g 76 (by omega), h8]; exact i3
  · unfold RFS
    rw [g 100 (by omega), g 102 (by omega)]; exact i4
  · unfold WDS
    rw [g 106 (by omega)]; exact i6
  · rw [e.1]; exact i7.1
  · intro b hb1 hb2 hb3
    rw [e.1] at hb2
    rw [e.2.2] at hb3
    rw [p b hb1, e.1]
    exact i7.2.1 b hb1 hb2 hb3
  · rcases i8 with ⟨h1, h2, h3⟩ | ⟨a, h1, h2, h3, h4, h5, h6, h7⟩
    · exact Or.inl ⟨p86.trans h1, by rw [e.1]; exact h2, by rw [e.2.1]; exact h3⟩
    · refine Or.inr ⟨a, p86.trans h1, h2, by rw [e.1]; exact h3, by rw [e.2.2]; exact h4, ?_, by rw [e.1]; exact h6, by rw [e.2.1]; exact h7⟩
      intro b hb1 hb2 hb3
      rw [e.1] at hb2
      rw [e.2.2] at hb3
      rw [p b hb1]
      exact h5 b hb1 hb2 hb3
end IMG
section IML
variable (d : Nat) (h : Hp) (F : Po)
def imF (K : Nat → Int32) (k i : Nat) (T : Nat → Int32) : Nat → Int32 := upd T (8391 * k + i) (K i)
theorem ml147 {k : Nat} (kl : k < 2) : ∀ m i T, i + m = 8391 → wp true d 147 17 [.ref 101, .int (nI k), .int (nI i)] [] (sA h 104 T) F = wp true d 147 48 [.ref 101, .int (nI k), .int (nI 8391)] [] (sA h 104 (q_lp (imF (gI h 103) k) m i T)) F
  | 0, i, T, e => by
    rw [r147_17]
    simp (disch := omega) only [r147_18, r147_21, kdC, kdM, rpC, rpM, q_rs, q_rn, Option.toList_some, Option.toList_none, List.cons_append, List.nil_append, true_and, and_true, eq_self, ↓reduceIte, not_true_eq_false, not_false_eq_true, Nat.reduceEqDiff, Nat.reduceLeDiff, Nat.reduceLT, Nat.reduceAdd, Nat.reduceMul, Nat.reduceSub, false_or, or_false, true_or, or_true, false_and, and_false, reduceCtorEq, q_n0, q_n1, q_em, q_em2, q_b0, q_b1, Classical.not_not, nI_add, pk_mul, nI_clamp, q_vp, nI_eq, nI_leI, nI_ltI, q_sub, show i = 8391 from e, Nat.le_refl]
    rfl
  | m + 1, i, T, e => by
    refine Eq.trans ?_ (ml147 kl m (i + 1) (imF (gI h 103) k i T) (by omega))
    rw [r147_17]
    simp (disch := omega) only [r147_18, r147_21, r147_24, r147_25, r147_28, r147_31, r147_32, r147_33, r147_34, r147_35, r147_36, r147_39, r147_40, r147_41, r147_42, r147_45, kdC, kdM, rpC, rpM, q_rs, q_rn, Option.toList_some, Option.toList_none, List.cons_append, List.nil_append, true_and, and_true, eq_self, ↓reduceIte, not_true_eq_false, not_false_eq_true, Nat.reduceEqDiff, Nat.reduceLeDiff, Nat.reduceLT, Nat.reduceAdd, Nat.reduceMul, Nat.reduceSub, false_or, or_false, true_or, or_true, false_and, and_false, reduceCtorEq, q_n0, q_n1, q_em, q_em2, q_b0, q_b1, Classical.not_not, nI_add, pk_mul, nI_clamp, q_vp, nI_eq, nI_leI, nI_ltI, q_sub, q_gs, q_gn, q_gm, q_gIJ, q_gIP, q_gJI, q_gJA, q_gJP, q_gPI, q_gPA, q_gPJ, q_ga, q_gan, q_js, q_jn, q_jm, q_ps, q_pn, q_pm, show ¬ 8391 ≤ i by omega, show i < 8391 by omega, show 8391 * k + i < 16782 by omega, q_sIs, imF]
theorem imF_eq (K T : Nat → Int32) (k m : Nat) : ∀ j, q_lp (imF K k) m 0 T j = if 8391 * k ≤ j ∧ j < 8391 * k + m then K (j - 8391 * k) else T j := by
  refine q_inv (f := imF K k) (J := fun m T' => ∀ j, T' j = if 8391 * k ≤ j ∧ j < 8391 * k + m then K (j - 8391 * k) else T j) (n := m) ?_ ?_
  · intro i T' hi hT j
    unfold imF upd
    by_cases e : j = 8391 * k + i
    · subst e
      rw [if_pos rfl, if_pos (by omega), Nat.add_sub_cancel_left]
    · rw [if_neg e, hT j]
      by_cases e2 : 8391 * k ≤ j ∧ j < 8391 * k + i
      · rw [if_pos e2, if_pos (by omega)]
      · rw [if_neg e2, if_neg (by omega)]
  · intro j
    rw [if_neg (by omega)]
def baF (A : Nat → Int32) (k i : Nat) (T : Nat → Int32) : Nat → Int32 := upd T i (A (8391 * k + i))
theorem ml148 {k : Nat} (kl : k < 2) : ∀ m i T, i + m = 8391 → wp true d 148 33 [.ref 101, .int (nI k), .int (nI i)] [] (sA h 103 T) F = wp true d 148 64 [.ref 101, .int (nI k), .int (nI 8391)] [] (sA h 103 (q_lp (baF (gI h 104) k) m i T)) F
  | 0, i, T, e => by
    rw [r148_33]
    simp (disch := omega) only [r148_34, r148_37, kdC, kdM, rpC, rpM, q_rs, q_rn, Option.toList_some, Option.toList_none, List.cons_append, List.nil_append, true_and, and_true, eq_self, ↓reduceIte, not_true_eq_false, not_false_eq_true, Nat.reduceEqDiff, Nat.reduceLeDiff, Nat.reduceLT, Nat.reduceAdd, Nat.reduceMul, Nat.reduceSub, false_or, or_false, true_or, or_true, false_and, and_false, reduceCtorEq, q_n0, q_n1, q_em, q_em2, q_b0, q_b1, Classical.not_not, nI_add, pk_mul, nI_clamp, q_vp, nI_eq, nI_leI, nI_ltI, q_sub, show i = 8391 from e, Nat.le_refl]
    rfl
  | m + 1, i, T, e => by
    refine Eq.trans ?_ (ml148 kl m (i + 1) (baF (gI h 104) k i T) (by omega))
    rw [r148_33]
    simp (disch := omega) only [r148_34, r148_37, r148_40, r148_41, r148_44, r148_45, r148_46, r148_49, r148_52, r148_53, r148_54, r148_55, r148_56, r148_57, r148_58, r148_61, kdC, kdM, rpC, rpM, q_rs, q_rn, Option.toList_some, Option.toList_none, List.cons_append, List.nil_append, true_and, and_true, eq_self, ↓reduceIte, not_true_eq_false, not_false_eq_true, Nat.reduceEqDiff, Nat.reduceLeDiff, Nat.reduceLT, Nat.reduceAdd, Nat.reduceMul, Nat.reduceSub, false_or, or_false, true_or, or_true, false_and, and_false, reduceCtorEq, q_n0, q_n1, q_em, q_em2, q_b0, q_b1, Classical.not_not, nI_add, pk_mul, nI_clamp, q_vp, nI_eq, nI_leI, nI_ltI, q_sub, q_gs, q_gn, q_gm, q_gIJ, q_gIP, q_gJI, q_gJA, q_gJP, q_gPI, q_gPA, q_gPJ, q_ga, q_gan, q_js, q_jn, q_jm, q_ps, q_pn, q_pm, show ¬ 8391 ≤ i by omega, show i < 8391 by omega, show 8391 * k + i < 16782 by omega, q_sIs, baF]
theorem baF_eq (A T : Nat → Int32) (k m : Nat) : ∀ j, q_lp (baF A k) m 0 T j = if j < m then A (8391 * k + j) else T j := by
  refine q_inv (f := baF A k) (J := fun m T' => ∀ j, T' j = if j < m then A (8391 * k + j) else T j) (n := m) ?_ ?_
  · intro i T' hi hT j
    unfold baF upd
    by_cases e : j = i
    · subst e
      rw [if_pos rfl, if_pos (by omega)]
    · rw [if_neg e, hT j]
      by_cases e2 : j < i
      · rw [if_pos e2, if_pos (by omega)]
      · rw [if_neg e2, if_neg (by omega)]
  · intro j
    rw [if_neg (by omega)]
end IML
section IMP
variable {n : Nat} {h : Hp}
theorem vp_o : vp_nar .boolean (nI 1) = nI 1 := by decide
theorem q_10_9 : (23 = 22) = False := by simp
theorem image_J {hh : Hp} (z : Inv n h) {k : Nat} (kl : k < 2) {T : Nat → Int32} (hT : ∀ j, T j = if 8391 * k ≤ j ∧ j < 8391 * k + 8391 then gI h 103 (j - 8391 * k) else gI h 104 j)
    (x1 : hz hh = hz h ∧ hu hh = hu h ∧ hk hh = hk h) (hc : ∀ a, a < 27 + 24 * k ∨ 50 + 24 * k < a → gI hh a = gI h a) (x3 : ∀ a, a ≠ 25 + (25 + 24 * k) → gP hh a = gP h a) (x4 : ∀ t, t < 10 → gP hh (25 + (25 + 24 * k)) t = gP h 25 t) (hs : STS hh (25 + 24 * k) (gI h 103)) : Inv (n + 1) (sI (sI (sA (grt (sI hh 75 k (nI 1))) 104 T) 105 k (nI 1)) 101 0 (nI 0)) := by
  have hg : ∀ a, a ≠ 75 → a ≠ 1 → a ≠ 104 → a ≠ 105 → a ≠ 101 → gI (sI (sI (sA (grt (sI hh 75 k (nI 1))) 104 T) 105 k (nI 1)) 101 0 (nI 0)) a = gI hh a := by
    intro a h1 h2 h3 h4 h5
    unfold grt
    rw [q_gn h5, q_gn h4, q_gan h3, q_gIP, q_gIP, q_gn h2, q_gn h1]
  have hp : ∀ a, a ≠ 88 → gP (sI (sI (sA (grt (sI hh 75 k (nI 1))) 104 T) 105 k (nI 1)) 101 0 (nI 0)) a = gP hh a := by
    intro a h1
    unfold grt
    rw [q_gPI, q_gPI, q_gPA, q_pn h1, q_pn h1, q_gPI, q_gPI]
  have h75 : gI (sI (sI (sA (grt (sI hh 75 k (nI 1))) 104 T) 105 k (nI 1)) 101 0 (nI 0)) 75 = upd (gI h 75) k (nI 1) := by
    unfold grt
    rw [q_gn (by omega), q_gn (by omega), q_gan (by omega), q_gIP, q_gIP, q_gn (by omega), q_gsu, hc 75 (by omega)]
  have h104 : gI (sI (sI (sA (grt (sI hh 75 k (nI 1))) 104 T) 105 k (nI 1)) 101 0 (nI 0)) 104 = T := by
    rw [q_gn (by omega), q_gn (by omega), q_ga]
  have h105 : gI (sI (sI (sA (grt (sI hh 75 k (nI 1))) 104 T) 105 k (nI 1)) 101 0 (nI 0)) 105 = upd (gI h 105) k (nI 1) := by
    unfold grt
    rw [q_gn (by omega), q_gsu, q_gan (by omega), q_gIP, q_gIP, q_gn (by omega), q_gn (by omega), hc 105 (by omega)]
  have h101 : ∀ i, i ≠ 0 → gI (sI (sI (sA (grt (sI hh 75 k (nI 1))) 104 T) 105 k (nI 1)) 101 0 (nI 0)) 101 i = gI h 101 i := by
    intro i hi
    unfold grt
    rw [q_gm hi, q_gn (by omega), q_gan (by omega), q_gIP, q_gIP, q_gn (by omega), q_gn (by omega), hc 101 (by omega)]
  have h1 : ∀ i, gI (sI (sI (sA (grt (sI hh 75 k (nI 1))) 104 T) 105 k (nI 1)) 101 0 (nI 0)) 1 i = if i = 10 then nI 0 else gI h 1 i := by
    intro i
    unfold grt
    rw [q_gn (by omega), q_gn (by omega), q_gan (by omega), q_gIP, q_gIP, q_gi, q_gn (by omega), hc 1 (by omega)]
    simp
  have hz0 : gI (sI (sI (sA (grt (sI hh 75 k (nI 1))) 104 T) 105 k (nI 1)) 101 0 (nI 0)) 101 0 = nI 0 := q_gs _ _ _ _
  have hc12 : gP (sI (sI (sA (grt (sI hh 75 k (nI 1))) 104 T) 105 k (nI 1)) 101 0 (nI 0)) 88 12 = none := by
    unfold grt
    rw [q_gPI, q_gPI, q_gPA, q_pm (by omega), q_ps]
  have he : hz (sI (sI (sA (grt (sI hh 75 k (nI 1))) 104 T) 105 k (nI 1)) 101 0 (nI 0)) = hz hh ∧ hu (sI (sI (sA (grt (sI hh 75 k (nI 1))) 104 T) 105 k (nI 1)) 101 0 (nI 0)) = hu hh ∧ hk (sI (sI (sA (grt (sI hh 75 k (nI 1))) 104 T) 105 k (nI 1)) 101 0 (nI 0)) = hk hh := ⟨rfl, rfl, rfl⟩
  generalize sI (sI (sA (grt (sI hh 75 k (nI 1))) 104 T) 105 k (nI 1)) 101 0 (nI 0) = h2 at *
  have ta : ∀ a T, tAt h a T → tAt h2 a T := fun a T t => tAt_sm (he.1.trans x1.1) (he.2.2.trans x1.2.2) (fun a ha => by rw [hg a (by omega) (by omega) (by omega) (by omega) (by omega), hc a (by omega)]) (fun a ha => by rw [hp a (by omega), x3 a (by omega)]) t
  have tb : ∀ a T, tAt hh a T → tAt h2 a T := fun a T t => tAt_sm he.1 he.2.2 (fun a ha => by rw [hg a (by omega) (by omega) (by omega) (by omega) (by omega)]) (fun a ha => by rw [hp a (by omega)]) t
  refine Inv_w z ⟨he.1.trans x1.1, he.2.1.trans x1.2.1, he.2.2.trans x1.2.2⟩ (fun a ha => by rw [hg a (by omega) (by omega) (by omega) (by omega) (by omega), hc a (by omega)]) (fun a ha => by rw [hp a (by omega), x3 a (by omega)]) (by rw [hp 86 (by omega), x3 86 (by omega)]) ?_ ?_ ?_ (h101 8 (by omega)) ?_ hc12
  · rw [hg 103 (by omega) (by omega) (by omega) (by omega) (by omega), hc 103 (by omega)]
    exact STS_of (o := 0) (fun c i h1 h2 _ => by rw [hg _ (by omega) (by omega) (by omega) (by omega) (by omega), hc _ (by omega)]) (fun t => by rw [hp _ (by omega), x3 _ (by omega)]) ta z.1
  · intro j hj
    obtain ⟨a1, a2, a3⟩ := z.2.1 j hj
    rw [h75, h105]
    by_cases e : j = k
    · subst e
      rw [guq, guq]
      refine ⟨rfl, Or.inr rfl, fun _ => ?_⟩
      have hss : STS h2 (25 + 24 * j) (gI h 103) := STS_of (fun c i h1 h2 _ => by rw [hg _ (by omega) (by omega) (by omega) (by omega) (by omega)]) (fun t => by rw [hp _ (by omega)]) tb hs
      refine STS_K (fun i hi => ?_) hss
      unfold imK
      rw [h104, hT, if_pos (by omega), Nat.add_sub_cancel_left]
    · rw [gup _ _ _ _ e, gup _ _ _ _ e]
      refine ⟨a1, a2, fun e3 => ?_⟩
      have hss : STS h2 (25 + 24 * j) (imK h j) := STS_of (fun c i h1 h2 _ => by rw [hg _ (by omega) (by omega) (by omega) (by omega) (by omega), hc _ (by omega)]) (fun t => by rw [hp _ (by omega), x3 _ (by omega)]) ta (a3 e3)
      refine STS_K (fun i hi => ?_) hss
      unfold imK
      rw [h104, hT, if_neg (by omega)]
  · intro c hc t ht a ha
    rw [he.1, he.2.2, x1.1, x1.2.2]
    rw [hp c (by omega)] at ha
    by_cases e : c = 50 + 24 * k
    · rw [e, show 50 + 24 * k = 25 + (25 + 24 * k) by omega, x4 t ht] at ha
      exact z.2.2.2.2.2.2.1.2.2 25 (by omega) t ht a ha
    · rw [x3 c (by omega)] at ha
      exact z.2.2.2.2.2.2.1.2.2 c hc t ht a ha
  · rw [h1 10, h1 11, if_pos rfl, if_neg (by omega), hz0, h101 9 (by omega)]
    exact ⟨rfl, z.2.2.2.2.1.2⟩
theorem image_I (z : Inv n h) {k : Nat} (kl : k < 2) {T : Nat → Int32} (hT : ∀ j, T j = if 8391 * k ≤ j ∧ j < 8391 * k + 8391 then gI h 103 (j - 8391 * k) else gI h 104 j) : Inv (n + 1) (sI (sI (sA (grt (sI (cpS h (25 + 24 * k) 0) 75 k (nI 1))) 104 T) 105 k (nI 1)) 101 0 (nI 0)) := by
  have hpq : okPQ (25 + 24 * k) 0 := by unfold okPQ; omega
  have x := cpS_f (p := 25 + 24 * k) (q := 0) h hpq
  refine image_J z kl hT x.1 (fun a ha => funext fun i => x.2.1 a i (by omega)) x.2.2.1 x.2.2.2.1 ?_
  exact cpS_S h hpq (by omega) z.1
theorem p_image (z : Inv n h) (a : Int32) : PRI n h 121 147 [.int a] := by
  intro d
  by_cases hB : nI 0 ≤ a ∧ a ≤ nI 1
  · have hB2 : a = nI 0 ∨ a = nI 1 := by rw [← q_flag]; exact hB
    have hx : ∀ i, i < 10 → ∀ a, gP h 25 i = some a → 121 ≤ a ∧ hk h a = (9, 2) := fun i hi a ha => by
      have := z.2.2.2.2.2.2.1.2.2 25 (by omega) i hi a ha
      exact ⟨this.1, this.2.2⟩
    obtain ⟨k, kl, rfl⟩ := q_ix2 (by omega) hB.1 hB.2
    have hK : gI (grt (sI (cpS h (25 + 24 * k) 0) 75 k (nI 1))) 103 = gI h 103 := by
      rw [grt_K, q_gn (by omega)]
      exact funext fun i => (cpS_f (p := 25 + 24 * k) (q := 0) h (by unfold okPQ; omega)).2.1 103 i (by omega)
    have hA : gI (grt (sI (cpS h (25 + 24 * k) 0) 75 k (nI 1))) 104 = gI h 104 := by
      unfold grt
      rw [q_gIP, q_gIP, q_gn (by omega), q_gn (by omega)]
      exact funext fun i => (cpS_f (p := 25 + 24 * k) (q := 0) h (by unfold okPQ; omega)).2.1 104 i (by omega)
    have hm := fun (F : Po) (d : Nat) => ml147 d (grt (sI (cpS h (25 + 24 * k) 0) 75 k (nI 1))) F (show k < 2 by omega) 8391 0 (gI h 104) (by omega)
    have hs : sA (grt (sI (cpS h (25 + 24 * k) 0) 75 k (nI 1))) 104 (gI h 104) = grt (sI (cpS h (25 + 24 * k) 0) 75 k (nI 1)) := by rw [← hA, q_sAs]
    rw [hs, hK] at hm
    have hT := imF_eq (gI h 103) (gI h 104) k 8391
    generalize q_lp (imF (gI h 103) k) 8391 0 (gI h 104) = T at hm hT
    refine ⟨nI 0, grt (sI (cpS h (25 + 24 * k) 0) 75 k (nI 1)), sI (sI (sA (grt (sI (cpS h (25 + 24 * k) 0) 75 k (nI 1))) 104 T) 105 k (nI 1)) 101 0 (nI 0), fun F => ?_, fun F => ?_, image_I z (by omega) hT⟩
    · rcases (show k = 0 ∨ k = 1 by omega) with rfl | rfl
      · simp (disch := omega) only [e121, r121_0, r121_1, r121_4, r121_7, r121_8, r121_9, r121_12, r121_13, r121_14, r121_17, r121_18, r121_19, r121_20, r121_23, r121_26, r121_27, r121_30, r121_31, r121_32, r121_33, r121_34, r121_35, r121_38, c126, c59_25_0 _ h _ hx, c135, hB2, kdC, kdM, rpC, rpM, q_rs, q_rn, Option.toList_some, Option.toList_none, List.cons_append, List.nil_append, true_and, and_true, eq_self, ↓reduceIte, not_true_eq_false, not_false_eq_true, Nat.reduceEqDiff, Nat.reduceLeDiff, Nat.reduceLT, Nat.reduceAdd, Nat.reduceMul, Nat.reduceSub, false_or, or_false, true_or, or_true, false_and, and_false, reduceCtorEq, q_n0, q_n1, q_em, q_em2, q_b0, q_b1, Classical.not_not, nI_add, pk_mul, nI_clamp, q_vp, nI_eq, nI_leI, nI_ltI, q_sub, vp_o]
      · simp (disch := omega) only [e121, r121_0, r121_1, r121_4, r121_7, r121_8, r121_9, r121_12, r121_13, r121_14, r121_17, r121_18, r121_19, r121_20, r121_23, r121_26, r121_27, r121_30, r121_31, r121_32, r121_33, r121_34, r121_35, r121_38, c126, c59_49_0 _ h _ hx, c135, hB2, kdC, kdM, rpC, rpM, q_rs, q_rn, Option.toList_some, Option.toList_none, List.cons_append, List.nil_append, true_and, and_true, eq_self, ↓reduceIte, not_true_eq_false, not_false_eq_true, Nat.reduceEqDiff, Nat.reduceLeDiff, Nat.reduceLT, Nat.reduceAdd, Nat.reduceMul, Nat.reduceSub, false_or, or_false, true_or, or_true, false_and, and_false, reduceCtorEq, q_n0, q_n1, q_em, q_em2, q_b0, q_b1, Classical.not_not, nI_add, pk_mul, nI_clamp, q_vp, nI_eq, nI_leI, nI_ltI, q_sub, vp_o]
    · rcases (show k = 0 ∨ k = 1 by omega) with rfl | rfl <;>
      simp (disch := omega) only [e147, r147_0, r147_1, r147_2, r147_3, r147_6, r147_9, r147_10, r147_11, r147_14, r147_15, r147_16, r147_18, r147_21, r147_24, r147_25, r147_28, r147_31, r147_32, r147_33, r147_34, r147_35, r147_36, r147_39, r147_40, r147_41, r147_42, r147_45, r147_48, r147_49, r147_52, r147_53, r147_54, r147_55, r147_56, r147_57, r147_60, c143, hm, c145, hB, kdC, kdM, rpC, rpM, q_rs, q_rn, Option.toList_some, Option.toList_none, List.cons_append, List.nil_append, true_and, and_true, eq_self, ↓reduceIte, not_true_eq_false, not_false_eq_true, Nat.reduceEqDiff, Nat.reduceLeDiff, Nat.reduceLT, Nat.reduceAdd, Nat.reduceMul, Nat.reduceSub, false_or, or_false, true_or, or_true, false_and, and_false, reduceCtorEq, q_n0, q_n1, q_em, q_em2, q_b0, q_b1, Classical.not_not, nI_add, pk_mul, nI_clamp, q_vp, nI_eq, nI_leI, nI_ltI, q_sub, vp_o]
  · have hB2 : ¬ (a = nI 0 ∨ a = nI 1) := by rw [← q_flag]; exact hB
    refine ⟨-1, rfc h (-1) 0, rfm (rfc h (-1) 0) (-1) 1, fun F => ?_, fun F => ?_, Inv_rf z (by omega)⟩
    · simp (disch := omega) only [e121, r121_0, r121_1, r121_4, r121_7, r121_8, r121_9, r121_12, r121_13, r121_14, r121_17, r121_18, r121_19, r121_20, r121_23, r121_26, r121_27, r121_30, r121_31, r121_32, r121_33, r121_34, r121_35, r121_38, c126, c133_1, hB2, kdC, kdM, rpC, rpM, q_rs, q_rn, Option.toList_some, Option.toList_none, List.cons_append, List.nil_append, true_and, and_true, eq_self, ↓reduceIte, not_true_eq_false, not_false_eq_true, Nat.reduceEqDiff, Nat.reduceLeDiff, Nat.reduceLT, Nat.reduceAdd, Nat.reduceMul, Nat.reduceSub, false_or, or_false, true_or, or_true, false_and, and_false, reduceCtorEq, q_n0, q_n1, q_em, q_em2, q_b0, q_b1, Classical.not_not, nI_add, pk_mul, nI_clamp, q_vp, nI_eq, nI_leI, nI_ltI, q_sub]
    · simp (disch := omega) only [e147, r147_0, r147_1, r147_2, r147_3, r147_6, r147_9, r147_10, r147_11, r147_14, r147_15, r147_16, r147_18, r147_21, r147_24, r147_25, r147_28, r147_31, r147_32, r147_33, r147_34, r147_35, r147_36, r147_39, r147_40, r147_41, r147_42, r147_45, r147_48, r147_49, r147_52, r147_53, r147_54, r147_55, r147_56, r147_57, r147_60, c143, m144_1, hB, kdC, kdM, rpC, rpM, q_rs, q_rn, Option.toList_some, Option.toList_none, List.cons_append, List.nil_append, true_and, and_true, eq_self, ↓reduceIte, not_true_eq_false, not_false_eq_true, Nat.reduceEqDiff, Nat.reduceLeDiff, Nat.reduceLT, Nat.reduceAdd, Nat.reduceMul, Nat.reduceSub, false_or, or_false, true_or, or_true, false_and, and_false, reduceCtorEq, q_n0, q_n1, q_em, q_em2, q_b0, q_b1, Classical.not_not, nI_add, pk_mul, nI_clamp, q_vp, nI_eq, nI_leI, nI_ltI, q_sub]
theorem back_J {hh : Hp} (z : Inv n h) {k : Nat} (kl : k < 2) {T : Nat → Int32} (hT : ∀ j, T j = if j < 8391 then gI h 104 (8391 * k + j) else gI h 103 j)
    (x1 : hz hh = hz h ∧ hu hh = hu h ∧ hk hh = hk h) (hc : ∀ a, a < 2 ∨ 25 < a → gI hh a = gI h a) (x3 : ∀ a, a ≠ 25 → gP hh a = gP h a) (x4 : ∀ t, t < 10 → gP hh 25 t = gP h (25 + (25 + 24 * k)) t) (hs : STS hh 0 (imK h k)) : Inv (n + 1) (sI (sA (grt hh) 103 T) 101 0 (nI 0)) := by
  have hg : ∀ a, a ≠ 1 → a ≠ 103 → a ≠ 101 → gI (sI (sA (grt hh) 103 T) 101 0 (nI 0)) a = gI hh a := by
    intro a h2 h3 h5
    unfold grt
    rw [q_gn h5, q_gan h3, q_gIP, q_gIP, q_gn h2]
  have hp : ∀ a, a ≠ 88 → gP (sI (sA (grt hh) 103 T) 101 0 (nI 0)) a = gP hh a := by
    intro a h1
    unfold grt
    rw [q_gPI, q_gPA, q_pn h1, q_pn h1, q_gPI]
  have h103 : gI (sI (sA (grt hh) 103 T) 101 0 (nI 0)) 103 = T := by
    rw [q_gn (by omega), q_ga]
  have h101 : ∀ i, i ≠ 0 → gI (sI (sA (grt hh) 103 T) 101 0 (nI 0)) 101 i = gI h 101 i := by
    intro i hi
    unfold grt
    rw [q_gm hi, q_gan (by omega), q_gIP, q_gIP, q_gn (by omega), hc 101 (by omega)]
  have h1 : ∀ i, gI (sI (sA (grt hh) 103 T) 101 0 (nI 0)) 1 i = if i = 10 then nI 0 else gI h 1 i := by
    intro i
    unfold grt
    rw [q_gn (by omega), q_gan (by omega), q_gIP, q_gIP, q_gi, hc 1 (by omega)]
    simp
  have hz0 : gI (sI (sA (grt hh) 103 T) 101 0 (nI 0)) 101 0 = nI 0 := q_gs _ _ _ _
  have hc12 : gP (sI (sA (grt hh) 103 T) 101 0 (nI 0)) 88 12 = none := by
    unfold grt
    rw [q_gPI, q_gPA, q_pm (by omega), q_ps]
  have he : hz (sI (sA (grt hh) 103 T) 101 0 (nI 0)) = hz hh ∧ hu (sI (sA (grt hh) 103 T) 101 0 (nI 0)) = hu hh ∧ hk (sI (sA (grt hh) 103 T) 101 0 (nI 0)) = hk hh := ⟨rfl, rfl, rfl⟩
  generalize sI (sA (grt hh) 103 T) 101 0 (nI 0) = h2 at *
  have ta : ∀ a T, tAt h a T → tAt h2 a T := fun a T t => tAt_sm (he.1.trans x1.1) (he.2.2.trans x1.2.2) (fun a ha => by rw [hg a (by omega) (by omega) (by omega), hc a (by omega)]) (fun a ha => by rw [hp a (by omega), x3 a (by omega)]) t
  have tb : ∀ a T, tAt hh a T → tAt h2 a T := fun a T t => tAt_sm he.1 he.2.2 (fun a ha => by rw [hg a (by omega) (by omega) (by omega)]) (fun a ha => by rw [hp a (by omega)]) t
  refine Inv_w z ⟨he.1.trans x1.1, he.2.1.trans x1.2.1, he.2.2.trans x1.2.2⟩ (fun a ha => by rw [hg a (by omega) (by omega) (by omega), hc a (by omega)]) (fun a ha => by rw [hp a (by omega), x3 a (by omega)]) (by rw [hp 86 (by omega), x3 86 (by omega)]) ?_ ?_ ?_ (h101 8 (by omega)) ?_ hc12
  · rw [h103]
    have hss : STS h2 0 (imK h k) := STS_of (o := 0) (fun c i h1 h2 _ => by rw [hg _ (by omega) (by omega) (by omega)]) (fun t => by rw [hp _ (by omega)]) tb hs
    refine STS_K (fun i hi => ?_) hss
    unfold imK
    rw [hT, if_pos hi]
  · intro j hj
    obtain ⟨a1, a2, a3⟩ := z.2.1 j hj
    rw [hg 75 (by omega) (by omega) (by omega), hc 75 (by omega), hg 105 (by omega) (by omega) (by omega), hc 105 (by omega)]
    refine ⟨a1, a2, fun e3 => ?_⟩
    have hm : imK h2 j = imK h j := by unfold imK; rw [hg 104 (by omega) (by omega) (by omega), hc 104 (by omega)]
    rw [hm]
    exact STS_of (fun c i h1 h2 _ => by rw [hg _ (by omega) (by omega) (by omega), hc _ (by omega)]) (fun t => by rw [hp _ (by omega), x3 _ (by omega)]) ta (a3 e3)
  · intro c hc t ht a ha
    rw [he.1, he.2.2, x1.1, x1.2.2]
    rw [hp c (by omega)] at ha
    by_cases e : c = 25
    · rw [e, x4 t ht] at ha
      exact z.2.2.2.2.2.2.1.2.2 (25 + (25 + 24 * k)) (by omega) t ht a ha
    · rw [x3 c (by omega)] at ha
      exact z.2.2.2.2.2.2.1.2.2 c hc t ht a ha
  · rw [h1 10, h1 11, if_pos rfl, if_neg (by omega), hz0, h101 9 (by omega)]
    exact ⟨rfl, z.2.2.2.2.1.2⟩
theorem back_I (z : Inv n h) {k : Nat} (kl : k < 2) (e1 : gI h 75 k = nI 1) {T : Nat → Int32} (hT : ∀ j, T j = if j < 8391 then gI h 104 (8391 * k + j) else gI h 103 j) : Inv (n + 1) (sI (sA (grt (cpS h 0 (25 + 24 * k))) 103 T) 101 0 (nI 0)) := by
  have hpq : okPQ 0 (25 + 24 * k) := by unfold okPQ; omega
  have x := cpS_f (p := 0) (q := 25 + 24 * k) h hpq
  refine back_J z kl hT x.1 (fun a ha => funext fun i => x.2.1 a i (by omega)) x.2.2.1 x.2.2.2.1 ?_
  exact cpS_S h hpq (by omega) ((z.2.1 k kl).2.2 e1)
theorem p_back (z : Inv n h) (a : Int32) : PRI n h 122 148 [.int a] := by
  intro d
  by_cases hB : nI 0 ≤ a ∧ a ≤ nI 1
  · have hB2 : a = nI 0 ∨ a = nI 1 := by rw [← q_flag]; exact hB
    obtain ⟨k, kl, rfl⟩ := q_ix2 (by omega) hB.1 hB.2
    obtain ⟨j1, j2, j3⟩ := z.2.1 k (by omega)
    by_cases e : gI h 75 k = nI 1
    · have e' : gI h 105 k = nI 1 := by rw [← j1]; exact e
      have hx : ∀ i, i < 10 → ∀ a, gP h (25 + (25 + 24 * k)) i = some a → 121 ≤ a ∧ hk h a = (9, 2) := fun i hi a ha => by
        have := z.2.2.2.2.2.2.1.2.2 (25 + (25 + 24 * k)) (by omega) i hi a ha
        exact ⟨this.1, this.2.2⟩
      have hK : gI (grt (cpS h 0 (25 + 24 * k))) 103 = gI h 103 := by
        rw [grt_K]
        exact funext fun i => (cpS_f (p := 0) (q := 25 + 24 * k) h (by unfold okPQ; omega)).2.1 103 i (by omega)
      have hA : gI (grt (cpS h 0 (25 + 24 * k))) 104 = gI h 104 := by
        unfold grt
        rw [q_gIP, q_gIP, q_gn (by omega)]
        exact funext fun i => (cpS_f (p := 0) (q := 25 + 24 * k) h (by unfold okPQ; omega)).2.1 104 i (by omega)
      have hC : gI (grt (cpS h 0 (25 + 24 * k))) 105 = gI h 105 := by
        unfold grt
        rw [q_gIP, q_gIP, q_gn (by omega)]
        exact funext fun i => (cpS_f (p := 0) (q := 25 + 24 * k) h (by unfold okPQ; omega)).2.1 105 i (by omega)
      have hm := fun (F : Po) (d : Nat) => ml148 d (grt (cpS h 0 (25 + 24 * k))) F (show k < 2 by omega) 8391 0 (gI h 103) (by omega)
      have hs : sA (grt (cpS h 0 (25 + 24 * k))) 103 (gI h 103) = grt (cpS h 0 (25 + 24 * k)) := by rw [← hK, q_sAs]
      rw [hs, hA] at hm
      have hT := baF_eq (gI h 104) (gI h 103) k 8391
      generalize q_lp (baF (gI h 104) k) 8391 0 (gI h 103) = T at hm hT
      refine ⟨nI 0, grt (cpS h 0 (25 + 24 * k)), sI (sA (grt (cpS h 0 (25 + 24 * k))) 103 T) 101 0 (nI 0), fun F => ?_, fun F => ?_, back_I z (by omega) e hT⟩
      · rcases (show k = 0 ∨ k = 1 by omega) with rfl | rfl
        · simp (disch := omega) only [e122, r122_0, r122_1, r122_4, r122_7, r122_8, r122_9, r122_12, r122_13, r122_14, r122_17, r122_18, r122_19, r122_22, r122_23, r122_25, r122_28, r122_29, r122_30, r122_33, r122_34, r122_37, r122_38, r122_39, r122_42, r122_43, r122_44, r122_47, c126, c59_0_25 _ h _ hx, c135, hB2, kdC, kdM, rpC, rpM, q_rs, q_rn, Option.toList_some, Option.toList_none, List.cons_append, List.nil_append, true_and, and_true, eq_self, ↓reduceIte, not_true_eq_false, not_false_eq_true, Nat.reduceEqDiff, Nat.reduceLeDiff, Nat.reduceLT, Nat.reduceAdd, Nat.reduceMul, Nat.reduceSub, false_or, or_false, true_or, or_true, false_and, and_false, reduceCtorEq, q_n0, q_n1, q_em, q_em2, q_b0, q_b1, Classical.not_not, nI_add, pk_mul, nI_clamp, q_vp, nI_eq, nI_leI, nI_ltI, q_sub, e]
        · simp (disch := omega) only [e122, r122_0, r122_1, r122_4, r122_7, r122_8, r122_9, r122_12, r122_13, r122_14, r122_17, r122_18, r122_19, r122_22, r122_23, r122_25, r122_28, r122_29, r122_30, r122_33, r122_34, r122_37, r122_38, r122_39, r122_42, r122_43, r122_44, r122_47, c126, c59_0_49 _ h _ hx, c135, hB2, kdC, kdM, rpC, rpM, q_rs, q_rn, Option.toList_some, Option.toList_none, List.cons_append, List.nil_append, true_and, and_true, eq_self, ↓reduceIte, not_true_eq_false, not_false_eq_true, Nat.reduceEqDiff, Nat.reduceLeDiff, Nat.reduceLT, Nat.reduceAdd, Nat.reduceMul, Nat.reduceSub, false_or, or_false, true_or, or_true, false_and, and_false, reduceCtorEq, q_n0, q_n1, q_em, q_em2, q_b0, q_b1, Classical.not_not, nI_add, pk_mul, nI_clamp, q_vp, nI_eq, nI_leI, nI_ltI, q_sub, e]
      · rw [← hC] at e'
        rcases (show k = 0 ∨ k = 1 by omega) with rfl | rfl <;>
        simp (disch := omega) only [e148, r148_0, r148_1, r148_2, r148_3, r148_6, r148_9, r148_10, r148_11, r148_14, r148_15, r148_16, r148_19, r148_20, r148_21, r148_24, r148_25, r148_27, r148_30, r148_31, r148_32, r148_34, r148_37, r148_40, r148_41, r148_44, r148_45, r148_46, r148_49, r148_52, r148_53, r148_54, r148_55, r148_56, r148_57, r148_58, r148_61, r148_64, r148_65, r148_66, r148_69, c143, hm, c145, hB, kdC, kdM, rpC, rpM, q_rs, q_rn, Option.toList_some, Option.toList_none, List.cons_append, List.nil_append, true_and, and_true, eq_self, ↓reduceIte, not_true_eq_false, not_false_eq_true, Nat.reduceEqDiff, Nat.reduceLeDiff, Nat.reduceLT, Nat.reduceAdd, Nat.reduceMul, Nat.reduceSub, false_or, or_false, true_or, or_true, false_and, and_false, reduceCtorEq, q_n0, q_n1, q_em, q_em2, q_b0, q_b1, Classical.not_not, nI_add, pk_mul, nI_clamp, q_vp, nI_eq, nI_leI, nI_ltI, q_sub, e']
    · have e0 : gI h 75 k = nI 0 := by
        rcases j2 with j2 | j2
        · exact j2
        · exact absurd j2 e
      have e0' : gI h 105 k = nI 0 := by rw [← j1]; exact e0
      have e1 : gI (rfc h (-2) 1) 105 = gI h 105 := by unfold rfc; rw [q_gn (by omega), q_gn (by omega)]
      refine ⟨-2, rfc h (-2) 1, rfm (rfc h (-2) 1) (-2) 2, fun F => ?_, fun F => ?_, Inv_rf z (by omega)⟩
      · rcases (show k = 0 ∨ k = 1 by omega) with rfl | rfl <;>
        simp (disch := omega) only [e122, r122_0, r122_1, r122_4, r122_7, r122_8, r122_9, r122_12, r122_13, r122_14, r122_17, r122_18, r122_19, r122_22, r122_23, r122_25, r122_28, r122_29, r122_30, r122_33, r122_34, r122_37, r122_38, r122_39, r122_42, r122_43, r122_44, r122_47, c126, c133_2, hB2, kdC, kdM, rpC, rpM, q_rs, q_rn, Option.toList_some, Option.toList_none, List.cons_append, List.nil_append, true_and, and_true, eq_self, ↓reduceIte, not_true_eq_false, not_false_eq_true, Nat.reduceEqDiff, Nat.reduceLeDiff, Nat.reduceLT, Nat.reduceAdd, Nat.reduceMul, Nat.reduceSub, false_or, or_false, true_or, or_true, false_and, and_false, reduceCtorEq, q_n0, q_n1, q_em, q_em2, q_b0, q_b1, Classical.not_not, nI_add, pk_mul, nI_clamp, q_vp, nI_eq, nI_leI, nI_ltI, q_sub, e0]
      · rcases (show k = 0 ∨ k = 1 by omega) with rfl | rfl <;>
        simp (disch := omega) only [e148, r148_0, r148_1, r148_2, r148_3, r148_6, r148_9, r148_10, r148_11, r148_14, r148_15, r148_16, r148_19, r148_20, r148_21, r148_24, r148_25, r148_27, r148_30, r148_31, r148_32, r148_34, r148_37, r148_40, r148_41, r148_44, r148_45, r148_46, r148_49, r148_52, r148_53, r148_54, r148_55, r148_56, r148_57, r148_58, r148_61, r148_64, r148_65, r148_66, r148_69, c143, m144_2, hB, kdC, kdM, rpC, rpM, q_rs, q_rn, Option.toList_some, Option.toList_none, List.cons_append, List.nil_append, true_and, and_true, eq_self, ↓reduceIte, not_true_eq_false, not_false_eq_true, Nat.reduceEqDiff, Nat.reduceLeDiff, Nat.reduceLT, Nat.reduceAdd, Nat.reduceMul, Nat.reduceSub, false_or, or_false, true_or, or_true, false_and, and_false, reduceCtorEq, q_n0, q_n1, q_em, q_em2, q_b0, q_b1, Classical.not_not, nI_add, pk_mul, nI_clamp, q_vp, nI_eq, nI_leI, nI_ltI, q_sub, e1, e0']
  · have hB2 : ¬ (a = nI 0 ∨ a = nI 1) := by rw [← q_flag]; exact hB
    refine ⟨-1, rfc h (-1) 0, rfm (rfc h (-1) 0) (-1) 1, fun F => ?_, fun F => ?_, Inv_rf z (by omega)⟩
    · simp (disch := omega) only [e122, r122_0, r122_1, r122_4, r122_7, r122_8, r122_9, r122_12, r122_13, r122_14, r122_17, r122_18, r122_19, r122_22, r122_23, r122_25, r122_28, r122_29, r122_30, r122_33, r122_34, r122_37, r122_38, r122_39, r122_42, r122_43, r122_44, r122_47, c126, c133_1, hB2, kdC, kdM, rpC, rpM, q_rs, q_rn, Option.toList_some, Option.toList_none, List.cons_append, List.nil_append, true_and, and_true, eq_self, ↓reduceIte, not_true_eq_false, not_false_eq_true, Nat.reduceEqDiff, Nat.reduceLeDiff, Nat.reduceLT, Nat.reduceAdd, Nat.reduceMul, Nat.reduceSub, false_or, or_false, true_or, or_true, false_and, and_false, reduceCtorEq, q_n0, q_n1, q_em, q_em2, q_b0, q_b1, Classical.not_not, nI_add, pk_mul, nI_clamp, q_vp, nI_eq, nI_leI, nI_ltI, q_sub]
    · simp (disch := omega) only [e148, r148_0, r148_1, r148_2, r148_3, r148_6, r148_9, r148_10, r148_11, r148_14, r148_15, r148_16, r148_19, r148_20, r148_21, r148_24, r148_25, r148_27, r148_30, r148_31, r148_32, r148_34, r148_37, r148_40, r148_41, r148_44, r148_45, r148_46, r148_49, r148_52, r148_53, r148_54, r148_55, r148_56, r148_57, r148_58, r148_61, r148_64, r148_65, r148_66, r148_69, c143, m144_1, hB, kdC, kdM, rpC, rpM, q_rs, q_rn, Option.toList_some, Option.toList_none, List.cons_append, List.nil_append, true_and, and_true, eq_self, ↓reduceIte, not_true_eq_false, not_false_eq_true, Nat.reduceEqDiff, Nat.reduceLeDiff, Nat.reduceLT, Nat.reduceAdd, Nat.reduceMul, Nat.reduceSub, false_or, or_false, true_or, or_true, false_and, and_false, reduceCtorEq, q_n0, q_n1, q_em, q_em2, q_b0, q_b1, Classical.not_not, nI_add, pk_mul, nI_clamp, q_vp, nI_eq, nI_leI, nI_ltI, q_sub]
end IMP
