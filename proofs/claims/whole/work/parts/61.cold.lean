/-! cold -/
def euc : Nat → Nat → Nat → Nat
  | 0, x, _ => x
  | k + 1, x, y => if y = 0 then x else euc k y (x % y)
theorem euc_gcd : ∀ m k x y, y < 2 ^ m → 2 * m + 1 ≤ k → euc k x y = Nat.gcd x y
  | 0, k, x, y, hy, hk => by
    rw [Nat.pow_zero] at hy
    obtain rfl : y = 0 := by omega
    obtain ⟨j, rfl⟩ : ∃ j, k = j + 1 := ⟨k - 1, by omega⟩
    unfold euc
    rw [if_pos rfl, Nat.gcd_zero_right]
  | m + 1, k, x, y, hy, hk => by
    obtain ⟨j, rfl⟩ : ∃ j, k = j + 2 := ⟨k - 2, by omega⟩
    unfold euc
    by_cases e : y = 0
    · rw [if_pos e, e, Nat.gcd_zero_right]
    · rw [if_neg e]
      have h1 := Nat.mod_lt x (show 0 < y by omega)
      have h0 : Nat.gcd x y = Nat.gcd y (x % y) := by
        rw [Nat.gcd_comm, Nat.gcd_rec, Nat.gcd_comm]
      unfold euc
      by_cases e2 : x % y = 0
      · rw [if_pos e2, h0, e2, Nat.gcd_zero_right]
      · rw [if_neg e2]
        have h2 := Nat.mod_lt y (show 0 < x % y by omega)
        have h3 := Nat.div_add_mod y (x % y)
        have h4 : 1 ≤ y / (x % y) := (Nat.one_le_div_iff (by omega)).mpr (by omega)
        have h5 : (x % y) * 1 ≤ (x % y) * (y / (x % y)) := Nat.mul_le_mul_left _ h4
        rw [Nat.pow_succ] at hy
        have h6 : y % (x % y) < 2 ^ m := by omega
        rw [euc_gcd m j (x % y) (y % (x % y)) h6 (by omega), h0, Nat.gcd_comm y, Nat.gcd_rec (x % y) y, Nat.gcd_comm]
/-- a pair whose answer is a long -/
def PRJ (n : Nat) (h : Hp) (Mx Mm : Nat) (as : List Value) : Prop := ∀ d : Nat, ∃ (r : Int64) (h1 h2 : Hp), (∀ F, cwp true (d + 900) Mx (.ref 1 :: as) h F = F (some (.long r)) h1) ∧ (∀ F, cwp true (d + 900) Mm (.ref 101 :: as) h1 F = F (some (.long r)) h2) ∧ Inv (n + 1) h2
def B62 : Nat := 4000000000000
section CO
theorem cl140 (d : Nat) (h : Hp) (F : Po) (w0 w1 w2 w3 : Value) : ∀ k s x y (v9 v10 : Value), s + k = 200 → x ≤ 4000000000000 → y ≤ 4000000000000 → wp true d 140 9 [w0, w1, w2, w3, .long (lN x), jn, .long (lN y), jn, .int (nI s), v9, v10] [] h F = F (some (.long (lN (euc k x y)))) h
  | 0, s, x, y, v9, v10, e, hx, hy => by
    obtain rfl : s = 200 := e
    rw [r140_9]
    simp (disch := omega) only [e140, r140_0, r140_1, r140_3, r140_4, r140_6, r140_7, r140_11, r140_14, r140_17, r140_19, r140_20, r140_21, r140_24, r140_26, r140_28, r140_29, r140_31, r140_33, r140_35, r140_37, r140_39, r140_42, r140_45, r140_47, kdC, kdM, rpC, rpM, q_rs, q_rn, Option.toList_some, Option.toList_none, List.cons_append, List.nil_append, true_and, and_true, eq_self, ↓reduceIte, not_true_eq_false, not_false_eq_true, Nat.reduceEqDiff, Nat.reduceLeDiff, Nat.reduceLT, Nat.reduceAdd, Nat.reduceMul, Nat.reduceSub, false_or, or_false, true_or, or_true, false_and, and_false, reduceCtorEq, q_n0, q_n1, q_em, q_em2, q_b0, q_b1, Classical.not_not, nI_add, pk_mul, nI_clamp, q_vp, nI_eq, nI_leI, nI_ltI, q_sub, Nat.le_refl, euc]
  | k + 1, s, x, y, v9, v10, e, hx, hy => by
    unfold euc
    rw [r140_9]
    by_cases c : y = 0
    · rw [if_pos c]
      simp (disch := omega) only [e140, r140_0, r140_1, r140_3, r140_4, r140_6, r140_7, r140_11, r140_14, r140_17, r140_19, r140_20, r140_21, r140_24, r140_26, r140_28, r140_29, r140_31, r140_33, r140_35, r140_37, r140_39, r140_42, r140_45, r140_47, kdC, kdM, rpC, rpM, q_rs, q_rn, Option.toList_some, Option.toList_none, List.cons_append, List.nil_append, true_and, and_true, eq_self, ↓reduceIte, not_true_eq_false, not_false_eq_true, Nat.reduceEqDiff, Nat.reduceLeDiff, Nat.reduceLT, Nat.reduceAdd, Nat.reduceMul, Nat.reduceSub, false_or, or_false, true_or, or_true, false_and, and_false, reduceCtorEq, q_n0, q_n1, q_em, q_em2, q_b0, q_b1, Classical.not_not, nI_add, pk_mul, nI_clamp, q_vp, nI_eq, nI_leI, nI_ltI, q_sub, l_le, pk_lLE, show ¬ 200 ≤ s by omega, show y ≤ 0 by omega]
    · rw [if_neg c]
      have h1 := Nat.mod_lt x (show 0 < y by omega)
      have h2 : x - x / y * y = x % y := by
        have := Nat.div_add_mod' x y
        omega
      have h3 : x / y * y ≤ x := Nat.div_mul_le_self x y
      refine Eq.trans ?_ (cl140 d h F w0 w1 w2 w3 k (s + 1) y (x % y) (.long (lN (x % y))) jn (by omega) hy (by omega))
      simp (disch := omega) only [r140_11, r140_14, r140_17, r140_19, r140_20, r140_21, r140_24, r140_26, r140_28, r140_29, r140_31, r140_33, r140_35, r140_37, r140_39, r140_42, kdC, kdM, rpC, rpM, q_rs, q_rn, Option.toList_some, Option.toList_none, List.cons_append, List.nil_append, true_and, and_true, eq_self, ↓reduceIte, not_true_eq_false, not_false_eq_true, Nat.reduceEqDiff, Nat.reduceLeDiff, Nat.reduceLT, Nat.reduceAdd, Nat.reduceMul, Nat.reduceSub, false_or, or_false, true_or, or_true, false_and, and_false, reduceCtorEq, q_n0, q_n1, q_em, q_em2, q_b0, q_b1, Classical.not_not, nI_add, pk_mul, nI_clamp, q_vp, nI_eq, nI_leI, nI_ltI, q_sub, l_le, pk_lLE, pk_lEQ, pk_lDiv, lN_mul, lN_sub, h2, c, show ¬ 200 ≤ s by omega, show ¬ y ≤ 0 by omega]
theorem c140 (d : Nat) (h : Hp) (F : Po) {x y : Nat} (hx : x ≤ 4000000000000) (hy : y ≤ 4000000000000) : cwp true d 140 [.long (lN x), .long (lN y)] h F = F (some (.long (lN (Nat.gcd x y)))) h := by
  have hl := cl140 d h F (.long (lN x)) jn (.long (lN y)) jn 200 0 x y jn jn (by omega) hx hy
  rw [euc_gcd 50 200 x y (Nat.lt_of_le_of_lt hy (by decide)) (by omega)] at hl
  simp (disch := omega) only [r140_0, r140_1, r140_3, r140_4, r140_6, r140_7, e140]
  exact hl
/-- how likely it is that none is harmed, in hundredths of hundredths .. -/
noncomputable def uh (T : Tk) (b c : Int32) : Nat → Nat
  | 0 => 1
  | r + 1 => uh T b c r * (100 - (oddV T b c (nI r)).toNatClampNeg)
theorem uh_bd (T : Tk) (b c : Int32) : ∀ r, 1 ≤ uh T b c r ∧ uh T b c r ≤ 100 ^ r ∧ (1 ≤ r → uh T b c r < 100 ^ r)
  | 0 => ⟨Nat.le_refl 1, Nat.le_refl 1, fun q => by omega⟩
  | r + 1 => by
    obtain ⟨j, h1, h2, h3⟩ := oddV_n T b c (nI r)
    obtain ⟨a1, a2, _⟩ := uh_bd T b c r
    have he : uh T b c (r + 1) = uh T b c r * (100 - j) := by
      show uh T b c r * (100 - (oddV T b c (nI r)).toNatClampNeg) = _
      rw [h3, nI_clamp (by omega)]
    rw [he, Nat.pow_succ]
    have h4 : 1 * 1 ≤ uh T b c r * (100 - j) := Nat.mul_le_mul a1 (by omega)
    have h5 : uh T b c r * (100 - j) ≤ 100 ^ r * 99 := Nat.mul_le_mul a2 (by omega)
    have h6 := Nat.pow_pos (n := r) (show 0 < 100 by omega)
    exact ⟨by omega, by omega, fun _ => by omega⟩
theorem p6 {r : Nat} (hr : r ≤ 6) : 100 ^ r ≤ 1000000000000 := Nat.le_trans (Nat.pow_le_pow_right (by omega) hr) (by decide)
variable {h : Hp} {K : Nat → Int32} {T : Tk} {t a : Nat}
theorem cl99 (te : tEq K t T) (ta : tAt h a T) (b c e1 g : Int32) {m : Nat} (hm : m ≤ 6) : ∀ k r h0, r + k = m → Fr h h0 → ∃ h', Fr h h' ∧ ∀ d F, wp true (d + 4) 99 52 [.ref 1, .int e1, .int b, .int c, .int (nI m), .int g, .ref a, .long (lN (100 ^ r)), jn, .long (lN (uh T b c r)), jn, .int (nI r), jn] [] h0 F = wp true (d + 4) 99 92 [.ref 1, .int e1, .int b, .int c, .int (nI m), .int g, .ref a, .long (lN (100 ^ m)), jn, .long (lN (uh T b c m)), jn, .int (nI m), jn] [] h' F
  | 0, r, h0, e, x => by
    obtain rfl : r = m := e
    refine ⟨h0, x, fun d F => ?_⟩
    rw [r99_52]
    simp (disch := omega) only [r99_54, r99_56, kdC, kdM, rpC, rpM, q_rs, q_rn, Option.toList_some, Option.toList_none, List.cons_append, List.nil_append, true_and, and_true, eq_self, ↓reduceIte, not_true_eq_false, not_false_eq_true, Nat.reduceEqDiff, Nat.reduceLeDiff, Nat.reduceLT, Nat.reduceAdd, Nat.reduceMul, Nat.reduceSub, false_or, or_false, true_or, or_true, false_and, and_false, reduceCtorEq, q_n0, q_n1, q_em, q_em2, q_b0, q_b1, Classical.not_not, nI_add, pk_mul, nI_clamp, q_vp, nI_eq, nI_leI, nI_ltI, q_sub, Nat.le_refl]
  | k + 1, r, h0, e, x => by
    obtain ⟨j, j1, j2, j3⟩ := oddV_n T b c (nI r)
    obtain ⟨h1, x1, x2⟩ := c137 te (tAt_fr x ta) b c (nI r)
    obtain ⟨h', a1, a2⟩ := cl99 te ta b c e1 g hm k (r + 1) h1 (by omega) (x.trans (FrA.fr x1))
    refine ⟨h', a1, fun d F => ?_⟩
    have he : uh T b c (r + 1) = uh T b c r * (100 - j) := by
      show uh T b c r * (100 - (oddV T b c (nI r)).toNatClampNeg) = _
      rw [j3, nI_clamp (by omega)]
    rw [j3] at x2
    refine Eq.trans ?_ (a2 d F)
    rw [he, Nat.pow_succ, r99_52]
    simp (disch := omega) only [r99_54, r99_56, r99_59, r99_61, r99_64, r99_65, r99_67, r99_69, r99_71, r99_72, r99_72n, r99_74, r99_75, r99_76, r99_78, r99_81, r99_82, r99_83, r99_84, r99_86, r99_89, x2, kdC, kdM, rpC, rpM, q_rs, q_rn, Option.toList_some, Option.toList_none, List.cons_append, List.nil_append, true_and, and_true, eq_self, ↓reduceIte, not_true_eq_false, not_false_eq_true, Nat.reduceEqDiff, Nat.reduceLeDiff, Nat.reduceLT, Nat.reduceAdd, Nat.reduceMul, Nat.reduceSub, false_or, or_false, true_or, or_true, false_and, and_false, reduceCtorEq, q_n0, q_n1, q_em, q_em2, q_b0, q_b1, Classical.not_not, nI_add, pk_mul, nI_clamp, q_vp, nI_eq, nI_leI, nI_ltI, q_sub, nI_l, lN_mul, show ¬ m ≤ r by omega]
theorem ml211 (hK : gI h 103 = K) (ht : t < 10) (te : tEq K t T) (b c g : Int32) {m : Nat} (hm : m ≤ 6) (w11 w12 w13 w14 w15 : Value) : ∀ k r h0, r + k = m → Am h h0 → ∃ h', Am h h' ∧ ∀ d F, wp true (d + 69) 211 59 [.ref 101, .int (nI t), .int b, .int c, .int (nI m), .int g, .long (lN (uh T b c r)), jn, .long (lN (100 ^ r)), jn, .int (nI r), w11, w12, w13, w14, w15] [] h0 F = wp true (d + 69) 211 98 [.ref 101, .int (nI t), .int b, .int c, .int (nI m), .int g, .long (lN (uh T b c m)), jn, .long (lN (100 ^ m)), jn, .int (nI m), w11, w12, w13, w14, w15] [] h' F
  | 0, r, h0, e, x => by
    obtain rfl : r = m := e
    refine ⟨h0, x, fun d F => ?_⟩
    rw [r211_59]
    simp (disch := omega) only [r211_61, r211_63, kdC, kdM, rpC, rpM, q_rs, q_rn, Option.toList_some, Option.toList_none, List.cons_append, List.nil_append, true_and, and_true, eq_self, ↓reduceIte, not_true_eq_false, not_false_eq_true, Nat.reduceEqDiff, Nat.reduceLeDiff, Nat.reduceLT, Nat.reduceAdd, Nat.reduceMul, Nat.reduceSub, false_or, or_false, true_or, or_true, false_and, and_false, reduceCtorEq, q_n0, q_n1, q_em, q_em2, q_b0, q_b1, Classical.not_not, nI_add, pk_mul, nI_clamp, q_vp, nI_eq, nI_leI, nI_ltI, q_sub, Nat.le_refl]
  | k + 1, r, h0, e, x => by
    obtain ⟨j, j1, j2, j3⟩ := oddV_n T b c (nI r)
    obtain ⟨h1, x1, x2⟩ := m203 (x.fr.K.trans hK) ht te b c (nI r)
    obtain ⟨h', a1, a2⟩ := ml211 hK ht te b c g hm w11 w12 w13 w14 w15 k (r + 1) h1 (by omega) (x.trans x1)
    refine ⟨h', a1, fun d F => ?_⟩
    have he : uh T b c (r + 1) = uh T b c r * (100 - j) := by
      show uh T b c r * (100 - (oddV T b c (nI r)).toNatClampNeg) = _
      rw [j3, nI_clamp (by omega)]
    rw [j3] at x2
    refine Eq.trans ?_ (a2 d F)
    rw [he, Nat.pow_succ, r211_59]
    simp (disch := omega) only [r211_61, r211_63, r211_66, r211_68, r211_70, r211_71, r211_72, r211_73, r211_74, r211_76, r211_79, r211_80, r211_81, r211_82, r211_84, r211_86, r211_89, r211_90, r211_92, r211_95, x2, kdC, kdM, rpC, rpM, q_rs, q_rn, Option.toList_some, Option.toList_none, List.cons_append, List.nil_append, true_and, and_true, eq_self, ↓reduceIte, not_true_eq_false, not_false_eq_true, Nat.reduceEqDiff, Nat.reduceLeDiff, Nat.reduceLT, Nat.reduceAdd, Nat.reduceMul, Nat.reduceSub, false_or, or_false, true_or, or_true, false_and, and_false, reduceCtorEq, q_n0, q_n1, q_em, q_em2, q_b0, q_b1, Classical.not_not, nI_add, pk_mul, nI_clamp, q_vp, nI_eq, nI_leI, nI_ltI, q_sub, nI_l, lN_mul, show ¬ m ≤ r by omega]
theorem ml211g (h : Hp) (d : Nat) (F : Po) (w0 w1 w2 w3 w4 w5 w6 w7 w8 w9 : Value) : ∀ m x y (v14 v15 : Value), y ≤ m → x ≤ 4000000000000 → y ≤ 4000000000000 → ∃ w14 w15, wp true d 211 109 [w0, w1, w2, w3, w4, w5, w6, w7, w8, w9, .long (lN x), jn, .long (lN y), jn, v14, v15] [] h F = wp true d 211 134 [w0, w1, w2, w3, w4, w5, w6, w7, w8, w9, .long (lN (Nat.gcd x y)), jn, .long (lN 0), jn, w14, w15] [] h F
  | 0, x, y, v14, v15, hm, hx, hy => by
    obtain rfl : y = 0 := by omega
    refine ⟨v14, v15, ?_⟩
    rw [r211_109, Nat.gcd_zero_right]
    simp (disch := omega) only [r211_111, r211_112, r211_113, kdC, kdM, rpC, rpM, q_rs, q_rn, Option.toList_some, Option.toList_none, List.cons_append, List.nil_append, true_and, and_true, eq_self, ↓reduceIte, not_true_eq_false, not_false_eq_true, Nat.reduceEqDiff, Nat.reduceLeDiff, Nat.reduceLT, Nat.reduceAdd, Nat.reduceMul, Nat.reduceSub, false_or, or_false, true_or, or_true, false_and, and_false, reduceCtorEq, q_n0, q_n1, q_em, q_em2, q_b0, q_b1, Classical.not_not, l_eq]
  | m + 1, x, y, v14, v15, hm, hx, hy => by
    by_cases c : y = 0
    · subst c
      refine ⟨v14, v15, ?_⟩
      rw [r211_109, Nat.gcd_zero_right]
      simp (disch := omega) only [r211_111, r211_112, r211_113, kdC, kdM, rpC, rpM, q_rs, q_rn, Option.toList_some, Option.toList_none, List.cons_append, List.nil_append, true_and, and_true, eq_self, ↓reduceIte, not_true_eq_false, not_false_eq_true, Nat.reduceEqDiff, Nat.reduceLeDiff, Nat.reduceLT, Nat.reduceAdd, Nat.reduceMul, Nat.reduceSub, false_or, or_false, true_or, or_true, false_and, and_false, reduceCtorEq, q_n0, q_n1, q_em, q_em2, q_b0, q_b1, Classical.not_not, l_eq]
    · have h1 := Nat.mod_lt x (show 0 < y by omega)
      have h2 : x - x / y * y = x % y := by
        have := Nat.div_add_mod' x y
        omega
      have h3 : x / y * y ≤ x := Nat.div_mul_le_self x y
      obtain ⟨w14, w15, ih⟩ := ml211g h d F w0 w1 w2 w3 w4 w5 w6 w7 w8 w9 m y (x % y) (.long (lN (x % y))) jn (by omega) hy (by omega)
      refine ⟨w14, w15, ?_⟩
      have h0 : Nat.gcd x y = Nat.gcd y (x % y) := by
        rw [Nat.gcd_comm, Nat.gcd_rec, Nat.gcd_comm]
      rw [h0]
      refine Eq.trans ?_ ih
      rw [r211_109]
      simp (disch := omega) only [r211_111, r211_112, r211_113, r211_116, r211_118, r211_120, r211_121, r211_123, r211_125, r211_127, r211_129, r211_131, kdC, kdM, rpC, rpM, q_rs, q_rn, Option.toList_some, Option.toList_none, List.cons_append, List.nil_append, true_and, and_true, eq_self, ↓reduceIte, not_true_eq_false, not_false_eq_true, Nat.reduceEqDiff, Nat.reduceLeDiff, Nat.reduceLT, Nat.reduceAdd, Nat.reduceMul, Nat.reduceSub, false_or, or_false, true_or, or_true, false_and, and_false, reduceCtorEq, q_n0, q_n1, q_em, q_em2, q_b0, q_b1, Classical.not_not, l_eq, pk_lEQ, pk_lDiv, lN_mul, lN_sub, h2, c]
end CO
theorem p_cold {n : Nat} {h : Hp} (z : Inv n h) (a b c e g : Int32) : PRJ n h 99 211 [.int a, .int b, .int c, .int e, .int g] := by
  intro d
  have w := z.1.1
  have q := z.1.2.1
  have hn := w.hnx
  by_cases hA : nI 0 ≤ a ∧ a < nI (nx (gI h 103))
  · obtain ⟨t, ht, rfl⟩ := q_ix (by omega) hA.1 hA.2
    obtain ⟨s, T, y1, y2, y3⟩ := z.1.2.2.1 t ht
    have h60 := fun F d => c60 h w q ht y1 d F
    by_cases hB : -40 ≤ b ∧ b ≤ nI 120
    · by_cases hC : nI 0 ≤ c ∧ c ≤ nI 9
      · by_cases hE : nI 1 ≤ e ∧ e ≤ nI 6
        · by_cases hG : g = nI 0 ∨ g = nI 1
          · have hG2 : nI 0 ≤ g ∧ g ≤ nI 1 := by rw [q_flag]; exact hG
            have hE0 : nI 0 ≤ e := by
              have h1 := hE.1
              rw [Int32.le_iff_toInt_le, show (nI 1).toInt = 1 by decide] at h1
              rw [Int32.le_iff_toInt_le, q_z0]; omega
            obtain ⟨m, hm, rfl⟩ := q_ix2 (m := 6) (by omega) hE0 hE.2
            have hE' := hE
            rw [nI_leI (by omega) (by omega)] at hE'
            have hm1 : 1 ≤ m := hE'.1
            obtain ⟨u1, u2, u3⟩ := uh_bd T b c m
            have u4 := u3 hm1
            have u5 := p6 hm
            obtain ⟨h1, x1, x2⟩ := cl99 y3 y2 b c (nI t) g hm m 0 h (by omega) (Fr.refl h)
            have hK := x1.K
            obtain ⟨h2, a1, a2⟩ := ml211 hK (show t < 10 by omega) y3 b c g hm jn jn jn jn jn m 0 h1 (by omega) (Am.refl h1)
            have hgp : 0 < Nat.gcd (100 ^ m) (100 ^ m - uh T b c m) := Nat.gcd_pos_of_pos_left _ (by omega)
            have hgl : Nat.gcd (100 ^ m) (100 ^ m - uh T b c m) ≤ 100 ^ m := Nat.le_of_dvd (by omega) (Nat.gcd_dvd_left _ _)
            have hc := fun (h : Hp) (F : Po) (d : Nat) => c140 d h F (x := 100 ^ m) (y := 100 ^ m - uh T b c m) (by omega) (by omega)
            have x2' := fun F => x2 (d + 896) F
            have a2' := fun F => a2 (d + 831) F
            have x0 : uh T b c 0 = 1 := rfl
            rw [Nat.pow_zero, x0] at x2' a2'
            refine ⟨if g = nI 0 then lN ((100 ^ m - uh T b c m) / Nat.gcd (100 ^ m) (100 ^ m - uh T b c m)) else lN (100 ^ m / Nat.gcd (100 ^ m) (100 ^ m - uh T b c m)), h1, h2, fun F => ?_, fun F => ?_, Inv_fr (x1.trans a1.fr) z⟩
            · generalize hG0 : Nat.gcd (100 ^ m) (100 ^ m - uh T b c m) = gg at *
              generalize hP : 100 ^ m = pm at *
              generalize uh T b c m = um at *
              simp (disch := omega) only [r99_0, r99_1, r99_4, r99_5, r99_8, r99_8n, r99_10, r99_10n, r99_12, r99_12n, r99_15, r99_16, r99_19, r99_22, r99_23, r99_25, r99_28, r99_31, r99_33, r99_36, r99_39, r99_42, r99_43, r99_44, r99_46, r99_47, r99_49, r99_50, e99, h60, c129, c130, c126, hB, hC, hE, hG, kdC, kdM, rpC, rpM, q_rs, q_rn, Option.toList_some, Option.toList_none, List.cons_append, List.nil_append, true_and, and_true, eq_self, ↓reduceIte, not_true_eq_false, not_false_eq_true, Nat.reduceEqDiff, Nat.reduceLeDiff, Nat.reduceLT, Nat.reduceAdd, Nat.reduceMul, Nat.reduceSub, false_or, or_false, true_or, or_true, false_and, and_false, reduceCtorEq, q_n0, q_n1, q_em, q_em2, q_b0, q_b1, Classical.not_not]
              refine Eq.trans (x2' F) ?_
              rcases hG with rfl | rfl <;>
              simp (disch := omega) only [r99_92, r99_94, r99_96, r99_98, r99_99, r99_102, r99_104, r99_106, r99_107, r99_108, r99_111, r99_114, r99_115, r99_117, r99_120, r99_122, r99_124, r99_125, r99_128, r99_130, r99_132, r99_133, hc, kdC, kdM, rpC, rpM, q_rs, q_rn, Option.toList_some, Option.toList_none, List.cons_append, List.nil_append, true_and, and_true, eq_self, ↓reduceIte, not_true_eq_false, not_false_eq_true, Nat.reduceEqDiff, Nat.reduceLeDiff, Nat.reduceLT, Nat.reduceAdd, Nat.reduceMul, Nat.reduceSub, false_or, or_false, true_or, or_true, false_and, and_false, reduceCtorEq, q_n0, q_n1, q_em, q_em2, q_b0, q_b1, Classical.not_not, nI_add, pk_mul, nI_clamp, q_vp, nI_eq, nI_leI, nI_ltI, q_sub, lN_sub, l_gt, pk_lLT, pk_lEQ, pk_lDiv, hgp, show ¬ gg = 0 by omega]
            · obtain ⟨w14, w15, hg1⟩ := ml211g h2 (d + 900) F (.ref 101) (.int (nI t)) (.int b) (.int c) (.int (nI m)) (.int g) (.long (lN (uh T b c m))) jn (.long (lN (100 ^ m))) jn (100 ^ m - uh T b c m) (100 ^ m) (100 ^ m - uh T b c m) jn jn (Nat.le_refl _) (by omega) (by omega)
              generalize hG0 : Nat.gcd (100 ^ m) (100 ^ m - uh T b c m) = gg at *
              generalize hP : 100 ^ m = pm at *
              generalize uh T b c m = um at *
              simp (disch := omega) only [r211_0, r211_1, r211_2, r211_5, r211_8, r211_9, r211_12, r211_15, r211_16, r211_17, r211_19, r211_22, r211_25, r211_27, r211_28, r211_30, r211_33, r211_36, r211_38, r211_39, r211_40, r211_43, r211_46, r211_49, r211_50, r211_51, r211_53, r211_54, r211_56, r211_57, e211, c150 _ _ _ hK w, c151, c143, hA, hB, hC, hE, hG2, kdC, kdM, rpC, rpM, q_rs, q_rn, Option.toList_some, Option.toList_none, List.cons_append, List.nil_append, true_and, and_true, eq_self, ↓reduceIte, not_true_eq_false, not_false_eq_true, Nat.reduceEqDiff, Nat.reduceLeDiff, Nat.reduceLT, Nat.reduceAdd, Nat.reduceMul, Nat.reduceSub, false_or, or_false, true_or, or_true, false_and, and_false, reduceCtorEq, q_n0, q_n1, q_em, q_em2, q_b0, q_b1, Classical.not_not]
              refine Eq.trans (a2' F) ?_
              simp (disch := omega) only [r211_98, r211_100, r211_102, r211_104, r211_106, r211_107, lN_sub]
              refine Eq.trans hg1 ?_
              rcases hG with rfl | rfl <;>
              simp (disch := omega) only [r211_134, r211_136, r211_139, r211_141, r211_143, r211_144, r211_146, r211_147, r211_150, r211_152, r211_154, r211_155, kdC, kdM, rpC, rpM, q_rs, q_rn, Option.toList_some, Option.toList_none, List.cons_append, List.nil_append, true_and, and_true, eq_self, ↓reduceIte, not_true_eq_false, not_false_eq_true, Nat.reduceEqDiff, Nat.reduceLeDiff, Nat.reduceLT, Nat.reduceAdd, Nat.reduceMul, Nat.reduceSub, false_or, or_false, true_or, or_true, false_and, and_false, reduceCtorEq, q_n0, q_n1, q_em, q_em2, q_b0, q_b1, Classical.not_not, nI_add, pk_mul, nI_clamp, q_vp, nI_eq, nI_leI, nI_ltI, q_sub, lN_sub, pk_lEQ, pk_lDiv, show ¬ gg = 0 by omega]
          · have hG2 : ¬ (nI 0 ≤ g ∧ g ≤ nI 1) := by rw [q_flag]; exact hG
            refine ⟨-1, h, h, fun F => ?_, fun F => ?_, Inv_fr (Fr.refl h) z⟩
            · simp (disch := omega) only [e99, r99_0, r99_1, r99_4, r99_5, r99_8, r99_8n, r99_10, r99_10n, r99_12, r99_12n, r99_15, r99_16, r99_19, r99_22, r99_23, r99_25, r99_28, r99_31, r99_33, r99_36, r99_39, r99_42, r99_43, r99_44, r99_46, r99_47, r99_49, r99_50, r99_54, r99_56, r99_59, r99_61, r99_64, r99_65, r99_67, r99_69, r99_71, r99_72, r99_72n, r99_74, r99_75, r99_76, r99_78, r99_81, r99_82, r99_83, r99_84, r99_86, r99_89, r99_92, r99_94, r99_96, r99_98, r99_99, r99_102, r99_104, r99_106, r99_107, r99_108, r99_111, r99_114, r99_115, r99_117, r99_120, r99_122, r99_124, r99_125, r99_128, r99_130, r99_132, r99_133, h60, c129, c130, c126, hB, hC, hE, hG, kdC, kdM, rpC, rpM, q_rs, q_rn, Option.toList_some, Option.toList_none, List.cons_append, List.nil_append, true_and, and_true, eq_self, ↓reduceIte, not_true_eq_false, not_false_eq_true, Nat.reduceEqDiff, Nat.reduceLeDiff, Nat.reduceLT, Nat.reduceAdd, Nat.reduceMul, Nat.reduceSub, false_or, or_false, true_or, or_true, false_and, and_false, reduceCtorEq, q_n0, q_n1, q_em, q_em2, q_b0, q_b1, Classical.not_not]
            · simp (disch := omega) only [e211, r211_0, r211_1, r211_2, r211_5, r211_8, r211_9, r211_12, r211_15, r211_16, r211_17, r211_19, r211_22, r211_25, r211_27, r211_28, r211_30, r211_33, r211_36, r211_38, r211_39, r211_40, r211_43, r211_46, r211_49, r211_50, r211_51, r211_53, r211_54, r211_56, r211_57, r211_61, r211_63, r211_66, r211_68, r211_70, r211_71, r211_72, r211_73, r211_74, r211_76, r211_79, r211_80, r211_81, r211_82, r211_84, r211_86, r211_89, r211_90, r211_92, r211_95, r211_98, r211_100, r211_102, r211_104, r211_106, r211_107, r211_111, r211_112, r211_113, r211_116, r211_118, r211_120, r211_121, r211_123, r211_125, r211_127, r211_129, r211_131, r211_134, r211_136, r211_139, r211_141, r211_143, r211_144, r211_146, r211_147, r211_150, r211_152, r211_154, r211_155, c150 _ _ _ rfl w, c151, c143, hA, hB, hC, hE, hG2, kdC, kdM, rpC, rpM, q_rs, q_rn, Option.toList_some, Option.toList_none, List.cons_append, List.nil_append, true_and, and_true, eq_self, ↓reduceIte, not_true_eq_false, not_false_eq_true, Nat.reduceEqDiff, Nat.reduceLeDiff, Nat.reduceLT, Nat.reduceAdd, Nat.reduceMul, Nat.reduceSub, false_or, or_false, true_or, or_true, false_and, and_false, reduceCtorEq, q_n0, q_n1, q_em, q_em2, q_b0, q_b1, Classical.not_not]
        · refine ⟨-1, h, h, fun F => ?_, fun F => ?_, Inv_fr (Fr.refl h) z⟩
          · simp (disch := omega) only [e99, r99_0, r99_1, r99_4, r99_5, r99_8, r99_8n, r99_10, r99_10n, r99_12, r99_12n, r99_15, r99_16, r99_19, r99_22, r99_23, r99_25, r99_28, r99_31, r99_33, r99_36, r99_39, r99_42, r99_43, r99_44, r99_46, r99_47, r99_49, r99_50, r99_54, r99_56, r99_59, r99_61, r99_64, r99_65, r99_67, r99_69, r99_71, r99_72, r99_72n, r99_74, r99_75, r99_76, r99_78, r99_81, r99_82, r99_83, r99_84, r99_86, r99_89, r99_92, r99_94, r99_96, r99_98, r99_99, r99_102, r99_104, r99_106, r99_107, r99_108, r99_111, r99_114, r99_115, r99_117, r99_120, r99_122, r99_124, r99_125, r99_128, r99_130, r99_132, r99_133, h60, c129, c130, hB, hC, hE, kdC, kdM, rpC, rpM, q_rs, q_rn, Option.toList_some, Option.toList_none, List.cons_append, List.nil_append, true_and, and_true, eq_self, ↓reduceIte, not_true_eq_false, not_false_eq_true, Nat.reduceEqDiff, Nat.reduceLeDiff, Nat.reduceLT, Nat.reduceAdd, Nat.reduceMul, Nat.reduceSub, false_or, or_false, true_or, or_true, false_and, and_false, reduceCtorEq, q_n0, q_n1, q_em, q_em2, q_b0, q_b1, Classical.not_not]
          · simp (disch := omega) only [e211, r211_0, r211_1, r211_2, r211_5, r211_8, r211_9, r211_12, r211_15, r211_16, r211_17, r211_19, r211_22, r211_25, r211_27, r211_28, r211_30, r211_33, r211_36, r211_38, r211_39, r211_40, r211_43, r211_46, r211_49, r211_50, r211_51, r211_53, r211_54, r211_56, r211_57, r211_61, r211_63, r211_66, r211_68, r211_70, r211_71, r211_72, r211_73, r211_74, r211_76, r211_79, r211_80, r211_81, r211_82, r211_84, r211_86, r211_89, r211_90, r211_92, r211_95, r211_98, r211_100, r211_102, r211_104, r211_106, r211_107, r211_111, r211_112, r211_113, r211_116, r211_118, r211_120, r211_121, r211_123, r211_125, r211_127, r211_129, r211_131, r211_134, r211_136, r211_139, r211_141, r211_143, r211_144, r211_146, r211_147, r211_150, r211_152, r211_154, r211_155, c150 _ _ _ rfl w, c151, c143, hA, hB, hC, hE, kdC, kdM, rpC, rpM, q_rs, q_rn, Option.toList_some, Option.toList_none, List.cons_append, List.nil_append, true_and, and_true, eq_self, ↓reduceIte, not_true_eq_false, not_false_eq_true, Nat.reduceEqDiff, Nat.reduceLeDiff, Nat.reduceLT, Nat.reduceAdd, Nat.reduceMul, Nat.reduceSub, false_or, or_false, true_or, or_true, false_and, and_false, reduceCtorEq, q_n0, q_n1, q_em, q_em2, q_b0, q_b1, Classical.not_not]
      · refine ⟨-1, h, h, fun F => ?_, fun F => ?_, Inv_fr (Fr.refl h) z⟩
        · simp (disch := omega) only [e99, r99_0, r99_1, r99_4, r99_5, r99_8, r99_8n, r99_10, r99_10n, r99_12, r99_12n, r99_15, r99_16, r99_19, r99_22, r99_23, r99_25, r99_28, r99_31, r99_33, r99_36, r99_39, r99_42, r99_43, r99_44, r99_46, r99_47, r99_49, r99_50, r99_54, r99_56, r99_59, r99_61, r99_64, r99_65, r99_67, r99_69, r99_71, r99_72, r99_72n, r99_74, r99_75, r99_76, r99_78, r99_81, r99_82, r99_83, r99_84, r99_86, r99_89, r99_92, r99_94, r99_96, r99_98, r99_99, r99_102, r99_104, r99_106, r99_107, r99_108, r99_111, r99_114, r99_115, r99_117, r99_120, r99_122, r99_124, r99_125, r99_128, r99_130, r99_132, r99_133, h60, c129, c130, hB, hC, kdC, kdM, rpC, rpM, q_rs, q_rn, Option.toList_some, Option.toList_none, List.cons_append, List.nil_append, true_and, and_true, eq_self, ↓reduceIte, not_true_eq_false, not_false_eq_true, Nat.reduceEqDiff, Nat.reduceLeDiff, Nat.reduceLT, Nat.reduceAdd, Nat.reduceMul, Nat.reduceSub, false_or, or_false, true_or, or_true, false_and, and_false, reduceCtorEq, q_n0, q_n1, q_em, q_em2, q_b0, q_b1, Classical.not_not]
        · simp (disch := omega) only [e211, r211_0, r211_1, r211_2, r211_5, r211_8, r211_9, r211_12, r211_15, r211_16, r211_17, r211_19, r211_22, r211_25, r211_27, r211_28, r211_30, r211_33, r211_36, r211_38, r211_39, r211_40, r211_43, r211_46, r211_49, r211_50, r211_51, r211_53, r211_54, r211_56, r211_57, r211_61, r211_63, r211_66, r211_68, r211_70, r211_71, r211_72, r211_73, r211_74, r211_76, r211_79, r211_80, r211_81, r211_82, r211_84, r211_86, r211_89, r211_90, r211_92, r211_95, r211_98, r211_100, r211_102, r211_104, r211_106, r211_107, r211_111, r211_112, r211_113, r211_116, r211_118, r211_120, r211_121, r211_123, r211_125, r211_127, r211_129, r211_131, r211_134, r211_136, r211_139, r211_141, r211_143, r211_144, r211_146, r211_147, r211_150, r211_152, r211_154, r211_155, c150 _ _ _ rfl w, c151, c143, hA, hB, hC, kdC, kdM, rpC, rpM, q_rs, q_rn, Option.toList_some, Option.toList_none, List.cons_append, List.nil_append, true_and, and_true, eq_self, ↓reduceIte, not_true_eq_false, not_false_eq_true, Nat.reduceEqDiff, Nat.reduceLeDiff, Nat.reduceLT, Nat.reduceAdd, Nat.reduceMul, Nat.reduceSub, false_or, or_false, true_or, or_true, false_and, and_false, reduceCtorEq, q_n0, q_n1, q_em, q_em2, q_b0, q_b1, Classical.not_not]
    · refine ⟨-1, h, h, fun F => ?_, fun F => ?_, Inv_fr (Fr.refl h) z⟩
      · simp (disch := omega) only [e99, r99_0, r99_1, r99_4, r99_5, r99_8, r99_8n, r99_10, r99_10n, r99_12, r99_12n, r99_15, r99_16, r99_19, r99_22, r99_23, r99_25, r99_28, r99_31, r99_33, r99_36, r99_39, r99_42, r99_43, r99_44, r99_46, r99_47, r99_49, r99_50, r99_54, r99_56, r99_59, r99_61, r99_64, r99_65, r99_67, r99_69, r99_71, r99_72, r99_72n, r99_74, r99_75, r99_76, r99_78, r99_81, r99_82, r99_83, r99_84, r99_86, r99_89, r99_92, r99_94, r99_96, r99_98, r99_99, r99_102, r99_104, r99_106, r99_107, r99_108, r99_111, r99_114, r99_115, r99_117, r99_120, r99_122, r99_124, r99_125, r99_128, r99_130, r99_132, r99_133, h60, c129, hB, kdC, kdM, rpC, rpM, q_rs, q_rn, Option.toList_some, Option.toList_none, List.cons_append, List.nil_append, true_and, and_true, eq_self, ↓reduceIte, not_true_eq_false, not_false_eq_true, Nat.reduceEqDiff, Nat.reduceLeDiff, Nat.reduceLT, Nat.reduceAdd, Nat.reduceMul, Nat.reduceSub, false_or, or_false, true_or, or_true, false_and, and_false, reduceCtorEq, q_n0, q_n1, q_em, q_em2, q_b0, q_b1, Classical.not_not]
      · simp (disch := omega) only [e211, r211_0, r211_1, r211_2, r211_5, r211_8, r211_9, r211_12, r211_15, r211_16, r211_17, r211_19, r211_22, r211_25, r211_27, r211_28, r211_30, r211_33, r211_36, r211_38, r211_39, r211_40, r211_43, r211_46, r211_49, r211_50, r211_51, r211_53, r211_54, r211_56, r211_57, r211_61, r211_63, r211_66, r211_68, r211_70, r211_71, r211_72, r211_73, r211_74, r211_76, r211_79, r211_80, r211_81, r211_82, r211_84, r211_86, r211_89, r211_90, r211_92, r211_95, r211_98, r211_100, r211_102, r211_104, r211_106, r211_107, r211_111, r211_112, r211_113, r211_116, r211_118, r211_120, r211_121, r211_123, r211_125, r211_127, r211_129, r211_131, r211_134, r211_136, r211_139, r211_141, r211_143, r211_144, r211_146, r211_147, r211_150, r211_152, r211_154, r211_155, c150 _ _ _ rfl w, c151, hA, hB, kdC, kdM, rpC, rpM, q_rs, q_rn, Option.toList_some, Option.toList_none, List.cons_append, List.nil_append, true_and, and_true, eq_self, ↓reduceIte, not_true_eq_false, not_false_eq_true, Nat.reduceEqDiff, Nat.reduceLeDiff, Nat.reduceLT, Nat.reduceAdd, Nat.reduceMul, Nat.reduceSub, false_or, or_false, true_or, or_true, false_and, and_false, reduceCtorEq, q_n0, q_n1, q_em, q_em2, q_b0, q_b1, Classical.not_not]
  · have h60 := fun F d => c60n h w q hA d F
    refine ⟨-1, h, h, fun F => ?_, fun F => ?_, Inv_fr (Fr.refl h) z⟩
    · simp (disch := omega) only [e99, r99_0, r99_1, r99_4, r99_5, r99_8, r99_8n, r99_10, r99_10n, r99_12, r99_12n, r99_15, r99_16, r99_19, r99_22, r99_23, r99_25, r99_28, r99_31, r99_33, r99_36, r99_39, r99_42, r99_43, r99_44, r99_46, r99_47, r99_49, r99_50, r99_54, r99_56, r99_59, r99_61, r99_64, r99_65, r99_67, r99_69, r99_71, r99_72, r99_72n, r99_74, r99_75, r99_76, r99_78, r99_81, r99_82, r99_83, r99_84, r99_86, r99_89, r99_92, r99_94, r99_96, r99_98, r99_99, r99_102, r99_104, r99_106, r99_107, r99_108, r99_111, r99_114, r99_115, r99_117, r99_120, r99_122, r99_124, r99_125, r99_128, r99_130, r99_132, r99_133, h60, kdC, kdM, rpC, rpM, q_rs, q_rn, Option.toList_some, Option.toList_none, List.cons_append, List.nil_append, true_and, and_true, eq_self, ↓reduceIte, not_true_eq_false, not_false_eq_true, Nat.reduceEqDiff, Nat.reduceLeDiff, Nat.reduceLT, Nat.reduceAdd, Nat.reduceMul, Nat.reduceSub, false_or, or_false, true_or, or_true, false_and, and_false, reduceCtorEq, q_n0, q_n1, q_em, q_em2, q_b0, q_b1, Classical.not_not]
    · simp (disch := omega) only [e211, r211_0, r211_1, r211_2, r211_5, r211_8, r211_9, r211_12, r211_15, r211_16, r211_17, r211_19, r211_22, r211_25, r211_27, r211_28, r211_30, r211_33, r211_36, r211_38, r211_39, r211_40, r211_43, r211_46, r211_49, r211_50, r211_51, r211_53, r211_54, r211_56, r211_57, r211_61, r211_63, r211_66, r211_68, r211_70, r211_71, r211_72, r211_73, r211_74, r211_76, r211_79, r211_80, r211_81, r211_82, r211_84, r211_86, r211_89, r211_90, r211_92, r211_95, r211_98, r211_100, r211_102, r211_104, r211_106, r211_107, r211_111, r211_112, r211_113, r211_116, r211_118, r211_120, r211_121, r211_123, r211_125, r211_127, r211_129, r211_131, r211_134, r211_136, r211_139, r211_141, r211_143, r211_144, r211_146, r211_147, r211_150, r211_152, r211_154, r211_155, c150 _ _ _ rfl w, hA, kdC, kdM, rpC, rpM, q_rs, q_rn, Option.toList_some, Option.toList_none, List.cons_append, List.nil_append, true_and, and_true, eq_self, ↓reduceIte, not_true_eq_false, not_false_eq_true, Nat.reduceEqDiff, Nat.reduceLeDiff, Nat.reduceLT, Nat.reduceAdd, Nat.reduceMul, Nat.reduceSub, false_or, or_false, true_or, or_true, false_and, and_false, reduceCtorEq, q_n0, q_n1, q_em, q_em2, q_b0, q_b1, Classical.not_not]
