/-! asks, whole; odds -/
/-- what the model's asking may change -/
def ms (a i : Nat) : Bool := Nat.beq a 112 || (Nat.beq a 101 && (Nat.ble 17 i && Nat.ble i 22))
def Am (h h' : Hp) : Prop := FrS ms h h' ∧ ∀ a, a ≠ 101 → gJ h' a = gJ h a
section AMS
variable {h h' h'' : Hp}
theorem Am.refl (h : Hp) : Am h h := ⟨FrS.refl h, fun _ _ => rfl⟩
theorem Am.trans (x : Am h h') (y : Am h' h'') : Am h h'' := ⟨x.1.trans y.1, fun a ha => (y.2 a ha).trans (x.2 a ha)⟩
theorem Am.sI (x : Am h h') {a i : Nat} (v : Int32) (e : ms a i = true) : Am h (sI h' a i v) := ⟨x.1.sI v e, x.2⟩
theorem Am.sJ (x : Am h h') {i : Nat} (v : Int64) : Am h (sJ h' 101 i v) := ⟨⟨x.1.1, x.1.2⟩, fun a ha => by rw [q_jn ha]; exact x.2 a ha⟩
theorem Am.tld (x : Am h h') (o : Option Int64) : Am h (tld h' o) := (x.sI (a := 101) (i := 22) _ rfl).sJ _
theorem Am.mst (x : Am h h') (g : Nat) (b : Bool) : Am h (mst h' g b) := by
  refine ⟨⟨x.1.1, fun a i e => ⟨?_, (x.1.2 a i e).2⟩⟩, x.2⟩
  by_cases ha : a = 101
  · subst ha
    have hi : i < 17 ∨ 22 < i := by
      rcases Nat.lt_or_ge i 17 with q | q
      · exact Or.inl q
      · rcases Nat.lt_or_ge 22 i with q2 | q2
        · exact Or.inr q2
        · unfold ms at e
          rw [Nat.ble_eq_true_of_le q, Nat.ble_eq_true_of_le q2] at e
          cases e
    rw [mst_g _ _ _ (by omega) (by omega)]
    exact (x.1.2 101 i e).1
  · rw [mst_n _ _ _ ha]
    exact (x.1.2 a i e).1
theorem Am.n (x : Am h h') {a : Nat} (h1 : a ≠ 101) (h2 : a ≠ 112) : gI h' a = gI h a := x.1.G (fun i => by
  unfold ms
  cases e1 : Nat.beq a 112 with
  | true => exact absurd (Nat.eq_of_beq_eq_true e1) h2
  | false =>
    cases e2 : Nat.beq a 101 with
    | true => exact absurd (Nat.eq_of_beq_eq_true e2) h1
    | false => rfl)
theorem Am.fr (x : Am h h') : Fr h h' := ⟨x.1.1, fun a i e => x.1.2 a i (by
  unfold ms
  cases e1 : Nat.beq a 112 with
  | true => obtain rfl := Nat.eq_of_beq_eq_true e1; cases e
  | false =>
    cases e2 : Nat.beq a 101 with
    | true =>
      obtain rfl := Nat.eq_of_beq_eq_true e2
      cases e3 : Nat.ble 17 i with
      | false => rfl
      | true =>
        have h1 := Nat.le_of_ble_eq_true e3
        have h2 : scr 101 i = true := by
          have h3 : scr 101 i = (Nat.ble 10 i || false) := rfl
          rw [h3, Nat.ble_eq_true_of_le (by omega)]
          rfl
        rw [h2] at e
        cases e
    | false => rfl)⟩
theorem mst_in {g : Nat} (hg : gI h 101 17 = nI g) : sI h 101 19 (nI 0) = mst h g false := by
  unfold mst
  rw [q_sIA]
  congr 1
  funext i
  unfold upd
  repeat' split
  · rfl
  · rename_i z; rw [z, hg]
  · rfl
end AMS
section M2
variable {h : Hp} {K : Nat → Int32}
theorem m200 (hK : gI h 103 = K) {t : Nat} (ht : t < 10) (hsz : rg (K (381 + t)) 0 400) {hd : Nat} (hhd : hd < 4) {x : Option Int64} (hx : mSay K t hd (gI h 112) = some x) : ∃ h', Am h h' ∧ gI h' 112 = gI h 112 ∧ gJ h' 101 21 = x.getD (lN 0) ∧ gI h' 101 22 = sB x.isSome ∧ ∀ d F, cwp true (d + 67) 200 [.ref 101, .int (nI t), .int (nI (hd + 1))] h F = F none h' := by
  have hs1 := rg_nI hsz (by omega)
  have hs2 := rg_n hsz (by omega)
  unfold mSay at hx
  generalize (K (381 + t)).toNatClampNeg = sz at *
  rw [mAsk_eq] at hx
  obtain ⟨r, r1, r2⟩ := omap hx
  subst r2
  have hA2 : Am h (sI (sI h 101 17 (nI (400 * t))) 101 18 (nI (400 * t + sz))) := ((Am.refl h).sI _ rfl).sI _ rfl
  have g103 : gI (sI (sI h 101 17 (nI (400 * t))) 101 18 (nI (400 * t + sz))) 103 = K := by rw [q_gn (by omega), q_gn (by omega)]; exact hK
  have g112 : gI (sI (sI h 101 17 (nI (400 * t))) 101 18 (nI (400 * t + sz))) 112 = gI h 112 := by rw [q_gn (by omega), q_gn (by omega)]
  have g17 : gI (sI (sI h 101 17 (nI (400 * t))) 101 18 (nI (400 * t + sz))) 101 17 = nI (400 * t) := by rw [q_gm (by omega), q_gs]
  have H : rdH (sI (sI h 101 17 (nI (400 * t))) 101 18 (nI (400 * t + sz))) K (400 * t + sz) := ⟨g103, q_gs _ _ _ _, by omega⟩
  have g17s : gI (sI h 101 17 (nI (400 * t))) 101 17 = nI (400 * t) := q_gs _ _ _ _
  have g103s : gI (sI h 101 17 (nI (400 * t))) 103 = K := by rw [q_gn (by omega)]; exact hK
  have hst : ∀ d F, cwp true (d + 67) 200 [.ref 101, .int (nI t), .int (nI (hd + 1))] h F = wp true (d + 67) 200 38 [.ref 101, .int (nI t), .int (nI (hd + 1)), jn, jn, jn, jn, jn] [] (tld (sI (sI h 101 17 (nI (400 * t))) 101 18 (nI (400 * t + sz))) none) F := by
    intro d F
    simp (disch := omega) only [r200_0, r200_1, r200_4, r200_5, r200_6, r200_9, r200_10, r200_11, r200_14, r200_15, r200_18, r200_21, r200_22, r200_23, r200_24, r200_25, r200_28, r200_29, r200_30, r200_33, r200_34, r200_35, e200, kdC, kdM, rpC, rpM, q_rs, q_rn, Option.toList_some, Option.toList_none, List.cons_append, List.nil_append, true_and, and_true, eq_self, ↓reduceIte, not_true_eq_false, not_false_eq_true, Nat.reduceEqDiff, Nat.reduceLeDiff, Nat.reduceLT, Nat.reduceAdd, Nat.reduceMul, Nat.reduceSub, false_or, or_false, true_or, or_true, false_and, and_false, reduceCtorEq, q_n0, q_n1, q_em, q_em2, q_b0, q_b1, Classical.not_not, nI_add, pk_mul, nI_clamp, q_vp, nI_eq, nI_leI, nI_ltI, q_sub, g17s, g103s, hs1, sI_J, show 381 + t < 8391 by omega]
    rfl
  generalize sI (sI h 101 17 (nI (400 * t))) 101 18 (nI (400 * t + sz)) = h2 at *
  have g17' : gI (tld h2 none) 101 17 = nI (400 * t) := by unfold tld; rw [q_gIJ, q_gm (by omega)]; exact g17
  have g18' : gI (tld h2 none) 101 18 = nI (400 * t + sz) := (tld_r h2 H none).2.1
  by_cases h0 : sz = 0
  · have hr : r = (400 * t, none) := by
      unfold q_wh at r1
      obtain ⟨zz, q1, q2⟩ := obind r1
      rw [fask, if_neg (by show ¬ 400 * t < 400 * t + sz; omega)] at q1
      cases q1
      cases q2
      rfl
    subst hr
    refine ⟨tld h2 none, hA2.tld _, (tld_w h2 none).trans g112, q_js _ _ _ _, ?_, fun d F => ?_⟩
    · unfold tld; rw [q_gIJ, q_gs]
    · rw [hst, r200_38]
      simp (disch := omega) only [r200_39, r200_42, r200_43, r200_46, r200_49, r200_50, r200_51, r200_54, r200_55, r200_56, r200_59, r200_62, r200_63, r200_64, r200_65, r200_68, r200_69, r200_70, r200_73, r200_74, r200_75, r200_78, r200_79, r200_82, r200_83, r200_84, r200_87, r200_89, r200_90, r200_93, r200_95, r200_96, r200_97, r200_100, r200_101, r200_102, r200_105, r200_108, r200_109, r200_110, r200_113, r200_116, r200_117, r200_120, r200_121, r200_123, r200_125, r200_128, r200_129, r200_132, r200_135, r200_137, r200_140, r200_141, r200_142, r200_145, r200_146, r200_149, r200_150, r200_152, r200_153, r200_154, r200_157, r200_158, r200_159, r200_162, r200_164, r200_167, r200_170, r200_171, r200_173, r200_176, r200_177, r200_178, r200_181, r200_184, kdC, kdM, rpC, rpM, q_rs, q_rn, Option.toList_some, Option.toList_none, List.cons_append, List.nil_append, true_and, and_true, eq_self, ↓reduceIte, not_true_eq_false, not_false_eq_true, Nat.reduceEqDiff, Nat.reduceLeDiff, Nat.reduceLT, Nat.reduceAdd, Nat.reduceMul, Nat.reduceSub, false_or, or_false, true_or, or_true, false_and, and_false, reduceCtorEq, q_n0, q_n1, q_em, q_em2, q_b0, q_b1, Classical.not_not, nI_add, pk_mul, nI_clamp, q_vp, nI_eq, nI_leI, nI_ltI, q_sub, g17', g18', show 400 * t + sz ≤ 400 * t by omega]
  · rw [← g112] at r1
    obtain ⟨g, b, hl⟩ := L200 H (nI t) (nI (hd + 1)) _ _ _ r1 (by show 400 * t ≤ 4400; omega) false
    refine ⟨mst (tld h2 r.2) g b, (hA2.tld _).mst _ _, ?_, q_js _ _ _ _, ?_, fun d F => ?_⟩
    · rw [mst_n _ _ _ (by omega)]; exact (tld_w h2 r.2).trans g112
    · rw [mst_g _ _ _ (by omega) (by omega)]; unfold tld; rw [q_gIJ, q_gs]
    · rw [hst, ← hl d F jn jn jn jn jn, ← mst_in g17']
      have g17b : gI (sI (tld h2 none) 101 19 (nI 0)) 101 17 = nI (400 * t) := by rw [q_gm (by omega)]; exact g17'
      have g18b : gI (sI (tld h2 none) 101 19 (nI 0)) 101 18 = nI (400 * t + sz) := by rw [q_gm (by omega)]; exact g18'
      rw [r200_38, r200_38]
      simp (disch := omega) only [r200_39, r200_42, r200_43, r200_46, r200_49, r200_50, r200_51, kdC, kdM, rpC, rpM, q_rs, q_rn, Option.toList_some, Option.toList_none, List.cons_append, List.nil_append, true_and, and_true, eq_self, ↓reduceIte, not_true_eq_false, not_false_eq_true, Nat.reduceEqDiff, Nat.reduceLeDiff, Nat.reduceLT, Nat.reduceAdd, Nat.reduceMul, Nat.reduceSub, false_or, or_false, true_or, or_true, false_and, and_false, reduceCtorEq, q_n0, q_n1, q_em, q_em2, q_b0, q_b1, Classical.not_not, nI_add, pk_mul, nI_clamp, q_vp, nI_eq, nI_leI, nI_ltI, q_sub, g17', g18', g17b, g18b, q_sII, show ¬ 400 * t + sz ≤ 400 * t by omega]
end M2
/-- what a text says of a flight -/
def envF (a b c e : Int32) : Nat → Int32 := fun i => if i = 0 then a else if i = 1 then b else if i = 2 then c else if i = 3 then e else nI 0
section OD
variable {h : Hp} {K : Nat → Int32}
theorem tEq_m {t : Nat} {T : Tk} (z : tEq K t T) {hd : Nat} (hhd : hd < 3) {env env' : Nat → Int32} (he : ∀ i, i < 12 → env i = env' i) : mSay K t hd env = some ((tv T hd env').map Int32.toInt64) := by
  obtain ⟨x, h1, h2⟩ := z.2.2.1 hd env hhd
  have h3 : tSay T hd env = tSay T hd env' := vho_env he _ _ _ _
  rw [h1]
  unfold tv
  rw [← h3]
  rcases h2 with ⟨rfl, h4⟩ | ⟨y, rfl, h4⟩
  · rw [h4]; rfl
  · rw [h4]; rfl
noncomputable def oddV (T : Tk) (w p r : Int32) : Int32 := match tv T 0 (envF w p r (nI 0)) with
  | none => nI 50
  | some y => q_near y (nI 1) (nI 99)
theorem c202 {y a b : Int32} (hab : a ≤ b) (d : Nat) (F : Po) (h : Hp) : cwp true d 202 [.long y.toInt64, .int a, .int b] h F = F (some (.int (q_near y a b))) h := by
  have hlt : ∀ u v : Int32, (u.toInt64 < v.toInt64) = (u < v) := fun u v => by
    apply propext
    rw [Int64.lt_iff_toInt_lt, Int32.lt_iff_toInt_lt, Int32.toInt_toInt64, Int32.toInt_toInt64]
  have hle : ∀ u v : Int32, (u.toInt64 ≤ v.toInt64) = (u ≤ v) := fun u v => by
    apply propext
    rw [Int64.le_iff_toInt_le, Int32.le_iff_toInt_le, Int32.toInt_toInt64, Int32.toInt_toInt64]
  have hn : q_near y a b = if a ≤ y then (if y ≤ b then y else b) else a := by
    apply Int32.toInt_inj.mp
    unfold q_near
    simp only [Int32.lt_iff_toInt_lt, Int32.le_iff_toInt_le, apply_ite Int32.toInt] at *
    repeat' split
    all_goals omega
  rw [hn]
  by_cases c1 : a ≤ y
  · by_cases c2 : y ≤ b
    · simp only [e202, r202_0, r202_1, r202_2, r202_3, r202_4, r202_7, r202_8, r202_11, r202_12, r202_13, r202_14, r202_15, r202_18, r202_19, r202_22, r202_23, r202_24, kdC, kdM, rpC, rpM, q_rs, q_rn, Option.toList_some, Option.toList_none, List.cons_append, List.nil_append, true_and, and_true, eq_self, ↓reduceIte, not_true_eq_false, not_false_eq_true, Nat.reduceEqDiff, Nat.reduceLeDiff, Nat.reduceLT, Nat.reduceAdd, Nat.reduceMul, Nat.reduceSub, false_or, or_false, true_or, or_true, false_and, and_false, reduceCtorEq, q_n0, q_n1, q_em, q_em2, q_b0, q_b1, Classical.not_not, l_ge, l_le, hle, c1, c2, Int32.toInt32_toInt64]
    · simp only [e202, r202_0, r202_1, r202_2, r202_3, r202_4, r202_7, r202_8, r202_11, r202_12, r202_13, r202_14, r202_15, r202_18, r202_19, r202_22, r202_23, r202_24, kdC, kdM, rpC, rpM, q_rs, q_rn, Option.toList_some, Option.toList_none, List.cons_append, List.nil_append, true_and, and_true, eq_self, ↓reduceIte, not_true_eq_false, not_false_eq_true, Nat.reduceEqDiff, Nat.reduceLeDiff, Nat.reduceLT, Nat.reduceAdd, Nat.reduceMul, Nat.reduceSub, false_or, or_false, true_or, or_true, false_and, and_false, reduceCtorEq, q_n0, q_n1, q_em, q_em2, q_b0, q_b1, Classical.not_not, l_ge, l_le, hle, c1, c2]
  · simp only [e202, r202_0, r202_1, r202_2, r202_3, r202_4, r202_7, r202_8, r202_11, r202_12, r202_13, r202_14, r202_15, r202_18, r202_19, r202_22, r202_23, r202_24, kdC, kdM, rpC, rpM, q_rs, q_rn, Option.toList_some, Option.toList_none, List.cons_append, List.nil_append, true_and, and_true, eq_self, ↓reduceIte, not_true_eq_false, not_false_eq_true, Nat.reduceEqDiff, Nat.reduceLeDiff, Nat.reduceLT, Nat.reduceAdd, Nat.reduceMul, Nat.reduceSub, false_or, or_false, true_or, or_true, false_and, and_false, reduceCtorEq, q_n0, q_n1, q_em, q_em2, q_b0, q_b1, Classical.not_not, l_ge, l_le, hle, c1]
theorem ml201 (d : Nat) (h : Hp) (F : Po) (f : Nat → Int32) (v1 v2 v3 v4 : Int32) : ∀ k i, i + k = 12 → wp true d 201 3 [.ref 101, .int v1, .int v2, .int v3, .int v4, .int (nI i)] [] (sA h 112 (clF f i)) F = wp true d 201 24 [.ref 101, .int v1, .int v2, .int v3, .int v4, .int (nI 12)] [] (sA h 112 (clF f 12)) F
  | 0, i, e => by
    obtain rfl : i = 12 := e
    rw [r201_3]
    simp (disch := omega) only [r201_5, r201_7, kdC, kdM, rpC, rpM, q_rs, q_rn, Option.toList_some, Option.toList_none, List.cons_append, List.nil_append, true_and, and_true, eq_self, ↓reduceIte, not_true_eq_false, not_false_eq_true, Nat.reduceEqDiff, Nat.reduceLeDiff, Nat.reduceLT, Nat.reduceAdd, Nat.reduceMul, Nat.reduceSub, false_or, or_false, true_or, or_true, false_and, and_false, reduceCtorEq, q_n0, q_n1, q_em, q_em2, q_b0, q_b1, Classical.not_not, nI_add, pk_mul, nI_clamp, q_vp, nI_eq, nI_leI, nI_ltI, q_sub, Nat.le_refl]
  | k + 1, i, e => by
    refine Eq.trans ?_ (ml201 d h F f v1 v2 v3 v4 k (i + 1) (by omega))
    have hu : upd (clF f i) i (nI 0) = clF f (i + 1) := by
      funext j
      unfold upd clF
      repeat' split
      all_goals first | rfl | omega
    rw [r201_3]
    simp (disch := omega) only [r201_5, r201_7, r201_10, r201_11, r201_14, r201_16, r201_17, r201_18, r201_21, kdC, kdM, rpC, rpM, q_rs, q_rn, Option.toList_some, Option.toList_none, List.cons_append, List.nil_append, true_and, and_true, eq_self, ↓reduceIte, not_true_eq_false, not_false_eq_true, Nat.reduceEqDiff, Nat.reduceLeDiff, Nat.reduceLT, Nat.reduceAdd, Nat.reduceMul, Nat.reduceSub, false_or, or_false, true_or, or_true, false_and, and_false, reduceCtorEq, q_n0, q_n1, q_em, q_em2, q_b0, q_b1, Classical.not_not, nI_add, pk_mul, nI_clamp, q_vp, nI_eq, nI_leI, nI_ltI, q_sub, show ¬ 12 ≤ i by omega, show i < 12 by omega, q_sIs, hu]
theorem m201 (d : Nat) (h : Hp) (F : Po) (v1 v2 v3 v4 : Int32) : cwp true d 201 [.ref 101, .int v1, .int v2, .int v3, .int v4] h F = F none (sI (sI (sI (sI (sA h 112 (clF (gI h 112) 12)) 112 0 v1) 112 1 v2) 112 2 v3) 112 3 v4) := by
  have hl := ml201 d h F (gI h 112) v1 v2 v3 v4 12 0 (by omega)
  have h0 : sA h 112 (clF (gI h 112) 0) = h := by
    rw [show clF (gI h 112) 0 = gI h 112 from funext fun i => if_neg (by omega), q_sAs]
  rw [h0] at hl
  simp only [r201_0, r201_1, e201]
  refine Eq.trans hl ?_
  simp (disch := omega) only [r201_24, r201_25, r201_28, r201_29, r201_30, r201_31, r201_32, r201_35, r201_36, r201_37, r201_38, r201_39, r201_42, r201_43, r201_44, r201_45, r201_46, r201_49, r201_50, r201_52, r201_53, kdC, kdM, rpC, rpM, q_rs, q_rn, Option.toList_some, Option.toList_none, List.cons_append, List.nil_append, true_and, and_true, eq_self, ↓reduceIte, not_true_eq_false, not_false_eq_true, Nat.reduceEqDiff, Nat.reduceLeDiff, Nat.reduceLT, Nat.reduceAdd, Nat.reduceMul, Nat.reduceSub, false_or, or_false, true_or, or_true, false_and, and_false, reduceCtorEq, q_n0, q_n1, q_em, q_em2, q_b0, q_b1, Classical.not_not, nI_add, pk_mul, nI_clamp, q_vp, nI_eq, nI_leI, nI_ltI, q_sub]
theorem env_m (h : Hp) (v1 v2 v3 v4 : Int32) : ∀ i, i < 12 → gI (sI (sI (sI (sI (sA h 112 (clF (gI h 112) 12)) 112 0 v1) 112 1 v2) 112 2 v3) 112 3 v4) 112 i = envF v1 v2 v3 v4 i := by
  intro i hi
  simp only [q_gi, true_and, q_ga, clF, hi, ↓reduceIte]
  unfold envF
  repeat' split
  all_goals first | rfl | omega
theorem env_a (h : Hp) (v1 v2 v3 v4 : Int32) : Am h (sI (sI (sI (sI (sA h 112 (clF (gI h 112) 12)) 112 0 v1) 112 1 v2) 112 2 v3) 112 3 v4) := by
  have x : Am h (sA h 112 (clF (gI h 112) 12)) := ⟨(FrS.refl h).sA _ (fun _ => rfl), fun _ _ => rfl⟩
  exact (((x.sI _ rfl).sI _ rfl).sI _ rfl).sI _ rfl
theorem m203 (hK : gI h 103 = K) {t : Nat} {T : Tk} (ht : t < 10) (z : tEq K t T) (w p r : Int32) : ∃ h', Am h h' ∧ ∀ d F, cwp true (d + 68) 203 [.ref 101, .int (nI t), .int w, .int p, .int r] h F = F (some (.int (oddV T w p r))) h' := by
  have hm := tEq_m z (hd := 0) (by omega) (env_m h w p r (nI 0))
  have hA := env_a h w p r (nI 0)
  have hK2 := hA.n (a := 103) (by omega) (by omega)
  have h201 := fun F d => m201 d h F w p r (nI 0)
  generalize sI (sI (sI (sI (sA h 112 (clF (gI h 112) 12)) 112 0 w) 112 1 p) 112 2 r) 112 3 (nI 0) = h1 at *
  obtain ⟨h', x1, x2, x3, x4, x5⟩ := m200 (hK2.trans hK) ht z.1 (hd := 0) (by omega) hm
  refine ⟨h', hA.trans x1, fun d F => ?_⟩
  unfold oddV
  cases ev1 : tv T 0 (envF w p r (nI 0)) with
  | none =>
    rw [ev1] at x3 x4
    have x4' : gI h' 101 22 = nI 0 := x4
    simp (disch := omega) only [e203, r203_0, r203_1, r203_2, r203_3, r203_5, r203_6, r203_9, r203_10, r203_11, r203_12, r203_15, r203_16, r203_19, r203_22, r203_23, r203_26, r203_27, r203_29, r203_32, r203_35, r203_37, h201, x5, x4', kdC, kdM, rpC, rpM, q_rs, q_rn, Option.toList_some, Option.toList_none, List.cons_append, List.nil_append, true_and, and_true, eq_self, ↓reduceIte, not_true_eq_false, not_false_eq_true, Nat.reduceEqDiff, Nat.reduceLeDiff, Nat.reduceLT, Nat.reduceAdd, Nat.reduceMul, Nat.reduceSub, false_or, or_false, true_or, or_true, false_and, and_false, reduceCtorEq, q_n0, q_n1, q_em, q_em2, q_b0, q_b1, Classical.not_not]
  | some y =>
    rw [ev1] at x3 x4
    have x3' : gJ h' 101 21 = y.toInt64 := x3
    have x4' : gI h' 101 22 = nI 1 := x4
    simp (disch := omega) only [e203, r203_0, r203_1, r203_2, r203_3, r203_5, r203_6, r203_9, r203_10, r203_11, r203_12, r203_15, r203_16, r203_19, r203_22, r203_23, r203_26, r203_27, r203_29, r203_32, r203_35, r203_37, h201, x5, x3', x4', c202 (show nI 1 ≤ nI 99 by decide), kdC, kdM, rpC, rpM, q_rs, q_rn, Option.toList_some, Option.toList_none, List.cons_append, List.nil_append, true_and, and_true, eq_self, ↓reduceIte, not_true_eq_false, not_false_eq_true, Nat.reduceEqDiff, Nat.reduceLeDiff, Nat.reduceLT, Nat.reduceAdd, Nat.reduceMul, Nat.reduceSub, false_or, or_false, true_or, or_true, false_and, and_false, reduceCtorEq, q_n0, q_n1, q_em, q_em2, q_b0, q_b1, Classical.not_not]
/-- the class's -/
theorem c137 {T : Tk} {a t : Nat} (z : tEq K t T) (ta : tAt h a T) (w p r : Int32) : ∃ h', FrS (fun a _ => Nat.beq a 80 || (Nat.beq a 81 || Nat.beq a 82)) h h' ∧ ∀ d F, cwp true (d + 3) 137 [.ref 1, .ref a, .int w, .int p, .int r] h F = F (some (.int (oddV T w p r))) h' := by
  have x0 : FrS (fun a _ => Nat.beq a 80 || (Nat.beq a 81 || Nat.beq a 82)) h (sI (sI (sI (clr h) 81 0 w) 81 1 p) 81 2 r) := by
    unfold clr
    exact ((((FrS.refl h).sA _ (fun _ => rfl)).sI _ rfl).sI _ rfl).sI _ rfl
  have henv : ∀ i, i < 12 → gI (sI (sI (sI (clr h) 81 0 w) 81 1 p) 81 2 r) 81 i = envF w p r (nI 0) i := by
    intro i hi
    unfold clr
    simp only [q_gi, true_and, q_ga, clF, hi, ↓reduceIte]
    unfold envF
    repeat' split
    all_goals first | rfl | omega
  have ta1 : tAt (sI (sI (sI (clr h) 81 0 w) 81 1 p) 81 2 r) a T := tAt_fr ((((clr_fr h).sI _ rfl).sI _ rfl).sI _ rfl) ta
  generalize hh : sI (sI (sI (clr h) 81 0 w) 81 1 p) 81 2 r = h1 at *
  obtain ⟨k1, k2⟩ := c2 h1 z.2.1 ta1 (hd := 0) (by omega) henv
  have xa : ∀ h', As h1 h' → FrS (fun a _ => Nat.beq a 80 || (Nat.beq a 81 || Nat.beq a 82)) h1 h' := fun h' x => ⟨x.1, fun a i e => x.2 a i (by
    unfold asS
    cases e1 : Nat.beq a 80 with
    | true => obtain rfl := Nat.eq_of_beq_eq_true e1; cases e
    | false =>
      cases e2 : Nat.beq a 82 with
      | true => obtain rfl := Nat.eq_of_beq_eq_true e2; cases e
      | false => rfl)⟩
  unfold oddV tv
  cases es : tSay T 0 (envF w p r (nI 0)) with
  | none =>
    obtain ⟨h', x, k3⟩ := k1 es
    refine ⟨h', x0.trans (xa h' x), fun d F => ?_⟩
    simp (disch := omega) only [e137, r137_0, r137_1, r137_4, r137_7, r137_8, r137_11, r137_14, r137_15, r137_16, r137_17, r137_18, r137_21, r137_24, r137_25, r137_26, r137_27, r137_28, r137_31, r137_34, r137_35, r137_37, r137_38, r137_39, r137_42, r137_42n, r137_43, r137_44, r137_47, r137_50, r137_51, r137_54, r137_57, r137_58, r137_60, r137_63, r137_66, r137_68, c1, hh, k3, kdC, kdM, rpC, rpM, q_rs, q_rn, Option.toList_some, Option.toList_none, List.cons_append, List.nil_append, true_and, and_true, eq_self, ↓reduceIte, not_true_eq_false, not_false_eq_true, Nat.reduceEqDiff, Nat.reduceLeDiff, Nat.reduceLT, Nat.reduceAdd, Nat.reduceMul, Nat.reduceSub, false_or, or_false, true_or, or_true, false_and, and_false, reduceCtorEq, q_n0, q_n1, q_em, q_em2, q_b0, q_b1, Classical.not_not, nI_add, pk_mul, nI_clamp, q_vp, nI_eq, nI_leI, nI_ltI, q_sub, Option.map_none]
  | some l =>
    obtain ⟨h', x, k3, k4⟩ := k2 l es
    obtain ⟨y, rfl⟩ : ∃ y, l = [y] := by
      obtain ⟨u, u1, u2⟩ := z.2.2.1 0 (envF w p r (nI 0)) (by omega)
      rcases u2 with ⟨_, u3⟩ | ⟨y, _, u3⟩
      · rw [es] at u3; cases u3
      · rw [es] at u3; cases u3; exact ⟨y, rfl⟩
    have k5 := k3 y rfl
    refine ⟨h', x0.trans (xa h' x), fun d F => ?_⟩
    simp (disch := omega) only [e137, r137_0, r137_1, r137_4, r137_7, r137_8, r137_11, r137_14, r137_15, r137_16, r137_17, r137_18, r137_21, r137_24, r137_25, r137_26, r137_27, r137_28, r137_31, r137_34, r137_35, r137_37, r137_38, r137_39, r137_42, r137_42n, r137_43, r137_44, r137_47, r137_50, r137_51, r137_54, r137_57, r137_58, r137_60, r137_63, r137_66, r137_68, c1, hh, k4, k5, c128, kdC, kdM, rpC, rpM, q_rs, q_rn, Option.toList_some, Option.toList_none, List.cons_append, List.nil_append, true_and, and_true, eq_self, ↓reduceIte, not_true_eq_false, not_false_eq_true, Nat.reduceEqDiff, Nat.reduceLeDiff, Nat.reduceLT, Nat.reduceAdd, Nat.reduceMul, Nat.reduceSub, false_or, or_false, true_or, or_true, false_and, and_false, reduceCtorEq, q_n0, q_n1, q_em, q_em2, q_b0, q_b1, Classical.not_not, nI_add, pk_mul, nI_clamp, q_vp, nI_eq, nI_leI, nI_ltI, q_sub, Option.map_some, List.headD_cons]
end OD
section OP
variable {n : Nat} {h : Hp}
theorem FrA.fr {h h' : Hp} (x : FrS (fun a _ => Nat.beq a 80 || (Nat.beq a 81 || Nat.beq a 82)) h h') : Fr h h' := ⟨x.1, fun a i e => x.2 a i (by
  cases e1 : Nat.beq a 80 with
  | true => obtain rfl := Nat.eq_of_beq_eq_true e1; cases e
  | false =>
    cases e2 : Nat.beq a 81 with
    | true => obtain rfl := Nat.eq_of_beq_eq_true e2; cases e
    | false =>
      cases e3 : Nat.beq a 82 with
      | true => obtain rfl := Nat.eq_of_beq_eq_true e3; cases e
      | false =>
        show (Nat.beq a 80 || (Nat.beq a 81 || Nat.beq a 82)) = false
        rw [e1, e2, e3]
        rfl)⟩
theorem p_odds (z : Inv n h) (a b c e : Int32) : PRI n h 96 204 [.int a, .int b, .int c, .int e] := by
  intro d
  have w := z.1.1
  have q := z.1.2.1
  have hn := w.hnx
  by_cases hA : nI 0 ≤ a ∧ a < nI (nx (gI h 103))
  · obtain ⟨t, ht, rfl⟩ := q_ix (by omega) hA.1 hA.2
    obtain ⟨s, T, y1, y2, y3⟩ := z.1.2.2.1 t ht
    have h60 := fun F d => c60 h w q ht y1 d F
    by_cases hB : -40 ≤ b ∧ b ≤ nI 120
    · by_cases hC : nI 0 ≤ c ∧ c ≤ nI 9
      · by_cases hE : nI 0 ≤ e ∧ e ≤ nI 5
        · obtain ⟨h1, x1, x2⟩ := c137 y3 y2 b c e
          have hK := (FrA.fr x1).K
          obtain ⟨h2, x3, x4⟩ := m203 hK (show t < 10 by omega) y3 b c e
          refine ⟨oddV T b c e, h1, h2, fun F => ?_, fun F => ?_, Inv_fr ((FrA.fr x1).trans x3.fr) z⟩
          · simp (disch := omega) only [e96, r96_0, r96_1, r96_4, r96_5, r96_8, r96_8n, r96_10, r96_10n, r96_12, r96_12n, r96_15, r96_16, r96_19, r96_22, r96_23, r96_24, r96_26, r96_29, r96_32, r96_34, r96_35, r96_36, r96_39, r96_42, r96_43, r96_44, r96_45, r96_45n, r96_47, r96_48, r96_49, r96_51, r96_54, h60, c129, c125, x2, hB, hC, hE, kdC, kdM, rpC, rpM, q_rs, q_rn, Option.toList_some, Option.toList_none, List.cons_append, List.nil_append, true_and, and_true, eq_self, ↓reduceIte, not_true_eq_false, not_false_eq_true, Nat.reduceEqDiff, Nat.reduceLeDiff, Nat.reduceLT, Nat.reduceAdd, Nat.reduceMul, Nat.reduceSub, false_or, or_false, true_or, or_true, false_and, and_false, reduceCtorEq, q_n0, q_n1, q_em, q_em2, q_b0, q_b1, Classical.not_not]
          · simp (disch := omega) only [e204, r204_0, r204_1, r204_2, r204_5, r204_8, r204_9, r204_12, r204_15, r204_16, r204_17, r204_19, r204_22, r204_25, r204_27, r204_28, r204_29, r204_32, r204_35, r204_36, r204_37, r204_38, r204_39, r204_41, r204_44, r204_47, r204_48, c150 _ _ _ hK w, c151, c143, x4, hA, hB, hC, hE, kdC, kdM, rpC, rpM, q_rs, q_rn, Option.toList_some, Option.toList_none, List.cons_append, List.nil_append, true_and, and_true, eq_self, ↓reduceIte, not_true_eq_false, not_false_eq_true, Nat.reduceEqDiff, Nat.reduceLeDiff, Nat.reduceLT, Nat.reduceAdd, Nat.reduceMul, Nat.reduceSub, false_or, or_false, true_or, or_true, false_and, and_false, reduceCtorEq, q_n0, q_n1, q_em, q_em2, q_b0, q_b1, Classical.not_not]
        · refine ⟨-1, h, h, fun F => ?_, fun F => ?_, Inv_fr (Fr.refl h) z⟩
          · simp (disch := omega) only [e96, r96_0, r96_1, r96_4, r96_5, r96_8, r96_8n, r96_10, r96_10n, r96_12, r96_12n, r96_15, r96_16, r96_19, r96_22, r96_23, r96_24, r96_26, r96_29, r96_32, r96_34, r96_35, r96_36, r96_39, r96_42, r96_43, r96_44, r96_45, r96_45n, r96_47, r96_48, r96_49, r96_51, r96_54, h60, c129, c125, hB, hC, hE, kdC, kdM, rpC, rpM, q_rs, q_rn, Option.toList_some, Option.toList_none, List.cons_append, List.nil_append, true_and, and_true, eq_self, ↓reduceIte, not_true_eq_false, not_false_eq_true, Nat.reduceEqDiff, Nat.reduceLeDiff, Nat.reduceLT, Nat.reduceAdd, Nat.reduceMul, Nat.reduceSub, false_or, or_false, true_or, or_true, false_and, and_false, reduceCtorEq, q_n0, q_n1, q_em, q_em2, q_b0, q_b1, Classical.not_not]
          · simp (disch := omega) only [e204, r204_0, r204_1, r204_2, r204_5, r204_8, r204_9, r204_12, r204_15, r204_16, r204_17, r204_19, r204_22, r204_25, r204_27, r204_28, r204_29, r204_32, r204_35, r204_36, r204_37, r204_38, r204_39, r204_41, r204_44, r204_47, r204_48, c150 _ _ _ rfl w, c151, c143, hA, hB, hC, hE, kdC, kdM, rpC, rpM, q_rs, q_rn, Option.toList_some, Option.toList_none, List.cons_append, List.nil_append, true_and, and_true, eq_self, ↓reduceIte, not_true_eq_false, not_false_eq_true, Nat.reduceEqDiff, Nat.reduceLeDiff, Nat.reduceLT, Nat.reduceAdd, Nat.reduceMul, Nat.reduceSub, false_or, or_false, true_or, or_true, false_and, and_false, reduceCtorEq, q_n0, q_n1, q_em, q_em2, q_b0, q_b1, Classical.not_not]
      · refine ⟨-1, h, h, fun F => ?_, fun F => ?_, Inv_fr (Fr.refl h) z⟩
        · simp (disch := omega) only [e96, r96_0, r96_1, r96_4, r96_5, r96_8, r96_8n, r96_10, r96_10n, r96_12, r96_12n, r96_15, r96_16, r96_19, r96_22, r96_23, r96_24, r96_26, r96_29, r96_32, r96_34, r96_35, r96_36, r96_39, r96_42, r96_43, r96_44, r96_45, r96_45n, r96_47, r96_48, r96_49, r96_51, r96_54, h60, c129, c125, hB, hC, kdC, kdM, rpC, rpM, q_rs, q_rn, Option.toList_some, Option.toList_none, List.cons_append, List.nil_append, true_and, and_true, eq_self, ↓reduceIte, not_true_eq_false, not_false_eq_true, Nat.reduceEqDiff, Nat.reduceLeDiff, Nat.reduceLT, Nat.reduceAdd, Nat.reduceMul, Nat.reduceSub, false_or, or_false, true_or, or_true, false_and, and_false, reduceCtorEq, q_n0, q_n1, q_em, q_em2, q_b0, q_b1, Classical.not_not]
        · simp (disch := omega) only [e204, r204_0, r204_1, r204_2, r204_5, r204_8, r204_9, r204_12, r204_15, r204_16, r204_17, r204_19, r204_22, r204_25, r204_27, r204_28, r204_29, r204_32, r204_35, r204_36, r204_37, r204_38, r204_39, r204_41, r204_44, r204_47, r204_48, c150 _ _ _ rfl w, c151, c143, hA, hB, hC, kdC, kdM, rpC, rpM, q_rs, q_rn, Option.toList_some, Option.toList_none, List.cons_append, List.nil_append, true_and, and_true, eq_self, ↓reduceIte, not_true_eq_false, not_false_eq_true, Nat.reduceEqDiff, Nat.reduceLeDiff, Nat.reduceLT, Nat.reduceAdd, Nat.reduceMul, Nat.reduceSub, false_or, or_false, true_or, or_true, false_and, and_false, reduceCtorEq, q_n0, q_n1, q_em, q_em2, q_b0, q_b1, Classical.not_not]
    · refine ⟨-1, h, h, fun F => ?_, fun F => ?_, Inv_fr (Fr.refl h) z⟩
      · simp (disch := omega) only [e96, r96_0, r96_1, r96_4, r96_5, r96_8, r96_8n, r96_10, r96_10n, r96_12, r96_12n, r96_15, r96_16, r96_19, r96_22, r96_23, r96_24, r96_26, r96_29, r96_32, r96_34, r96_35, r96_36, r96_39, r96_42, r96_43, r96_44, r96_45, r96_45n, r96_47, r96_48, r96_49, r96_51, r96_54, h60, c129, hB, kdC, kdM, rpC, rpM, q_rs, q_rn, Option.toList_some, Option.toList_none, List.cons_append, List.nil_append, true_and, and_true, eq_self, ↓reduceIte, not_true_eq_false, not_false_eq_true, Nat.reduceEqDiff, Nat.reduceLeDiff, Nat.reduceLT, Nat.reduceAdd, Nat.reduceMul, Nat.reduceSub, false_or, or_false, true_or, or_true, false_and, and_false, reduceCtorEq, q_n0, q_n1, q_em, q_em2, q_b0, q_b1, Classical.not_not]
      · simp (disch := omega) only [e204, r204_0, r204_1, r204_2, r204_5, r204_8, r204_9, r204_12, r204_15, r204_16, r204_17, r204_19, r204_22, r204_25, r204_27, r204_28, r204_29, r204_32, r204_35, r204_36, r204_37, r204_38, r204_39, r204_41, r204_44, r204_47, r204_48, c150 _ _ _ rfl w, c151, hA, hB, kdC, kdM, rpC, rpM, q_rs, q_rn, Option.toList_some, Option.toList_none, List.cons_append, List.nil_append, true_and, and_true, eq_self, ↓reduceIte, not_true_eq_false, not_false_eq_true, Nat.reduceEqDiff, Nat.reduceLeDiff, Nat.reduceLT, Nat.reduceAdd, Nat.reduceMul, Nat.reduceSub, false_or, or_false, true_or, or_true, false_and, and_false, reduceCtorEq, q_n0, q_n1, q_em, q_em2, q_b0, q_b1, Classical.not_not]
  · have h60 := fun F d => c60n h w q hA d F
    refine ⟨-1, h, h, fun F => ?_, fun F => ?_, Inv_fr (Fr.refl h) z⟩
    · simp (disch := omega) only [e96, r96_0, r96_1, r96_4, r96_5, r96_8, r96_8n, r96_10, r96_10n, r96_12, r96_12n, r96_15, r96_16, r96_19, r96_22, r96_23, r96_24, r96_26, r96_29, r96_32, r96_34, r96_35, r96_36, r96_39, r96_42, r96_43, r96_44, r96_45, r96_45n, r96_47, r96_48, r96_49, r96_51, r96_54, h60, kdC, kdM, rpC, rpM, q_rs, q_rn, Option.toList_some, Option.toList_none, List.cons_append, List.nil_append, true_and, and_true, eq_self, ↓reduceIte, not_true_eq_false, not_false_eq_true, Nat.reduceEqDiff, Nat.reduceLeDiff, Nat.reduceLT, Nat.reduceAdd, Nat.reduceMul, Nat.reduceSub, false_or, or_false, true_or, or_true, false_and, and_false, reduceCtorEq, q_n0, q_n1, q_em, q_em2, q_b0, q_b1, Classical.not_not]
    · simp (disch := omega) only [e204, r204_0, r204_1, r204_2, r204_5, r204_8, r204_9, r204_12, r204_15, r204_16, r204_17, r204_19, r204_22, r204_25, r204_27, r204_28, r204_29, r204_32, r204_35, r204_36, r204_37, r204_38, r204_39, r204_41, r204_44, r204_47, r204_48, c150 _ _ _ rfl w, hA, kdC, kdM, rpC, rpM, q_rs, q_rn, Option.toList_some, Option.toList_none, List.cons_append, List.nil_append, true_and, and_true, eq_self, ↓reduceIte, not_true_eq_false, not_false_eq_true, Nat.reduceEqDiff, Nat.reduceLeDiff, Nat.reduceLT, Nat.reduceAdd, Nat.reduceMul, Nat.reduceSub, false_or, or_false, true_or, or_true, false_and, and_false, reduceCtorEq, q_n0, q_n1, q_em, q_em2, q_b0, q_b1, Classical.not_not]
end OP
