/-! the class asks: lawAt, clear, holds -/
section HO
variable (h : Hp)
theorem nI_all (x : Int32) : ∃ t, nI t = x := ⟨x.toBitVec.toNat, Int32.toBitVec_inj.mp (BitVec.ofNat_toNat 32 x.toBitVec)⟩
theorem ask_in : ∃ t, sI h 80 4 (nI 1) = ask h (gI h 82) t true := by
  obtain ⟨t, ht⟩ := nI_all (gI h 80 3)
  refine ⟨t, ?_⟩
  unfold ask
  rw [q_sAs, q_sIA]
  congr 1
  funext i
  unfold upd
  repeat' split
  · rfl
  · rename_i e; rw [e, ht]
  · rfl
theorem ask_1 (f : Nat → Int32) (t : Nat) (s : Bool) (v : Int32) : sI (ask h f t s) 80 1 v = ask (sI h 80 1 v) f t s := by
  unfold ask
  rw [q_sIs, q_gsu, q_sIA h 80 1 v, q_sAc (by omega), q_sAc (h := sA h 80 (upd (gI h 80) 1 v)) (by omega), q_sAA]
  congr 2
  funext i
  unfold upd
  repeat' split
  all_goals first | rfl | omega
/-- what asking may change -/
def asS (a _i : Nat) : Bool := Nat.beq a 80 || Nat.beq a 82
abbrev As (h h' : Hp) : Prop := FrS asS h h'
theorem ask_as {h0 : Hp} (x : As h0 h) (f : Nat → Int32) (t : Nat) (s : Bool) : As h0 (ask h f t s) := (x.sA _ (fun _ => rfl)).sA _ (fun _ => rfl)
theorem As.fr {h h' : Hp} (x : As h h') : Fr h h' := ⟨x.1, fun a i e => x.2 a i (by
  unfold asS
  cases e1 : Nat.beq a 80 with
  | true => obtain rfl := Nat.eq_of_beq_eq_true e1; cases e
  | false =>
    cases e2 : Nat.beq a 82 with
    | true => obtain rfl := Nat.eq_of_beq_eq_true e2; cases e
    | false => rfl)⟩
theorem As.n {h h' : Hp} (x : As h h') {a : Nat} (h1 : a ≠ 80) (h2 : a ≠ 82) : gI h' a = gI h a := x.G (fun i => by
  unfold asS
  cases e1 : Nat.beq a 80 with
  | true => exact absurd (Nat.eq_of_beq_eq_true e1) h1
  | false =>
    cases e2 : Nat.beq a 82 with
    | true => exact absurd (Nat.eq_of_beq_eq_true e2) h2
    | false => rfl)
theorem vone_env {env env' : Nat → Int32} (he : ∀ i, i < 12 → env i = env' i) (x : Int32) (z : VS) : vone env x z = vone env' x z := by
  unfold vone
  by_cases c : 64 ≤ z.1.length ∨ nI 12 ≤ vwi x
  · simp only [c, ↓reduceIte]
  · have h1 : (vwi x).toNatClampNeg < 12 := by
      have h2 : ¬ nI 12 ≤ vwi x := fun q => c (Or.inr q)
      rw [Int32.le_iff_toInt_le, show (nI 12).toInt = 12 by decide] at h2
      have h3 : ((vwi x).toNatClampNeg : Int) = max (vwi x).toInt 0 := by
        show ((vwi x).toInt.toNat : Int) = _
        omega
      omega
    rw [he _ h1]
theorem vrun_env {env env' : Nat → Int32} (he : ∀ i, i < 12 → env i = env' i) (st : Nat → Int32) : ∀ k a z, vrun env st k a z = vrun env' st k a z
  | 0, _, _ => rfl
  | k + 1, a, z => by
    unfold vrun
    rw [vone_env he, vrun_env he st k (a + 1) z]
    congr 1
    congr 1
    funext y
    exact vrun_env he st k (a + 1) y
theorem vho_env {env env' : Nat → Int32} (he : ∀ i, i < 12 → env i = env' i) (st cl : Nat → Int32) (hd : Int32) : ∀ c, vho env st cl hd c = vho env' st cl hd c
  | 0 => rfl
  | c + 1 => by
    unfold vho
    simp only [vrun_env he, vho_env he st cl hd c]
theorem q_4 (i : Nat) (hi : i < 100) : (nI (4 * i) - nI 4 < nI 0) = (i = 0) := by
  apply propext
  rw [Int32.lt_iff_toInt_lt, pk_sub_toInt (by omega) (by omega), q_z0]
  omega
theorem n4p (i : Nat) : nI (4 * i) + (-4) = nI (4 * i) - nI 4 := by
  rw [Int32.sub_eq_add_neg]
  rfl
theorem cl2 {T : Tk} (ok : tOk T) {a sr cr : Nat} (ha : 121 ≤ a) (hs : 121 ≤ sr) (hc : 121 ≤ cr) (p0 : gP h a 0 = some sr) (p1 : gP h a 1 = some cr) (k0 : hk h a = (9, 2)) (k1 : hk h sr = (20, T.2.1)) (k2 : hk h cr = (20, 4 * T.2.2.2)) (g0 : gI h sr = T.1) (g1 : gI h cr = T.2.2.1) {hd : Nat} (hhd : hd < 4) : ∀ i, i ≤ T.2.2.2 → ∀ h0, As h h0 →
    (vho (gI h 81) T.1 T.2.2.1 (nI hd) i = none → ∃ h', As h h' ∧ ∀ d F, wp true (d + 2) 2 11 [.ref 80, .ref a, .int (nI hd), .ref cr, .int (nI (4 * i) - nI 4)] [] h0 F = F (some (.int (nI 0))) h') ∧
    (∀ l, vho (gI h 81) T.1 T.2.2.1 (nI hd) i = some l → ∃ h', As h h' ∧ (∀ y, l = [y] → gI h' 80 1 = y) ∧ ∀ d F, wp true (d + 2) 2 11 [.ref 80, .ref a, .int (nI hd), .ref cr, .int (nI (4 * i) - nI 4)] [] h0 F = F (some (.int (nI 1))) h')
  | 0, hi, h0, x => by
    refine ⟨fun _ => ⟨h0, x, fun d F => ?_⟩, fun l q => by cases q⟩
    rw [r2_11]
    simp (disch := omega) only [e2, r2_0, r2_0n, r2_1, r2_4, r2_4n, r2_5, r2_5n, r2_6, r2_7, r2_8, r2_9, r2_13, r2_16, r2_16n, r2_17, r2_19, r2_20, r2_21, r2_24, r2_27, r2_28, r2_29, r2_32, r2_33, r2_33n, r2_34, r2_37, r2_37n, r2_38, r2_40, r2_41, r2_42, r2_43, r2_43n, r2_44, r2_46, r2_47, r2_48, r2_49, r2_52, r2_55, r2_56, r2_59, r2_62, r2_63, r2_63n, r2_64, r2_67, r2_67n, r2_68, r2_70, r2_71, r2_72, r2_73, r2_73n, r2_74, r2_76, r2_77, r2_78, r2_79, r2_82, r2_85, r2_86, r2_87, r2_90, r2_91, r2_92, r2_95, r2_96, r2_97, r2_100, r2_103, r2_104, kdC, kdM, rpC, rpM, q_rs, q_rn, Option.toList_some, Option.toList_none, List.cons_append, List.nil_append, true_and, and_true, eq_self, ↓reduceIte, not_true_eq_false, not_false_eq_true, Nat.reduceEqDiff, Nat.reduceLeDiff, Nat.reduceLT, Nat.reduceAdd, Nat.reduceMul, Nat.reduceSub, false_or, or_false, true_or, or_true, false_and, and_false, reduceCtorEq, q_n0, q_n1, q_em, q_em2, q_b0, q_b1, Classical.not_not, show nI (4 * 0) - nI 4 < nI 0 by decide]
  | i + 1, hi, h0, x => by
    have hm := ok.2.1
    have hn := ok.1
    obtain ⟨hd', q1, q2, q3, e9, e0, e1, e2, e3, e4, e5, e6⟩ := ok.2.2.2 i (by omega)
    have kd : ∀ (hx : Hp), As h hx → kdm true hx cr = (20, 4 * T.2.2.2) ∧ gI hx cr = T.2.2.1 ∧ kdm true hx a = (9, 2) ∧ rpm true hx a 0 = some sr := by
      intro hx x'
      refine ⟨by rw [kd_big hc, x'.1.2.2, k2], by rw [x'.n (by omega) (by omega), g1], by rw [kd_big ha, x'.1.2.2, k0], ?_⟩
      rw [rp_big ha, x'.p (show asS a 0 = false by
        unfold asS
        cases e1 : Nat.beq a 80 with
        | true => have := Nat.eq_of_beq_eq_true e1; omega
        | false =>
          cases e2 : Nat.beq a 82 with
          | true => have := Nat.eq_of_beq_eq_true e2; omega
          | false => rfl), p0]
    have hsub : nI (4 * (i + 1)) - nI 4 = nI (4 * i) := by rw [q_sub (by omega)]; congr 1
    obtain ⟨i1, i2⟩ := cl2 ok ha hs hc p0 p1 k0 k1 k2 g0 g1 hhd i (by omega) h0 x
    have stH' : ∀ (hx : Hp), As h hx → stH hx sr T.2.1 T.1 ∧ gI hx 81 = gI h 81 := fun hx x' => ⟨⟨hs, by rw [x'.1.2.2]; exact k1, by rw [x'.n (by omega) (by omega)]; exact g0, hn, ok.2.2.1⟩, x'.n (by omega) (by omega)⟩
    obtain ⟨d1, d2, d3, d4⟩ := kd h0 x
    rw [hsub]
    unfold vho
    rw [e3, e4, e5, e6, nI_clamp (by omega), nI_clamp (by omega), nI_clamp (by omega)]
    by_cases ehd : hd' = hd
    · rw [if_pos (by rw [ehd])]
      obtain ⟨t0, et0⟩ := ask_in h0
      obtain ⟨s1, s2⟩ := stH' h0 x
      obtain ⟨r1, r2⟩ := c3 h0 s1 e1 e2 (gI h0 82) t0 true
      rw [s2] at r1 r2
      -- not this one: go on with those ahead
      have go : ∀ hx, As h hx → (vho (gI h 81) T.1 T.2.2.1 (nI hd) i = none → ∃ h', As h h' ∧ ∀ d F, wp true (d + 2) 2 97 [.ref 80, .ref a, .int (nI hd), .ref cr, .int (nI (4 * i))] [] hx F = F (some (.int (nI 0))) h') ∧
          (∀ l, vho (gI h 81) T.1 T.2.2.1 (nI hd) i = some l → ∃ h', As h h' ∧ (∀ y, l = [y] → gI h' 80 1 = y) ∧ ∀ d F, wp true (d + 2) 2 97 [.ref 80, .ref a, .int (nI hd), .ref cr, .int (nI (4 * i))] [] hx F = F (some (.int (nI 1))) h') := by
        intro hx xx
        obtain ⟨j1, j2⟩ := cl2 ok ha hs hc p0 p1 k0 k1 k2 g0 g1 hhd i (by omega) hx xx
        refine ⟨fun q => ?_, fun l q => ?_⟩
        · obtain ⟨h', y1, y2⟩ := j1 q
          exact ⟨h', y1, fun d F => by simp only [r2_97, r2_100, n4p]; exact y2 d F⟩
        · obtain ⟨h', y1, y2, y3⟩ := j2 l q
          exact ⟨h', y1, y2, fun d F => by simp only [r2_97, r2_100, n4p]; exact y3 d F⟩
      cases er : vrun (gI h 81) T.1 (q3 - q2) q2 ([], true, q2) with
      | none =>
        obtain ⟨f', t', s', r3⟩ := r1 er
        obtain ⟨j1, j2⟩ := go (ask h0 f' t' s') (ask_as h0 x f' t' s')
        have hstep : ∀ d F, wp true (d + 2) 2 11 [.ref 80, .ref a, .int (nI hd), .ref cr, .int (nI (4 * i))] [] h0 F = wp true (d + 2) 2 97 [.ref 80, .ref a, .int (nI hd), .ref cr, .int (nI (4 * i))] [] (ask h0 f' t' s') F := by
          intro d F
          obtain ⟨z1, z2, z3, z4⟩ := kd (ask h0 (gI h0 82) t0 true) (ask_as h0 x _ _ _)
          rw [r2_11]
          simp (disch := omega) only [r2_13, r2_16, r2_16n, r2_17, r2_19, r2_20, r2_21, r2_24, r2_27, r2_28, r2_29, r2_32, r2_33, r2_33n, r2_34, r2_37, r2_37n, r2_38, r2_40, r2_41, r2_42, r2_43, r2_43n, r2_44, r2_46, r2_47, r2_48, r2_49, r2_52, r2_55, r2_56, r2_59, r2_62, r2_63, r2_63n, r2_64, r2_67, r2_67n, r2_68, r2_70, r2_71, r2_72, r2_73, r2_73n, r2_74, r2_76, r2_77, r2_78, r2_79, r2_82, r3, et0, d1, d2, d3, d4, z1, z2, z3, z4, e3, e4, e5, e6, ehd, kdC, kdM, rpC, rpM, q_rs, q_rn, Option.toList_some, Option.toList_none, List.cons_append, List.nil_append, true_and, and_true, eq_self, ↓reduceIte, not_true_eq_false, not_false_eq_true, Nat.reduceEqDiff, Nat.reduceLeDiff, Nat.reduceLT, Nat.reduceAdd, Nat.reduceMul, Nat.reduceSub, false_or, or_false, true_or, or_true, false_and, and_false, reduceCtorEq, q_n0, q_n1, q_em, q_em2, q_b0, q_b1, Classical.not_not, nI_add, pk_mul, nI_clamp, q_vp, nI_eq, nI_leI, nI_ltI, q_sub, show 4 * i < 4 * T.2.2.2 by omega, show 4 * i + 2 < 4 * T.2.2.2 by omega, show 4 * i + 3 < 4 * T.2.2.2 by omega, Nat.not_lt_zero]
        refine ⟨fun q => ?_, fun l q => ?_⟩
        · obtain ⟨h', y1, y2⟩ := j1 q
          exact ⟨h', y1, fun d F => by rw [hstep]; exact y2 d F⟩
        · obtain ⟨h', y1, y2, y3⟩ := j2 l q
          exact ⟨h', y1, y2, fun d F => by rw [hstep]; exact y3 d F⟩
      | some zz =>
        obtain ⟨lz, sz, kz⟩ := zz
        obtain ⟨r3, f', r4, r5⟩ := r2 _ er
        cases sz with
        | false =>
          obtain ⟨j1, j2⟩ := go (ask h0 f' lz.length false) (ask_as h0 x f' _ _)
          have hstep : ∀ d F, wp true (d + 2) 2 11 [.ref 80, .ref a, .int (nI hd), .ref cr, .int (nI (4 * i))] [] h0 F = wp true (d + 2) 2 97 [.ref 80, .ref a, .int (nI hd), .ref cr, .int (nI (4 * i))] [] (ask h0 f' lz.length false) F := by
            intro d F
            obtain ⟨z1, z2, z3, z4⟩ := kd (ask h0 (gI h0 82) t0 true) (ask_as h0 x _ _ _)
            rw [r2_11]
            simp (disch := omega) only [r2_13, r2_16, r2_16n, r2_17, r2_19, r2_20, r2_21, r2_24, r2_27, r2_28, r2_29, r2_32, r2_33, r2_33n, r2_34, r2_37, r2_37n, r2_38, r2_40, r2_41, r2_42, r2_43, r2_43n, r2_44, r2_46, r2_47, r2_48, r2_49, r2_52, r2_55, r2_56, r2_59, r2_62, r2_63, r2_63n, r2_64, r2_67, r2_67n, r2_68, r2_70, r2_71, r2_72, r2_73, r2_73n, r2_74, r2_76, r2_77, r2_78, r2_79, r2_82, r5, et0, d1, d2, d3, d4, z1, z2, z3, z4, e3, e4, e5, e6, ehd, kdC, kdM, rpC, rpM, q_rs, q_rn, Option.toList_some, Option.toList_none, List.cons_append, List.nil_append, true_and, and_true, eq_self, ↓reduceIte, not_true_eq_false, not_false_eq_true, Nat.reduceEqDiff, Nat.reduceLeDiff, Nat.reduceLT, Nat.reduceAdd, Nat.reduceMul, Nat.reduceSub, false_or, or_false, true_or, or_true, false_and, and_false, reduceCtorEq, q_n0, q_n1, q_em, q_em2, q_b0, q_b1, Classical.not_not, nI_add, pk_mul, nI_clamp, q_vp, nI_eq, nI_leI, nI_ltI, q_sub, ask_g4, sB, show 4 * i < 4 * T.2.2.2 by omega, show 4 * i + 2 < 4 * T.2.2.2 by omega, show 4 * i + 3 < 4 * T.2.2.2 by omega, Nat.not_lt_zero]
          refine ⟨fun q => ?_, fun l q => ?_⟩
          · obtain ⟨h', y1, y2⟩ := j1 q
            exact ⟨h', y1, fun d F => by rw [hstep]; exact y2 d F⟩
          · obtain ⟨h', y1, y2, y3⟩ := j2 l q
            exact ⟨h', y1, y2, fun d F => by rw [hstep]; exact y3 d F⟩
        | true =>
          have x1 := ask_as h0 x f' lz.length true
          obtain ⟨s3, s4⟩ := stH' h0 x
          obtain ⟨w1, w2⟩ := c3 h0 s3 e0 (show q2 ≤ T.2.1 by omega) f' lz.length true
          rw [s4] at w1 w2
          obtain ⟨z1, z2, z3, z4⟩ := kd (ask h0 (gI h0 82) t0 true) (ask_as h0 x _ _ _)
          obtain ⟨v1, v2, v3, v4⟩ := kd _ x1
          cases er2 : vrun (gI h 81) T.1 (q2 - q1) q1 ([], true, q1) with
          | none =>
            obtain ⟨f2, t2, s2', w3⟩ := w1 er2
            obtain ⟨j1, j2⟩ := go (ask h0 f2 t2 s2') (ask_as h0 x f2 _ _)
            have hstep : ∀ d F, wp true (d + 2) 2 11 [.ref 80, .ref a, .int (nI hd), .ref cr, .int (nI (4 * i))] [] h0 F = wp true (d + 2) 2 97 [.ref 80, .ref a, .int (nI hd), .ref cr, .int (nI (4 * i))] [] (ask h0 f2 t2 s2') F := by
              intro d F
              rw [r2_11]
              simp (disch := omega) only [r2_13, r2_16, r2_16n, r2_17, r2_19, r2_20, r2_21, r2_24, r2_27, r2_28, r2_29, r2_32, r2_33, r2_33n, r2_34, r2_37, r2_37n, r2_38, r2_40, r2_41, r2_42, r2_43, r2_43n, r2_44, r2_46, r2_47, r2_48, r2_49, r2_52, r2_55, r2_56, r2_59, r2_62, r2_63, r2_63n, r2_64, r2_67, r2_67n, r2_68, r2_70, r2_71, r2_72, r2_73, r2_73n, r2_74, r2_76, r2_77, r2_78, r2_79, r2_82, r5, w3, et0, d1, d2, d3, d4, z1, z2, z3, z4, v1, v2, v3, v4, e3, e4, e5, e6, ehd, kdC, kdM, rpC, rpM, q_rs, q_rn, Option.toList_some, Option.toList_none, List.cons_append, List.nil_append, true_and, and_true, eq_self, ↓reduceIte, not_true_eq_false, not_false_eq_true, Nat.reduceEqDiff, Nat.reduceLeDiff, Nat.reduceLT, Nat.reduceAdd, Nat.reduceMul, Nat.reduceSub, false_or, or_false, true_or, or_true, false_and, and_false, reduceCtorEq, q_n0, q_n1, q_em, q_em2, q_b0, q_b1, Classical.not_not, nI_add, pk_mul, nI_clamp, q_vp, nI_eq, nI_leI, nI_ltI, q_sub, ask_g4, sB, show 4 * i < 4 * T.2.2.2 by omega, show 4 * i + 1 < 4 * T.2.2.2 by omega, show 4 * i + 2 < 4 * T.2.2.2 by omega, show 4 * i + 3 < 4 * T.2.2.2 by omega, Nat.not_lt_zero]
            refine ⟨fun q => ?_, fun l q => ?_⟩
            · obtain ⟨h', y1, y2⟩ := j1 q
              exact ⟨h', y1, fun d F => by rw [hstep]; exact y2 d F⟩
            · obtain ⟨h', y1, y2, y3⟩ := j2 l q
              exact ⟨h', y1, y2, fun d F => by rw [hstep]; exact y3 d F⟩
          | some zz2 =>
            obtain ⟨l2, s2', k2'⟩ := zz2
            obtain ⟨w3, f2, w4, w5⟩ := w2 _ er2
            refine ⟨fun q => (by cases q), fun l q => ?_⟩
            cases q
            refine ⟨ask (sI h0 80 1 (f2 0)) f2 l2.length s2', ask_as _ (x.sI _ rfl) _ _ _, fun y ey => ?_, fun d F => ?_⟩
            · subst ey
              unfold ask
              rw [q_ga, pk_un (by omega), pk_un (by omega), q_gs]
              exact w4.1
            · rw [r2_11]
              simp (disch := omega) only [r2_13, r2_16, r2_16n, r2_17, r2_19, r2_20, r2_21, r2_24, r2_27, r2_28, r2_29, r2_32, r2_33, r2_33n, r2_34, r2_37, r2_37n, r2_38, r2_40, r2_41, r2_42, r2_43, r2_43n, r2_44, r2_46, r2_47, r2_48, r2_49, r2_52, r2_55, r2_56, r2_59, r2_62, r2_63, r2_63n, r2_64, r2_67, r2_67n, r2_68, r2_70, r2_71, r2_72, r2_73, r2_73n, r2_74, r2_76, r2_77, r2_78, r2_79, r2_82, r2_85, r2_86, r2_87, r2_90, r2_91, r2_92, r2_95, r2_96, r5, w5, et0, d1, d2, d3, d4, z1, z2, z3, z4, v1, v2, v3, v4, e3, e4, e5, e6, ehd, kdC, kdM, rpC, rpM, q_rs, q_rn, Option.toList_some, Option.toList_none, List.cons_append, List.nil_append, true_and, and_true, eq_self, ↓reduceIte, not_true_eq_false, not_false_eq_true, Nat.reduceEqDiff, Nat.reduceLeDiff, Nat.reduceLT, Nat.reduceAdd, Nat.reduceMul, Nat.reduceSub, false_or, or_false, true_or, or_true, false_and, and_false, reduceCtorEq, q_n0, q_n1, q_em, q_em2, q_b0, q_b1, Classical.not_not, nI_add, pk_mul, nI_clamp, q_vp, nI_eq, nI_leI, nI_ltI, q_sub, ask_g4, ask_gs, ask_1, sB, show 4 * i < 4 * T.2.2.2 by omega, show 4 * i + 1 < 4 * T.2.2.2 by omega, show 4 * i + 2 < 4 * T.2.2.2 by omega, show 4 * i + 3 < 4 * T.2.2.2 by omega, Nat.not_lt_zero]
    · rw [if_neg (by rw [nI_eq (by omega) (by omega)]; exact ehd)]
      have hstep : ∀ d F, wp true (d + 2) 2 11 [.ref 80, .ref a, .int (nI hd), .ref cr, .int (nI (4 * i))] [] h0 F = wp true (d + 2) 2 11 [.ref 80, .ref a, .int (nI hd), .ref cr, .int (nI (4 * i) - nI 4)] [] h0 F := by
        intro d F
        rw [r2_11]
        simp (disch := omega) only [r2_13, r2_16, r2_16n, r2_17, r2_19, r2_20, r2_21, r2_24, r2_27, r2_28, r2_29, r2_32, r2_33, r2_33n, r2_34, r2_37, r2_37n, r2_38, r2_40, r2_41, r2_42, r2_43, r2_43n, r2_44, r2_46, r2_47, r2_48, r2_49, r2_52, r2_55, r2_56, r2_59, r2_62, r2_63, r2_63n, r2_64, r2_67, r2_67n, r2_68, r2_70, r2_71, r2_72, r2_73, r2_73n, r2_74, r2_76, r2_77, r2_78, r2_79, r2_82, r2_85, r2_86, r2_87, r2_90, r2_91, r2_92, r2_95, r2_96, r2_97, r2_100, d1, d2, e3, ehd, kdC, kdM, rpC, rpM, q_rs, q_rn, Option.toList_some, Option.toList_none, List.cons_append, List.nil_append, true_and, and_true, eq_self, ↓reduceIte, not_true_eq_false, not_false_eq_true, Nat.reduceEqDiff, Nat.reduceLeDiff, Nat.reduceLT, Nat.reduceAdd, Nat.reduceMul, Nat.reduceSub, false_or, or_false, true_or, or_true, false_and, and_false, reduceCtorEq, q_n0, q_n1, q_em, q_em2, q_b0, q_b1, Classical.not_not, nI_add, pk_mul, nI_clamp, q_vp, nI_eq, nI_leI, nI_ltI, q_sub, n4p, show 4 * i < 4 * T.2.2.2 by omega, Nat.not_lt_zero]
      refine ⟨fun q => ?_, fun l q => ?_⟩
      · obtain ⟨h', y1, y2⟩ := i1 q
        exact ⟨h', y1, fun d F => by rw [hstep]; exact y2 d F⟩
      · obtain ⟨h', y1, y2, y3⟩ := i2 l q
        exact ⟨h', y1, y2, fun d F => by rw [hstep]; exact y3 d F⟩
theorem c2 {T : Tk} (ok : tOk T) {a : Nat} (ta : tAt h a T) {hd : Nat} (hhd : hd < 4) {env : Nat → Int32} (he : ∀ i, i < 12 → gI h 81 i = env i) :
    (tSay T hd env = none → ∃ h', As h h' ∧ ∀ d F, cwp true (d + 2) 2 [.ref 80, .ref a, .int (nI hd)] h F = F (some (.int (nI 0))) h') ∧
    (∀ l, tSay T hd env = some l → ∃ h', As h h' ∧ (∀ y, l = [y] → gI h' 80 1 = y) ∧ ∀ d F, cwp true (d + 2) 2 [.ref 80, .ref a, .int (nI hd)] h F = F (some (.int (nI 1))) h') := by
  obtain ⟨sr, cr, ⟨h1, h2, h3, h4, h5, h6⟩, p0, p1, k0, k1, k2, g0, g1⟩ := ta
  obtain ⟨i1, i2⟩ := cl2 h ok h1 h3 h5 p0 p1 k0 k1 k2 g0 g1 hhd T.2.2.2 (Nat.le_refl _) h (FrS.refl h)
  unfold tSay
  rw [← vho_env he]
  have hm := ok.2.1
  have hst : ∀ d F, cwp true (d + 2) 2 [.ref 80, .ref a, .int (nI hd)] h F = wp true (d + 2) 2 11 [.ref 80, .ref a, .int (nI hd), .ref cr, .int (nI (4 * T.2.2.2) - nI 4)] [] h F := by
    intro d F
    have z1 : kdm true h a = (9, 2) := by rw [kd_big h1, k0]
    have z2 : rpm true h a 1 = some cr := by rw [rp_big h1, p1]
    have z3 : kdm true h cr = (20, 4 * T.2.2.2) := by rw [kd_big h5, k2]
    simp (disch := omega) only [r2_0, r2_0n, r2_1, r2_4, r2_4n, r2_5, r2_5n, r2_6, r2_7, r2_8, r2_9, e2, z1, z2, z3, kdC, kdM, rpC, rpM, q_rs, q_rn, Option.toList_some, Option.toList_none, List.cons_append, List.nil_append, true_and, and_true, eq_self, ↓reduceIte, not_true_eq_false, not_false_eq_true, Nat.reduceEqDiff, Nat.reduceLeDiff, Nat.reduceLT, Nat.reduceAdd, Nat.reduceMul, Nat.reduceSub, false_or, or_false, true_or, or_true, false_and, and_false, reduceCtorEq, q_n0, q_n1, q_em, q_em2, q_b0, q_b1, Classical.not_not]
  refine ⟨fun q => ?_, fun l q => ?_⟩
  · obtain ⟨h', y1, y2⟩ := i1 q
    exact ⟨h', y1, fun d F => by rw [hst]; exact y2 d F⟩
  · obtain ⟨h', y1, y2, y3⟩ := i2 l q
    exact ⟨h', y1, y2, fun d F => by rw [hst]; exact y3 d F⟩
/-- all words 0 -/
def clF (f : Nat → Int32) (k : Nat) : Nat → Int32 := fun i => if i < k then nI 0 else f i
theorem cl263 (d : Nat) (F : Po) (f : Nat → Int32) : ∀ k i, i + k = 12 → wp true d 263 5 [.ref 81, .int (nI 0), .int (nI i), .int (nI 12)] [] (sA h 81 (clF f i)) F = F none (sA h 81 (clF f 12))
  | 0, i, e => by
    obtain rfl : i = 12 := e
    rw [r263_5]
    simp (disch := omega) only [e263, r263_0, r263_1, r263_2, r263_3, r263_4, r263_6, r263_7, r263_10, r263_11, r263_12, r263_13, r263_14, r263_17, r263_20, kdC, kdM, rpC, rpM, q_rs, q_rn, Option.toList_some, Option.toList_none, List.cons_append, List.nil_append, true_and, and_true, eq_self, ↓reduceIte, not_true_eq_false, not_false_eq_true, Nat.reduceEqDiff, Nat.reduceLeDiff, Nat.reduceLT, Nat.reduceAdd, Nat.reduceMul, Nat.reduceSub, false_or, or_false, true_or, or_true, false_and, and_false, reduceCtorEq, q_n0, q_n1, q_em, q_em2, q_b0, q_b1, Classical.not_not, nI_add, pk_mul, nI_clamp, q_vp, nI_eq, nI_leI, nI_ltI, q_sub, Nat.le_refl]
  | k + 1, i, e => by
    refine Eq.trans ?_ (cl263 d F f k (i + 1) (by omega))
    have hu : upd (clF f i) i (nI 0) = clF f (i + 1) := by
      funext j
      unfold upd clF
      repeat' split
      all_goals first | rfl | omega
    rw [r263_5]
    simp (disch := omega) only [e263, r263_0, r263_1, r263_2, r263_3, r263_4, r263_6, r263_7, r263_10, r263_11, r263_12, r263_13, r263_14, r263_17, r263_20, kdC, kdM, rpC, rpM, q_rs, q_rn, Option.toList_some, Option.toList_none, List.cons_append, List.nil_append, true_and, and_true, eq_self, ↓reduceIte, not_true_eq_false, not_false_eq_true, Nat.reduceEqDiff, Nat.reduceLeDiff, Nat.reduceLT, Nat.reduceAdd, Nat.reduceMul, Nat.reduceSub, false_or, or_false, true_or, or_true, false_and, and_false, reduceCtorEq, q_n0, q_n1, q_em, q_em2, q_b0, q_b1, Classical.not_not, nI_add, pk_mul, nI_clamp, q_vp, nI_eq, nI_leI, nI_ltI, q_sub, show ¬ 12 ≤ i by omega, show i < 12 by omega, q_sIs, hu]
def clr (h : Hp) : Hp := sA h 81 (clF (gI h 81) 12)
theorem c1 (d : Nat) (F : Po) : cwp true (d + 1) 1 [.ref 80] h F = F none (clr h) := by
  have hl := fun (F : Po) (d : Nat) => cl263 h d F (gI h 81) 12 0 (by omega)
  have h0 : sA h 81 (clF (gI h 81) 0) = h := by
    rw [show clF (gI h 81) 0 = gI h 81 from funext fun i => if_neg (by omega), q_sAs]
  rw [h0] at hl
  simp (disch := omega) only [e1, r1_0, r1_1, r1_4, r1_5, r1_8, e263, r263_0, r263_1, r263_2, r263_3, r263_4, r263_6, r263_7, r263_10, r263_11, r263_12, r263_13, r263_14, r263_17, r263_20, hl, kdC, kdM, rpC, rpM, q_rs, q_rn, Option.toList_some, Option.toList_none, List.cons_append, List.nil_append, true_and, and_true, eq_self, ↓reduceIte, not_true_eq_false, not_false_eq_true, Nat.reduceEqDiff, Nat.reduceLeDiff, Nat.reduceLT, Nat.reduceAdd, Nat.reduceMul, Nat.reduceSub, false_or, or_false, true_or, or_true, false_and, and_false, reduceCtorEq, q_n0, q_n1, q_em, q_em2, q_b0, q_b1, Classical.not_not, clr]
theorem clr_fr : Fr h (clr h) := (Fr.refl h).sA _ (fun _ => rfl)
theorem clr_g {i : Nat} (hi : i < 12) : gI (clr h) 81 i = nI 0 := by
  unfold clr
  rw [q_ga]
  exact if_pos hi
theorem clr_n {a : Nat} (ha : a ≠ 81) : gI (clr h) a = gI h a := by
  unfold clr
  rw [q_gan ha]
theorem c60 {K : Nat → Int32} (w : WF K) (q : RS h 0 K) {t a : Nat} (ht : t < nx K) (hp : gP h 25 t = some a) (d : Nat) (F : Po) : cwp true (d + 1) 60 [.ref 2, .int (nI t)] h F = F (some (.ref a)) h := by
  have h1 := w.hnx
  simp (disch := omega) only [e60, r60_0, r60_1, r60_2, r60_3, r60_6, r60_7, r60_8, r60_11, r60_14, r60_15, r60_18, r60_19, r60_20, r60_23, r60_24, r60_24n, c125, kdC, kdM, rpC, rpM, q_rs, q_rn, Option.toList_some, Option.toList_none, List.cons_append, List.nil_append, true_and, and_true, eq_self, ↓reduceIte, not_true_eq_false, not_false_eq_true, Nat.reduceEqDiff, Nat.reduceLeDiff, Nat.reduceLT, Nat.reduceAdd, Nat.reduceMul, Nat.reduceSub, false_or, or_false, true_or, or_true, false_and, and_false, reduceCtorEq, q_n0, q_n1, q_em, q_em2, q_b0, q_b1, Classical.not_not, nI_add, pk_mul, nI_clamp, q_vp, nI_eq, nI_leI, nI_ltI, q_sub, q.hnx, h1, rpT, hp, Nat.zero_le, show t ≤ nx K - 1 by omega, show t < 10 by omega]
theorem c60n {K : Nat → Int32} (w : WF K) (q : RS h 0 K) {x : Int32} (hx : ¬ (nI 0 ≤ x ∧ x < nI (nx K))) (d : Nat) (F : Po) : cwp true (d + 1) 60 [.ref 2, .int x] h F = F (some .null) h := by
  have h1 := w.hnx
  simp (disch := omega) only [e60, r60_0, r60_1, r60_2, r60_3, r60_6, r60_7, r60_8, r60_11, r60_14, r60_15, r60_18, r60_19, r60_20, r60_23, r60_24, r60_24n, c125, kdC, kdM, rpC, rpM, q_rs, q_rn, Option.toList_some, Option.toList_none, List.cons_append, List.nil_append, true_and, and_true, eq_self, ↓reduceIte, not_true_eq_false, not_false_eq_true, Nat.reduceEqDiff, Nat.reduceLeDiff, Nat.reduceLT, Nat.reduceAdd, Nat.reduceMul, Nat.reduceSub, false_or, or_false, true_or, or_true, false_and, and_false, reduceCtorEq, q_n0, q_n1, q_em, q_em2, q_b0, q_b1, Classical.not_not, q.hnx, h1, q_lep, hx]
end HO
