/-! a TEXT is read from its start, both -/
def c2S (a i : Nat) : Bool := (Nat.beq a 76 && Nat.ble 2 i) || (Nat.beq a 78 || Nat.beq a 79)
def m2S (a i : Nat) : Bool := Nat.beq a 109 || (Nat.beq a 110 || (Nat.beq a 111 || (Nat.beq a 101 && Nat.ble 8 i)))
theorem cl_c2 {h h' : Hp} (x : FrS clS h h') : FrS c2S h h' := x.mono (fun a i e => by
  unfold c2S at e
  unfold clS rcS
  obtain ⟨e1, e2⟩ := bor e
  obtain ⟨e3, e4⟩ := bor e2
  rw [e3, e4]
  cases q : Nat.beq a 76 with
  | false => rfl
  | true =>
    rw [q] at e1
    cases q2 : Nat.ble 3 i with
    | false => rfl
    | true =>
      have := Nat.le_of_ble_eq_true q2
      rw [Nat.ble_eq_true_of_le (show 2 ≤ i by omega)] at e1
      cases e1)
theorem rs_m2 {h h' : Hp} (x : FrS rsS h h') : FrS m2S h h' := x.mono (fun a i e => by
  unfold m2S at e
  unfold rsS psS
  obtain ⟨_, e⟩ := bor e
  obtain ⟨_, e⟩ := bor e
  obtain ⟨_, e⟩ := bor e
  cases q : Nat.beq a 101 with
  | false => rfl
  | true =>
    rw [q] at e
    cases q2 : Nat.ble 14 i with
    | true =>
      have := Nat.le_of_ble_eq_true q2
      rw [Nat.ble_eq_true_of_le (show 8 ≤ i by omega)] at e
      cases e
    | false =>
      cases q3 : Nat.beq i 9 with
      | true =>
        have := Nat.eq_of_beq_eq_true q3
        rw [Nat.ble_eq_true_of_le (show 8 ≤ i by omega)] at e
        cases e
      | false => rfl)
theorem sp_m2 {h h' : Hp} (x : FrS spS h h') : FrS m2S h h' := x.mono (fun a i e => by
  unfold m2S at e
  unfold spS
  obtain ⟨e1, e⟩ := bor e
  obtain ⟨e2, e⟩ := bor e
  obtain ⟨e3, e⟩ := bor e
  rw [e1, e2, e3]
  cases q : Nat.beq a 101 with
  | false => rfl
  | true =>
    rw [q] at e
    cases q3 : Nat.beq i 13 with
    | true =>
      have := Nat.eq_of_beq_eq_true q3
      rw [Nat.ble_eq_true_of_le (show 8 ≤ i by omega)] at e
      cases e
    | false => rfl)
section RA2
variable {B : Nat → Int32} {n m : Nat}
theorem tok_u {m' : Nat} (h1 : n ≤ tpl B n m) (h2 : ∀ t, t < m → tpl B n t < n) (h3 : n ≤ tpl B n m') (h4 : ∀ t, t < m' → tpl B n t < n) : m = m' := by
  rcases Nat.lt_trichotomy m m' with q | q | q
  · have := h4 m q; omega
  · exact q
  · have := h2 m' q; omega
/-- the class's start -/
theorem c41_0 (o : TOK B n m) (h : Hp) (hT : ∀ i, i < 400 → gI h 77 i = B i) : ∃ h1, FrS c2S h h1 ∧ RC h1 B n 0 0 0 (4 * 0) ∧ ∀ D F, cwp true (D + 2) 41 [.ref 76, .int (nI n)] h F = wp true (D + 2) 41 35 [.ref 76, .int (nI n), jn, jn] [] h1 F := by
  have hn := o.2.1
  have x0 : FrS c2S h (sI (sI (sI (sI (sI h 76 2 (nI n)) 76 3 (nI 0)) 76 7 (nI 0)) 76 9 (nI 0)) 76 11 (nI 0)) := (((((FrS.refl h).sI _ rfl).sI _ rfl).sI _ rfl).sI _ rfl).sI _ rfl
  have ra : RA (sI (sI (sI (sI (sI h 76 2 (nI n)) 76 3 (nI 0)) 76 7 (nI 0)) 76 9 (nI 0)) 76 11 (nI 0)) B n 0 := ⟨by rw [q_gm (by omega), q_gm (by omega), q_gm (by omega), q_gm (by omega), q_gs], fun i hi => by rw [x0.g (a := 77) (i := i) rfl]; exact hT i hi, by rw [q_gm (by omega), q_gm (by omega), q_gm (by omega), q_gs]; rfl⟩
  obtain ⟨h1, a1, a2, a3⟩ := c43 o.1 hn ra
  refine ⟨h1, x0.trans (cl_c2 (rc_cl (av_rc a1))), ⟨a2, ?_, ?_, ?_⟩, fun D F => ?_⟩
  · rw [a1.g (a := 76) (i := 7) rfl, q_gm (by omega), q_gm (by omega), q_gs]
  · rw [a1.g (a := 76) (i := 9) rfl, q_gm (by omega), q_gs]
  · rw [a1.g (a := 76) (i := 11) rfl, q_gs]
  · simp (disch := omega) only [r41_0, r41_1, r41_2, r41_5, r41_8, r41_11, r41_12, r41_13, r41_16, r41_17, r41_18, r41_21, r41_22, r41_23, r41_26, r41_27, r41_28, r41_31, r41_32, e41, a3, kdC, kdM, rpC, rpM, q_rs, q_rn, Option.toList_some, Option.toList_none, List.cons_append, List.nil_append, true_and, and_true, eq_self, ↓reduceIte, not_true_eq_false, not_false_eq_true, Nat.reduceEqDiff, Nat.reduceLeDiff, Nat.reduceLT, Nat.reduceAdd, Nat.reduceMul, Nat.reduceSub, false_or, or_false, true_or, or_true, false_and, and_false, reduceCtorEq, q_n0, q_n1, q_em, q_em2, q_b0, q_b1, Classical.not_not, nI_add, pk_mul, nI_clamp, q_vp, nI_eq, nI_leI, nI_ltI, q_sub, show ¬ 400 < n by omega]
/-- the model's start -/
theorem m187_0 (o : TOK B n m) (h : Hp) (hW : WDS h) (hT : ∀ i, i < 400 → gI h 107 i = B i) (h8 : gI h 101 8 = nI n) : ∃ h1, FrS m2S h h1 ∧ MS h1 B n m 0 0 ∧ gI h1 101 13 = nI m ∧ gI h1 101 8 = nI 0 ∧ ∀ D F, cwp true (D + 2) 187 [.ref 101] h F = wp true (D + 2) 187 28 [.ref 101, jn] [] h1 F := by
  obtain ⟨h1, m', a1, a2, a3, a4, a5, a6, a7⟩ := m173 (h := h) (B := B) (n := n) hW hT o.2.1
  obtain rfl : m = m' := tok_u o.2.2.2.1 o.2.2.2.2 a3 a4
  refine ⟨sI (sI (sI (sI h1 101 8 (nI 0)) 101 14 (nI 0)) 101 15 (nI 0)) 101 16 (-1), ((((sp_m2 a1).sI _ rfl).sI _ rfl).sI _ rfl).sI _ rfl, ⟨?_, ?_, q_gs _ _ _ _, fun t ht => ?_⟩, ?_, ?_, fun D F => ?_⟩
  · rw [q_gm (by omega), q_gm (by omega), q_gs]
  · rw [q_gm (by omega), q_gs]
  · rw [q_gn (by omega), q_gn (by omega), q_gn (by omega), q_gn (by omega), q_gn (by omega), q_gn (by omega), q_gn (by omega), q_gn (by omega), q_gn (by omega), q_gn (by omega), q_gn (by omega), q_gn (by omega)]
    exact a6 t ht
  · rw [q_gm (by omega), q_gm (by omega), q_gm (by omega), q_gm (by omega)]; exact a5
  · rw [q_gm (by omega), q_gm (by omega), q_gm (by omega), q_gs]
  · simp (disch := omega) only [r187_0, r187_1, r187_2, r187_5, r187_8, r187_9, r187_10, r187_13, r187_14, r187_15, r187_18, r187_19, r187_20, r187_23, r187_24, r187_25, e187, h8, a7, kdC, kdM, rpC, rpM, q_rs, q_rn, Option.toList_some, Option.toList_none, List.cons_append, List.nil_append, true_and, and_true, eq_self, ↓reduceIte, not_true_eq_false, not_false_eq_true, Nat.reduceEqDiff, Nat.reduceLeDiff, Nat.reduceLT, Nat.reduceAdd, Nat.reduceMul, Nat.reduceSub, false_or, or_false, true_or, or_true, false_and, and_false, reduceCtorEq, q_n0, q_n1, q_em, q_em2, q_b0, q_b1, Classical.not_not]
/-- what a whole reading comes to -/
theorem rd_all (o : TOK B n m) :
    (∃ i cs HD P1 P2 P3, i ≤ 12 ∧ cs.length ≤ 400 ∧ nnL cs ∧ SEQ B n m i (m + 1) cs HD P1 P2 P3 ∧
      (∀ h, (∀ i, i < 400 → gI h 77 i = B i) → ∃ h', FrS c2S h h' ∧ AT (gI h' 78) 0 cs ∧ CLE h' i HD P1 P2 P3 ∧ gI h' 76 9 = nI cs.length ∧ gI h' 76 11 = nI (4 * i) ∧ ∃ v3' : Value, ∀ D F, 80 ≤ D → cwp true D 41 [.ref 76, .int (nI n)] h F = wp true D 41 105 [.ref 76, .int (nI n), .int (nI 1), v3'] [] h' F) ∧
      ∀ h, WDS h → (∀ i, i < 400 → gI h 107 i = B i) → gI h 101 8 = nI n → ∃ h', FrS m2S h h' ∧ gI h' 101 9 = -1 ∧ gI h' 101 8 = nI 0 ∧ gI h' 101 13 = nI m ∧ TKS h' B n (m + 1) ∧ ∀ D F, 80 ≤ D → cwp true D 187 [.ref 101] h F = F (some (.int (nI 1))) h') ∨
    ∃ k, (∀ h, (∀ i, i < 400 → gI h 77 i = B i) → ∃ h', FrS c2S h h' ∧ gI h' 76 5 = nI (tpl B n k) ∧ ∀ D F, 80 ≤ D → cwp true D 41 [.ref 76, .int (nI n)] h F = F (some .null) h') ∧
      ∀ h, WDS h → (∀ i, i < 400 → gI h 107 i = B i) → gI h 101 8 = nI n → ∃ h', FrS m2S h h' ∧ gI h' 101 9 = nI (tpl B n k) ∧ gI h' 101 8 = nI 0 ∧ ∀ D F, 80 ≤ D → cwp true D 187 [.ref 101] h F = F (some (.int (nI 0))) h' := by
  have hm4 := o.m400
  rcases clause_ex o 0 0 0 (Nat.zero_le _) (by omega) (Nat.le_refl _) with ⟨j', p', hd, csS, csT, a1, a2, a3, a4, a5, a6, ⟨a7, a8⟩, a9⟩ | ⟨k, a1, a2, a3⟩
  · have hsq := seq_s (seq_0 (B := B) (n := n) (m := m)) (by omega) a4 a9
    have hlen : ([] ++ (csS ++ csT) : List Int32).length = 0 + csS.length + csT.length := by rw [List.nil_append, List.length_append]; omega
    have hcl : ∀ h, (∀ i, i < 400 → gI h 77 i = B i) → ∃ h2, FrS c2S h h2 ∧ RC h2 B n j' p' ([] ++ (csS ++ csT) : List Int32).length (4 * 1) ∧ AT (gI h2 78) 0 ([] ++ (csS ++ csT)) ∧ CLE h2 1 (fun k => if k = 0 then hd else 0) (fun k => if k = 0 then ([] : List Int32).length else 0) (fun k => if k = 0 then ([] : List Int32).length + csS.length else 0) (fun k => if k = 0 then ([] : List Int32).length + csS.length + csT.length else 0) ∧ ∀ D F, 80 ≤ D → cwp true D 41 [.ref 76, .int (nI n)] h F = wp true D 41 42 [.ref 76, .int (nI n), .int (nI 1), .int (nI 1)] [] h2 F := by
      intro h hT
      obtain ⟨h1, b1, b2, b3⟩ := c41_0 o h hT
      obtain ⟨h2, e1, e2, e3, e4, e5, ⟨e6, e7, e8, e9⟩, e10⟩ := a7 h1 0 (by omega) b2
      refine ⟨h2, b1.trans (cl_c2 e1), by rw [hlen]; exact e2, by rw [List.nil_append]; exact e3, fun k hk => ?_, fun D F hD => ?_⟩
      · obtain rfl : k = 0 := by omega
        exact ⟨e6, e7, e8, e9⟩
      · obtain ⟨D', rfl⟩ : ∃ d, D = d + 2 := ⟨D - 2, by omega⟩
        have e10' := fun F => e10 (D' + 1) F (by omega)
        rw [b3 D' F]
        simp (disch := omega) only [r41_35, r41_36, r41_39, r41_40, r41_41, e10', kdC, kdM, rpC, rpM, q_rs, q_rn, Option.toList_some, Option.toList_none, List.cons_append, List.nil_append, true_and, and_true, eq_self, ↓reduceIte, not_true_eq_false, not_false_eq_true, Nat.reduceEqDiff, Nat.reduceLeDiff, Nat.reduceLT, Nat.reduceAdd, Nat.reduceMul, Nat.reduceSub, false_or, or_false, true_or, or_true, false_and, and_false, reduceCtorEq, q_n0, q_n1, q_em, q_em2, q_b0, q_b1, Classical.not_not]
    have hmo : ∀ h, WDS h → (∀ i, i < 400 → gI h 107 i = B i) → gI h 101 8 = nI n → ∃ h2, FrS m2S h h2 ∧ MS h2 B n m j' p' ∧ gI h2 101 13 = nI m ∧ gI h2 101 8 = nI 0 ∧ ∀ D F, 80 ≤ D → cwp true D 187 [.ref 101] h F = wp true D 187 34 [.ref 101, .int (nI 1)] [] h2 F := by
      intro h hW hT h8
      obtain ⟨h1, b1, b2, b3, b4, b5⟩ := m187_0 o h hW hT h8
      obtain ⟨h2, e1, e2, e3⟩ := a8 h1 b2
      refine ⟨h2, b1.trans (rs_m2 (ps_rs e1)), e2, by rw [e1.g (a := 101) (i := 13) rfl]; exact b3, by rw [e1.g (a := 101) (i := 8) rfl]; exact b4, fun D F hD => ?_⟩
      obtain ⟨D', rfl⟩ : ∃ d, D = d + 2 := ⟨D - 2, by omega⟩
      have e3' := fun F => e3 (D' + 1) F (by omega)
      rw [b5 D' F]
      simp (disch := omega) only [r187_28, r187_29, r187_32, r187_33, e3', kdC, kdM, rpC, rpM, q_rs, q_rn, Option.toList_some, Option.toList_none, List.cons_append, List.nil_append, true_and, and_true, eq_self, ↓reduceIte, not_true_eq_false, not_false_eq_true, Nat.reduceEqDiff, Nat.reduceLeDiff, Nat.reduceLT, Nat.reduceAdd, Nat.reduceMul, Nat.reduceSub, false_or, or_false, true_or, or_true, false_and, and_false, reduceCtorEq, q_n0, q_n1, q_em, q_em2, q_b0, q_b1, Classical.not_not]
    rcases rd_ex o m 1 j' p' ([] ++ (csS ++ csT)) _ _ _ _ (by omega) (by omega) (by omega) a2 a3 (by rw [hlen]; omega) (by rw [List.nil_append]; exact a6) hsq with ⟨i', cs', HD', P1', P2', P3', f1, f2, f3, f4, f5, f6⟩ | ⟨k, f5, f6⟩
    · left
      refine ⟨i', cs', HD', P1', P2', P3', f1, f2, f3, f4, fun h hT => ?_, fun h hW hT h8 => ?_⟩
      · obtain ⟨h2, b1, b2, b3, b4, b5⟩ := hcl h hT
        obtain ⟨h3, g1, g2, g3, g4, g5, v3', g6⟩ := f5 h2 b2 b3 b4
        exact ⟨h3, b1.trans (cl_c2 g1), g2, g3, g4, g5, v3', fun D F hD => by rw [b5 D F hD, g6 D F _ (by omega)]⟩
      · obtain ⟨h2, b1, b2, b3, b4, b5⟩ := hmo h hW hT h8
        obtain ⟨h3, g1, g2, g3⟩ := f6 h2 b2 b3
        refine ⟨h3, b1.trans (rs_m2 g1), g2, by rw [g1.g (a := 101) (i := 8) rfl]; exact b4, by rw [g1.g (a := 101) (i := 13) rfl]; exact b3, fun t ht => ?_, fun D F hD => by rw [b5 D F hD, g3 D F (by omega)]⟩
        rw [g1.G (a := 109) (fun _ => rfl), g1.G (a := 110) (fun _ => rfl), g1.G (a := 111) (fun _ => rfl)]
        exact b2.2.2.2 t ht
    · right
      refine ⟨k, fun h hT => ?_, fun h hW hT h8 => ?_⟩
      · obtain ⟨h2, b1, b2, b3, b4, b5⟩ := hcl h hT
        obtain ⟨h3, g1, g2, g6⟩ := f5 h2 b2
        exact ⟨h3, b1.trans (cl_c2 g1), g2, fun D F hD => by rw [b5 D F hD, g6 D F _ (by omega)]⟩
      · obtain ⟨h2, b1, b2, b3, b4, b5⟩ := hmo h hW hT h8
        obtain ⟨h3, g1, g2, g3⟩ := f6 h2 b2 b3
        exact ⟨h3, b1.trans (rs_m2 g1), g2, by rw [g1.g (a := 101) (i := 8) rfl]; exact b4, fun D F hD => by rw [b5 D F hD, g3 D F (by omega)]⟩
  · right
    refine ⟨k, fun h hT => ?_, fun h hW hT h8 => ?_⟩
    · obtain ⟨h1, b1, b2, b3⟩ := c41_0 o h hT
      obtain ⟨h2, e1, e2, e10⟩ := a2 h1 0 (by omega) b2
      refine ⟨h2, b1.trans (cl_c2 e1), e2.1, fun D F hD => ?_⟩
      obtain ⟨D', rfl⟩ : ∃ d, D = d + 2 := ⟨D - 2, by omega⟩
      have e10' := fun F => e10 (D' + 1) F (by omega)
      rw [b3 D' F]
      simp (disch := omega) only [r41_35, r41_36, r41_39, r41_40, r41_41, e10', kdC, kdM, rpC, rpM, q_rs, q_rn, Option.toList_some, Option.toList_none, List.cons_append, List.nil_append, true_and, and_true, eq_self, ↓reduceIte, not_true_eq_false, not_false_eq_true, Nat.reduceEqDiff, Nat.reduceLeDiff, Nat.reduceLT, Nat.reduceAdd, Nat.reduceMul, Nat.reduceSub, false_or, or_false, true_or, or_true, false_and, and_false, reduceCtorEq, q_n0, q_n1, q_em, q_em2, q_b0, q_b1, Classical.not_not]
      rw [r41_42]
      simp (disch := omega) only [e41, r41_0, r41_1, r41_2, r41_5, r41_8, r41_11, r41_12, r41_13, r41_16, r41_17, r41_18, r41_21, r41_22, r41_23, r41_26, r41_27, r41_28, r41_31, r41_32, r41_35, r41_36, r41_39, r41_40, r41_41, r41_43, r41_45, r41_48, r41_49, r41_52, r41_53, r41_55, r41_58, r41_61, r41_62, r41_65, r41_66, r41_68, r41_71, r41_72, r41_75, r41_78, r41_79, r41_82, r41_83, r41_84, r41_87, r41_90, r41_91, r41_94, r41_95, r41_98, r41_100, r41_103, r41_104, r41_104n, r41_105, r41_108, r41_109, r41_110, r41_113, r41_114, r41_117, r41_120, r41_121, r41_124, r41_125, r41_128, r41_131, r41_134, r41_134n, kdC, kdM, rpC, rpM, q_rs, q_rn, Option.toList_some, Option.toList_none, List.cons_append, List.nil_append, true_and, and_true, eq_self, ↓reduceIte, not_true_eq_false, not_false_eq_true, Nat.reduceEqDiff, Nat.reduceLeDiff, Nat.reduceLT, Nat.reduceAdd, Nat.reduceMul, Nat.reduceSub, false_or, or_false, true_or, or_true, false_and, and_false, reduceCtorEq, q_n0, q_n1, q_em, q_em2, q_b0, q_b1, Classical.not_not, nI_add, pk_mul, nI_clamp, q_vp, nI_eq, nI_leI, nI_ltI, q_sub]
    · obtain ⟨h1, b1, b2, b3, b4, b5⟩ := m187_0 o h hW hT h8
      obtain ⟨h2, e1, e2, e3⟩ := a3 h1 b2
      refine ⟨sI h2 101 9 (nI (tpl B n k)), (b1.trans (rs_m2 (ps_rs e1))).sI _ rfl, q_gs _ _ _ _, by rw [q_gm (by omega), e1.g (a := 101) (i := 8) rfl]; exact b4, fun D F hD => ?_⟩
      obtain ⟨D', rfl⟩ : ∃ d, D = d + 2 := ⟨D - 2, by omega⟩
      have e3' := fun F => e3 (D' + 1) F (by omega)
      rw [b5 D' F]
      refine Eq.trans ?_ (ml187x o e2 (.int (nI 1)) D' F)
      simp (disch := omega) only [r187_28, r187_29, r187_32, r187_33, e3', kdC, kdM, rpC, rpM, q_rs, q_rn, Option.toList_some, Option.toList_none, List.cons_append, List.nil_append, true_and, and_true, eq_self, ↓reduceIte, not_true_eq_false, not_false_eq_true, Nat.reduceEqDiff, Nat.reduceLeDiff, Nat.reduceLT, Nat.reduceAdd, Nat.reduceMul, Nat.reduceSub, false_or, or_false, true_or, or_true, false_and, and_false, reduceCtorEq, q_n0, q_n1, q_em, q_em2, q_b0, q_b1, Classical.not_not]
end RA2
