/-! reading: small steps of both -/
def TOK (B : Nat → Int32) (n m : Nat) : Prop := (∀ i, i < 400 → (B i).toInt8.toInt32 = B i) ∧ n ≤ 400 ∧ m ≤ n ∧ n ≤ tpl B n m ∧ ∀ t, t < m → tpl B n t < n
section TG
variable {B : Nat → Int32} {n m : Nat}
theorem TOK.r (o : TOK B n m) (j : Nat) : tg B n j < 23 ∨ (1000 ≤ tg B n j ∧ tg B n j < 1256) := tg_r o.1 o.2.1 j
theorem TOK.e (o : TOK B n m) : tg B n m = 22 := (tg_end o.1 o.2.1 m).mpr o.2.2.2.1
theorem TOK.l (o : TOK B n m) {j : Nat} (hj : j ≤ m) (h : tg B n j ≠ 22) : j < m := by
  rcases Nat.lt_or_ge j m with q | q
  · exact q
  · obtain rfl : j = m := by omega
    exact absurd o.e h
theorem TOK.m400 (o : TOK B n m) : m ≤ 400 := by have := o.2.1; have := o.2.2.1; omega
theorem TOK.p400 (o : TOK B n m) (j : Nat) : tpl B n j ≤ 400 := by have := o.2.1; have := (tpl_le B n j).2; omega
theorem mc_all (o : TOK B n m) (j : Nat) : (tg B n j < 20 ∧ mcJ B n j = nI (tg B n j + 1)) ∨ (tg B n j = 20 ∧ mcJ B n j = nI 50 ∧ mvJ B n j = nI (tnm B n j) ∧ tnm B n j ≤ 1000) ∨ (tg B n j = 21 ∧ (mcJ B n j = nI 0 ∨ (mcJ B n j = nI 50 ∧ mvJ B n j = nI (tnm B n j) ∧ 1000 < tnm B n j ∧ tnm B n j ≤ 10000009))) ∨ (tg B n j = 22 ∧ mcJ B n j = nI 0) ∨ ∃ u, u < 256 ∧ tg B n j = 1000 + u ∧ mcJ B n j = nI (100 + u) := by
  obtain ⟨hB, hn, _⟩ := o
  by_cases c : n ≤ tpl B n j
  · right; right; right; left
    refine ⟨(tg_end hB hn j).mpr c, ?_⟩
    unfold mcJ; rw [pif_t c]
  · by_cases c1 : smP (B (tpl B n j))
    · have e1 : tg B n j = kwd B (tpl B n j) (tps B n (j + 1)) := by unfold tg; rw [pif_f c, pif_t c1]
      have e2 : mcJ B n j = nI (wm (kwd B (tpl B n j) (tps B n (j + 1)))) := by unfold mcJ; rw [pif_f c, pif_t c1]
      rcases wrd_r B (tpl B n j) (tps B n (j + 1)) 20 0 rfl with q | q
      · left
        rw [e1]
        refine ⟨q, ?_⟩
        rw [e2]
        unfold wm
        rw [if_neg (by unfold kwd; omega)]
      · right; right; left
        refine ⟨by rw [e1]; exact q, Or.inl ?_⟩
        rw [e2]
        unfold wm
        rw [if_pos (by unfold kwd; exact q)]
    · by_cases c2 : dgP (B (tpl B n j))
      · have e1 : tg B n j = if tnm B n j ≤ 1000 then 20 else 21 := by unfold tg tnm; rw [pif_f c, pif_f c1, pif_t c2]
        have e2 : mcJ B n j = nI 50 := by unfold mcJ; rw [pif_f c, pif_f c1, pif_t c2]
        have e3 : mvJ B n j = nI (tnm B n j) := by unfold mvJ; rw [pif_f c, pif_t c2]
        have hps : tps B n (j + 1) = scn B n dgP (tpl B n j) := by
          rw [tps_s]
          unfold tkE
          rw [pif_f c, pif_f c1, pif_t c2]
        have hl : tnm B n j ≤ 10000009 := nmM_le (tpl B n j) _ (fun i hi => scn_in (n := n) (n - tpl B n j) (tpl B n j) rfl _ (by omega) (by rw [← hps]; omega))
        by_cases c3 : tnm B n j ≤ 1000
        · rw [if_pos c3] at e1
          exact Or.inr (Or.inl ⟨e1, e2, e3, c3⟩)
        · rw [if_neg c3] at e1
          exact Or.inr (Or.inr (Or.inl ⟨e1, Or.inr ⟨e2, e3, by omega, hl⟩⟩))
      · obtain ⟨u, u1, u2, u3⟩ := by_x (hB (tpl B n j) (by omega))
        right; right; right; right
        refine ⟨u, u1, ?_, ?_⟩
        · unfold tg; rw [pif_f c, pif_f c1, pif_f c2, u2, nI_clamp (by omega)]
        · unfold mcJ; rw [pif_f c, pif_f c1, pif_f c2, u2, nI_add]
theorem mc_w (o : TOK B n m) (j : Nat) {w : Nat} (hw : w < 20) : (mcJ B n j = nI (w + 1)) = (tg B n j = w) := by
  apply propext
  rcases mc_all o j with ⟨h1, h2⟩ | ⟨h1, h2, _⟩ | ⟨h1, h2 | ⟨h2, _⟩⟩ | ⟨h1, h2⟩ | ⟨u, h0, h1, h2⟩ <;> rw [h2, nI_eq (by omega) (by omega)] <;> omega
theorem mc_s (o : TOK B n m) (j : Nat) {u : Nat} (hu : u < 128) : (mcJ B n j = nI (100 + u)) = (tg B n j = 1000 + u) := by
  apply propext
  rcases mc_all o j with ⟨h1, h2⟩ | ⟨h1, h2, _⟩ | ⟨h1, h2 | ⟨h2, _⟩⟩ | ⟨h1, h2⟩ | ⟨u, h0, h1, h2⟩ <;> rw [h2, nI_eq (by omega) (by omega)] <;> omega
theorem kd_w (o : TOK B n m) (j : Nat) {w : Nat} (hw : w < 23) : (kdI (tg B n j) = nI w) = (tg B n j = w) := kdI_w (o.r j) hw
theorem kd_s (o : TOK B n m) (j : Nat) {u : Nat} (hu : u < 128) : (kdI (tg B n j) = nI (1000 + u)) = (tg B n j = 1000 + u) := kdI_s (o.r j) hu
end TG
/-- the model reads token j, with p parts so far, and all is fine -/
def MS (h : Hp) (B : Nat → Int32) (n m j p : Nat) : Prop := gI h 101 14 = nI j ∧ gI h 101 15 = nI p ∧ gI h 101 16 = -1 ∧ TKS h B n (m + 1)
/-- the model has found a fault at token k -/
def MX (h : Hp) (B : Nat → Int32) (n k : Nat) : Prop := gI h 101 16 = nI (tpl B n k)
def psS (a i : Nat) : Bool := Nat.beq a 101 && (Nat.ble 14 i && Nat.ble i 16)
theorem TKS_ps {h h' : Hp} {B : Nat → Int32} {n j : Nat} (x : FrS psS h h') (z : TKS h B n j) : TKS h' B n j := fun t ht => by
  rw [x.G (a := 109) (fun _ => rfl), x.G (a := 110) (fun _ => rfl), x.G (a := 111) (fun _ => rfl)]; exact z t ht
section MR
variable {h : Hp} {B : Nat → Int32} {n m j p : Nat}
theorem MS_t {j' : Nat} (z : MS h B n m j p) : MS (sI h 101 14 (nI j')) B n m j' p := by
  obtain ⟨z1, z2, z3, z4⟩ := z
  exact ⟨q_gs _ _ _ _, by rw [q_gm (by omega)]; exact z2, by rw [q_gm (by omega)]; exact z3, TKS_ps ((FrS.refl h).sI _ rfl) z4⟩
theorem m174 (z : MS h B n m j p) (d : Nat) (F : Po) : cwp true d 174 [.ref 101] h F = F (some (.int (nI 1))) h := by
  simp (disch := omega) only [e174, r174_0, r174_1, r174_4, r174_5, r174_8, r174_9, r174_12, r174_13, z.2.2.1, kdC, kdM, rpC, rpM, q_rs, q_rn, Option.toList_some, Option.toList_none, List.cons_append, List.nil_append, true_and, and_true, eq_self, ↓reduceIte, not_true_eq_false, not_false_eq_true, Nat.reduceEqDiff, Nat.reduceLeDiff, Nat.reduceLT, Nat.reduceAdd, Nat.reduceMul, Nat.reduceSub, false_or, or_false, true_or, or_true, false_and, and_false, reduceCtorEq, q_n0, q_n1, q_em, q_em2, q_b0, q_b1, Classical.not_not]
theorem m174x (o : TOK B n m) {k : Nat} (z : MX h B n k) (d : Nat) (F : Po) : cwp true d 174 [.ref 101] h F = F (some (.int (nI 0))) h := by
  have := o.p400 k
  unfold MX at z
  simp (disch := omega) only [e174, r174_0, r174_1, r174_4, r174_5, r174_8, r174_9, r174_12, r174_13, z, q_nm, kdC, kdM, rpC, rpM, q_rs, q_rn, Option.toList_some, Option.toList_none, List.cons_append, List.nil_append, true_and, and_true, eq_self, ↓reduceIte, not_true_eq_false, not_false_eq_true, Nat.reduceEqDiff, Nat.reduceLeDiff, Nat.reduceLT, Nat.reduceAdd, Nat.reduceMul, Nat.reduceSub, false_or, or_false, true_or, or_true, false_and, and_false, reduceCtorEq, q_n0, q_n1, q_em, q_em2, q_b0, q_b1, Classical.not_not]
theorem m175 (o : TOK B n m) (hj : j ≤ m) (z : MS h B n m j p) (d : Nat) (F : Po) : cwp true (d + 1) 175 [.ref 101] h F = F none (sI h 101 16 (nI (tpl B n j))) := by
  have h3 := (z.2.2.2 j (by omega)).2.2
  have := o.m400
  simp (disch := omega) only [e175, r175_0, r175_1, r175_4, r175_7, r175_8, r175_9, r175_12, r175_13, r175_16, r175_17, r175_20, m174 z, z.1, h3, kdC, kdM, rpC, rpM, q_rs, q_rn, Option.toList_some, Option.toList_none, List.cons_append, List.nil_append, true_and, and_true, eq_self, ↓reduceIte, not_true_eq_false, not_false_eq_true, Nat.reduceEqDiff, Nat.reduceLeDiff, Nat.reduceLT, Nat.reduceAdd, Nat.reduceMul, Nat.reduceSub, false_or, or_false, true_or, or_true, false_and, and_false, reduceCtorEq, q_n0, q_n1, q_em, q_em2, q_b0, q_b1, Classical.not_not, nI_add, pk_mul, nI_clamp, q_vp, nI_eq, nI_leI, nI_ltI, q_sub, show j < 401 by omega]
theorem m175x (o : TOK B n m) {k : Nat} (z : MX h B n k) (d : Nat) (F : Po) : cwp true (d + 1) 175 [.ref 101] h F = F none h := by
  simp (disch := omega) only [e175, r175_0, r175_1, r175_4, r175_7, r175_8, r175_9, r175_12, r175_13, r175_16, r175_17, r175_20, m174x o z, kdC, kdM, rpC, rpM, q_rs, q_rn, Option.toList_some, Option.toList_none, List.cons_append, List.nil_append, true_and, and_true, eq_self, ↓reduceIte, not_true_eq_false, not_false_eq_true, Nat.reduceEqDiff, Nat.reduceLeDiff, Nat.reduceLT, Nat.reduceAdd, Nat.reduceMul, Nat.reduceSub, false_or, or_false, true_or, or_true, false_and, and_false, reduceCtorEq, q_n0, q_n1, q_em, q_em2, q_b0, q_b1, Classical.not_not]
theorem MX_f : MX (sI h 101 16 (nI (tpl B n j))) B n j := q_gs _ _ _ _
theorem m176y (o : TOK B n m) (hj : j ≤ m) (z : MS h B n m j p) {c : Int32} (hc : mcJ B n j = c) (d : Nat) (F : Po) : cwp true (d + 1) 176 [.ref 101, .int c] h F = F (some (.int (nI 1))) (sI h 101 14 (nI (j + 1))) := by
  have h1 := (z.2.2.2 j (by omega)).1
  have := o.m400
  simp (disch := omega) only [e176, r176_0, r176_1, r176_4, r176_7, r176_8, r176_11, r176_12, r176_15, r176_16, r176_17, r176_20, r176_21, r176_24, r176_25, r176_26, r176_27, r176_30, r176_31, r176_32, r176_35, r176_36, r176_37, r176_40, r176_41, m174 z, z.1, h1, hc, kdC, kdM, rpC, rpM, q_rs, q_rn, Option.toList_some, Option.toList_none, List.cons_append, List.nil_append, true_and, and_true, eq_self, ↓reduceIte, not_true_eq_false, not_false_eq_true, Nat.reduceEqDiff, Nat.reduceLeDiff, Nat.reduceLT, Nat.reduceAdd, Nat.reduceMul, Nat.reduceSub, false_or, or_false, true_or, or_true, false_and, and_false, reduceCtorEq, q_n0, q_n1, q_em, q_em2, q_b0, q_b1, Classical.not_not, nI_add, pk_mul, nI_clamp, q_vp, nI_eq, nI_leI, nI_ltI, q_sub, show j < 401 by omega]
theorem m176n (o : TOK B n m) (hj : j ≤ m) (z : MS h B n m j p) {c : Int32} (hc : ¬ mcJ B n j = c) (d : Nat) (F : Po) : cwp true (d + 1) 176 [.ref 101, .int c] h F = F (some (.int (nI 0))) h := by
  have h1 := (z.2.2.2 j (by omega)).1
  have := o.m400
  simp (disch := omega) only [e176, r176_0, r176_1, r176_4, r176_7, r176_8, r176_11, r176_12, r176_15, r176_16, r176_17, r176_20, r176_21, r176_24, r176_25, r176_26, r176_27, r176_30, r176_31, r176_32, r176_35, r176_36, r176_37, r176_40, r176_41, m174 z, z.1, h1, hc, kdC, kdM, rpC, rpM, q_rs, q_rn, Option.toList_some, Option.toList_none, List.cons_append, List.nil_append, true_and, and_true, eq_self, ↓reduceIte, not_true_eq_false, not_false_eq_true, Nat.reduceEqDiff, Nat.reduceLeDiff, Nat.reduceLT, Nat.reduceAdd, Nat.reduceMul, Nat.reduceSub, false_or, or_false, true_or, or_true, false_and, and_false, reduceCtorEq, q_n0, q_n1, q_em, q_em2, q_b0, q_b1, Classical.not_not, nI_add, pk_mul, nI_clamp, q_vp, nI_eq, nI_leI, nI_ltI, q_sub, show j < 401 by omega]
theorem m176x (o : TOK B n m) {k : Nat} (z : MX h B n k) (c : Int32) (d : Nat) (F : Po) : cwp true (d + 1) 176 [.ref 101, .int c] h F = F (some (.int (nI 0))) h := by
  simp (disch := omega) only [e176, r176_0, r176_1, r176_4, r176_7, r176_8, r176_11, r176_12, r176_15, r176_16, r176_17, r176_20, r176_21, r176_24, r176_25, r176_26, r176_27, r176_30, r176_31, r176_32, r176_35, r176_36, r176_37, r176_40, r176_41, m174x o z, kdC, kdM, rpC, rpM, q_rs, q_rn, Option.toList_some, Option.toList_none, List.cons_append, List.nil_append, true_and, and_true, eq_self, ↓reduceIte, not_true_eq_false, not_false_eq_true, Nat.reduceEqDiff, Nat.reduceLeDiff, Nat.reduceLT, Nat.reduceAdd, Nat.reduceMul, Nat.reduceSub, false_or, or_false, true_or, or_true, false_and, and_false, reduceCtorEq, q_n0, q_n1, q_em, q_em2, q_b0, q_b1, Classical.not_not]
theorem m177y (o : TOK B n m) (hj : j ≤ m) (z : MS h B n m j p) {c : Int32} (hc : mcJ B n j = c) (d : Nat) (F : Po) : cwp true (d + 2) 177 [.ref 101, .int c] h F = F none (sI h 101 14 (nI (j + 1))) := by
  have h1 := fun F d => m176y o hj z hc d F
  simp (disch := omega) only [e177, r177_0, r177_1, r177_2, r177_5, r177_8, r177_9, r177_12, h1, kdC, kdM, rpC, rpM, q_rs, q_rn, Option.toList_some, Option.toList_none, List.cons_append, List.nil_append, true_and, and_true, eq_self, ↓reduceIte, not_true_eq_false, not_false_eq_true, Nat.reduceEqDiff, Nat.reduceLeDiff, Nat.reduceLT, Nat.reduceAdd, Nat.reduceMul, Nat.reduceSub, false_or, or_false, true_or, or_true, false_and, and_false, reduceCtorEq, q_n0, q_n1, q_em, q_em2, q_b0, q_b1, Classical.not_not]
theorem m177n (o : TOK B n m) (hj : j ≤ m) (z : MS h B n m j p) {c : Int32} (hc : ¬ mcJ B n j = c) (d : Nat) (F : Po) : cwp true (d + 2) 177 [.ref 101, .int c] h F = F none (sI h 101 16 (nI (tpl B n j))) := by
  have h1 := fun F d => m176n o hj z hc d F
  have h2 := fun F d => m175 o hj z d F
  simp (disch := omega) only [e177, r177_0, r177_1, r177_2, r177_5, r177_8, r177_9, r177_12, h1, h2, kdC, kdM, rpC, rpM, q_rs, q_rn, Option.toList_some, Option.toList_none, List.cons_append, List.nil_append, true_and, and_true, eq_self, ↓reduceIte, not_true_eq_false, not_false_eq_true, Nat.reduceEqDiff, Nat.reduceLeDiff, Nat.reduceLT, Nat.reduceAdd, Nat.reduceMul, Nat.reduceSub, false_or, or_false, true_or, or_true, false_and, and_false, reduceCtorEq, q_n0, q_n1, q_em, q_em2, q_b0, q_b1, Classical.not_not]
theorem m177x (o : TOK B n m) {k : Nat} (z : MX h B n k) (c : Int32) (d : Nat) (F : Po) : cwp true (d + 2) 177 [.ref 101, .int c] h F = F none h := by
  have h1 := fun F d => m176x o z c d F
  have h2 := fun F d => m175x o z d F
  simp (disch := omega) only [e177, r177_0, r177_1, r177_2, r177_5, r177_8, r177_9, r177_12, h1, h2, kdC, kdM, rpC, rpM, q_rs, q_rn, Option.toList_some, Option.toList_none, List.cons_append, List.nil_append, true_and, and_true, eq_self, ↓reduceIte, not_true_eq_false, not_false_eq_true, Nat.reduceEqDiff, Nat.reduceLeDiff, Nat.reduceLT, Nat.reduceAdd, Nat.reduceMul, Nat.reduceSub, false_or, or_false, true_or, or_true, false_and, and_false, reduceCtorEq, q_n0, q_n1, q_em, q_em2, q_b0, q_b1, Classical.not_not]
theorem m179 (c : Nat) (d : Nat) (F : Po) : cwp true d 179 [.int (nI c)] h F = F (some (.int (nI (100 + c)))) h := by
  simp (disch := omega) only [e179, r179_0, r179_2, r179_3, r179_4, kdC, kdM, rpC, rpM, q_rs, q_rn, Option.toList_some, Option.toList_none, List.cons_append, List.nil_append, true_and, and_true, eq_self, ↓reduceIte, not_true_eq_false, not_false_eq_true, Nat.reduceEqDiff, Nat.reduceLeDiff, Nat.reduceLT, Nat.reduceAdd, Nat.reduceMul, Nat.reduceSub, false_or, or_false, true_or, or_true, false_and, and_false, reduceCtorEq, q_n0, q_n1, q_em, q_em2, q_b0, q_b1, Classical.not_not, nI_add, pk_mul, nI_clamp, q_vp, nI_eq, nI_leI, nI_ltI, q_sub]
/-- a leaf: taken, or one too many -/
theorem m178y (o : TOK B n m) (hj : j < m) (z : MS h B n m j p) (hp : p < 50) : ∃ h', FrS psS h h' ∧ MS h' B n m (j + 1) (p + 1) ∧ ∀ d F, cwp true (d + 2) 178 [.ref 101] h F = F none h' := by
  have := o.m400
  obtain ⟨z1, z2, z3, z4⟩ := z
  have x1 : FrS psS h (sI h 101 15 (nI (p + 1))) := (FrS.refl h).sI _ rfl
  have zm : MS (sI h 101 15 (nI (p + 1))) B n m j (p + 1) := ⟨by rw [q_gm (by omega)]; exact z1, q_gs _ _ _ _, by rw [q_gm (by omega)]; exact z3, TKS_ps x1 z4⟩
  refine ⟨sI (sI h 101 15 (nI (p + 1))) 101 14 (nI (j + 1)), x1.sI _ rfl, MS_t zm, fun d F => ?_⟩
  have h1 := fun F d => m174 zm d F
  have g14 := zm.1
  simp (disch := omega) only [e178, r178_0, r178_1, r178_4, r178_6, r178_9, r178_10, r178_13, r178_14, r178_15, r178_18, r178_19, r178_20, r178_23, r178_24, r178_27, r178_30, r178_31, r178_32, r178_35, r178_36, r178_37, r178_40, z2, h1, g14, kdC, kdM, rpC, rpM, q_rs, q_rn, Option.toList_some, Option.toList_none, List.cons_append, List.nil_append, true_and, and_true, eq_self, ↓reduceIte, not_true_eq_false, not_false_eq_true, Nat.reduceEqDiff, Nat.reduceLeDiff, Nat.reduceLT, Nat.reduceAdd, Nat.reduceMul, Nat.reduceSub, false_or, or_false, true_or, or_true, false_and, and_false, reduceCtorEq, q_n0, q_n1, q_em, q_em2, q_b0, q_b1, Classical.not_not, nI_add, pk_mul, nI_clamp, q_vp, nI_eq, nI_leI, nI_ltI, q_sub, show ¬ p = 50 by omega]
theorem m178n (o : TOK B n m) (hj : j < m) (z : MS h B n m j 50) : ∃ h', FrS psS h h' ∧ MX h' B n j ∧ ∀ d F, cwp true (d + 2) 178 [.ref 101] h F = F none h' := by
  have h2 := fun F d => m175 o (by omega) z d F
  have g15 : gI (sI h 101 16 (nI (tpl B n j))) 101 15 = nI 50 := by rw [q_gm (by omega)]; exact z.2.1
  have zx : MX (sI (sI h 101 16 (nI (tpl B n j))) 101 15 (nI 51)) B n j := by unfold MX; rw [q_gm (by omega), q_gs]
  refine ⟨sI (sI h 101 16 (nI (tpl B n j))) 101 15 (nI 51), ((FrS.refl h).sI _ rfl).sI _ rfl, zx, fun d F => ?_⟩
  have h1 := fun F d => m174x o zx d F
  simp (disch := omega) only [e178, r178_0, r178_1, r178_4, r178_6, r178_9, r178_10, r178_13, r178_14, r178_15, r178_18, r178_19, r178_20, r178_23, r178_24, r178_27, r178_30, r178_31, r178_32, r178_35, r178_36, r178_37, r178_40, z.2.1, h2, g15, h1, kdC, kdM, rpC, rpM, q_rs, q_rn, Option.toList_some, Option.toList_none, List.cons_append, List.nil_append, true_and, and_true, eq_self, ↓reduceIte, not_true_eq_false, not_false_eq_true, Nat.reduceEqDiff, Nat.reduceLeDiff, Nat.reduceLT, Nat.reduceAdd, Nat.reduceMul, Nat.reduceSub, false_or, or_false, true_or, or_true, false_and, and_false, reduceCtorEq, q_n0, q_n1, q_em, q_em2, q_b0, q_b1, Classical.not_not, nI_add, pk_mul, nI_clamp, q_vp, nI_eq, nI_leI, nI_ltI, q_sub]
end MR
/-- the class reads token j -/
def RC (h : Hp) (B : Nat → Int32) (n j p z cn : Nat) : Prop := RT h B n j ∧ gI h 76 7 = nI p ∧ gI h 76 9 = nI z ∧ gI h 76 11 = nI cn
def rcS (a i : Nat) : Bool := (Nat.beq a 76 && Nat.ble 3 i) || Nat.beq a 78
theorem av_rc {h h' : Hp} (x : FrS avS h h') : FrS rcS h h' := x.mono (fun a i e => by
  unfold rcS at e
  unfold avS
  cases q : Nat.beq a 76 with
  | false => rfl
  | true =>
    rw [q] at e
    cases q2 : Nat.ble 3 i with
    | false => rfl
    | true => rw [q2] at e; cases e)
/-- one step: what it does, with what -/
def stp (w op : Nat) : Int32 := nI (16 * w + op)
theorem stp_i {w op : Nat} (hw : w < 1000000) (ho : op < 16) : nI w <<< (nI 4 &&& 31) ||| nI op = stp w op := by
  rw [n_shl (by omega) (by omega), n_or]
  unfold stp
  congr 1
  have := Nat.shiftLeft_add_eq_or_of_lt (show op < 2 ^ 4 from ho) w
  rw [Nat.shiftLeft_eq] at this
  omega
theorem stp_o {w op : Nat} (ho : op < 16) : vop (stp w op) = op := by
  unfold vop stp
  rw [n_and, show (15 : Nat) = 2 ^ 4 - 1 from rfl, Nat.and_two_pow_sub_one_eq_mod, show (16 * w + op) % 2 ^ 4 = op by omega, nI_clamp (by omega)]
theorem stp_w {w op : Nat} (hw : w < 1000000) (ho : op < 16) : vwi (stp w op) = nI w := by
  unfold vwi stp
  rw [n_shr (by omega) (by omega), show (16 * w + op) / 2 ^ 4 = w by omega]
theorem stp_p {w op : Nat} (hw : w < 1000000) (ho : op < 16) : ¬ stp w op < nI 0 := by
  unfold stp
  rw [nI_ltI (by omega) (by omega)]
  omega
/-- a step is added -/
def em (h : Hp) (z : Nat) (x : Int32) : Hp := sI (sI h 78 z x) 76 9 (nI (z + 1))
section CR
variable {h : Hp} {B : Nat → Int32} {n m j p z cn : Nat}
theorem c42 (o : TOK B n m) (r : RC h B n j p z cn) {u : Nat} (hu : u < 128) (d : Nat) (F : Po) : cwp true d 42 [.ref 76, .int (nI u)] h F = F (some (.int (bz (tg B n j = 1000 + u)))) h := by
  have h4 := r.1.2.1
  have hk := kd_s o j hu
  by_cases c : tg B n j = 1000 + u
  · rw [q_bt c]
    have c' : kdI (tg B n j) = nI (1000 + u) := by rw [hk]; exact c
    simp (disch := omega) only [e42, r42_0, r42_1, r42_4, r42_7, r42_8, r42_9, r42_12, r42_13, r42_16, r42_17, h4, c', kdC, kdM, rpC, rpM, q_rs, q_rn, Option.toList_some, Option.toList_none, List.cons_append, List.nil_append, true_and, and_true, eq_self, ↓reduceIte, not_true_eq_false, not_false_eq_true, Nat.reduceEqDiff, Nat.reduceLeDiff, Nat.reduceLT, Nat.reduceAdd, Nat.reduceMul, Nat.reduceSub, false_or, or_false, true_or, or_true, false_and, and_false, reduceCtorEq, q_n0, q_n1, q_em, q_em2, q_b0, q_b1, Classical.not_not, nI_add, pk_mul, nI_clamp, q_vp, nI_eq, nI_leI, nI_ltI, q_sub]
  · rw [q_bf c]
    have c' : ¬ kdI (tg B n j) = nI (1000 + u) := by rw [hk]; exact c
    simp (disch := omega) only [e42, r42_0, r42_1, r42_4, r42_7, r42_8, r42_9, r42_12, r42_13, r42_16, r42_17, h4, c', kdC, kdM, rpC, rpM, q_rs, q_rn, Option.toList_some, Option.toList_none, List.cons_append, List.nil_append, true_and, and_true, eq_self, ↓reduceIte, not_true_eq_false, not_false_eq_true, Nat.reduceEqDiff, Nat.reduceLeDiff, Nat.reduceLT, Nat.reduceAdd, Nat.reduceMul, Nat.reduceSub, false_or, or_false, true_or, or_true, false_and, and_false, reduceCtorEq, q_n0, q_n1, q_em, q_em2, q_b0, q_b1, Classical.not_not, nI_add, pk_mul, nI_clamp, q_vp, nI_eq, nI_leI, nI_ltI, q_sub]
theorem c47 (hz9 : gI h 76 9 = nI z) (hz : z < 400) {w op : Nat} (hw : w < 1000000) (ho : op < 16) (d : Nat) (F : Po) : cwp true d 47 [.ref 76, .int (nI op), .int (nI w)] h F = F (some (.int (nI z))) (em h z (stp w op)) := by
  have g9 : gI (sI h 78 z (stp w op)) 76 9 = nI z := by rw [q_gn (by omega)]; exact hz9
  unfold em
  simp (disch := omega) only [e47, r47_0, r47_1, r47_4, r47_5, r47_6, r47_7, r47_10, r47_11, r47_14, r47_15, r47_18, r47_19, r47_20, r47_21, r47_22, r47_23, r47_24, r47_25, r47_26, r47_27, r47_30, r47_31, r47_32, r47_35, r47_36, hz9, stp_i hw ho, g9, kdC, kdM, rpC, rpM, q_rs, q_rn, Option.toList_some, Option.toList_none, List.cons_append, List.nil_append, true_and, and_true, eq_self, ↓reduceIte, not_true_eq_false, not_false_eq_true, Nat.reduceEqDiff, Nat.reduceLeDiff, Nat.reduceLT, Nat.reduceAdd, Nat.reduceMul, Nat.reduceSub, false_or, or_false, true_or, or_true, false_and, and_false, reduceCtorEq, q_n0, q_n1, q_em, q_em2, q_b0, q_b1, Classical.not_not, nI_add, pk_mul, nI_clamp, q_vp, nI_eq, nI_leI, nI_ltI, q_sub, show ¬ 400 ≤ z by omega, hz]
theorem em_x (x : Int32) : FrS rcS h (em h z x) := ((FrS.refl h).sI _ rfl).sI _ rfl
theorem em_r (r : RC h B n j p z cn) (x : Int32) : RC (em h z x) B n j p (z + 1) cn := by
  obtain ⟨⟨⟨r1, r2, r3⟩, r4, r5, r6⟩, r7, r8, r9⟩ := r
  unfold em
  exact ⟨⟨⟨by rw [q_gm (by omega), q_gn (by omega)]; exact r1, fun i hi => by rw [q_gn (by omega), q_gn (by omega)]; exact r2 i hi, by rw [q_gm (by omega), q_gn (by omega)]; exact r3⟩, by rw [q_gm (by omega), q_gn (by omega)]; exact r4, by rw [q_gm (by omega), q_gn (by omega)]; exact r5, fun u => by rw [q_gm (by omega), q_gn (by omega)]; exact r6 u⟩, by rw [q_gm (by omega), q_gn (by omega)]; exact r7, q_gs _ _ _ _, by rw [q_gm (by omega), q_gn (by omega)]; exact r9⟩
theorem em_g (x : Int32) (i : Nat) : gI (em h z x) 78 i = if i = z then x else gI h 78 i := by
  unfold em
  rw [q_gn (by omega), q_gi]
  by_cases e : i = z
  · rw [if_pos ⟨rfl, e⟩, if_pos e]
  · rw [if_neg (fun u => e u.2), if_neg e]
/-- advancing by one token -/
theorem c43r (o : TOK B n m) (r : RC h B n j p z cn) : ∃ h', FrS avS h h' ∧ RC h' B n (j + 1) p z cn ∧ gI h' 78 = gI h 78 ∧ ∀ d F, cwp true (d + 1) 43 [.ref 76] h F = F none h' := by
  obtain ⟨h', a1, a2, a3⟩ := c43 o.1 o.2.1 r.1.1
  refine ⟨h', a1, ⟨a2, ?_, ?_, ?_⟩, a1.G (fun _ => rfl), a3⟩
  · rw [a1.g (a := 76) (i := 7) rfl]; exact r.2.1
  · rw [a1.g (a := 76) (i := 9) rfl]; exact r.2.2.1
  · rw [a1.g (a := 76) (i := 11) rfl]; exact r.2.2.2
/-- + - * / as steps -/
def opT (x : Nat) : Option Nat := if x = 1043 then some 2 else if x = 1045 then some 3 else if x = 1042 then some 4 else if x = 1047 then some 5 else none
def opI (x : Option Nat) : Int32 := match x with
  | none => -1
  | some k => nI k
theorem c55n (d : Nat) (F : Po) : cwp true (d + 1) 55 [.ref 76, .int (-1)] h F = F none h := by
  simp (disch := omega) only [e55, r55_0, r55_1, r55_2, r55_5, r55_6, r55_7, r55_8, r55_11, r55_12, kdC, kdM, rpC, rpM, q_rs, q_rn, Option.toList_some, Option.toList_none, List.cons_append, List.nil_append, true_and, and_true, eq_self, ↓reduceIte, not_true_eq_false, not_false_eq_true, Nat.reduceEqDiff, Nat.reduceLeDiff, Nat.reduceLT, Nat.reduceAdd, Nat.reduceMul, Nat.reduceSub, false_or, or_false, true_or, or_true, false_and, and_false, reduceCtorEq, q_n0, q_n1, q_em, q_em2, q_b0, q_b1, Classical.not_not]
theorem c55s (hz9 : gI h 76 9 = nI z) (hz : z < 400) {op : Nat} (ho : op < 16) (d : Nat) (F : Po) : cwp true (d + 1) 55 [.ref 76, .int (nI op)] h F = F none (em h z (stp 0 op)) := by
  have h1 := fun F d => c47 hz9 hz (w := 0) (by omega) ho d F
  simp (disch := omega) only [e55, r55_0, r55_1, r55_2, r55_5, r55_6, r55_7, r55_8, r55_11, r55_12, h1, q_nm, kdC, kdM, rpC, rpM, q_rs, q_rn, Option.toList_some, Option.toList_none, List.cons_append, List.nil_append, true_and, and_true, eq_self, ↓reduceIte, not_true_eq_false, not_false_eq_true, Nat.reduceEqDiff, Nat.reduceLeDiff, Nat.reduceLT, Nat.reduceAdd, Nat.reduceMul, Nat.reduceSub, false_or, or_false, true_or, or_true, false_and, and_false, reduceCtorEq, q_n0, q_n1, q_em, q_em2, q_b0, q_b1, Classical.not_not]
end CR
