/-! the law's loop, and the law -/
theorem op_n (x : Int32) : ∃ m, m < 64 ∧ x &&& nI 63 = nI m := by
  obtain ⟨j, hj, e⟩ := pk_andE x (m := nI 63) 6 (by decide)
  exact ⟨j, hj, e⟩
theorem sim_c {n d d2 M : Nat} {as ls : List Value} {h0 : Hp} {l l' : List Cl} (hd : d ≤ d2) (e : sim n d M 0 ls [] l = some l') (he : ent (lM M) as = ls) (F : Po) : cwp false d2 M as (hpC h0 l) F = F none (hpC h0 l') := by
  refine cwp_eq ?_ F
  unfold cwp
  rw [he]
  exact wp_dep hd ⟨n, sim_ok h0 n e⟩
section LP
variable {d L : Nat} {xs : Nat → Int32}
/-- how a run of the law ends that began with the n-th call and has m numbers of the script ahead -/
def lwE (L : Nat) (xs : Nat → Int32) (N : Nat) : Po := fun r h => r = some (.int (nI 1)) ∧ ∃ n, n ≤ N ∧ Inv n h ∧ OKS L xs h
theorem lw_op {n : Nat} {h : Hp} {i : Int32} {Q : Po} (z : Inv n h) (o : OKS L xs h) (v : ∀ j, j ≤ 5 → vp_in (i + nI j) L) (k : ∀ n2 h2, n2 ≤ n + 1 → Inv n2 h2 → OKS L xs h2 → wp false (d + 900 + 1) 266 1545 (lwL i) [] h2 Q) (x : Int32) : wp false (d + 900 + 1) 266 33 (lwL i) [.int (x &&& nI 63)] h Q := by
  have kk := fun h2 z2 o2 => k (n + 1) h2 (Nat.le_refl _) z2 o2
  obtain ⟨m, hm, e⟩ := op_n x
  rw [e]
  by_cases hd : 37 < m
  · have hi : (nI m).toInt = m := nI_toInt (by omega)
    rw [r266_33 _ _ _ _ _ _ _ _ _ _ (Or.inr (by rw [hi]; omega))]
    exact k n h (by omega) z o
  rcases (show m = 0 ∨ m = 1 ∨ m = 2 ∨ m = 3 ∨ m = 4 ∨ m = 5 ∨ m = 6 ∨ m = 7 ∨ m = 8 ∨ m = 9 ∨ m = 10 ∨ m = 11 ∨ m = 12 ∨ m = 13 ∨ m = 14 ∨ m = 15 ∨ m = 16 ∨ m = 17 ∨ m = 18 ∨ m = 19 ∨ m = 20 ∨ m = 21 ∨ m = 22 ∨ m = 23 ∨ m = 24 ∨ m = 25 ∨ m = 26 ∨ m = 27 ∨ m = 28 ∨ m = 29 ∨ m = 30 ∨ m = 31 ∨ m = 32 ∨ m = 33 ∨ m = 34 ∨ m = 35 ∨ m = 36 ∨ m = 37 by omega) with rfl | rfl | rfl | rfl | rfl | rfl | rfl | rfl | rfl | rfl | rfl | rfl | rfl | rfl | rfl | rfl | rfl | rfl | rfl | rfl | rfl | rfl | rfl | rfl | rfl | rfl | rfl | rfl | rfl | rfl | rfl | rfl | rfl | rfl | rfl | rfl | rfl | rfl
  · rw [r266_33c0]; exact lw_0 z o v kk
  · rw [r266_33c1]; exact lw_1 z o v kk
  · rw [r266_33c2]; exact lw_2 z o v kk
  · rw [r266_33c3]; exact lw_3 z o v kk
  · rw [r266_33c4]; exact lw_4 z o v kk
  · rw [r266_33c5]; exact lw_5 z o v kk
  · rw [r266_33c6]; exact lw_6 z o v kk
  · rw [r266_33c7]; exact lw_7 z o v kk
  · rw [r266_33c8]; exact lw_8 z o v kk
  · rw [r266_33c9]; exact lw_9 z o v kk
  · rw [r266_33c10]; exact lw_10 z o v kk
  · rw [r266_33c11]; exact lw_11 z o v kk
  · rw [r266_33c12]; exact lw_12 z o v kk
  · rw [r266_33c13]; exact lw_13 z o v kk
  · rw [r266_33c14]; exact lw_14 z o v kk
  · rw [r266_33c15]; exact lw_15 z o v kk
  · rw [r266_33c16]; exact lw_16 z o v kk
  · rw [r266_33c17]; exact lw_17 z o v kk
  · rw [r266_33c18]; exact lw_18 z o v kk
  · rw [r266_33c19]; exact lw_19 z o v kk
  · rw [r266_33c20]; exact lw_20 z o v kk
  · rw [r266_33c21]; exact lw_21 z o v kk
  · rw [r266_33c22]; exact lw_22 z o v kk
  · rw [r266_33c23]; exact lw_23 z o v kk
  · rw [r266_33c24]; exact lw_24 z o v kk
  · rw [r266_33c25]; exact lw_25 z o v kk
  · rw [r266_33c26]; exact lw_26 z o v kk
  · rw [r266_33c27]; exact lw_27 z o v kk
  · rw [r266_33c28]; exact lw_28 z o v kk
  · rw [r266_33c29]; exact lw_29 z o v kk
  · rw [r266_33c30]; exact lw_30 z o v kk
  · rw [r266_33c31]; exact lw_31 z o v kk
  · rw [r266_33c32]; exact lw_32 z o v kk
  · rw [r266_33c33]; exact lw_33 z o v kk
  · rw [r266_33c34]; exact lw_34 z o v kk
  · rw [r266_33c35]; exact lw_35 z o v kk
  · rw [r266_33c36]; exact lw_36 z o v kk
  · rw [r266_33c37]; exact lw_37 z o v kk
theorem lw_lp (hL : L ≤ 3072) : ∀ (m n k : Nat) (h : Hp), L ≤ k + m → k ≤ L + 6 → Inv n h → OKS L xs h → wp false (d + 900 + 1) 266 18 (lwL (nI k)) [] h (lwE L xs (n + m)) := by
  intro m
  induction m using Nat.strongRecOn with
  | ind m ih =>
    intro n k h h1 h2 z o
    have hk0 := o.2.2.1
    have hc : (nI L - nI 6 < nI k) ↔ L < k + 6 := by
      rw [Int32.lt_iff_toInt_lt, pk_sub_toInt (by omega) (by omega), nI_toInt (by omega)]
      omega
    by_cases hq : L < k + 6
    · have hq1 : nI L - nI 6 < nI k := hc.mpr hq
      simp only [r266_18, r266_19t, r266_20t, r266_21, r266_23, r266_24, r266_1551, r266_1552, hk0, hq1, if_true, or_true, true_and]
      exact ⟨rfl, n, by omega, z, o⟩
    · have hq1 : ¬ (nI L - nI 6 < nI k) := fun w => hq (hc.mp w)
      have v : ∀ j, j ≤ 5 → vp_in (nI k + nI j) L := fun j hj => by rw [nI_add, q_vp (by omega)]; omega
      have v0 : vp_in (nI k) L := by rw [q_vp (by omega)]; omega
      simp only [r266_18, r266_19t, r266_20t, r266_21, r266_23, r266_24, r266_27t, r266_28, r266_29t, r266_30, r266_32, hk0, hq1, if_false, v0, true_and]
      refine lw_op z o v (fun n2 h2' hn z2 o2 => ?_) _
      rw [r266_1545, r266_1548, nI_add]
      refine wp_mono ?_ (ih (m - 6) (by omega) n2 (k + 6) h2' (by omega) (by omega) z2 o2)
      rintro r hF ⟨e, n3, hn3, w⟩
      exact ⟨e, n3, by omega, w⟩
/-- the law, from a heap in which there is the script alone -/
theorem lw_all {h0 : Hp} (hL : L ≤ 3072) (h1 : hz h0 = 1) (h2 : hu h0 = 0) (h3 : hk h0 0 = (99, L)) (hE : hpC h0 [] = h0) : cwp false 901 266 [.retAddr 1] h0 (lwE L (gI h0 0) 3072) := by
  show wp false (0 + 900 + 1) 266 0 [.retAddr 1, jn, jn, jn] [] h0 _
  obtain ⟨l1, l2, e1, e2, e3, o, z⟩ := made h3 h2
  unfold mk1 at e1
  unfold mk2 at e3
  have f1 : ∀ F, cwp false (0 + 900) 86 [.ref 1] (hpC h0 [(11, 12, [], [])]) F = F none (hpC h0 l1) := sim_c (by omega) e1 rfl
  have f2 : ∀ F, cwp false (0 + 900) 146 [.ref 101] (hpC h0 (l1 ++ [(12, 35, [], [])])) F = F none (hpC h0 l2) := sim_c (by omega) e3 rfl
  have g1 : mkc h0 11 12 = hpC h0 [(11, 12, [], [])] := by
    have := hpC_mk (h0 := h0) (l := []) 11 12
    rw [hE] at this
    exact this
  have g2 : hz (hpC h0 l1) = 101 := by show l1.length + 1 = 101; omega
  simp only [r266_0, r266_3, r266_4, h1, g1, f1, Option.toList_none, List.nil_append, r266_7, r266_8, g2, hpC_mk, r266_11, r266_12, f2, r266_15, r266_16, r266_17]
  have := lw_lp (d := 0) hL 3072 0 0 (hpC h0 l2) (by omega) (by omega) z o
  rw [Nat.zero_add] at this
  exact this
end LP
