/-! how far reading goes; asks -/
theorem q_wh_inv {α : Type} {f : α → Option (α ⊕ α)} {P : α → Prop} (h1 : ∀ s s', P s → f s = some (.inl s') → P s') (h2 : ∀ s s', P s → f s = some (.inr s') → P s') : ∀ k s r, P s → q_wh f k s = some r → P r
  | 0, s, r, _, e => by cases e
  | k + 1, s, r, p, e => by
    unfold q_wh at e
    obtain ⟨z, q1, q2⟩ := obind e
    cases z with
    | inl s' => exact q_wh_inv h1 h2 k s' r (h1 s s' p q1) q2
    | inr s' => cases q2; exact h2 s _ p q1
section BD
variable {c v : Nat → Int32} {e : Nat} {env : Nat → Int32}
theorem cda_lt {k m : Nat} (hm : 0 < m) (hm2 : m < 1000) (q : cda c e k = nI m) : k < e := by
  by_cases z : k < e
  · exact z
  · unfold cda at q
    rw [if_neg z, nI_eq (by omega) (by omega)] at q
    omega
theorem ev_bd : ∀ n tag live go br r, tag ≤ 6 → ev c v e env n tag live go br = some r → (tag ≤ 2 → r.2.2.1 ≤ max go e + n) ∧ r.2.2.1 ≤ max go e + 3 * n
  | 0, tag, live, go, br, r, ht, q => by cases q
  | n + 1, tag, live, go, br, r, ht, q => by
    have ih : ∀ tag live go br r, tag ≤ 6 → ev c v e env n tag live go br = some r → (tag ≤ 2 → r.2.2.1 ≤ max go e + n) ∧ r.2.2.1 ≤ max go e + 3 * n := fun tag live go br r => ev_bd n tag live go br r
    rcases (show tag = 0 ∨ tag = 1 ∨ tag = 2 ∨ tag = 3 ∨ tag = 4 ∨ tag = 5 ∨ tag = 6 by omega) with rfl | rfl | rfl | rfl | rfl | rfl | rfl
    · rw [ev_0] at q
      obtain ⟨t, q1, q2⟩ := obind q
      have h1 := (ih 1 _ _ _ _ (by omega) q1).1 (by omega)
      have h2 : r.2.2.1 ≤ max go e + n := by
        refine q_wh_inv (P := fun s : ER => s.2.2.1 ≤ max go e + n) ?_ ?_ _ _ _ h1 q2
        · intro s s' p z
          unfold fsum at z
          split at z
          · rename_i hc
            obtain ⟨t', z1, z2⟩ := omap z
            have hlt : s.2.2.1 < e := hc.elim (cda_lt (by omega) (by omega)) (cda_lt (by omega) (by omega))
            have := (ih 1 _ _ _ _ (by omega) z1).1 (by omega)
            cases z2
            show t'.2.2.1 ≤ max go e + n
            omega
          · cases z
        · intro s s' p z
          unfold fsum at z
          split at z
          · obtain ⟨t', z1, z2⟩ := omap z; cases z2
          · cases z; exact p
      exact ⟨fun _ => by omega, by omega⟩
    · rw [ev_1] at q
      obtain ⟨t, q1, q2⟩ := obind q
      have h1 := (ih 2 _ _ _ _ (by omega) q1).1 (by omega)
      have h2 : r.2.2.1 ≤ max go e + n := by
        refine q_wh_inv (P := fun s : ER => s.2.2.1 ≤ max go e + n) ?_ ?_ _ _ _ h1 q2
        · intro s s' p z
          unfold fterm at z
          split at z
          · rename_i hc
            obtain ⟨t', z1, z2⟩ := omap z
            have hlt : s.2.2.1 < e := cda_lt (by omega) (by omega) hc
            have := (ih 2 _ _ _ _ (by omega) z1).1 (by omega)
            cases z2
            show t'.2.2.1 ≤ max go e + n
            omega
          · split at z
            · rename_i _ hc
              obtain ⟨t', z1, z2⟩ := omap z
              have hlt : s.2.2.1 < e := cda_lt (by omega) (by omega) hc
              have := (ih 2 _ _ _ _ (by omega) z1).1 (by omega)
              split at z2
              · cases z2; show t'.2.2.1 ≤ max go e + n; omega
              · cases z2; show t'.2.2.1 ≤ max go e + n; omega
            · cases z
        · intro s s' p z
          unfold fterm at z
          split at z
          · obtain ⟨t', z1, z2⟩ := omap z; cases z2
          · split at z
            · obtain ⟨t', z1, z2⟩ := omap z
              split at z2 <;> cases z2
            · cases z; exact p
      exact ⟨fun _ => by omega, by omega⟩
    · rw [ev_2] at q
      unfold fpart at q
      split at q
      · rename_i hc
        obtain ⟨t, q1, q2⟩ := omap q
        have hlt : go < e := cda_lt (by omega) (by omega) hc
        have h1 := (ih 0 _ _ _ _ (by omega) q1).1 (by omega)
        cases q2
        show (2 ≤ 2 → t.2.2.1 + 1 ≤ max go e + (n + 1)) ∧ t.2.2.1 + 1 ≤ max go e + 3 * (n + 1)
        omega
      · split at q
        · cases q; show (2 ≤ 2 → go + 1 ≤ max go e + (n + 1)) ∧ go + 1 ≤ max go e + 3 * (n + 1); omega
        · split at q
          · cases q; show (2 ≤ 2 → go + 1 ≤ max go e + (n + 1)) ∧ go + 1 ≤ max go e + 3 * (n + 1); omega
          · split at q
            · cases q; show (2 ≤ 2 → go + 1 ≤ max go e + (n + 1)) ∧ go + 1 ≤ max go e + 3 * (n + 1); omega
            · cases q
    · rw [ev_3] at q
      obtain ⟨t, q1, q2⟩ := obind q
      have h1 := (ih 4 _ _ _ _ (by omega) q1).2
      have h2 : r.2.2.1 ≤ max go e + 3 * n := by
        refine q_wh_inv (P := fun s : ER => s.2.2.1 ≤ max go e + 3 * n) ?_ ?_ _ _ _ h1 q2
        · intro s s' p z
          unfold ftest at z
          split at z
          · rename_i hc
            obtain ⟨t', z1, z2⟩ := omap z
            have hlt : s.2.2.1 < e := cda_lt (by omega) (by omega) hc
            have := (ih 4 _ _ _ _ (by omega) z1).2
            cases z2
            show t'.2.2.1 ≤ max go e + 3 * n
            omega
          · cases z
        · intro s s' p z
          unfold ftest at z
          split at z
          · obtain ⟨t', z1, z2⟩ := omap z; cases z2
          · cases z; exact p
      exact ⟨fun _ => by omega, by omega⟩
    · rw [ev_4] at q
      obtain ⟨t, q1, q2⟩ := obind q
      have h1 := (ih 5 _ _ _ _ (by omega) q1).2
      have h2 : r.2.2.1 ≤ max go e + 3 * n := by
        refine q_wh_inv (P := fun s : ER => s.2.2.1 ≤ max go e + 3 * n) ?_ ?_ _ _ _ h1 q2
        · intro s s' p z
          unfold fboth at z
          split at z
          · rename_i hc
            obtain ⟨t', z1, z2⟩ := omap z
            have hlt : s.2.2.1 < e := cda_lt (by omega) (by omega) hc
            have := (ih 5 _ _ _ _ (by omega) z1).2
            cases z2
            show t'.2.2.1 ≤ max go e + 3 * n
            omega
          · cases z
        · intro s s' p z
          unfold fboth at z
          split at z
          · obtain ⟨t', z1, z2⟩ := omap z; cases z2
          · cases z; exact p
      exact ⟨fun _ => by omega, by omega⟩
    · rw [ev_5] at q
      obtain ⟨s, q1, q2⟩ := obind q
      obtain ⟨t, q3, q4⟩ := omap q2
      have h1 := (ih 6 _ _ _ _ (by omega) q3).2
      have h2 : s.2 ≤ max go e := by
        refine q_wh_inv (P := fun s : Bool × Nat => s.2 ≤ max go e) ?_ ?_ _ _ _ (show go ≤ max go e by omega) q1
        · intro s s' p z
          unfold fnot at z
          split at z
          · rename_i hc
            have hlt : s.2 < e := cda_lt (by omega) (by omega) hc
            cases z
            show s.2 + 1 ≤ max go e
            omega
          · cases z
        · intro s s' p z
          unfold fnot at z
          split at z
          · cases z
          · cases z; exact p
      cases q4
      show (5 ≤ 2 → t.2.2.1 ≤ max go e + (n + 1)) ∧ t.2.2.1 ≤ max go e + 3 * (n + 1)
      omega
    · rw [ev_6] at q
      unfold fpos at q
      split at q
      · rename_i hc
        obtain ⟨t, q1, q2⟩ := omap q
        have hlt : go < e := cda_lt (by omega) (by omega) hc
        have h1 := (ih 3 _ _ _ _ (by omega) q1).2
        cases q2
        show (6 ≤ 2 → t.2.2.1 + 1 ≤ max go e + (n + 1)) ∧ t.2.2.1 + 1 ≤ max go e + 3 * (n + 1)
        omega
      · obtain ⟨s, q1, q2⟩ := obind q
        obtain ⟨t, q3, q4⟩ := omap q2
        have h1 := (ih 0 _ _ _ _ (by omega) q1).1 (by omega)
        have h2 := (ih 0 _ _ _ _ (by omega) q3).1 (by omega)
        cases q4
        show (6 ≤ 2 → t.2.2.1 ≤ max go e + (n + 1)) ∧ t.2.2.1 ≤ max go e + 3 * (n + 1)
        omega
end BD
/-- what was told stands -/
def tld (h : Hp) (o : Option Int64) : Hp := sJ (sI h 101 22 (sB o.isSome)) 101 21 (o.getD (lN 0))
section TL
variable (h : Hp)
theorem mst_22 (g : Nat) (b : Bool) (x : Int32) : sI (mst h g b) 101 22 x = mst (sI h 101 22 x) g b := by
  unfold mst
  rw [q_sIs, q_gsu, q_sIA h 101 22 x, q_sAA]
  congr 1
  funext i
  unfold upd
  repeat' split
  all_goals first | rfl | omega
theorem mst_J (g : Nat) (b : Bool) (w : Int64) : sJ (mst h g b) 101 21 w = mst (sJ h 101 21 w) g b := rfl
theorem sJ_J (x y : Int64) : sJ (sJ h 101 21 x) 101 21 y = sJ h 101 21 y := by
  unfold sJ
  have : up2 (gJ (hz h, hu h, hk h, gI h, up2 (gJ h) 101 21 x, gP h)) 101 21 y = up2 (gJ h) 101 21 y := by
    funext a i
    unfold up2 gJ
    by_cases q : a = 101 ∧ i = 21
    · rw [if_pos q, if_pos q]
    · rw [if_neg q, if_neg q]
      exact if_neg q
  rw [this]
  rfl
theorem sI_J (x : Int32) (y : Int64) : sI (sJ h 101 21 y) 101 22 x = sJ (sI h 101 22 x) 101 21 y := rfl
theorem tld_s (o : Option Int64) (y : Int64) : sI (sJ (tld h o) 101 21 y) 101 22 (nI 1) = tld h (some y) := by
  unfold tld
  rw [sJ_J, sI_J, q_sII]
  rfl
theorem tld_r {K : Nat → Int32} {e : Nat} (H : rdH h K e) (o : Option Int64) : rdH (tld h o) K e := by
  obtain ⟨h1, h2, h3⟩ := H
  refine ⟨?_, ?_, h3⟩
  · unfold tld; rw [q_gIJ, q_gn (by omega)]; exact h1
  · unfold tld; rw [q_gIJ, q_gm (by omega)]; exact h2
theorem tld_w (o : Option Int64) : gI (tld h o) 112 = gI h 112 := by
  unfold tld; rw [q_gIJ, q_gn (by omega)]
end TL
section AS
variable {h : Hp} {K : Nat → Int32} {e : Nat}
def fask (c v : Nat → Int32) (e : Nat) (env : Nat → Int32) (hd : Int32) (s : Nat × Option Int64) : Option ((Nat × Option Int64) ⊕ (Nat × Option Int64)) :=
  if s.1 < e then (ecl c v e env s.1).map (fun t => .inl (t.2.2.2, if t.2.2.1 ∧ t.1 = hd then some t.2.1 else s.2)) else some (.inr s)
theorem mAsk_eq (c v : Nat → Int32) (e : Nat) (env : Nat → Int32) (hd : Int32) (go : Nat) : mAsk c v e env hd go = (q_wh (fask c v e env hd) 401 (go, none)).map (fun s => s.2) := by
  unfold mAsk
  rfl
theorem ecl_bd {c v : Nat → Int32} {e : Nat} {env : Nat → Int32} {go : Nat} {r : Int32 × Int64 × Bool × Nat} (hg : go < e) (q : ecl c v e env go = some r) : r.2.2.2 ≤ e + 300 := by
  unfold ecl at q
  obtain ⟨s, q1, q2⟩ := obind q
  obtain ⟨t, q3, q4⟩ := omap q2
  have hs : s.2.2.1 ≤ e + 64 := by
    split at q1
    · cases q1; show go + 1 ≤ e + 64; omega
    · have := (ev_bd _ _ _ _ _ _ (by omega) q1).1 (by omega); omega
  have ht : t.2.2.1 ≤ e + 299 := by
    split at q3
    · have := (ev_bd _ _ _ _ _ _ (by omega) q3).2; omega
    · cases q3; show s.2.2.1 ≤ e + 299; omega
  cases q4
  show t.2.2.1 + 1 ≤ e + 300
  omega
theorem L200 (H : rdH h K e) (t0 hd : Int32) : ∀ k s r, q_wh (fask (cK K) (vK K) e (gI h 112) hd) k s = some r → s.1 ≤ 4400 → ∀ br, ∃ g b, ∀ d F (v3 v4 v5 v6 v7 : Value), wp true (d + 67) 200 38 [.ref 101, .int t0, .int hd, v3, v4, v5, v6, v7] [] (mst (tld h s.2) s.1 br) F = F none (mst (tld h r.2) g b)
  | 0, s, r, q, hs, br => by cases q
  | k + 1, s, r, q, hs, br => by
    have he := H.2.2
    unfold q_wh at q
    obtain ⟨zz, q1, q2⟩ := obind q
    have g18 : ∀ o g b, gI (mst (tld h o) g b) 101 18 = nI e := fun o g b => by rw [mst_g _ _ _ (by omega) (by omega)]; exact (tld_r h H o).2.1
    by_cases hg : s.1 < e
    · rw [fask, if_pos hg] at q1
      obtain ⟨y, y1, y2⟩ := omap q1
      subst y2
      have hbd := ecl_bd hg y1
      obtain ⟨g, b, ih⟩ := L200 H t0 hd k _ r q2 (show y.2.2.2 ≤ 4400 by omega) ((fun (_ : Unit) => false) ())
      have ihb := fun br => L200 H t0 hd k _ r q2 (show y.2.2.2 ≤ 4400 by omega) br
      unfold ecl at y1
      obtain ⟨u, u1, u2⟩ := obind y1
      obtain ⟨w, w1, w2⟩ := omap u2
      have H' := tld_r h H s.2
      have hw := tld_w h s.2
      obtain ⟨A0, _, _, A3, _, _, _⟩ := E_all H' 64
      unfold EvP at A0 A3
      rw [hw] at A0 A3
      have hub : u.2.2.1 ≤ e + 64 := by
        split at u1
        · cases u1; show s.1 + 1 ≤ e + 64; omega
        · have := (ev_bd _ _ _ _ _ _ (by omega) u1).1 (by omega); omega
      have hwb : w.2.2.1 ≤ e + 299 := by
        split at w1
        · have := (ev_bd _ _ _ _ _ _ (by omega) w1).2; omega
        · cases w1; show u.2.2.1 ≤ e + 299; omega
      have h190 := m190 H' (k := s.1) (by omega)
      have h191 := m191 H' (g := u.2.2.1) (by omega) (nI 5)
      have S1 : ∀ d F (v3 v4 v5 v6 v7 : Value), wp true (d + 67) 200 38 [.ref 101, .int t0, .int hd, v3, v4, v5, v6, v7] [] (mst (tld h s.2) s.1 br) F = wp true (d + 67) 200 100 [.ref 101, .int t0, .int hd, .int (cda (cK K) e s.1), .long u.1, jn, .int (sB u.2.2.2), v7] [] (mst (tld h s.2) u.2.2.1 false) F := by
        intro d F v3 v4 v5 v6 v7
        rw [r200_38]
        by_cases c4 : cda (cK K) e s.1 = nI 4
        · simp only [c4, ↓reduceIte] at u1
          cases u1
          simp (disch := omega) only [r200_39, r200_42, r200_43, r200_46, r200_49, r200_50, r200_51, r200_54, r200_55, r200_56, r200_59, r200_62, r200_63, r200_64, r200_65, r200_68, r200_69, r200_70, r200_73, r200_74, r200_75, r200_78, r200_79, r200_82, r200_83, r200_84, r200_87, r200_89, r200_90, r200_93, r200_95, r200_96, r200_97, h190, kdC, kdM, rpC, rpM, q_rs, q_rn, Option.toList_some, Option.toList_none, List.cons_append, List.nil_append, true_and, and_true, eq_self, ↓reduceIte, not_true_eq_false, not_false_eq_true, Nat.reduceEqDiff, Nat.reduceLeDiff, Nat.reduceLT, Nat.reduceAdd, Nat.reduceMul, Nat.reduceSub, false_or, or_false, true_or, or_true, false_and, and_false, reduceCtorEq, q_n0, q_n1, q_em, q_em2, q_b0, q_b1, Classical.not_not, nI_add, pk_mul, nI_clamp, q_vp, nI_eq, nI_leI, nI_ltI, q_sub, mst_g17, mst_g19, g18, mst_17, mst_190, c4, sB, show ¬ e ≤ s.1 by omega]
        · simp only [c4, ↓reduceIte] at u1
          have E := fun F => A0 true (s.1 + 1) false u u1 (by omega) d F
          simp only [sB, rL] at E
          simp (disch := omega) only [r200_39, r200_42, r200_43, r200_46, r200_49, r200_50, r200_51, r200_54, r200_55, r200_56, r200_59, r200_62, r200_63, r200_64, r200_65, r200_68, r200_69, r200_70, r200_73, r200_74, r200_75, r200_78, r200_79, r200_82, r200_83, r200_84, r200_87, r200_89, r200_90, r200_93, r200_95, r200_96, r200_97, h190, E, kdC, kdM, rpC, rpM, q_rs, q_rn, Option.toList_some, Option.toList_none, List.cons_append, List.nil_append, true_and, and_true, eq_self, ↓reduceIte, not_true_eq_false, not_false_eq_true, Nat.reduceEqDiff, Nat.reduceLeDiff, Nat.reduceLT, Nat.reduceAdd, Nat.reduceMul, Nat.reduceSub, false_or, or_false, true_or, or_true, false_and, and_false, reduceCtorEq, q_n0, q_n1, q_em, q_em2, q_b0, q_b1, Classical.not_not, nI_add, pk_mul, nI_clamp, q_vp, nI_eq, nI_leI, nI_ltI, q_sub, mst_g17, mst_g19, g18, mst_17, mst_190, c4, sBok, show ¬ e ≤ s.1 by omega]
      have S2 : ∀ d F (v7 : Value), wp true (d + 67) 200 100 [.ref 101, .int t0, .int hd, .int (cda (cK K) e s.1), .long u.1, jn, .int (sB u.2.2.2), v7] [] (mst (tld h s.2) u.2.2.1 false) F = wp true (d + 67) 200 123 [.ref 101, .int t0, .int hd, .int (cda (cK K) e s.1), .long u.1, jn, .int (sB u.2.2.2), .int (sB w.2.1)] [] (mst (tld h s.2) w.2.2.1 w.2.2.2) F := by
        intro d F v7
        by_cases c5 : cda (cK K) e u.2.2.1 = nI 5
        · simp only [c5, ↓reduceIte] at w1
          have E := fun F => A3 true (u.2.2.1 + 1) false w w1 (by omega) d F
          cases ew : w.2.1 <;> simp only [sB, rZ, ew] at E <;>
          simp (disch := omega) only [r200_100, r200_101, r200_102, r200_105, r200_108, r200_109, r200_110, r200_113, r200_116, r200_117, r200_120, r200_121, h191, E, kdC, kdM, rpC, rpM, q_rs, q_rn, Option.toList_some, Option.toList_none, List.cons_append, List.nil_append, true_and, and_true, eq_self, ↓reduceIte, not_true_eq_false, not_false_eq_true, Nat.reduceEqDiff, Nat.reduceLeDiff, Nat.reduceLT, Nat.reduceAdd, Nat.reduceMul, Nat.reduceSub, false_or, or_false, true_or, or_true, false_and, and_false, reduceCtorEq, q_n0, q_n1, q_em, q_em2, q_b0, q_b1, Classical.not_not, nI_add, pk_mul, nI_clamp, q_vp, nI_eq, nI_leI, nI_ltI, q_sub, c5, sB]
        · simp only [c5, ↓reduceIte] at w1
          cases w1
          simp (disch := omega) only [r200_100, r200_101, r200_102, r200_105, r200_108, r200_109, r200_110, r200_113, r200_116, r200_117, r200_120, r200_121, h191, kdC, kdM, rpC, rpM, q_rs, q_rn, Option.toList_some, Option.toList_none, List.cons_append, List.nil_append, true_and, and_true, eq_self, ↓reduceIte, not_true_eq_false, not_false_eq_true, Nat.reduceEqDiff, Nat.reduceLeDiff, Nat.reduceLT, Nat.reduceAdd, Nat.reduceMul, Nat.reduceSub, false_or, or_false, true_or, or_true, false_and, and_false, reduceCtorEq, q_n0, q_n1, q_em, q_em2, q_b0, q_b1, Classical.not_not, nI_add, pk_mul, nI_clamp, q_vp, nI_eq, nI_leI, nI_ltI, q_sub, c5, sB]
      subst w2
      by_cases hk : (w.2.1 && !w.2.2.2 && !u.2.2.2) = true ∧ cda (cK K) e s.1 = hd
      · obtain ⟨g', b', ih'⟩ := ihb w.2.2.2
        refine ⟨g', b', fun d F v3 v4 v5 v6 v7 => ?_⟩
        rw [S1, S2]
        simp only [Bool.and_eq_true, Bool.not_eq_true'] at hk
        obtain ⟨⟨⟨k1, k2⟩, k3⟩, k4⟩ := hk
        simp only [k1, k2, k3, k4, Bool.not_false, Bool.and_true, and_self, ↓reduceIte] at ih'
        simp (disch := omega) only [r200_123, r200_125, r200_128, r200_129, r200_132, r200_135, r200_137, r200_140, r200_141, r200_142, r200_145, r200_146, r200_149, r200_150, r200_152, r200_153, r200_154, r200_157, r200_158, r200_159, r200_162, r200_164, r200_167, r200_170, r200_171, r200_173, r200_176, r200_177, r200_178, r200_181, kdC, kdM, rpC, rpM, q_rs, q_rn, Option.toList_some, Option.toList_none, List.cons_append, List.nil_append, true_and, and_true, eq_self, ↓reduceIte, not_true_eq_false, not_false_eq_true, Nat.reduceEqDiff, Nat.reduceLeDiff, Nat.reduceLT, Nat.reduceAdd, Nat.reduceMul, Nat.reduceSub, false_or, or_false, true_or, or_true, false_and, and_false, reduceCtorEq, q_n0, q_n1, q_em, q_em2, q_b0, q_b1, Classical.not_not, nI_add, pk_mul, nI_clamp, q_vp, nI_eq, nI_leI, nI_ltI, q_sub, mst_g17, mst_g19, mst_17, mst_J, mst_22, tld_s, k1, k2, k3, k4, sB]
        exact ih' d F _ _ _ _ _
      · obtain ⟨g', b', ih'⟩ := ihb w.2.2.2
        refine ⟨g', b', fun d F v3 v4 v5 v6 v7 => ?_⟩
        rw [S1, S2]
        rw [if_neg hk] at ih'
        cases k1 : w.2.1 <;> cases k2 : w.2.2.2 <;> cases k3 : u.2.2.2 <;> rw [k1, k2, k3] at hk <;> rw [k2] at ih' <;>
        first
        | (simp (disch := omega) only [r200_123, r200_125, r200_128, r200_129, r200_132, r200_135, r200_137, r200_140, r200_141, r200_142, r200_145, r200_146, r200_149, r200_150, r200_152, r200_153, r200_154, r200_157, r200_158, r200_159, r200_162, r200_164, r200_167, r200_170, r200_171, r200_173, r200_176, r200_177, r200_178, r200_181, kdC, kdM, rpC, rpM, q_rs, q_rn, Option.toList_some, Option.toList_none, List.cons_append, List.nil_append, true_and, and_true, eq_self, ↓reduceIte, not_true_eq_false, not_false_eq_true, Nat.reduceEqDiff, Nat.reduceLeDiff, Nat.reduceLT, Nat.reduceAdd, Nat.reduceMul, Nat.reduceSub, false_or, or_false, true_or, or_true, false_and, and_false, reduceCtorEq, q_n0, q_n1, q_em, q_em2, q_b0, q_b1, Classical.not_not, nI_add, pk_mul, nI_clamp, q_vp, nI_eq, nI_leI, nI_ltI, q_sub, mst_g17, mst_g19, mst_17, sB]
           exact ih' d F _ _ _ _ _)
        | (have k4 : ¬ cda (cK K) e s.1 = hd := fun z => hk ⟨rfl, z⟩
           simp (disch := omega) only [r200_123, r200_125, r200_128, r200_129, r200_132, r200_135, r200_137, r200_140, r200_141, r200_142, r200_145, r200_146, r200_149, r200_150, r200_152, r200_153, r200_154, r200_157, r200_158, r200_159, r200_162, r200_164, r200_167, r200_170, r200_171, r200_173, r200_176, r200_177, r200_178, r200_181, kdC, kdM, rpC, rpM, q_rs, q_rn, Option.toList_some, Option.toList_none, List.cons_append, List.nil_append, true_and, and_true, eq_self, ↓reduceIte, not_true_eq_false, not_false_eq_true, Nat.reduceEqDiff, Nat.reduceLeDiff, Nat.reduceLT, Nat.reduceAdd, Nat.reduceMul, Nat.reduceSub, false_or, or_false, true_or, or_true, false_and, and_false, reduceCtorEq, q_n0, q_n1, q_em, q_em2, q_b0, q_b1, Classical.not_not, nI_add, pk_mul, nI_clamp, q_vp, nI_eq, nI_leI, nI_ltI, q_sub, mst_g17, mst_g19, mst_17, sB, k4]
           exact ih' d F _ _ _ _ _)
    · rw [fask, if_neg hg] at q1
      cases q1
      cases q2
      refine ⟨s.1, br, fun d F v3 v4 v5 v6 v7 => ?_⟩
      rw [r200_38]
      simp (disch := omega) only [r200_39, r200_42, r200_43, r200_46, r200_49, r200_50, r200_51, r200_54, r200_55, r200_56, r200_59, r200_62, r200_63, r200_64, r200_65, r200_68, r200_69, r200_70, r200_73, r200_74, r200_75, r200_78, r200_79, r200_82, r200_83, r200_84, r200_87, r200_89, r200_90, r200_93, r200_95, r200_96, r200_97, r200_100, r200_101, r200_102, r200_105, r200_108, r200_109, r200_110, r200_113, r200_116, r200_117, r200_120, r200_121, r200_123, r200_125, r200_128, r200_129, r200_132, r200_135, r200_137, r200_140, r200_141, r200_142, r200_145, r200_146, r200_149, r200_150, r200_152, r200_153, r200_154, r200_157, r200_158, r200_159, r200_162, r200_164, r200_167, r200_170, r200_171, r200_173, r200_176, r200_177, r200_178, r200_181, r200_184, kdC, kdM, rpC, rpM, q_rs, q_rn, Option.toList_some, Option.toList_none, List.cons_append, List.nil_append, true_and, and_true, eq_self, ↓reduceIte, not_true_eq_false, not_false_eq_true, Nat.reduceEqDiff, Nat.reduceLeDiff, Nat.reduceLT, Nat.reduceAdd, Nat.reduceMul, Nat.reduceSub, false_or, or_false, true_or, or_true, false_and, and_false, reduceCtorEq, q_n0, q_n1, q_em, q_em2, q_b0, q_b1, Classical.not_not, nI_add, pk_mul, nI_clamp, q_vp, nI_eq, nI_leI, nI_ltI, q_sub, mst_g17, g18, show e ≤ s.1 by omega]
end AS
