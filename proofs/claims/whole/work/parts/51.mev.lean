/-! the model reads tokens -/
def mst (h : Hp) (go : Nat) (br : Bool) : Hp := sA h 101 (upd (upd (gI h 101) 17 (nI go)) 19 (sB br))
section MS
variable (h : Hp) (g : Nat) (b : Bool)
theorem mst_17 (g' : Nat) : sI (mst h g b) 101 17 (nI g') = mst h g' b := by
  unfold mst
  rw [q_sIs]
  congr 1
  funext i
  unfold upd
  repeat' split
  all_goals first | rfl | omega
theorem mst_19 (b' : Bool) : sI (mst h g b) 101 19 (sB b') = mst h g b' := by
  unfold mst
  rw [q_sIs]
  congr 1
  funext i
  unfold upd
  repeat' split
  all_goals first | rfl | omega
theorem mst_190 : sI (mst h g b) 101 19 (nI 0) = mst h g false := mst_19 h g b false
theorem mst_191 : sI (mst h g b) 101 19 (nI 1) = mst h g true := mst_19 h g b true
theorem mst_g17 : gI (mst h g b) 101 17 = nI g := by unfold mst; rw [q_ga]; rfl
theorem mst_g19 : gI (mst h g b) 101 19 = sB b := by unfold mst; rw [q_ga]; rfl
theorem mst_g {i : Nat} (h1 : i ≠ 17) (h2 : i ≠ 19) : gI (mst h g b) 101 i = gI h 101 i := by
  unfold mst
  rw [q_ga, pk_un h2, pk_un h1]
theorem mst_n {a : Nat} (ha : a ≠ 101) : gI (mst h g b) a = gI h a := by
  unfold mst
  rw [q_gan ha]
end MS
theorem c179 (h : Hp) (d a : Nat) (F : Po) : cwp true d 179 [.int (nI a)] h F = F (some (.int (nI (100 + a)))) h := by
  simp only [e179, r179_0, r179_2, r179_3, r179_4, kdC, kdM, rpC, rpM, q_rs, q_rn, Option.toList_some, Option.toList_none, List.cons_append, List.nil_append, true_and, and_true, eq_self, ↓reduceIte, not_true_eq_false, not_false_eq_true, Nat.reduceEqDiff, Nat.reduceLeDiff, Nat.reduceLT, Nat.reduceAdd, Nat.reduceMul, Nat.reduceSub, false_or, or_false, true_or, or_true, false_and, and_false, reduceCtorEq, q_n0, q_n1, q_em, q_em2, q_b0, q_b1, Classical.not_not, nI_add]
/-- where a loop stands goes on -/
theorem q_wh_mono {α : Type} {f : α → Option (α ⊕ α)} {m : α → Nat} (h1 : ∀ s s', f s = some (.inl s') → m s ≤ m s') (h2 : ∀ s s', f s = some (.inr s') → m s ≤ m s') : ∀ k s r, q_wh f k s = some r → m s ≤ m r
  | 0, s, r, e => by cases e
  | k + 1, s, r, e => by
    unfold q_wh at e
    cases q : f s with
    | none => rw [q] at e; cases e
    | some z =>
      rw [q] at e
      cases z with
      | inl s' => exact Nat.le_trans (h1 s s' q) (q_wh_mono h1 h2 k s' r e)
      | inr s' => cases e; exact h2 s _ q
section ME
variable (c v : Nat → Int32) (e : Nat) (env : Nat → Int32)
theorem ev_0 (n : Nat) (live : Bool) (go : Nat) (br : Bool) : ev c v e env (n + 1) 0 live go br = (ev c v e env n 1 live go br).bind (fun r => q_wh (fsum c e (ev c v e env n 1) live) 401 r) := by rw [ev]
theorem ev_1 (n : Nat) (live : Bool) (go : Nat) (br : Bool) : ev c v e env (n + 1) 1 live go br = (ev c v e env n 2 live go br).bind (fun r => q_wh (fterm c e (ev c v e env n 2) live) 401 r) := by rw [ev]
theorem ev_2 (n : Nat) (live : Bool) (go : Nat) (br : Bool) : ev c v e env (n + 1) 2 live go br = fpart c v e env (ev c v e env n 0) live go br := by rw [ev]
theorem ev_3 (n : Nat) (live : Bool) (go : Nat) (br : Bool) : ev c v e env (n + 1) 3 live go br = (ev c v e env n 4 live go br).bind (fun r => q_wh (ftest c e (ev c v e env n 4) live) 401 r) := by rw [ev]
theorem ev_4 (n : Nat) (live : Bool) (go : Nat) (br : Bool) : ev c v e env (n + 1) 4 live go br = (ev c v e env n 5 live go br).bind (fun r => q_wh (fboth c e (ev c v e env n 5) live) 401 r) := by rw [ev]
theorem ev_5 (n : Nat) (live : Bool) (go : Nat) (br : Bool) : ev c v e env (n + 1) 5 live go br = (q_wh (fnot c e) 401 (false, go)).bind (fun s => (ev c v e env n 6 live s.2 br).map (fun t => (lN 0, xor t.2.1 s.1, t.2.2.1, t.2.2.2))) := by rw [ev]
theorem ev_6 (n : Nat) (live : Bool) (go : Nat) (br : Bool) : ev c v e env (n + 1) 6 live go br = fpos c e (ev c v e env n 3) (ev c v e env n 0) live go br := by
  rw [ev] <;> intro q <;> omega
variable {c v e env}
theorem omap {α β : Type} {x : Option α} {f : α → β} {y : β} (q : x.map f = some y) : ∃ t, x = some t ∧ f t = y := by
  cases x with
  | none => cases q
  | some t => cases q; exact ⟨t, rfl, rfl⟩
theorem obind {α β : Type} {x : Option α} {f : α → Option β} {y : β} (q : x.bind f = some y) : ∃ t, x = some t ∧ f t = some y := by
  cases x with
  | none => cases q
  | some t => exact ⟨t, rfl, q⟩
theorem fsum_m {n : Nat} (ih : ∀ live go br r, ev c v e env n 1 live go br = some r → go ≤ r.2.2.1) (live : Bool) : ∀ k s r, q_wh (fsum c e (ev c v e env n 1) live) k s = some r → s.2.2.1 ≤ r.2.2.1 := by
  refine q_wh_mono (m := fun s : ER => s.2.2.1) ?_ ?_
  · intro s s' q
    unfold fsum at q
    split at q
    · obtain ⟨t, q1, q2⟩ := omap q
      cases q2
      have := ih _ _ _ _ q1
      show s.2.2.1 ≤ t.2.2.1
      omega
    · cases q
  · intro s s' q
    unfold fsum at q
    split at q
    · obtain ⟨t, q1, q2⟩ := omap q
      cases q2
    · cases q; exact Nat.le_refl _
theorem fterm_m {n : Nat} (ih : ∀ live go br r, ev c v e env n 2 live go br = some r → go ≤ r.2.2.1) (live : Bool) : ∀ k s r, q_wh (fterm c e (ev c v e env n 2) live) k s = some r → s.2.2.1 ≤ r.2.2.1 := by
  refine q_wh_mono (m := fun s : ER => s.2.2.1) ?_ ?_
  · intro s s' q
    unfold fterm at q
    split at q
    · obtain ⟨t, q1, q2⟩ := omap q
      have := ih _ _ _ _ q1
      cases q2; show s.2.2.1 ≤ t.2.2.1; omega
    · split at q
      · obtain ⟨t, q1, q2⟩ := omap q
        have := ih _ _ _ _ q1
        split at q2
        · cases q2; show s.2.2.1 ≤ t.2.2.1; omega
        · cases q2; show s.2.2.1 ≤ t.2.2.1; omega
      · cases q
  · intro s s' q
    unfold fterm at q
    split at q
    · obtain ⟨t, q1, q2⟩ := omap q
      cases q2
    · split at q
      · obtain ⟨t, q1, q2⟩ := omap q
        split at q2 <;> cases q2
      · cases q; exact Nat.le_refl _
theorem ftest_m {n : Nat} (ih : ∀ live go br r, ev c v e env n 4 live go br = some r → go ≤ r.2.2.1) (live : Bool) : ∀ k s r, q_wh (ftest c e (ev c v e env n 4) live) k s = some r → s.2.2.1 ≤ r.2.2.1 := by
  refine q_wh_mono (m := fun s : ER => s.2.2.1) ?_ ?_
  · intro s s' q
    unfold ftest at q
    split at q
    · obtain ⟨t, q1, q2⟩ := omap q
      cases q2
      have := ih _ _ _ _ q1
      show s.2.2.1 ≤ t.2.2.1
      omega
    · cases q
  · intro s s' q
    unfold ftest at q
    split at q
    · obtain ⟨t, q1, q2⟩ := omap q
      cases q2
    · cases q; exact Nat.le_refl _
theorem fboth_m {n : Nat} (ih : ∀ live go br r, ev c v e env n 5 live go br = some r → go ≤ r.2.2.1) (live : Bool) : ∀ k s r, q_wh (fboth c e (ev c v e env n 5) live) k s = some r → s.2.2.1 ≤ r.2.2.1 := by
  refine q_wh_mono (m := fun s : ER => s.2.2.1) ?_ ?_
  · intro s s' q
    unfold fboth at q
    split at q
    · obtain ⟨t, q1, q2⟩ := omap q
      cases q2
      have := ih _ _ _ _ q1
      show s.2.2.1 ≤ t.2.2.1
      omega
    · cases q
  · intro s s' q
    unfold fboth at q
    split at q
    · obtain ⟨t, q1, q2⟩ := omap q
      cases q2
    · cases q; exact Nat.le_refl _
theorem fnot_m : ∀ k s r, q_wh (fnot c e) k s = some r → s.2 ≤ r.2 := by
  refine q_wh_mono (m := fun s : Bool × Nat => s.2) ?_ ?_
  · intro s s' q
    unfold fnot at q
    split at q
    · cases q; show s.2 ≤ s.2 + 1; omega
    · cases q
  · intro s s' q
    unfold fnot at q
    split at q
    · cases q
    · cases q; exact Nat.le_refl _
theorem ev_mono : ∀ n tag live go br r, tag ≤ 6 → ev c v e env n tag live go br = some r → go ≤ r.2.2.1
  | 0, tag, live, go, br, r, ht, q => by cases q
  | n + 1, tag, live, go, br, r, ht, q => by
    have ih : ∀ tag live go br r, tag ≤ 6 → ev c v e env n tag live go br = some r → go ≤ r.2.2.1 := fun tag live go br r => ev_mono n tag live go br r
    rcases (show tag = 0 ∨ tag = 1 ∨ tag = 2 ∨ tag = 3 ∨ tag = 4 ∨ tag = 5 ∨ tag = 6 by omega) with rfl | rfl | rfl | rfl | rfl | rfl | rfl
    · rw [ev_0] at q
      obtain ⟨t, q1, q2⟩ := obind q
      have h1 := ih 1 _ _ _ _ (by omega) q1
      have h2 := fsum_m (fun live go br r => ih 1 live go br r (by omega)) live _ _ _ q2
      omega
    · rw [ev_1] at q
      obtain ⟨t, q1, q2⟩ := obind q
      have h1 := ih 2 _ _ _ _ (by omega) q1
      have h2 := fterm_m (fun live go br r => ih 2 live go br r (by omega)) live _ _ _ q2
      omega
    · rw [ev_2] at q
      unfold fpart at q
      split at q
      · obtain ⟨t, q1, q2⟩ := omap q
        have h1 := ih 0 _ _ _ _ (by omega) q1
        cases q2
        show go ≤ t.2.2.1 + 1
        omega
      · split at q
        · cases q; show go ≤ go + 1; omega
        · split at q
          · cases q; show go ≤ go + 1; omega
          · split at q
            · cases q; show go ≤ go + 1; omega
            · cases q
    · rw [ev_3] at q
      obtain ⟨t, q1, q2⟩ := obind q
      have h1 := ih 4 _ _ _ _ (by omega) q1
      have h2 := ftest_m (fun live go br r => ih 4 live go br r (by omega)) live _ _ _ q2
      omega
    · rw [ev_4] at q
      obtain ⟨t, q1, q2⟩ := obind q
      have h1 := ih 5 _ _ _ _ (by omega) q1
      have h2 := fboth_m (fun live go br r => ih 5 live go br r (by omega)) live _ _ _ q2
      omega
    · rw [ev_5] at q
      obtain ⟨s, q1, q2⟩ := obind q
      obtain ⟨t, q3, q4⟩ := omap q2
      have h1 := fnot_m _ _ _ q1
      have h2 := ih 6 _ _ _ _ (by omega) q3
      cases q4
      show go ≤ t.2.2.1
      have h3 : (false, go).2 = go := rfl
      omega
    · rw [ev_6] at q
      unfold fpos at q
      split at q
      · obtain ⟨t, q1, q2⟩ := omap q
        have h1 := ih 3 _ _ _ _ (by omega) q1
        cases q2
        show go ≤ t.2.2.1 + 1
        omega
      · obtain ⟨s, q1, q2⟩ := obind q
        obtain ⟨t, q3, q4⟩ := omap q2
        have h1 := ih 0 _ _ _ _ (by omega) q1
        have h2 := ih 0 _ _ _ _ (by omega) q3
        cases q4
        show go ≤ t.2.2.1
        omega
end ME
