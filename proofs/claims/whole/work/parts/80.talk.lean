/-! class and model talk alike -/
section TA
variable {K : Nat → Int32} {T : Tk} {σ wf : Nat → Nat} {m : Nat}
theorem cnt_T : ∀ n, cntT (fun _ => True) n = n
  | 0 => rfl
  | n + 1 => by rw [cnt_s, cnt_T n, pif_T]
theorem foI_id (x : foI K (nI 0) (nt K) m wf) : m = nt K ∧ ∀ i, i < m → wf i = i := by
  obtain ⟨x1, x2, x3, x4, x5⟩ := x
  have hm : m = nt K := by
    have := x5 (fun _ => True)
    rw [cnt_T, cnt_cg (nt K) (Q := fun _ => True) (fun t _ => ⟨fun _ => trivial, fun _ => ⟨Or.inl rfl, trivial⟩⟩), cnt_T] at this
    exact this
  have lo : ∀ i, i < m → i ≤ wf i := by
    intro i
    induction i with
    | zero => intro _; omega
    | succ i ih => intro hi; have := ih (by omega); have := x3 i (i + 1) (by omega) hi; omega
  have hi : ∀ k i, i + k + 1 = m → wf i ≤ i := by
    intro k
    induction k with
    | zero => intro i e; have := x2 i (by omega); omega
    | succ k ih => intro i e; have h1 := ih (i + 1) (by omega); have h2 := x3 i (i + 1) (by omega) (by omega); omega
  exact ⟨hm, fun i h1 => by have h2 := lo i h1; have h3 := hi (m - i - 1) i (by omega); omega⟩
theorem ex_sent {x : Int32} {s : Nat} (hs : s < ns K) (hx : x = -1) (h12 : ns K ≤ 12) : exP K x s ↔ (sbt K (ns K)).testBit s = true := by
  rw [sbt_bit]
  unfold exP
  subst hx
  constructor
  · rintro (q | q)
    · exact ⟨hs, q⟩
    · rw [q_nm (by omega)] at q; exact q.elim
  · rintro ⟨_, q⟩; exact Or.inl q
theorem hd_md (hσ : isTurn K σ) (h12 : ns K ≤ 12) (t : Nat) : ∀ i, i ≤ ns K → hdD K T σ (-1) t i = mdD K T σ (sbt K (ns K)) t i
  | 0, _ => rfl
  | i + 1, hi => by
    unfold hdD mdD
    rw [hd_md hσ h12 t i (by omega), propext (ex_sent (hσ.1 i (by omega)) rfl h12)]
theorem lp_cg {α : Type} {f g : Nat → α → α} : ∀ k i s, (∀ j s, i ≤ j → j < i + k → f j s = g j s) → q_lp f k i s = q_lp g k i s
  | 0, _, _, _ => rfl
  | k + 1, i, s, hh => by
    show q_lp f k (i + 1) (f i s) = q_lp g k (i + 1) (g i s)
    rw [hh i s (by omega) (by omega), lp_cg k (i + 1) _ (fun j s h1 h2 => hh j s (by omega) (by omega))]
theorem hf_mf (hσ : isTurn K σ) (h12 : ns K ≤ 12) (hm : m = nt K) (hw : ∀ i, i < m → wf i = i) : ∀ i, i ≤ ns K → hdF K σ (-1) m wf i = mdF K σ (sbt K (ns K)) i
  | 0, _ => rfl
  | i + 1, hi => by
    unfold hdF mdF
    rw [hf_mf hσ h12 hm hw i (by omega), propext (ex_sent (hσ.1 i (by omega)) rfl h12)]
    have hq : ∀ fp, q_lp (fpW K (σ i) wf) m 0 fp = q_lp (fpW K (σ i) (fun t => t)) (nt K) 0 fp := by
      intro fp
      rw [← hm]
      exact lp_cg m 0 fp (fun j s _ hj => by unfold fpW; rw [hw j (by omega)])
    rw [hq]
end TA
