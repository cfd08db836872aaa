/-! equations of wp for a step that branches, that checks, that ends, that calls -/
section OPS
variable {μ : Bool} {d M pc : Nat} {ls st : List Value} {h : Hp} {Q : Po}
theorem wp_br (cc : Prop) [inst : Decidable cc] {p1 p2 : Nat} {l1 l2 s1 s2 : List Value} {g1 g2 : Hp} (hr : res μ M pc ls st h = pif cc (some (.inl (p1, l1, s1, g1))) (some (.inl (p2, l2, s2, g2)))) : wp μ d M pc ls st h Q = if cc then wp μ d M p1 l1 s1 g1 Q else wp μ d M p2 l2 s2 g2 Q := by
  by_cases hc : cc
  · rw [if_pos hc]; rw [pif_t hc] at hr; exact wp_nx hr
  · rw [if_neg hc]; rw [pif_f hc] at hr; exact wp_nx hr
theorem wp_ck (cc : Prop) {p1 : Nat} {l1 s1 : List Value} {g1 : Hp} (hr : res μ M pc ls st h = pif cc (some (.inl (p1, l1, s1, g1))) none) : wp μ d M pc ls st h Q = (cc ∧ wp μ d M p1 l1 s1 g1 Q) := by
  by_cases hc : cc
  · rw [pif_t hc] at hr; rw [wp_nx hr]; exact propext ⟨fun q => ⟨hc, q⟩, fun q => q.2⟩
  · rw [pif_f hc] at hr; rw [wp_no hr]; exact propext ⟨fun q => q.elim, fun q => absurd q.1 hc⟩
theorem wp_rc (cc : Prop) {r : Option Value} (hr : res μ M pc ls st h = pif cc (some (.inr (.inl r))) none) : wp μ d M pc ls st h Q = (cc ∧ Q r h) := by
  by_cases hc : cc
  · rw [pif_t hc] at hr; rw [wp_rt hr]; exact propext ⟨fun q => ⟨hc, q⟩, fun q => q.2⟩
  · rw [pif_f hc] at hr; rw [wp_no hr]; exact propext ⟨fun q => q.elim, fun q => absurd q.1 hc⟩
theorem wp_rT {r : Option Value} (hr : res μ M pc ls st h = pif True (some (.inr (.inl r))) none) : wp μ d M pc ls st h Q = Q r h := by
  rw [pif_t trivial] at hr
  exact wp_rt hr
theorem wp_kl {cc : Prop} {M' : Nat} {as : List Value} {pc' : Nat} {st' : List Value} (hr : res μ M pc ls st h = pif cc (some (.inr (.inr (M', as, pc', st')))) none) (hc : cc) : wp μ (d + 1) M pc ls st h Q = cwp μ d M' as h (fun r h' => wp μ (d + 1) M pc' ls (r.toList ++ st') h' Q) := by
  rw [pif_t hc] at hr
  exact wp_cl hr
theorem wp_kc (k1 k2 : Prop) {cc : Prop} {M' : Nat} {as : List Value} {pc' : Nat} {st' : List Value} (hr : res μ M pc ls st h = pif cc (some (.inr (.inr (M', as, pc', st')))) none) (hc : cc ↔ k1) : wp μ (d + 1) M pc ls st h Q = (k1 ∧ cwp μ d M' as h (fun r h' => wp μ (d + 1) M pc' ls (r.toList ++ st') h' Q)) := by
  by_cases hk : k1
  · rw [pif_t (hc.mpr hk)] at hr; rw [wp_cl hr]; exact propext ⟨fun q => ⟨hk, q⟩, fun q => q.2⟩
  · rw [pif_f (fun q => hk (hc.mp q))] at hr; rw [wp_no hr]; exact propext ⟨fun q => q.elim, fun q => absurd q.1 hk⟩
theorem wp_tI {cc : Prop} {A B : Option Rs} {p1 : Nat} {l1 s1 : List Value} {g1 : Hp} (hc : ¬ cc) (hr : res μ M pc ls st h = pif cc A B) (hB : B = some (.inl (p1, l1, s1, g1))) : wp μ d M pc ls st h Q = wp μ d M p1 l1 s1 g1 Q := by
  rw [pif_f hc, hB] at hr
  exact wp_nx hr
theorem wp_tO {cc : Prop} {A B : Option Rs} {p1 : Nat} {l1 s1 : List Value} {g1 : Hp} (hc : cc) (hr : res μ M pc ls st h = pif cc A B) (hA : A = some (.inl (p1, l1, s1, g1))) : wp μ d M pc ls st h Q = wp μ d M p1 l1 s1 g1 Q := by
  rw [pif_t hc, hA] at hr
  exact wp_nx hr
theorem wp_lO {pcx pcn : Nat} {l1 s1 : List Value} {g1 : Hp} (e : pcx = pcn) (hr : res μ M pc ls st h = some (.inl (pcx, l1, s1, g1))) : wp μ d M pc ls st h Q = wp μ d M pcn l1 s1 g1 Q := by
  subst e
  exact wp_nx hr
end OPS
theorem nz_iff (x : Int32) : narrow .boolean (.int x) = .int x ↔ x = 0 ∨ x = 1 := by
  constructor
  · intro q
    have q1 : x &&& 1 = x := by
      have q2 := q
      simp only [narrow] at q2
      exact Value.int.inj q2
    have hb : x.toBitVec &&& 1#32 = x.toBitVec := congrArg Int32.toBitVec q1
    rcases (show x.toBitVec = 0#32 ∨ x.toBitVec = 1#32 by
      have : x.toBitVec.toNat = (x.toBitVec &&& 1#32).toNat := by rw [hb]
      rw [BitVec.toNat_and] at this
      have h2 : x.toBitVec.toNat &&& (1#32).toNat = x.toBitVec.toNat % 2 := by
        show x.toBitVec.toNat &&& 1 = _
        exact Nat.and_one_is_mod _
      rw [h2] at this
      rcases (show x.toBitVec.toNat = 0 ∨ x.toBitVec.toNat = 1 by omega) with g | g
      · left; apply BitVec.eq_of_toNat_eq; rw [g]; rfl
      · right; apply BitVec.eq_of_toNat_eq; rw [g]; rfl) with g | g
    · left; exact Int32.toBitVec_inj.mp g
    · right; exact Int32.toBitVec_inj.mp g
  · rintro (rfl | rfl) <;> rfl
