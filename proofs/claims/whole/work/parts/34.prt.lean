/-! what stands, in parts -/
section PRT
variable (h : Hp) (K : Nat → Int32)
def PF : Prop := (rg (K 376) 0 24 ∧ ∀ f, f < nf K → rg (K (9 * f)) (-40) 120 ∧ rg (K (9 * f + 1)) 0 9 ∧ rg (K (9 * f + 2)) 1 6 ∧ ∀ r, r < 6 → rg (K (9 * f + (3 + r))) (-1) 9) ∧
  gI h 3 4 = K 376 ∧ AR h K 4 24 0 9 ∧ AR h K 5 24 1 9 ∧ AR h K 6 24 2 9 ∧ ∀ f r, f < 24 → r < 6 → gI h 7 (f * 6 + r) = K (9 * f + (3 + r))
def PC : Prop := (rg (K 216) 0 600 ∧ rg (K 217) 1 12 ∧ rg (K 218) 0 100 ∧ rg (K 219) 0 99) ∧ AR h K 24 4 216 1
def PP : Prop := (rg (K 377) 0 12 ∧ ∀ p, p < np K → rg (K (220 + 2 * p)) (-40) 120 ∧ rg (K (220 + 2 * p + 1)) 0 600) ∧ gI h 8 2 = K 377 ∧ AR h K 9 12 220 2 ∧ AR h K 10 12 221 2
def PT : Prop := (rg (K 378) 0 12 ∧ ∀ t, t < nt K → rg (K (244 + 5 * t)) 0 9 ∧ rg (K (244 + 5 * t + 1)) 0 2 ∧ rg (K (244 + 5 * t + 2)) 0 1 ∧ rg (K (244 + 5 * t + 3)) 0 100 ∧ rg (K (244 + 5 * t + 4)) 0 1) ∧
  gI h 11 5 = K 378 ∧ AR h K 12 12 244 5 ∧ AR h K 13 12 245 5 ∧ AR h K 14 12 246 5 ∧ AR h K 15 12 247 5 ∧ AR h K 16 12 248 5
def PS : Prop := (rg (K 379) 0 12 ∧ ∀ s, s < ns K → (∃ t, t < nt K ∧ K (304 + 6 * s) = nI t) ∧ rg (K (304 + 6 * s + 1)) 0 400 ∧ rg (K (304 + 6 * s + 2)) 0 7 ∧ rg (K (304 + 6 * s + 3)) (-50) 50 ∧ rg (K (304 + 6 * s + 4)) 0 7 ∧ rg (K (304 + 6 * s + 5)) 0 1) ∧
  (gI h 11 13 = K 379 ∧ AR h K 17 12 304 6 ∧ AR h K 18 12 305 6 ∧ AR h K 19 12 306 6 ∧ AR h K 20 12 307 6 ∧ AR h K 21 12 308 6 ∧ AR h K 22 12 309 6) ∧ TUS h 0 K
def PX : Prop := rg (K 380) 0 10 ∧ gI h 2 5 = K 380 ∧ TXS h 0 K
end PRT
section PRU
variable {h h' : Hp} {K K' : Nat → Int32}
theorem STS_iff : STS h 0 K ↔ PF h K ∧ PC h K ∧ PP h K ∧ PT h K ∧ PS h K ∧ PX h K := by
  constructor
  · rintro ⟨⟨⟨a1, a2, a3, a4, a5⟩, b, c, p, t, s⟩, ⟨⟨d1, d2, d3, d4, d5⟩, ⟨e1, e2, e3, e4⟩, f, ⟨g1, g2⟩, ⟨j1, j2, j3, j4, j5⟩, k⟩, x, u⟩
    exact ⟨⟨⟨a1, b⟩, d1, e1, e2, e3, e4⟩, ⟨c, f⟩, ⟨⟨a2, p⟩, d2, g1, g2⟩, ⟨⟨a3, t⟩, d3, j1, j2, j3, j4, j5⟩, ⟨⟨a4, s⟩, ⟨d4, k⟩, u⟩, a5, d5, x⟩
  · rintro ⟨⟨⟨a1, b⟩, d1, e1, e2, e3, e4⟩, ⟨c, f⟩, ⟨⟨a2, p⟩, d2, g1, g2⟩, ⟨⟨a3, t⟩, d3, j1, j2, j3, j4, j5⟩, ⟨⟨a4, s⟩, ⟨d4, k⟩, u⟩, a5, d5, x⟩
    exact ⟨⟨⟨a1, a2, a3, a4, a5⟩, b, c, p, t, s⟩, ⟨⟨d1, d2, d3, d4, d5⟩, ⟨e1, e2, e3, e4⟩, f, ⟨g1, g2⟩, ⟨j1, j2, j3, j4, j5⟩, k⟩, x, u⟩
theorem AR_cg {c n b s : Nat} (hg : ∀ i, i < n → gI h' c i = gI h c i) (hk : ∀ i, i < n → K' (b + s * i) = K (b + s * i)) (z : AR h K c n b s) : AR h' K' c n b s := fun i hi => by
  rw [hg i hi, hk i hi]; exact z i hi
theorem PF_cg (hg : ∀ c i, 3 ≤ c → c ≤ 7 → gI h' c i = gI h c i) (hk : ∀ i, i < 216 ∨ i = 376 → K' i = K i) (z : PF h K) : PF h' K' := by
  obtain ⟨⟨a1, b⟩, d1, e1, e2, e3, e4⟩ := z
  have hn : nf K' = nf K := by unfold nf; rw [hk 376 (by omega)]
  have hl := (show nf K ≤ 24 by have := rg_n a1 (by omega); unfold nf; omega)
  refine ⟨⟨by rw [hk 376 (by omega)]; exact a1, ?_⟩, by rw [hg 3 4 (by omega) (by omega), hk 376 (by omega)]; exact d1, AR_cg (fun i hi => hg 4 i (by omega) (by omega)) (fun i hi => hk _ (by omega)) e1, AR_cg (fun i hi => hg 5 i (by omega) (by omega)) (fun i hi => hk _ (by omega)) e2, AR_cg (fun i hi => hg 6 i (by omega) (by omega)) (fun i hi => hk _ (by omega)) e3, ?_⟩
  · intro f hf
    rw [hn] at hf
    have := b f hf
    rw [hk _ (by omega), hk (9 * f + 1) (by omega), hk (9 * f + 2) (by omega)]
    exact ⟨this.1, this.2.1, this.2.2.1, fun r hr => by rw [hk _ (by omega)]; exact this.2.2.2 r hr⟩
  · intro f r hf hr
    rw [hg 7 _ (by omega) (by omega), hk _ (by omega)]
    exact e4 f r hf hr
theorem PC_cg (hg : ∀ i, gI h' 24 i = gI h 24 i) (hk : ∀ i, 216 ≤ i → i < 220 → K' i = K i) (z : PC h K) : PC h' K' := by
  obtain ⟨⟨a1, a2, a3, a4⟩, b⟩ := z
  exact ⟨⟨by rw [hk 216 (by omega) (by omega)]; exact a1, by rw [hk 217 (by omega) (by omega)]; exact a2, by rw [hk 218 (by omega) (by omega)]; exact a3, by rw [hk 219 (by omega) (by omega)]; exact a4⟩, AR_cg (fun i _ => hg i) (fun i hi => hk _ (by omega) (by omega)) b⟩
theorem PP_cg (h8 : gI h' 8 2 = gI h 8 2) (hg : ∀ c i, 9 ≤ c → c ≤ 10 → gI h' c i = gI h c i) (hk : ∀ i, (220 ≤ i ∧ i < 244) ∨ i = 377 → K' i = K i) (z : PP h K) : PP h' K' := by
  obtain ⟨⟨a1, b⟩, d1, e1, e2⟩ := z
  have hn : np K' = np K := by unfold np; rw [hk 377 (by omega)]
  have hl := (show np K ≤ 12 by have := rg_n a1 (by omega); unfold np; omega)
  refine ⟨⟨by rw [hk 377 (by omega)]; exact a1, ?_⟩, by rw [h8, hk 377 (by omega)]; exact d1, AR_cg (fun i hi => hg 9 i (by omega) (by omega)) (fun i hi => hk _ (by omega)) e1, AR_cg (fun i hi => hg 10 i (by omega) (by omega)) (fun i hi => hk _ (by omega)) e2⟩
  intro p hp
  rw [hn] at hp
  rw [hk _ (by omega), hk (220 + 2 * p + 1) (by omega)]
  exact b p hp
theorem PT_cg (h8 : gI h' 11 5 = gI h 11 5) (hg : ∀ c i, 12 ≤ c → c ≤ 16 → gI h' c i = gI h c i) (hk : ∀ i, (244 ≤ i ∧ i < 304) ∨ i = 378 → K' i = K i) (z : PT h K) : PT h' K' := by
  obtain ⟨⟨a1, b⟩, d1, e1, e2, e3, e4, e5⟩ := z
  have hn : nt K' = nt K := by unfold nt; rw [hk 378 (by omega)]
  have hl := (show nt K ≤ 12 by have := rg_n a1 (by omega); unfold nt; omega)
  refine ⟨⟨by rw [hk 378 (by omega)]; exact a1, ?_⟩, by rw [h8, hk 378 (by omega)]; exact d1, AR_cg (fun i hi => hg 12 i (by omega) (by omega)) (fun i hi => hk _ (by omega)) e1, AR_cg (fun i hi => hg 13 i (by omega) (by omega)) (fun i hi => hk _ (by omega)) e2, AR_cg (fun i hi => hg 14 i (by omega) (by omega)) (fun i hi => hk _ (by omega)) e3, AR_cg (fun i hi => hg 15 i (by omega) (by omega)) (fun i hi => hk _ (by omega)) e4, AR_cg (fun i hi => hg 16 i (by omega) (by omega)) (fun i hi => hk _ (by omega)) e5⟩
  intro p hp
  rw [hn] at hp
  rw [hk _ (by omega), hk (244 + 5 * p + 1) (by omega), hk (244 + 5 * p + 2) (by omega), hk (244 + 5 * p + 3) (by omega), hk (244 + 5 * p + 4) (by omega)]
  exact b p hp
theorem isTurn_cg (hk : ∀ i, (304 ≤ i ∧ i < 376) ∨ i = 379 → K' i = K i) (hl : ns K ≤ 12) {σ : Nat → Nat} (z : isTurn K σ) : isTurn K' σ := by
  have hn : ns K' = ns K := by unfold ns; rw [hk 379 (by omega)]
  refine ⟨fun i hi => by rw [hn] at *; exact z.1 i hi, fun i j hij hj => ?_⟩
  rw [hn] at hj
  have h1 := z.1 i (by omega)
  have h2 := z.1 j hj
  have := z.2 i j hij hj
  unfold ltS at *
  rw [hk _ (by omega), hk (304 + 6 * σ j + 1) (by omega)]
  exact this
theorem PS_cg (h8 : gI h' 11 13 = gI h 11 13) (hg : ∀ c i, 17 ≤ c → c ≤ 23 → gI h' c i = gI h c i) (hk : ∀ i, (304 ≤ i ∧ i < 376) ∨ i = 379 → K' i = K i) (ht : nt K ≤ nt K') (z : PS h K) : PS h' K' := by
  obtain ⟨⟨a1, b⟩, ⟨d1, e1, e2, e3, e4, e5, e6⟩, u⟩ := z
  have hn : ns K' = ns K := by unfold ns; rw [hk 379 (by omega)]
  have hl := (show ns K ≤ 12 by have := rg_n a1 (by omega); unfold ns; omega)
  refine ⟨⟨by rw [hk 379 (by omega)]; exact a1, ?_⟩, ⟨by rw [h8, hk 379 (by omega)]; exact d1, AR_cg (fun i hi => hg 17 i (by omega) (by omega)) (fun i hi => hk _ (by omega)) e1, AR_cg (fun i hi => hg 18 i (by omega) (by omega)) (fun i hi => hk _ (by omega)) e2, AR_cg (fun i hi => hg 19 i (by omega) (by omega)) (fun i hi => hk _ (by omega)) e3, AR_cg (fun i hi => hg 20 i (by omega) (by omega)) (fun i hi => hk _ (by omega)) e4, AR_cg (fun i hi => hg 21 i (by omega) (by omega)) (fun i hi => hk _ (by omega)) e5, AR_cg (fun i hi => hg 22 i (by omega) (by omega)) (fun i hi => hk _ (by omega)) e6⟩, ?_⟩
  · intro p hp
    rw [hn] at hp
    rw [hk _ (by omega), hk (304 + 6 * p + 1) (by omega), hk (304 + 6 * p + 2) (by omega), hk (304 + 6 * p + 3) (by omega), hk (304 + 6 * p + 4) (by omega), hk (304 + 6 * p + 5) (by omega)]
    obtain ⟨⟨t, h1, h2⟩, h3⟩ := b p hp
    exact ⟨⟨t, by omega, h2⟩, h3⟩
  · obtain ⟨σ, h1, h2⟩ := u
    exact ⟨σ, isTurn_cg hk hl h1, fun i hi => by rw [hn] at hi; rw [hg 23 i (by omega) (by omega)]; exact h2 i hi⟩
theorem tEq_cg (hk : ∀ i, 381 ≤ i → K' i = K i) {t : Nat} {T : Tk} (z : tEq K t T) : tEq K' t T := by
  have h1 : (fun k => K' (391 + k)) = (fun k => K (391 + k)) := funext fun k => hk _ (by omega)
  have h2 : (fun k => K' (4391 + k)) = (fun k => K (4391 + k)) := funext fun k => hk _ (by omega)
  unfold tEq mSay at *
  rw [h1, h2, hk (381 + t) (by omega)]
  exact z
theorem PX_cg (h8 : gI h' 2 5 = gI h 2 5) (hp : ∀ t, gP h' 25 t = gP h 25 t) (ht : ∀ a T, tAt h a T → tAt h' a T) (hk : ∀ i, 380 ≤ i → K' i = K i) (z : PX h K) : PX h' K' := by
  obtain ⟨a1, d1, x⟩ := z
  have hn : nx K' = nx K := by unfold nx; rw [hk 380 (by omega)]
  refine ⟨by rw [hk 380 (by omega)]; exact a1, by rw [h8, hk 380 (by omega)]; exact d1, ?_⟩
  intro t ht'
  rw [hn] at ht'
  obtain ⟨a, T, h1, h2, h3⟩ := x t ht'
  exact ⟨a, T, (hp t).trans h1, ht a T h2, tEq_cg (fun i hi => hk i (by omega)) h3⟩
end PRU
/-- a call answers alike in both, and what holds between calls holds behind it -/
def PRI (n : Nat) (h : Hp) (Mx Mm : Nat) (as : List Value) : Prop := ∀ d : Nat, ∃ (r : Int32) (h1 h2 : Hp), (∀ F, cwp true (d + 900) Mx (.ref 1 :: as) h F = F (some (.int r)) h1) ∧ (∀ F, cwp true (d + 900) Mm (.ref 101 :: as) h1 F = F (some (.int r)) h2) ∧ Inv (n + 1) h2
section GR
variable {h h1 : Hp}
theorem q_rfK (k : Int32) (i : Nat) : gI (rfc h k i) 103 = gI h 103 := by
  unfold rfc
  rw [q_gn (by omega), q_gn (by omega)]
/-- a granted call: the class's cells have become those of h1 -/
theorem Inv_gr {n : Nat} (z : Inv n h) (x : Mu h h1) (hS : STS h1 0 (gI h1 103)) (hT : TPS h1) (hR : RFS h1) (h5 : gI h1 1 11 = gI h1 101 9) : Inv (n + 1) (sI (grt h1) 101 0 (nI 0)) := by
  have hg : ∀ b, b ≠ 1 → b ≠ 101 → gI (sI (grt h1) 101 0 (nI 0)) b = gI h1 b := by
    intro b hb1 hb2
    unfold grt
    rw [q_gn hb2, q_gIP, q_gIP, q_gn hb1]
  have x1 : Mu h1 (sI (grt h1) 101 0 (nI 0)) := ((((FrS.refl h1).sI _ rfl).sP _ rfl).sP _ rfl).sI _ rfl
  refine Inv_mu (x.trans x1) z ?_ ?_ ?_ ?_ ?_
  · refine STS_mu0 x1 (hg 103 (by omega) (by omega)) (fun c i h1 h2 _ => by rw [hg c (by omega) (by omega)]) ?_ hS
    intro t
    unfold grt
    rw [q_gPI, q_pn (by omega), q_pn (by omega), q_gPI]
  · unfold TPS at *
    rw [hg 77 (by omega) (by omega), hg 107 (by omega) (by omega), hg 76 (by omega) (by omega)]
    rw [show gI (sI (grt h1) 101 0 (nI 0)) 101 8 = gI h1 101 8 by unfold grt; rw [q_gm (by omega), q_gIP, q_gIP, q_gn (by omega)]]
    exact hT
  · unfold RFS at *
    rw [hg 100 (by omega) (by omega), hg 102 (by omega) (by omega)]
    exact hR
  · unfold grt
    simp (disch := omega) only [q_gs, q_gn, q_gm, q_gIP]
    exact ⟨trivial, h5⟩
  · apply CAS_none
    unfold grt
    rw [q_gPI, q_pm (by omega), q_ps]
end GR
