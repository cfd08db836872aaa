/-! what stands: the model's memory K, what holds of it, how the class's cells stand for it -/
theorem q_em3 (x y : Int32) : (x ≤ y ∨ y < x) = True := by
  apply eq_true
  rw [Int32.le_iff_toInt_le, Int32.lt_iff_toInt_lt]
  omega
theorem q_em4 (x y : Int32) : (y < x ∨ x ≤ y) = True := by
  apply eq_true
  rw [Int32.le_iff_toInt_le, Int32.lt_iff_toInt_lt]
  omega
def nf (K : Nat → Int32) : Nat := (K 376).toNatClampNeg
def np (K : Nat → Int32) : Nat := (K 377).toNatClampNeg
def nt (K : Nat → Int32) : Nat := (K 378).toNatClampNeg
def ns (K : Nat → Int32) : Nat := (K 379).toNatClampNeg
def nx (K : Nat → Int32) : Nat := (K 380).toNatClampNeg
def nr (K : Nat → Int32) (f : Nat) : Nat := (K (9 * f + 2)).toNatClampNeg
def rg (x : Int32) (lo hi : Int) : Prop := lo ≤ x.toInt ∧ x.toInt ≤ hi
theorem rg_nI {x : Int32} {lo hi : Int} (h : rg x lo hi) (h0 : 0 ≤ lo) : x = nI x.toNatClampNeg := by
  have h1 := h.1
  obtain ⟨j, hj, e⟩ := nI_of (x := x) (by rw [Int32.lt_iff_toInt_lt]; simp; omega)
  rw [e, nI_clamp hj]
theorem rg_n {x : Int32} {lo hi : Int} (h : rg x lo hi) (h0 : 0 ≤ lo) : lo ≤ (x.toNatClampNeg : Int) ∧ (x.toNatClampNeg : Int) ≤ hi := by
  have h2 := rg_nI h h0
  have h3 : x.toInt = (x.toNatClampNeg : Int) := by
    have h4 := Int32.toNatClampNeg_lt x
    exact (congrArg Int32.toInt h2).trans (nI_toInt h4)
  rw [← h3]
  exact h
/-- flights, points, talkers, sheets, terms are in their bounds -/
def WF (K : Nat → Int32) : Prop :=
  (rg (K 376) 0 24 ∧ rg (K 377) 0 12 ∧ rg (K 378) 0 12 ∧ rg (K 379) 0 12 ∧ rg (K 380) 0 10) ∧
  (∀ f, f < nf K → rg (K (9 * f)) (-40) 120 ∧ rg (K (9 * f + 1)) 0 9 ∧ rg (K (9 * f + 2)) 1 6 ∧ ∀ r, r < 6 → rg (K (9 * f + (3 + r))) (-1) 9) ∧
  (rg (K 216) 0 600 ∧ rg (K 217) 1 12 ∧ rg (K 218) 0 100 ∧ rg (K 219) 0 99) ∧
  (∀ p, p < np K → rg (K (220 + 2 * p)) (-40) 120 ∧ rg (K (220 + 2 * p + 1)) 0 600) ∧
  (∀ t, t < nt K → rg (K (244 + 5 * t)) 0 9 ∧ rg (K (244 + 5 * t + 1)) 0 2 ∧ rg (K (244 + 5 * t + 2)) 0 1 ∧ rg (K (244 + 5 * t + 3)) 0 100 ∧ rg (K (244 + 5 * t + 4)) 0 1) ∧
  (∀ s, s < ns K → (∃ t, t < nt K ∧ K (304 + 6 * s) = nI t) ∧ rg (K (304 + 6 * s + 1)) 0 400 ∧ rg (K (304 + 6 * s + 2)) 0 7 ∧ rg (K (304 + 6 * s + 3)) (-50) 50 ∧ rg (K (304 + 6 * s + 4)) 0 7 ∧ rg (K (304 + 6 * s + 5)) 0 1)
section WFS
variable {K : Nat → Int32}
theorem WF.hnf (w : WF K) : K 376 = nI (nf K) ∧ nf K ≤ 24 := ⟨rg_nI w.1.1 (by omega), by have := rg_n w.1.1 (by omega); unfold nf; omega⟩
theorem WF.hnp (w : WF K) : K 377 = nI (np K) ∧ np K ≤ 12 := ⟨rg_nI w.1.2.1 (by omega), by have := rg_n w.1.2.1 (by omega); unfold np; omega⟩
theorem WF.hnt (w : WF K) : K 378 = nI (nt K) ∧ nt K ≤ 12 := ⟨rg_nI w.1.2.2.1 (by omega), by have := rg_n w.1.2.2.1 (by omega); unfold nt; omega⟩
theorem WF.hns (w : WF K) : K 379 = nI (ns K) ∧ ns K ≤ 12 := ⟨rg_nI w.1.2.2.2.1 (by omega), by have := rg_n w.1.2.2.2.1 (by omega); unfold ns; omega⟩
theorem WF.hnx (w : WF K) : K 380 = nI (nx K) ∧ nx K ≤ 10 := ⟨rg_nI w.1.2.2.2.2 (by omega), by have := rg_n w.1.2.2.2.2 (by omega); unfold nx; omega⟩
theorem WF.hnr (w : WF K) {f : Nat} (hf : f < nf K) : K (9 * f + 2) = nI (nr K f) ∧ 1 ≤ nr K f ∧ nr K f ≤ 6 := by
  have h := (w.2.1 f hf).2.2.1
  have h2 := rg_n h (by omega)
  unfold nr
  exact ⟨rg_nI h (by omega), by omega, by omega⟩
end WFS
/-- class arrays that stand for rows of K -/
def AR (h : Hp) (K : Nat → Int32) (c n b s : Nat) : Prop := ∀ i, i < n → gI h c i = K (b + s * i)
/-- the class's State whose cells lie o behind those of the first, but for its texts and turns -/
def RS (h : Hp) (o : Nat) (K : Nat → Int32) : Prop :=
  (gI h (3 + o) 4 = K 376 ∧ gI h (8 + o) 2 = K 377 ∧ gI h (11 + o) 5 = K 378 ∧ gI h (11 + o) 13 = K 379 ∧ gI h (2 + o) 5 = K 380) ∧
  (AR h K (4 + o) 24 0 9 ∧ AR h K (5 + o) 24 1 9 ∧ AR h K (6 + o) 24 2 9 ∧ ∀ f r, f < 24 → r < 6 → gI h (7 + o) (f * 6 + r) = K (9 * f + (3 + r))) ∧
  AR h K (24 + o) 4 216 1 ∧
  (AR h K (9 + o) 12 220 2 ∧ AR h K (10 + o) 12 221 2) ∧
  (AR h K (12 + o) 12 244 5 ∧ AR h K (13 + o) 12 245 5 ∧ AR h K (14 + o) 12 246 5 ∧ AR h K (15 + o) 12 247 5 ∧ AR h K (16 + o) 12 248 5) ∧
  (AR h K (17 + o) 12 304 6 ∧ AR h K (18 + o) 12 305 6 ∧ AR h K (19 + o) 12 306 6 ∧ AR h K (20 + o) 12 307 6 ∧ AR h K (21 + o) 12 308 6 ∧ AR h K (22 + o) 12 309 6)
section RSS
variable {h : Hp} {K : Nat → Int32}
theorem RS.hnf (q : RS h 0 K) : gI h 3 4 = K 376 := q.1.1
theorem RS.hnp (q : RS h 0 K) : gI h 8 2 = K 377 := q.1.2.1
theorem RS.hnt (q : RS h 0 K) : gI h 11 5 = K 378 := q.1.2.2.1
theorem RS.hns (q : RS h 0 K) : gI h 11 13 = K 379 := q.1.2.2.2.1
theorem RS.hnx (q : RS h 0 K) : gI h 2 5 = K 380 := q.1.2.2.2.2
theorem RS.w (q : RS h 0 K) {f : Nat} (hf : f < 24) : gI h 4 f = K (9 * f) := by rw [q.2.1.1 f hf, Nat.zero_add]
theorem RS.p (q : RS h 0 K) {f : Nat} (hf : f < 24) : gI h 5 f = K (9 * f + 1) := by rw [q.2.1.2.1 f hf, Nat.add_comm]
theorem RS.r (q : RS h 0 K) {f : Nat} (hf : f < 24) : gI h 6 f = K (9 * f + 2) := by rw [q.2.1.2.2.1 f hf, Nat.add_comm]
theorem RS.s (q : RS h 0 K) {f r : Nat} (hf : f < 24) (hr : r < 6) : gI h 7 (f * 6 + r) = K (9 * f + (3 + r)) := q.2.1.2.2.2 f r hf hr
theorem RS.t (q : RS h 0 K) {k : Nat} (hk : k < 4) : gI h 24 k = K (216 + k) := by rw [q.2.2.1 k hk, Nat.one_mul]
theorem RS.bw (q : RS h 0 K) {p : Nat} (hp : p < 12) : gI h 9 p = K (220 + 2 * p) := q.2.2.2.1.1 p hp
theorem RS.bt (q : RS h 0 K) {p : Nat} (hp : p < 12) : gI h 10 p = K (220 + 2 * p + 1) := by rw [q.2.2.2.1.2 p hp]; congr 1; omega
theorem RS.t0 (q : RS h 0 K) {t : Nat} (ht : t < 12) : gI h 12 t = K (244 + 5 * t) := q.2.2.2.2.1.1 t ht
theorem RS.t1 (q : RS h 0 K) {t : Nat} (ht : t < 12) : gI h 13 t = K (244 + 5 * t + 1) := by rw [q.2.2.2.2.1.2.1 t ht]; congr 1; omega
theorem RS.t2 (q : RS h 0 K) {t : Nat} (ht : t < 12) : gI h 14 t = K (244 + 5 * t + 2) := by rw [q.2.2.2.2.1.2.2.1 t ht]; congr 1; omega
theorem RS.t3 (q : RS h 0 K) {t : Nat} (ht : t < 12) : gI h 15 t = K (244 + 5 * t + 3) := by rw [q.2.2.2.2.1.2.2.2.1 t ht]; congr 1; omega
theorem RS.t4 (q : RS h 0 K) {t : Nat} (ht : t < 12) : gI h 16 t = K (244 + 5 * t + 4) := by rw [q.2.2.2.2.1.2.2.2.2 t ht]; congr 1; omega
theorem RS.s0 (q : RS h 0 K) {s : Nat} (hs : s < 12) : gI h 17 s = K (304 + 6 * s) := q.2.2.2.2.2.1 s hs
theorem RS.s1 (q : RS h 0 K) {s : Nat} (hs : s < 12) : gI h 18 s = K (304 + 6 * s + 1) := by rw [q.2.2.2.2.2.2.1 s hs]; congr 1; omega
theorem RS.s2 (q : RS h 0 K) {s : Nat} (hs : s < 12) : gI h 19 s = K (304 + 6 * s + 2) := by rw [q.2.2.2.2.2.2.2.1 s hs]; congr 1; omega
theorem RS.s3 (q : RS h 0 K) {s : Nat} (hs : s < 12) : gI h 20 s = K (304 + 6 * s + 3) := by rw [q.2.2.2.2.2.2.2.2.1 s hs]; congr 1; omega
theorem RS.s4 (q : RS h 0 K) {s : Nat} (hs : s < 12) : gI h 21 s = K (304 + 6 * s + 4) := by rw [q.2.2.2.2.2.2.2.2.2.1 s hs]; congr 1; omega
theorem RS.s5 (q : RS h 0 K) {s : Nat} (hs : s < 12) : gI h 22 s = K (304 + 6 * s + 5) := by rw [q.2.2.2.2.2.2.2.2.2.2 s hs]; congr 1; omega
end RSS
