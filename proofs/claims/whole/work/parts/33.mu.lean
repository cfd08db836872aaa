/-! calls that change what stands -/
def FrS (S : Nat → Nat → Bool) (h h' : Hp) : Prop := (hz h' = hz h ∧ hu h' = hu h ∧ hk h' = hk h) ∧ ∀ a i, S a i = false → gI h' a i = gI h a i ∧ gP h' a i = gP h a i
section FRG
variable {S : Nat → Nat → Bool} {h h' h'' : Hp}
theorem FrS.refl (h : Hp) : FrS S h h := ⟨⟨rfl, rfl, rfl⟩, fun _ _ _ => ⟨rfl, rfl⟩⟩
theorem FrS.trans (x : FrS S h h') (y : FrS S h' h'') : FrS S h h'' := ⟨⟨y.1.1.trans x.1.1, y.1.2.1.trans x.1.2.1, y.1.2.2.trans x.1.2.2⟩, fun a i e => ⟨(y.2 a i e).1.trans (x.2 a i e).1, (y.2 a i e).2.trans (x.2 a i e).2⟩⟩
theorem FrS.sI (x : FrS S h h') {a i : Nat} (v : Int32) (e : S a i = true) : FrS S h (sI h' a i v) := ⟨x.1, fun b j eb => by
  refine ⟨?_, (x.2 b j eb).2⟩
  rw [q_gi]
  split
  · rename_i hh
    obtain ⟨rfl, rfl⟩ := hh
    rw [e] at eb
    cases eb
  · exact (x.2 b j eb).1⟩
theorem FrS.sP (x : FrS S h h') {a i : Nat} (v : Option Nat) (e : S a i = true) : FrS S h (sP h' a i v) := ⟨x.1, fun b j eb => by
  refine ⟨(x.2 b j eb).1, ?_⟩
  show (if b = a ∧ j = i then v else gP h' b j) = _
  split
  · rename_i hh
    obtain ⟨rfl, rfl⟩ := hh
    rw [e] at eb
    cases eb
  · exact (x.2 b j eb).2⟩
theorem FrS.sA (x : FrS S h h') {a : Nat} (f : Nat → Int32) (e : ∀ i, S a i = true) : FrS S h (sA h' a f) := ⟨x.1, fun b j eb => by
  refine ⟨?_, (x.2 b j eb).2⟩
  show (if b = a then f else gI h' b) j = _
  split
  · rename_i hh
    subst hh
    rw [e j] at eb
    cases eb
  · exact (x.2 b j eb).1⟩
theorem FrS.g (x : FrS S h h') {a i : Nat} (e : S a i = false) : gI h' a i = gI h a i := (x.2 a i e).1
theorem FrS.G (x : FrS S h h') {a : Nat} (e : ∀ i, S a i = false) : gI h' a = gI h a := funext fun i => (x.2 a i (e i)).1
theorem FrS.p (x : FrS S h h') {a i : Nat} (e : S a i = false) : gP h' a i = gP h a i := (x.2 a i e).2
end FRG
/-- what a granted call may change besides -/
def mus (a i : Nat) : Bool := (Nat.ble 2 a && Nat.ble a 24) || (Nat.beq a 103 || ((Nat.beq a 1 && Nat.ble 10 i) || ((Nat.beq a 101 && (Nat.beq i 0 || Nat.ble 8 i)) || (Nat.beq a 100 || (Nat.beq a 102 || (Nat.beq a 77 || (Nat.beq a 107 || (Nat.beq a 76 || (Nat.beq a 88 || scr a i)))))))))
theorem mus_big {a i : Nat} (ha : 121 ≤ a) : mus a i = false := by
  have hb : ∀ k, k < 121 → Nat.beq a k = false := fun k hk => by
    cases e : Nat.beq a k with
    | false => rfl
    | true => have := Nat.eq_of_beq_eq_true e; omega
  have hl : Nat.ble a 24 = false := by
    cases e : Nat.ble a 24 with
    | false => rfl
    | true => have := Nat.le_of_ble_eq_true e; omega
  unfold mus
  simp only [hb 103 (by omega), hb 1 (by omega), hb 101 (by omega), hb 100 (by omega), hb 102 (by omega), hb 77 (by omega), hb 107 (by omega), hb 76 (by omega), hb 88 (by omega), hl, scr_big ha, Bool.false_and, Bool.and_false, Bool.or_false]
theorem mus_im {o c i : Nat} (ho : o = 25 ∨ o = 49) (h1 : 2 ≤ c) (h2 : c ≤ 25) : mus (c + o) i = false := by
  have hs : scr (c + o) i = false := by
    by_cases h8 : c = 8
    · subst h8; rcases ho with rfl | rfl <;> rfl
    · exact scr_st (Or.inr ho) h1 h2 (fun e => absurd e h8)
  have hb : ∀ k ∈ [103, 1, 101, 100, 102, 77, 107, 76, 88], Nat.beq (c + o) k = false := by
    intro k hk
    cases e : Nat.beq (c + o) k with
    | false => rfl
    | true =>
      have he := Nat.eq_of_beq_eq_true e
      simp only [List.mem_cons, List.not_mem_nil, or_false] at hk
      omega
  have hl : Nat.ble (c + o) 24 = false := by
    cases e : Nat.ble (c + o) 24 with
    | false => rfl
    | true => have := Nat.le_of_ble_eq_true e; omega
  unfold mus
  simp only [hb 103 (by decide), hb 1 (by decide), hb 101 (by decide), hb 100 (by decide), hb 102 (by decide), hb 77 (by decide), hb 107 (by decide), hb 76 (by decide), hb 88 (by decide), hl, hs, Bool.false_and, Bool.and_false, Bool.or_false]
abbrev Mu (h h' : Hp) : Prop := FrS mus h h'
section MUS
variable {h h' : Hp}
theorem tAt_mu (x : Mu h h') {a : Nat} {T : Tk} (t : tAt h a T) : tAt h' a T := by
  obtain ⟨s, c, ⟨h1, h2, h3, h4, h5, h6⟩, p0, p1, k0, k1, k2, g0, g1⟩ := t
  refine ⟨s, c, ?_, ?_, ?_, ?_, ?_, ?_, ?_, ?_⟩
  · rw [x.1.1]; exact ⟨h1, h2, h3, h4, h5, h6⟩
  · rw [x.p (mus_big h1)]; exact p0
  · rw [x.p (mus_big h1)]; exact p1
  · rw [x.1.2.2]; exact k0
  · rw [x.1.2.2]; exact k1
  · rw [x.1.2.2]; exact k2
  · rw [x.G (fun _ => mus_big h3)]; exact g0
  · rw [x.G (fun _ => mus_big h5)]; exact g1
theorem Inv_mu {n : Nat} (x : Mu h h') (z : Inv n h) (hS : STS h' 0 (gI h' 103)) (hT : TPS h') (hR : RFS h') (h5 : gI h' 1 10 = gI h' 101 0 ∧ gI h' 1 11 = gI h' 101 9) (hC : CAS h') : Inv (n + 1) h' := by
  obtain ⟨i1, i2, i3, i4, i5, i6, i7, i8, i9⟩ := z
  refine ⟨hS, ?_, hT, hR, h5, ?_, ?_, ALS_mono ?_, hC⟩
  · intro k hk
    obtain ⟨a1, a2, a3⟩ := i2 k hk
    rw [x.g (a := 75) (i := k) rfl, x.g (a := 105) (i := k) rfl]
    refine ⟨a1, a2, fun e => ?_⟩
    have hm : imK h' k = imK h k := by unfold imK; rw [x.G (a := 104) (fun _ => rfl)]
    rw [hm]
    have ho : 25 + 24 * k = 25 ∨ 25 + 24 * k = 49 := by omega
    exact STS_of (fun c i h1 h2 h3 => x.g (mus_im ho h1 h2)) (fun t => x.p (mus_im (c := 25) ho (by omega) (by omega))) (fun a T => tAt_mu x) (a3 e)
  · unfold WDS
    rw [x.G (a := 106) (fun _ => rfl)]; exact i6
  · refine ⟨by rw [x.1.1]; exact i7.1, ?_, ?_⟩
    · intro b hb1 hb2 hb3
      rw [x.1.1] at hb2
      rw [x.1.2.2] at hb3
      rw [x.p (mus_big hb1), x.p (mus_big hb1), x.1.1]
      exact i7.2.1 b hb1 hb2 hb3
    · intro c hc t ht a ha
      rw [x.1.1, x.1.2.2]
      refine i7.2.2 c hc t ht a ?_
      rcases hc with rfl | rfl | rfl
      · rw [x.p (a := 25) rfl] at ha; exact ha
      · rw [x.p (a := 50) rfl] at ha; exact ha
      · rw [x.p (a := 74) rfl] at ha; exact ha
  · rcases i8 with ⟨h1, h2, h3⟩ | ⟨a, h1, h2, h3, h4, h5, h6, h7⟩
    · exact Or.inl ⟨(x.p rfl).trans h1, by rw [x.1.1]; exact h2, by rw [x.1.2.1]; exact h3⟩
    · refine Or.inr ⟨a, (x.p rfl).trans h1, h2, by rw [x.1.1]; exact h3, by rw [x.1.2.2]; exact h4, ?_, by rw [x.1.1]; exact h6, by rw [x.1.2.1]; exact h7⟩
      intro b hb1 hb2 hb3
      rw [x.1.1] at hb2
      rw [x.1.2.2] at hb3
      rw [x.p (mus_big hb1), x.p (mus_big hb1)]
      exact h5 b hb1 hb2 hb3
/-- nothing of what stands has changed -/
theorem STS_mu0 (x : Mu h h') (hK : gI h' 103 = gI h 103) (hg : ∀ c i, 2 ≤ c → c ≤ 25 → (c = 8 → i ≤ 2) → gI h' c i = gI h c i) (hp : ∀ t, gP h' 25 t = gP h 25 t) (z : STS h 0 (gI h 103)) : STS h' 0 (gI h' 103) := by
  rw [hK]
  exact STS_of (o := 0) hg hp (fun a T => tAt_mu x) z
theorem CAS_mu0 (x : Mu h h') (hK : gI h' 103 = gI h 103) (h1 : gI h' 88 11 = gI h 88 11) (h2 : gP h' 88 12 = gP h 88 12) (h3 : gP h' 88 13 = gP h 88 13) (z : CAS h) : CAS h' := by
  intro a b ha hb
  rw [h2] at ha
  rw [h3] at hb
  obtain ⟨Tm, Ts, t1, t2, t3⟩ := z a b ha hb
  rw [hK, h1]
  exact ⟨Tm, Ts, tAt_mu x t1, tAt_mu x t2, t3⟩
theorem CAS_none (h1 : gP h 88 12 = none) : CAS h := fun a b ha hb => by rw [h1] at ha; cases ha
/-- a refused call -/
theorem Inv_rf {n : Nat} (z : Inv n h) {k : Int32} {i j : Nat} (hij : (i = 0 ∧ j = 1) ∨ (i = 1 ∧ j = 2) ∨ (i = 3 ∧ j = 5) ∨ (i = 4 ∧ j = 6)) : Inv (n + 1) (rfm (rfc h k i) k j) := by
  have x : Mu h (rfm (rfc h k i) k j) := ((((FrS.refl h).sI _ rfl).sI _ rfl).sI _ rfl).sI _ rfl
  have hg : ∀ b, b ≠ 1 → b ≠ 100 → b ≠ 101 → b ≠ 102 → gI (rfm (rfc h k i) k j) b = gI h b := by
    intro b h1 h2 h3 h4
    unfold rfm rfc
    rw [q_gn h4, q_gn h3, q_gn h2, q_gn h1]
  obtain ⟨i1, i2, i3, i4, i5, i6, i7, i8, i9⟩ := z
  refine Inv_mu x ⟨i1, i2, i3, i4, i5, i6, i7, i8, i9⟩ ?_ ?_ ?_ ?_ ?_
  · exact STS_mu0 x (hg 103 (by omega) (by omega) (by omega) (by omega)) (fun c i h1 h2 _ => by rw [hg c (by omega) (by omega) (by omega) (by omega)]) (fun t => rfl) i1
  · refine ⟨fun y hy => ?_, ?_, ?_⟩
    · rw [hg 77 (by omega) (by omega) (by omega) (by omega), hg 107 (by omega) (by omega) (by omega) (by omega)]; exact i3.1 y hy
    · rw [hg 76 (by omega) (by omega) (by omega) (by omega)]
      have : gI (rfm (rfc h k i) k j) 101 8 = gI h 101 8 := by
        unfold rfm rfc
        rw [q_gn (by omega), q_gm (by omega), q_gn (by omega), q_gn (by omega)]
      rw [this]; exact i3.2.1
    · rw [hg 76 (by omega) (by omega) (by omega) (by omega)]; exact i3.2.2
  · have e1 : gI (rfm (rfc h k i) k j) 100 = upd (gI h 100) i (gI h 100 i + nI 1) := by
      unfold rfm rfc
      rw [q_gn (by omega), q_gn (by omega), q_gsu, q_gn (by omega)]
    have e2 : gI (rfm (rfc h k i) k j) 102 = upd (gI h 102) j (gI h 102 j + nI 1) := by
      unfold rfm rfc
      rw [q_gsu, q_gn (by omega), q_gn (by omega), q_gn (by omega)]
    unfold RFS at *
    rw [e1, e2]
    obtain ⟨a1, a2, a3, a4, a5⟩ := i4
    rcases hij with ⟨rfl, rfl⟩ | ⟨rfl, rfl⟩ | ⟨rfl, rfl⟩ | ⟨rfl, rfl⟩ <;> simp [upd, a1, a2, a3, a4, a5]
  · unfold rfm rfc
    simp (disch := omega) only [q_gs, q_gn, q_gm, i5]
    exact ⟨trivial, trivial⟩
  · refine CAS_mu0 x (hg 103 (by omega) (by omega) (by omega) (by omega)) ?_ rfl rfl i9
    rw [hg 88 (by omega) (by omega) (by omega) (by omega)]
end MUS
