/-! talks (what they come to), and what holds between calls -/
def tv (T : Tk) (hd : Nat) (env : Nat → Int32) : Option Int32 := (tSay T hd env).map (fun l => l.headD (nI 0))
/-- the words of a talker asked of a sheet -/
def envT (K : Nat → Int32) (t : Nat) (dp : Int32 × Int32) (k w m : Int32) : Nat → Int32 := fun i =>
  if i = 4 then K (244 + 5 * t) else if i = 5 then K (244 + 5 * t + 1) else if i = 6 then K (244 + 5 * t + 2) else if i = 7 then dp.1 else if i = 8 then dp.2
  else if i = 9 then k else if i = 10 then w else if i = 11 then m else nI 0
def isSho (K : Nat → Int32) (s t : Nat) : Prop := ¬ K (304 + 6 * s) = nI t ∧ K (304 + 6 * s + 4) >>> (K (244 + 5 * t + 1) &&& 31) &&& nI 1 = nI 1
/-- the one who made a sheet -/
def byS (K : Nat → Int32) (s : Nat) : Nat := (K (304 + 6 * s)).toNatClampNeg
def isPro (K : Nat → Int32) (s t : Nat) : Prop := isSho K s t ∧ K (304 + 6 * s + 2) = nI 5 ∧ K (244 + 5 * t) < K (244 + 5 * byS K s)
def movS (K : Nat → Int32) (T : Tk) (s t : Nat) (dp : Int32 × Int32) : Int32 :=
  let x := (tv T 1 (envT K t dp (K (304 + 6 * s + 2)) (K (304 + 6 * s + 3)) (K (304 + 6 * s + 1)))).getD (nI 0)
  if K (304 + 6 * s + 2) = nI 6 then x / nI 2 else x
/-- a sheet is shown to a talker -/
noncomputable def shw (K : Nat → Int32) (T : Tk) (s t : Nat) (dp : Int32 × Int32) : Int32 × Int32 :=
  pif (isSho K s t) (pif (K (304 + 6 * s + 2) = nI 5) (pif (K (244 + 5 * t) < K (244 + 5 * byS K s)) (dp.1, nI 1) dp) (q_near (dp.1 + movS K T s t dp) (nI 0) (nI 100), dp.2)) dp
noncomputable def shwL (K : Nat → Int32) (T : Tk) (t : Nat) (l : List Nat) : Int32 × Int32 := l.foldl (fun dp s => shw K T s t dp) (K (244 + 5 * t + 3), nI 0)
def isStp (K : Nat → Int32) (T : Tk) (t : Nat) (dp : Int32 × Int32) : Prop := ¬ K (244 + 5 * t + 4) = nI 0 ∧ (tSay T 3 (envT K t dp (nI 0) (nI 0) (nI 0))).isSome
/-- sheets in their turns -/
def ltS (K : Nat → Int32) (a b : Nat) : Prop := K (304 + 6 * a + 1) < K (304 + 6 * b + 1) ∨ (K (304 + 6 * a + 1) = K (304 + 6 * b + 1) ∧ a < b)
def isTurn (K : Nat → Int32) (σ : Nat → Nat) : Prop := (∀ i, i < ns K → σ i < ns K) ∧ ∀ i j, i < j → j < ns K → ltS K (σ i) (σ j)
def turL (K : Nat → Int32) (σ : Nat → Nat) : List Nat := (List.range (ns K)).map σ
def isSent (K : Nat → Int32) (s : Nat) : Prop := K (304 + 6 * s + 5) = nI 1
/-- how many stop it when the sheets that are sent and those of M are shown -/
noncomputable def seqM (K : Nat → Int32) (σ : Nat → Nat) (M : Nat) : List Nat := (turL K σ).filter (fun s => @decide (isSent K s) (Classical.propDecidable _) || M.testBit s)
noncomputable def cntT (P : Nat → Prop) : Nat → Nat
  | 0 => 0
  | n + 1 => cntT P n + pif (P n) 1 0
noncomputable def stpN (K : Nat → Int32) (Tm Ts : Tk) (l : List Nat) : Nat := cntT (fun t => isStp K Ts t (shwL K Tm t l)) (nt K)
def isStd (K : Nat → Int32) (Tm Ts : Tk) (l : List Nat) : Prop := (K 217).toNatClampNeg ≤ stpN K Tm Ts l
def onesN : Nat → Nat → Nat
  | 0, _ => 0
  | n + 1, M => onesN n M + (M.testBit n).toNat
/-- M goes ahead of M': fewer, or as many and the lowest that isn't in both is M's -/
def beats (n M M' : Nat) : Prop := onesN n M < onesN n M' ∨ (onesN n M = onesN n M' ∧ ∃ i, i < n ∧ M.testBit i = true ∧ M'.testBit i = false ∧ ∀ j, j < i → M.testBit j = M'.testBit j)
def isCho (K : Nat → Int32) (σ : Nat → Nat) (Tm Ts : Tk) (M : Nat) : Prop := M < 2 ^ ns K ∧ (∀ s, s < ns K → M.testBit s = true → ¬ isSent K s) ∧ isStd K Tm Ts (seqM K σ M)
def isLst (K : Nat → Int32) (σ : Nat → Nat) (Tm Ts : Tk) (x : Option Nat) : Prop := match x with
  | none => ∀ M, ¬ isCho K σ Tm Ts M
  | some M => isCho K σ Tm Ts M ∧ ∀ M', isCho K σ Tm Ts M' → M' = M ∨ beats (ns K) M M'
/-- texts and turns of a State of the class -/
def TXS (h : Hp) (o : Nat) (K : Nat → Int32) : Prop := ∀ t, t < nx K → ∃ a T, gP h (25 + o) t = some a ∧ tAt h a T ∧ tEq K t T
def TUS (h : Hp) (o : Nat) (K : Nat → Int32) : Prop := ∃ σ, isTurn K σ ∧ ∀ i, i < ns K → gI h (23 + o) i = nI (σ i)
def STS (h : Hp) (o : Nat) (K : Nat → Int32) : Prop := WF K ∧ RS h o K ∧ TXS h o K ∧ TUS h o K
def imK (h : Hp) (k : Nat) : Nat → Int32 := fun i => gI h 104 (8391 * k + i)
def U0 : Nat := 137000
def IMS (h : Hp) : Prop := ∀ k, k < 2 → gI h 75 k = gI h 105 k ∧ (gI h 75 k = nI 0 ∨ gI h 75 k = nI 1) ∧ (gI h 75 k = nI 1 → STS h (25 + 24 * k) (imK h k))
def TPS (h : Hp) : Prop := (∀ i, i < 400 → gI h 77 i = gI h 107 i ∧ (gI h 77 i).toInt8.toInt32 = gI h 77 i) ∧ gI h 76 1 = gI h 101 8 ∧ rg (gI h 76 1) 0 400
def RFS (h : Hp) : Prop := gI h 100 0 = gI h 102 1 ∧ gI h 100 1 = gI h 102 2 ∧ gI h 100 2 = gI h 102 3 ∧ gI h 100 3 = gI h 102 5 ∧ gI h 100 4 = gI h 102 6
def WDS (h : Hp) : Prop := ∀ i, i < 103 → gI h 106 i = nms i
/-- where texts may stand, texts stand -/
def TXA (h : Hp) : Prop := ∀ c, c = 25 ∨ c = 50 ∨ c = 74 → ∀ t, t < 10 → ∀ a, gP h c t = some a → 121 ≤ a ∧ a < hz h ∧ hk h a = (9, 2)
def TCS (h : Hp) : Prop := 121 ≤ hz h ∧ (∀ b, 121 ≤ b → b < hz h → hk h b = (9, 2) → ∃ s c, gP h b 0 = some s ∧ gP h b 1 = some c ∧ s < hz h ∧ c < hz h) ∧ TXA h
def ALS (n : Nat) (h : Hp) : Prop := (gP h 86 2 = none ∧ hz h ≤ 121 + 3 * n ∧ hu h ≤ U0 + 450 * n) ∨
  ∃ a, gP h 86 2 = some a ∧ 121 ≤ a ∧ a < hz h ∧ hk h a = (20, 24973) ∧ (∀ b, 121 ≤ b → b < hz h → hk h b = (9, 2) → gP h b 0 ≠ some a ∧ gP h b 1 ≠ some a) ∧ hz h ≤ 122 + 3 * n ∧ hu h ≤ U0 + 24973 + 450 * n
def lsI (x : Option Nat) : Int32 := match x with
  | none => -1
  | some M => nI M
def CAS (h : Hp) : Prop := ∀ a b, gP h 88 12 = some a → gP h 88 13 = some b → ∃ Tm Ts, tAt h a Tm ∧ tAt h b Ts ∧ ∀ σ, isTurn (gI h 103) σ → ∃ x, isLst (gI h 103) σ Tm Ts x ∧ gI h 88 11 = lsI x
/-- what holds between calls, the n-th being next -/
def Inv (n : Nat) (h : Hp) : Prop := STS h 0 (gI h 103) ∧ IMS h ∧ TPS h ∧ RFS h ∧ (gI h 1 10 = gI h 101 0 ∧ gI h 1 11 = gI h 101 9) ∧ WDS h ∧ TCS h ∧ ALS n h ∧ CAS h
/-- places that no call asks of another -/
def scr (a i : Nat) : Bool :=
  (Nat.beq a 8 && Nat.ble 3 i) || ((Nat.beq a 76 && Nat.ble 2 i) || (Nat.beq a 78 || (Nat.beq a 79 || (Nat.beq a 80 || (Nat.beq a 81 || (Nat.beq a 82 || (Nat.beq a 83 || (Nat.beq a 84 || (Nat.beq a 85 || (Nat.beq a 87 ||
  ((Nat.beq a 88 && Nat.ble i 10) || (Nat.beq a 89 || (Nat.beq a 90 || (Nat.beq a 91 || (Nat.beq a 92 || (Nat.beq a 94 || (Nat.beq a 95 || (Nat.beq a 96 || (Nat.beq a 97 || (Nat.beq a 98 || (Nat.beq a 99 ||
  ((Nat.beq a 101 && Nat.ble 10 i) || (Nat.beq a 108 || (Nat.beq a 109 || (Nat.beq a 110 || (Nat.beq a 111 || (Nat.beq a 112 || (Nat.beq a 113 || (Nat.beq a 114 || (Nat.beq a 115 || (Nat.beq a 116 || (Nat.beq a 117 || (Nat.beq a 118 || (Nat.beq a 119 || Nat.beq a 120))))))))))))))))))))))))))))))))))
def Fr (h h' : Hp) : Prop := (hz h' = hz h ∧ hu h' = hu h ∧ hk h' = hk h) ∧ ∀ a i, scr a i = false → gI h' a i = gI h a i ∧ gP h' a i = gP h a i
theorem scr_big {a i : Nat} (ha : 121 ≤ a) : scr a i = false := by
  have hb : ∀ k, k < 121 → Nat.beq a k = false := fun k hk => by
    cases e : Nat.beq a k with
    | false => rfl
    | true => have := Nat.eq_of_beq_eq_true e; omega
  unfold scr
  simp only [hb 8 (by omega), hb 76 (by omega), hb 78 (by omega), hb 79 (by omega), hb 80 (by omega), hb 81 (by omega), hb 82 (by omega), hb 83 (by omega), hb 84 (by omega), hb 85 (by omega), hb 87 (by omega), hb 88 (by omega), hb 89 (by omega), hb 90 (by omega), hb 91 (by omega), hb 92 (by omega), hb 94 (by omega), hb 95 (by omega), hb 96 (by omega), hb 97 (by omega), hb 98 (by omega), hb 99 (by omega), hb 101 (by omega), hb 108 (by omega), hb 109 (by omega), hb 110 (by omega), hb 111 (by omega), hb 112 (by omega), hb 113 (by omega), hb 114 (by omega), hb 115 (by omega), hb 116 (by omega), hb 117 (by omega), hb 118 (by omega), hb 119 (by omega), hb 120 (by omega), Bool.false_and, Bool.or_false]
section FRS
variable {h h' h'' : Hp}
theorem Fr.refl (h : Hp) : Fr h h := ⟨⟨rfl, rfl, rfl⟩, fun _ _ _ => ⟨rfl, rfl⟩⟩
theorem Fr.trans (x : Fr h h') (y : Fr h' h'') : Fr h h'' := ⟨⟨y.1.1.trans x.1.1, y.1.2.1.trans x.1.2.1, y.1.2.2.trans x.1.2.2⟩, fun a i e => ⟨(y.2 a i e).1.trans (x.2 a i e).1, (y.2 a i e).2.trans (x.2 a i e).2⟩⟩
theorem Fr.sI (x : Fr h h') {a i : Nat} (v : Int32) (e : scr a i = true) : Fr h (sI h' a i v) := ⟨x.1, fun b j eb => by
  refine ⟨?_, (x.2 b j eb).2⟩
  rw [q_gi]
  split
  · rename_i hh
    obtain ⟨rfl, rfl⟩ := hh
    rw [e] at eb
    cases eb
  · exact (x.2 b j eb).1⟩
theorem Fr.sJ (x : Fr h h') {a i : Nat} (v : Int64) : Fr h (sJ h' a i v) := ⟨x.1, x.2⟩
theorem Fr.sP (x : Fr h h') {a i : Nat} (v : Option Nat) (e : scr a i = true) : Fr h (sP h' a i v) := ⟨x.1, fun b j eb => by
  refine ⟨(x.2 b j eb).1, ?_⟩
  show (if b = a ∧ j = i then v else gP h' b j) = _
  split
  · rename_i hh
    obtain ⟨rfl, rfl⟩ := hh
    rw [e] at eb
    cases eb
  · exact (x.2 b j eb).2⟩
theorem Fr.sA (x : Fr h h') {a : Nat} (f : Nat → Int32) (e : ∀ i, scr a i = true) : Fr h (sA h' a f) := ⟨x.1, fun b j eb => by
  refine ⟨?_, (x.2 b j eb).2⟩
  show (if b = a then f else gI h' b) j = _
  split
  · rename_i hh
    subst hh
    rw [e j] at eb
    cases eb
  · exact (x.2 b j eb).1⟩
theorem Fr.g (x : Fr h h') {a i : Nat} (e : scr a i = false) : gI h' a i = gI h a i := (x.2 a i e).1
theorem Fr.G (x : Fr h h') {a : Nat} (e : ∀ i, scr a i = false) : gI h' a = gI h a := funext fun i => (x.2 a i (e i)).1
theorem Fr.p (x : Fr h h') {a i : Nat} (e : scr a i = false) : gP h' a i = gP h a i := (x.2 a i e).2
theorem Fr.K (x : Fr h h') : gI h' 103 = gI h 103 := x.G (fun _ => rfl)
theorem tAt_fr (x : Fr h h') {a : Nat} {T : Tk} (t : tAt h a T) : tAt h' a T := by
  obtain ⟨s, c, ⟨h1, h2, h3, h4, h5, h6⟩, p0, p1, k0, k1, k2, g0, g1⟩ := t
  refine ⟨s, c, ?_, ?_, ?_, ?_, ?_, ?_, ?_, ?_⟩
  · rw [x.1.1]; exact ⟨h1, h2, h3, h4, h5, h6⟩
  · rw [x.p (scr_big h1)]; exact p0
  · rw [x.p (scr_big h1)]; exact p1
  · rw [x.1.2.2]; exact k0
  · rw [x.1.2.2]; exact k1
  · rw [x.1.2.2]; exact k2
  · rw [x.G (fun _ => scr_big h3)]; exact g0
  · rw [x.G (fun _ => scr_big h5)]; exact g1
/-- a State of the class whose places are the same -/
theorem STS_of {o : Nat} {K : Nat → Int32} (hg : ∀ c i, 2 ≤ c → c ≤ 25 → (c = 8 → i ≤ 2) → gI h' (c + o) i = gI h (c + o) i) (hp : ∀ t, gP h' (25 + o) t = gP h (25 + o) t) (ht : ∀ a T, tAt h a T → tAt h' a T) (z : STS h o K) : STS h' o K := by
  obtain ⟨w, q, x, u⟩ := z
  refine ⟨w, ?_, ?_, ?_⟩
  · have hA : ∀ c n b s, 2 ≤ c → c ≤ 25 → c ≠ 8 → AR h K (c + o) n b s → AR h' K (c + o) n b s := fun c n b s h1 h2 h3 z i hi => (hg c i h1 h2 (fun e => absurd e h3)).trans (z i hi)
    obtain ⟨⟨a1, a2, a3, a4, a5⟩, ⟨b1, b2, b3, b4⟩, c1, ⟨d1, d2⟩, ⟨e1, e2, e3, e4, e5⟩, ⟨f1, f2, f3, f4, f5, f6⟩⟩ := q
    exact ⟨⟨(hg 3 4 (by omega) (by omega) (by omega)).trans a1, (hg 8 2 (by omega) (by omega) (by omega)).trans a2, (hg 11 5 (by omega) (by omega) (by omega)).trans a3, (hg 11 13 (by omega) (by omega) (by omega)).trans a4, (hg 2 5 (by omega) (by omega) (by omega)).trans a5⟩,
      ⟨hA 4 _ _ _ (by omega) (by omega) (by omega) b1, hA 5 _ _ _ (by omega) (by omega) (by omega) b2, hA 6 _ _ _ (by omega) (by omega) (by omega) b3, fun f r hf hr => (hg 7 _ (by omega) (by omega) (by omega)).trans (b4 f r hf hr)⟩,
      hA 24 _ _ _ (by omega) (by omega) (by omega) c1, ⟨hA 9 _ _ _ (by omega) (by omega) (by omega) d1, hA 10 _ _ _ (by omega) (by omega) (by omega) d2⟩,
      ⟨hA 12 _ _ _ (by omega) (by omega) (by omega) e1, hA 13 _ _ _ (by omega) (by omega) (by omega) e2, hA 14 _ _ _ (by omega) (by omega) (by omega) e3, hA 15 _ _ _ (by omega) (by omega) (by omega) e4, hA 16 _ _ _ (by omega) (by omega) (by omega) e5⟩,
      ⟨hA 17 _ _ _ (by omega) (by omega) (by omega) f1, hA 18 _ _ _ (by omega) (by omega) (by omega) f2, hA 19 _ _ _ (by omega) (by omega) (by omega) f3, hA 20 _ _ _ (by omega) (by omega) (by omega) f4, hA 21 _ _ _ (by omega) (by omega) (by omega) f5, hA 22 _ _ _ (by omega) (by omega) (by omega) f6⟩⟩
  · intro t ht'
    obtain ⟨a, T, h1, h2, h3⟩ := x t ht'
    exact ⟨a, T, (hp t).trans h1, ht a T h2, h3⟩
  · obtain ⟨σ, h1, h2⟩ := u
    exact ⟨σ, h1, fun i hi => (hg 23 i (by omega) (by omega) (by omega)).trans (h2 i hi)⟩
theorem ALS_mono {n : Nat} (z : ALS n h) : ALS (n + 1) h := by
  rcases z with ⟨h1, h2, h3⟩ | ⟨a, h1, h2, h3, h4, h5, h6, h7⟩
  · exact Or.inl ⟨h1, by omega, by omega⟩
  · exact Or.inr ⟨a, h1, h2, h3, h4, h5, by omega, by omega⟩
theorem ALS_fr {n : Nat} (x : Fr h h') (z : ALS n h) : ALS n h' := by
  rcases z with ⟨h1, h2, h3⟩ | ⟨a, h1, h2, h3, h4, h5, h6, h7⟩
  · exact Or.inl ⟨(x.p rfl).trans h1, by rw [x.1.1]; exact h2, by rw [x.1.2.1]; exact h3⟩
  · refine Or.inr ⟨a, (x.p rfl).trans h1, h2, by rw [x.1.1]; exact h3, by rw [x.1.2.2]; exact h4, ?_, by rw [x.1.1]; exact h6, by rw [x.1.2.1]; exact h7⟩
    intro b hb1 hb2 hb3
    rw [x.1.1] at hb2
    rw [x.1.2.2] at hb3
    rw [x.p (scr_big hb1), x.p (scr_big hb1)]
    exact h5 b hb1 hb2 hb3
theorem TCS_fr (x : Fr h h') (z : TCS h) : TCS h' := by
  refine ⟨by rw [x.1.1]; exact z.1, ?_, ?_⟩
  · intro b hb1 hb2 hb3
    rw [x.1.1] at hb2
    rw [x.1.2.2] at hb3
    rw [x.p (scr_big hb1), x.p (scr_big hb1), x.1.1]
    exact z.2.1 b hb1 hb2 hb3
  · intro c hc t ht a ha
    rw [x.1.1, x.1.2.2]
    refine z.2.2 c hc t ht a ?_
    rcases hc with rfl | rfl | rfl
    · rw [x.p (a := 25) rfl] at ha; exact ha
    · rw [x.p (a := 50) rfl] at ha; exact ha
    · rw [x.p (a := 74) rfl] at ha; exact ha
theorem scr_st {o c i : Nat} (ho : o = 0 ∨ o = 25 ∨ o = 49) (h1 : 2 ≤ c) (h2 : c ≤ 25) (h3 : c = 8 → i ≤ 2) : scr (c + o) i = false := by
  have key : ∀ c, c < 26 → 2 ≤ c → c ≠ 8 → ∀ o, (o = 0 ∨ o = 25 ∨ o = 49) → ∀ k ∈ [8, 76, 78, 79, 80, 81, 82, 83, 84, 85, 87, 88, 89, 90, 91, 92, 94, 95, 96, 97, 98, 99, 101, 108, 109, 110, 111, 112, 113, 114, 115, 116, 117, 118, 119, 120], Nat.beq (c + o) k = false := by
    intro c hc hc2 hc8 o ho k hk
    cases e : Nat.beq (c + o) k with
    | false => rfl
    | true =>
      have he := Nat.eq_of_beq_eq_true e
      simp only [List.mem_cons, List.not_mem_nil, or_false] at hk
      omega
  by_cases h8 : c = 8
  · subst h8
    have hi := h3 rfl
    rcases ho with rfl | rfl | rfl
    · rcases (show i = 0 ∨ i = 1 ∨ i = 2 by omega) with rfl | rfl | rfl <;> rfl
    · rfl
    · rfl
  · have hb := key c (by omega) h1 h8 o ho
    unfold scr
    simp only [hb 8 (by decide), hb 76 (by decide), hb 78 (by decide), hb 79 (by decide), hb 80 (by decide), hb 81 (by decide), hb 82 (by decide), hb 83 (by decide), hb 84 (by decide), hb 85 (by decide), hb 87 (by decide), hb 88 (by decide), hb 89 (by decide), hb 90 (by decide), hb 91 (by decide), hb 92 (by decide), hb 94 (by decide), hb 95 (by decide), hb 96 (by decide), hb 97 (by decide), hb 98 (by decide), hb 99 (by decide), hb 101 (by decide), hb 108 (by decide), hb 109 (by decide), hb 110 (by decide), hb 111 (by decide), hb 112 (by decide), hb 113 (by decide), hb 114 (by decide), hb 115 (by decide), hb 116 (by decide), hb 117 (by decide), hb 118 (by decide), hb 119 (by decide), hb 120 (by decide), Bool.false_and, Bool.or_false]
theorem STS_fr (x : Fr h h') {o : Nat} {K : Nat → Int32} (ho : o = 0 ∨ o = 25 ∨ o = 49) (z : STS h o K) : STS h' o K :=
  STS_of (fun c i h1 h2 h3 => x.g (scr_st ho h1 h2 h3)) (fun t => x.p (scr_st (c := 25) ho (by omega) (by omega) (by omega))) (fun a T => tAt_fr x) z
theorem Inv_fr {n : Nat} (x : Fr h h') (z : Inv n h) : Inv (n + 1) h' := by
  obtain ⟨i1, i2, i3, i4, i5, i6, i7, i8, i9⟩ := z
  have hK := x.K
  refine ⟨?_, ?_, ?_, ?_, ?_, ?_, TCS_fr x i7, ALS_mono (ALS_fr x i8), ?_⟩
  · rw [hK]; exact STS_fr x (Or.inl rfl) i1
  · intro k hk
    obtain ⟨a1, a2, a3⟩ := i2 k hk
    rw [x.g (a := 75) (i := k) rfl, x.g (a := 105) (i := k) rfl]
    refine ⟨a1, a2, fun e => ?_⟩
    have hm : imK h' k = imK h k := by unfold imK; rw [x.G (a := 104) (fun _ => rfl)]
    rw [hm]
    exact STS_fr x (by rcases (show k = 0 ∨ k = 1 by omega) with rfl | rfl <;> simp) (a3 e)
  · refine ⟨fun i hi => ?_, ?_, ?_⟩
    · rw [x.g (a := 77) (i := i) rfl, x.g (a := 107) (i := i) rfl]; exact i3.1 i hi
    · rw [x.g (a := 76) (i := 1) rfl, x.g (a := 101) (i := 8) rfl]; exact i3.2.1
    · rw [x.g (a := 76) (i := 1) rfl]; exact i3.2.2
  · unfold RFS
    rw [x.G (a := 100) (fun _ => rfl), x.G (a := 102) (fun _ => rfl)]; exact i4
  · rw [x.G (a := 1) (fun _ => rfl), x.g (a := 101) (i := 0) rfl, x.g (a := 101) (i := 9) rfl]; exact i5
  · unfold WDS
    rw [x.G (a := 106) (fun _ => rfl)]; exact i6
  · intro a b ha hb
    rw [x.p (a := 88) (i := 12) rfl] at ha
    rw [x.p (a := 88) (i := 13) rfl] at hb
    obtain ⟨Tm, Ts, t1, t2, t3⟩ := i9 a b ha hb
    rw [hK, x.g (a := 88) (i := 11) rfl]
    exact ⟨Tm, Ts, tAt_fr x t1, tAt_fr x t2, t3⟩
end FRS
