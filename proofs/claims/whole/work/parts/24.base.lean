/-! plain rows on ints, truth values, heaps, loops -/
theorem q_rs (a : Nat) : va_rf (some a) = .ref a := rfl
theorem q_rn : va_rf none = .null := rfl
theorem q_vp {n N : Nat} (hn : n < 2147483648) : vp_in (nI n) N = (n < N) := by
  apply propext
  rw [vp_in_iff, nI_toInt hn]
  omega
theorem q_sub {a b : Nat} (h : b ≤ a) : nI a - nI b = nI (a - b) := pk_sub h
theorem q_lep {x : Int32} {n : Nat} (hn : n < 2147483648) : (x ≤ nI n - nI 1) = (x < nI n) := by
  apply propext
  cases n with
  | zero =>
    rw [Int32.le_iff_toInt_le, Int32.lt_iff_toInt_lt]
    have : (nI 0 - nI 1).toInt = -1 := by decide
    have h0 : (nI 0).toInt = 0 := by decide
    rw [this, h0]
    omega
  | succ m =>
    rw [q_sub (by omega), Int32.le_iff_toInt_le, Int32.lt_iff_toInt_lt, nI_toInt hn, nI_toInt (show m + 1 - 1 < 2 ^ 31 by omega)]
    omega
theorem q_ix {x : Int32} {n : Nat} (hn : n < 2147483648) (h0 : nI 0 ≤ x) (h1 : x < nI n) : ∃ j : Nat, j < n ∧ x = nI j := by
  rw [Int32.le_iff_toInt_le, show (nI 0).toInt = 0 by decide] at h0
  rw [Int32.lt_iff_toInt_lt, nI_toInt hn] at h1
  exact vp_in_of (vp_in_iff.mpr ⟨h0, h1⟩) hn
noncomputable def bz (p : Prop) : Int32 := @ite _ p (Classical.propDecidable p) (nI 1) (nI 0)
theorem q_bt {p : Prop} (h : p) : bz p = nI 1 := by unfold bz; rw [if_pos h]
theorem q_bf {p : Prop} (h : ¬ p) : bz p = nI 0 := by unfold bz; rw [if_neg h]
theorem q_01 : ¬ nI 1 = nI 0 := by decide
theorem q_10 : ¬ nI 0 = nI 1 := by decide
theorem q_b0 (p : Prop) : (bz p = nI 0) = ¬ p := by
  apply propext
  by_cases h : p
  · rw [q_bt h]; exact ⟨fun q => absurd q q_01, fun q => absurd h q⟩
  · rw [q_bf h]; exact ⟨fun _ => h, fun _ => rfl⟩
theorem q_b1 (p : Prop) : (bz p = nI 1) = p := by
  apply propext
  by_cases h : p
  · rw [q_bt h]; exact ⟨fun _ => h, fun _ => rfl⟩
  · rw [q_bf h]; exact ⟨fun q => absurd q q_10, fun q => absurd q h⟩
theorem q_bok (p : Prop) : (bz p = nI 0 ∨ bz p = nI 1) = True := by
  rw [q_b0, q_b1]
  apply propext
  exact ⟨fun _ => trivial, fun _ => (Classical.em p).symm⟩
theorem q_em (p : Prop) : (¬ p ∨ p) = True := eq_true (Classical.em p).symm
theorem q_em2 (p : Prop) : (p ∨ ¬ p) = True := eq_true (Classical.em p)
theorem q_bT : bz True = nI 1 := q_bt trivial
theorem q_bF : bz False = nI 0 := q_bf (fun q => q)
theorem q_n0 : (nI 1 = nI 0) = False := eq_false q_01
theorem q_n1 : (nI 0 = nI 1) = False := eq_false q_10
theorem q_bif {p : Prop} [Decidable p] : (if p then nI 1 else nI 0) = bz p := by
  by_cases h : p
  · rw [if_pos h, q_bt h]
  · rw [if_neg h, q_bf h]
theorem q_bif2 {p : Prop} [Decidable p] : (if p then nI 0 else nI 1) = bz (¬ p) := by
  by_cases h : p
  · rw [if_pos h, q_bf (fun q => q h)]
  · rw [if_neg h, q_bt h]
theorem q_bi1 {p q : Prop} [Decidable p] : (if p then nI 0 else bz q) = bz (¬ p ∧ q) := by
  by_cases h : p
  · rw [if_pos h, q_bf (fun z => z.1 h)]
  · rw [if_neg h]; exact congrArg bz (propext ⟨fun z => ⟨h, z⟩, fun z => z.2⟩)
theorem q_bi2 {p q : Prop} [Decidable p] : (if p then bz q else nI 0) = bz (p ∧ q) := by
  by_cases h : p
  · rw [if_pos h]; exact congrArg bz (propext ⟨fun z => ⟨h, z⟩, fun z => z.2⟩)
  · rw [if_neg h, q_bf (fun z => h z.1)]
theorem q_bi3 {p q : Prop} [Decidable p] : (if p then nI 1 else bz q) = bz (p ∨ q) := by
  by_cases h : p
  · rw [if_pos h, q_bt (Or.inl h)]
  · rw [if_neg h]; exact congrArg bz (propext ⟨fun z => Or.inr z, fun z => z.elim (fun w => absurd w h) (fun w => w)⟩)
theorem q_bi4 {p q : Prop} [Decidable p] : (if p then bz q else nI 1) = bz (¬ p ∨ q) := by
  by_cases h : p
  · rw [if_pos h]; exact congrArg bz (propext ⟨fun z => Or.inr z, fun z => z.elim (fun w => absurd h w) (fun w => w)⟩)
  · rw [if_neg h, q_bt (Or.inl h)]
/-- two ways that end alike but for the answer -/
theorem q_ifF {p : Prop} [Decidable p] {x y : Int32} {h : Hp} (F : Po) : (if p then F (some (.int x)) h else F (some (.int y)) h) = F (some (.int (if p then x else y))) h := by
  by_cases hp : p
  · rw [if_pos hp, if_pos hp]
  · rw [if_neg hp, if_neg hp]
section HEAP
variable (h : Hp) (a b i j n k : Nat) (v : Int32) (w : Int64) (r : Option Nat) (f : Nat → Int32)
theorem q_gi : gI (sI h a i v) b j = if b = a ∧ j = i then v else gI h b j := rfl
theorem q_gs : gI (sI h a i v) a i = v := if_pos ⟨rfl, rfl⟩
theorem q_gn {h : Hp} {a b i : Nat} {v : Int32} (hn : b ≠ a) : gI (sI h a i v) b = gI h b := by
  funext j
  exact if_neg (fun q => hn q.1)
theorem q_gm {h : Hp} {a i j : Nat} {v : Int32} (hn : j ≠ i) : gI (sI h a i v) a j = gI h a j := if_neg (fun q => hn q.2)
theorem q_ga : gI (sA h a f) a = f := if_pos rfl
theorem q_gan {h : Hp} {a b : Nat} {f : Nat → Int32} (hn : b ≠ a) : gI (sA h a f) b = gI h b := if_neg hn
theorem q_gIJ : gI (sJ h a i w) = gI h := rfl
theorem q_gIP : gI (sP h a i r) = gI h := rfl
theorem q_gJI : gJ (sI h a i v) = gJ h := rfl
theorem q_gJA : gJ (sA h a f) = gJ h := rfl
theorem q_gJP : gJ (sP h a i r) = gJ h := rfl
theorem q_gPI : gP (sI h a i v) = gP h := rfl
theorem q_gPA : gP (sA h a f) = gP h := rfl
theorem q_gPJ : gP (sJ h a i w) = gP h := rfl
theorem q_hkI : hk (sI h a i v) = hk h := rfl
theorem q_hkA : hk (sA h a f) = hk h := rfl
theorem q_hkJ : hk (sJ h a i w) = hk h := rfl
theorem q_hkP : hk (sP h a i r) = hk h := rfl
theorem q_hzI : hz (sI h a i v) = hz h := rfl
theorem q_hzA : hz (sA h a f) = hz h := rfl
theorem q_hzJ : hz (sJ h a i w) = hz h := rfl
theorem q_hzP : hz (sP h a i r) = hz h := rfl
theorem q_huI : hu (sI h a i v) = hu h := rfl
theorem q_huA : hu (sA h a f) = hu h := rfl
theorem q_huJ : hu (sJ h a i w) = hu h := rfl
theorem q_huP : hu (sP h a i r) = hu h := rfl
theorem q_js : gJ (sJ h a i w) a i = w := if_pos ⟨rfl, rfl⟩
theorem q_jn {h : Hp} {a b i : Nat} {w : Int64} (hn : b ≠ a) : gJ (sJ h a i w) b = gJ h b := by
  funext j
  exact if_neg (fun q => hn q.1)
theorem q_jm {h : Hp} {a i j : Nat} {w : Int64} (hn : j ≠ i) : gJ (sJ h a i w) a j = gJ h a j := if_neg (fun q => hn q.2)
theorem q_ps : gP (sP h a i r) a i = r := if_pos ⟨rfl, rfl⟩
theorem q_pn {h : Hp} {a b i : Nat} {r : Option Nat} (hn : b ≠ a) : gP (sP h a i r) b = gP h b := by
  funext j
  exact if_neg (fun q => hn q.1)
theorem q_pm {h : Hp} {a i j : Nat} {r : Option Nat} (hn : j ≠ i) : gP (sP h a i r) a j = gP h a j := if_neg (fun q => hn q.2)
/-- a store is an array with one place changed -/
theorem q_sIA : sI h a i v = sA h a (upd (gI h a) i v) := by
  unfold sI sA
  have : up2 (gI h) a i v = up1 (gI h) a (upd (gI h a) i v) := by
    funext b j
    unfold up2 up1 upd
    by_cases hb : b = a
    · subst hb
      by_cases hj : j = i
      · rw [if_pos ⟨rfl, hj⟩, if_pos rfl, if_pos hj]
      · rw [if_neg (fun q => hj q.2), if_pos rfl, if_neg hj]
    · rw [if_neg (fun q => hb q.1), if_neg hb]
  rw [this]
theorem q_sAA (g : Nat → Int32) : sA (sA h a f) a g = sA h a g := by
  unfold sA
  have : up1 (gI (hz h, hu h, hk h, up1 (gI h) a f, gJ h, gP h)) a g = up1 (gI h) a g := by
    funext b
    unfold up1 gI
    by_cases hb : b = a
    · rw [if_pos hb, if_pos hb]
    · rw [if_neg hb, if_neg hb]
      exact if_neg hb
  rw [this]
  rfl
theorem q_sAc {h : Hp} {a b : Nat} {f g : Nat → Int32} (hn : b < a) : sA (sA h a f) b g = sA (sA h b g) a f := by
  unfold sA
  have : up1 (gI (hz h, hu h, hk h, up1 (gI h) a f, gJ h, gP h)) b g = up1 (gI (hz h, hu h, hk h, up1 (gI h) b g, gJ h, gP h)) a f := by
    funext c
    unfold up1 gI
    by_cases h1 : c = a
    · rw [if_pos h1, if_neg (by omega)]
      exact if_pos h1
    · by_cases h2 : c = b
      · rw [if_pos h2, if_neg h1]
        exact (if_pos h2).symm
      · rw [if_neg h1, if_neg h2]
        exact (if_neg h1).trans (if_neg h2).symm
  rw [this]
  rfl
theorem q_sAs : sA h a (gI h a) = h := by
  unfold sA
  have : up1 (gI h) a (gI h a) = gI h := by
    funext b
    unfold up1
    by_cases hb : b = a
    · rw [if_pos hb, hb]
    · rw [if_neg hb]
  rw [this]
  rfl
end HEAP
section LOOP
variable {α : Type}
def q_lp (f : Nat → α → α) : Nat → Nat → α → α
  | 0, _, s => s
  | n + 1, i, s => q_lp f n (i + 1) (f i s)
theorem q_lpR (f : Nat → α → α) : ∀ (n i : Nat) (s : α), q_lp f (n + 1) i s = f (i + n) (q_lp f n i s)
  | 0, _, _ => rfl
  | n + 1, i, s => by
    show q_lp f (n + 1) (i + 1) (f i s) = f (i + (n + 1)) (q_lp f n (i + 1) (f i s))
    rw [q_lpR f n (i + 1) (f i s), show i + 1 + n = i + (n + 1) by omega]
theorem q_for {P : Nat → α → Prop} (f : Nat → α → α) (J : Nat → α → Prop) (n : Nat) (hs : ∀ i s, i < n → J i s → P i s = P (i + 1) (f i s) ∧ J (i + 1) (f i s)) : ∀ k i s, i + k = n → J i s → P i s = P n (q_lp f k i s) ∧ J n (q_lp f k i s)
  | 0, i, s, e, hj => by
    obtain rfl : i = n := e
    exact ⟨rfl, hj⟩
  | k + 1, i, s, e, hj => by
    obtain ⟨h1, h2⟩ := hs i s (by omega) hj
    obtain ⟨h3, h4⟩ := q_for f J n hs k (i + 1) (f i s) (by omega) h2
    exact ⟨h1.trans h3, h4⟩
theorem q_for0 {P : Nat → α → Prop} (f : Nat → α → α) (n : Nat) (s : α) (hs : ∀ i s, i < n → P i s = P (i + 1) (f i s)) : P 0 s = P n (q_lp f n 0 s) := (q_for f (fun _ _ => True) n (fun i s hi _ => ⟨hs i s hi, trivial⟩) n 0 s (by omega) trivial).1
theorem q_inv {f : Nat → α → α} {J : Nat → α → Prop} {n : Nat} (hs : ∀ i s, i < n → J i s → J (i + 1) (f i s)) {s : α} (h0 : J 0 s) : J n (q_lp f n 0 s) := (q_for (P := fun _ _ => True) f J n (fun i s hi hj => ⟨rfl, hs i s hi hj⟩) n 0 s (by omega) h0).2
end LOOP
