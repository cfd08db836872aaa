/-! tokens of a tape -/
def smP (x : Int32) : Prop := nI 97 ≤ x ∧ x ≤ nI 122
def dgP (x : Int32) : Prop := nI 48 ≤ x ∧ x ≤ nI 57
section LX
variable (B : Nat → Int32) (n : Nat)
noncomputable def scg (p : Int32 → Prop) : Nat → Nat → Nat
  | 0, i => i
  | k + 1, i => pif (i < n ∧ p (B i)) (scg p k (i + 1)) i
/-- the first place from i on where p doesn't hold -/
noncomputable def scn (p : Int32 → Prop) (i : Nat) : Nat := scg B n p (n - i) i
theorem scn_y {p : Int32 → Prop} {i : Nat} (h1 : i < n) (h2 : p (B i)) : scn B n p i = scn B n p (i + 1) := by
  unfold scn
  rw [show n - i = (n - (i + 1)) + 1 by omega]
  show pif (i < n ∧ p (B i)) _ _ = _
  rw [pif_t ⟨h1, h2⟩]
theorem scn_n {p : Int32 → Prop} {i : Nat} (h : ¬ (i < n ∧ p (B i))) : scn B n p i = i := by
  unfold scn
  cases n - i with
  | zero => rfl
  | succ k =>
    show pif (i < n ∧ p (B i)) _ _ = _
    rw [pif_f h]
theorem scg_le {p : Int32 → Prop} : ∀ k i, i ≤ scg B n p k i ∧ scg B n p k i ≤ i + k
  | 0, i => ⟨Nat.le_refl _, Nat.le_refl _⟩
  | k + 1, i => by
    show i ≤ pif (i < n ∧ p (B i)) _ _ ∧ pif (i < n ∧ p (B i)) _ _ ≤ i + (k + 1)
    by_cases c : i < n ∧ p (B i)
    · rw [pif_t c]
      have := scg_le (p := p) k (i + 1)
      omega
    · rw [pif_f c]; omega
theorem scn_le {p : Int32 → Prop} {i : Nat} (hi : i ≤ n) : i ≤ scn B n p i ∧ scn B n p i ≤ n := by
  have := scg_le B n (p := p) (n - i) i
  unfold scn
  omega
noncomputable def tkE (k : Nat) : Nat := pif (n ≤ k) k (pif (smP (B k)) (scn B n smP k) (pif (dgP (B k)) (scn B n dgP k) (k + 1)))
noncomputable def tps : Nat → Nat
  | 0 => 0
  | j + 1 => tkE B n (scn B n (fun x => x = nI 32) (tps j))
/-- where token j stands -/
noncomputable def tpl (j : Nat) : Nat := scn B n (fun x => x = nI 32) (tps B n j)
theorem tkE_le {k : Nat} (hk : k ≤ n) : k ≤ tkE B n k ∧ tkE B n k ≤ n ∧ (k < n → k < tkE B n k) := by
  unfold tkE
  by_cases c : n ≤ k
  · rw [pif_t c]; omega
  · rw [pif_f c]
    have hk' : k < n := by omega
    by_cases c1 : smP (B k)
    · rw [pif_t c1, scn_y B n hk' c1]
      have := scn_le B n (p := smP) (i := k + 1) (by omega)
      omega
    · rw [pif_f c1]
      by_cases c2 : dgP (B k)
      · rw [pif_t c2, scn_y B n hk' c2]
        have := scn_le B n (p := dgP) (i := k + 1) (by omega)
        omega
      · rw [pif_f c2]; omega
theorem tps_le : ∀ j, tps B n j ≤ n
  | 0 => Nat.zero_le _
  | j + 1 => by
    have h1 := scn_le B n (p := fun x => x = nI 32) (tps_le j)
    exact (tkE_le B n h1.2).2.1
theorem tpl_le (j : Nat) : tps B n j ≤ tpl B n j ∧ tpl B n j ≤ n := scn_le B n (tps_le B n j)
theorem tps_s (j : Nat) : tps B n (j + 1) = tkE B n (tpl B n j) := rfl
theorem tps_lt {j : Nat} (h : tpl B n j < n) : tpl B n j < tps B n (j + 1) := (tkE_le B n (tpl_le B n j).2).2.2 h
theorem tpl_mo (j : Nat) : tpl B n j ≤ tpl B n (j + 1) := by
  have h1 := (tkE_le B n (tpl_le B n j).2).1
  have h2 := (tpl_le B n (j + 1)).1
  rw [tps_s] at h2
  omega
/-- tokens take room -/
theorem tpl_ge : ∀ j, tpl B n j < n → j ≤ tpl B n j
  | 0, _ => Nat.zero_le _
  | j + 1, h => by
    have h0 := tpl_mo B n j
    have h1 := tpl_ge j (by omega)
    have h2 := tps_lt B n (j := j) (by omega)
    have h3 := (tpl_le B n (j + 1)).1
    omega
theorem tpl_end {j : Nat} (h : n ≤ tpl B n j) : tpl B n (j + 1) = tpl B n j ∧ tps B n (j + 1) = tpl B n j := by
  have h1 := tpl_le B n j
  have e : tps B n (j + 1) = tpl B n j := by
    rw [tps_s]
    unfold tkE
    rw [pif_t h]
  refine ⟨?_, e⟩
  have h2 := tpl_le B n (j + 1)
  omega
/-- how many tokens there are -/
theorem tk_ex : ∃ m, m ≤ n ∧ n ≤ tpl B n m ∧ ∀ j, j < m → tpl B n j < n := by
  have key : ∀ k, (∀ j, j < k → tpl B n j < n) ∨ ∃ m, m ≤ n ∧ n ≤ tpl B n m ∧ ∀ j, j < m → tpl B n j < n := by
    intro k
    induction k with
    | zero => left; intro j hj; omega
    | succ k ih =>
      rcases ih with ih | ih
      · by_cases c : tpl B n k < n
        · left
          intro j hj
          by_cases e : j = k
          · rw [e]; exact c
          · exact ih j (by omega)
        · right
          refine ⟨k, ?_, by omega, ih⟩
          cases k with
          | zero => omega
          | succ k =>
            have h1 := tpl_ge B n k (ih k (by omega))
            have h2 := ih k (by omega)
            omega
      · exact Or.inr ih
  rcases key (n + 1) with h | h
  · have := tpl_ge B n n (h n (by omega))
    have := h n (by omega)
    omega
  · exact h
/-! names -/
def wsL : List Nat := [0, 5, 10, 14, 19, 22, 25, 29, 33, 40, 46, 51, 57, 62, 67, 72, 78, 84, 89, 96, 103]
def ws (w : Nat) : Nat := wsL.getD w 103
def wl (w : Nat) : Nat := ws (w + 1) - ws w - 1
theorem ws_ok : ∀ w, w < 20 → ws w + wl w < 103 ∧ ws (w + 1) = ws w + wl w + 1 ∧ nms (ws w + wl w) = nI 32 := by decide
theorem ws_in : ∀ w, w < 20 → ∀ t, t < wl w → ¬ nms (ws w + t) = nI 32 := by decide
def maW (a b w : Nat) : Prop := b - a = wl w ∧ ∀ t, t < wl w → B (a + t) = nms (ws w + t)
noncomputable def wrd (a b : Nat) : Nat → Nat → Nat
  | 0, _ => 21
  | k + 1, w => pif (maW B a b w) w (wrd a b k (w + 1))
/-- which name it is (21: none) -/
noncomputable def kwd (a b : Nat) : Nat := wrd B a b 20 0
theorem wrd_r (a b : Nat) : ∀ k w, w + k = 20 → wrd B a b k w < 20 ∨ wrd B a b k w = 21
  | 0, _, _ => Or.inr rfl
  | k + 1, w, e => by
    show pif (maW B a b w) w _ < 20 ∨ pif (maW B a b w) w _ = 21
    by_cases c : maW B a b w
    · rw [pif_t c]; omega
    · rw [pif_f c]; exact wrd_r a b k (w + 1) (by omega)
/-- numbers -/
noncomputable def nmC (a : Nat) : Nat → Nat
  | 0 => 0
  | k + 1 => min 1001 (nmC a k * 10 + ((B (a + k)).toNatClampNeg - 48))
noncomputable def nmM (a : Nat) : Nat → Nat
  | 0 => 0
  | k + 1 => if 1000000 < nmM a k then nmM a k else 10 * nmM a k + ((B (a + k)).toNatClampNeg - 48)
theorem nm_eq (a : Nat) : ∀ k, (nmM B a k ≤ 1000 → nmC B a k = nmM B a k) ∧ (1000 < nmM B a k → nmC B a k = 1001)
  | 0 => ⟨fun _ => rfl, fun h => by unfold nmM at h; omega⟩
  | k + 1 => by
    obtain ⟨h1, h2⟩ := nm_eq a k
    unfold nmM nmC
    by_cases c : 1000000 < nmM B a k
    · rw [if_pos c, h2 (by omega)]
      omega
    · rw [if_neg c]
      by_cases c2 : nmM B a k ≤ 1000
      · rw [h1 c2]; omega
      · rw [h2 (by omega)]; omega
/-- what a token is: 0 to 19 names, 20 a number, 21 neither, 22 the end, 1000 and a byte -/
noncomputable def tg (j : Nat) : Nat := pif (n ≤ tpl B n j) 22 (pif (smP (B (tpl B n j))) (kwd B (tpl B n j) (tps B n (j + 1))) (pif (dgP (B (tpl B n j))) (if nmM B (tpl B n j) (tps B n (j + 1) - tpl B n j) ≤ 1000 then 20 else 21) (1000 + (B (tpl B n j) &&& nI 255).toNatClampNeg)))
noncomputable def tnm (j : Nat) : Nat := nmM B (tpl B n j) (tps B n (j + 1) - tpl B n j)
end LX
def kdI (x : Nat) : Int32 := if x < 1128 then nI x else nI (x - 256)
theorem by_u : ∀ u, u < 256 → ((Int8.ofNat u).toInt32 &&& nI 255 = nI u ∧ nI 1000 + (Int8.ofNat u).toInt32 = kdI (1000 + u)) := by decide +kernel
theorem by_x {x : Int32} (hx : x.toInt8.toInt32 = x) : ∃ u, u < 256 ∧ x &&& nI 255 = nI u ∧ nI 1000 + x = kdI (1000 + u) := by
  have e : x.toInt8 = Int8.ofNat x.toInt8.toBitVec.toNat := by
    apply Int8.toBitVec_inj.1
    show x.toInt8.toBitVec = BitVec.ofNat 8 x.toInt8.toBitVec.toNat
    rw [BitVec.ofNat_toNat]
    simp
  have hl : x.toInt8.toBitVec.toNat < 256 := x.toInt8.toBitVec.isLt
  obtain ⟨h1, h2⟩ := by_u _ hl
  rw [← e, hx] at h1 h2
  exact ⟨_, hl, h1, h2⟩
theorem kdI_w {x w : Nat} (hx : x < 23 ∨ (1000 ≤ x ∧ x < 1256)) (hw : w < 23) : (kdI x = nI w) = (x = w) := by
  unfold kdI
  by_cases c : x < 1128
  · rw [if_pos c, nI_eq (by omega) (by omega)]
  · rw [if_neg c, nI_eq (by omega) (by omega)]
    apply propext
    omega
theorem kdI_s {x u : Nat} (hx : x < 23 ∨ (1000 ≤ x ∧ x < 1256)) (hu : u < 128) : (kdI x = nI (1000 + u)) = (x = 1000 + u) := by
  unfold kdI
  by_cases c : x < 1128
  · rw [if_pos c, nI_eq (by omega) (by omega)]
  · rw [if_neg c, nI_eq (by omega) (by omega)]
    apply propext
    omega
theorem kdI_lt {x w : Nat} (hx : x < 23 ∨ (1000 ≤ x ∧ x < 1256)) (hw : w < 23) : (kdI x < nI w) = (x < w) := by
  unfold kdI
  by_cases c : x < 1128
  · rw [if_pos c, nI_ltI (by omega) (by omega)]
  · rw [if_neg c, nI_ltI (by omega) (by omega)]
    apply propext
    omega
theorem kdI_gt {x w : Nat} (hx : x < 23 ∨ (1000 ≤ x ∧ x < 1256)) (hw : w < 23) : (nI w < kdI x) = (w < x) := by
  unfold kdI
  by_cases c : x < 1128
  · rw [if_pos c, nI_ltI (by omega) (by omega)]
  · rw [if_neg c, nI_ltI (by omega) (by omega)]
    apply propext
    omega
section LY
variable {B : Nat → Int32} {n : Nat}
theorem tg_r (hB : ∀ i, i < 400 → (B i).toInt8.toInt32 = B i) (hn : n ≤ 400) (j : Nat) : tg B n j < 23 ∨ (1000 ≤ tg B n j ∧ tg B n j < 1256) := by
  unfold tg
  by_cases c : n ≤ tpl B n j
  · rw [pif_t c]; omega
  · rw [pif_f c]
    by_cases c1 : smP (B (tpl B n j))
    · rw [pif_t c1]
      have := wrd_r B (tpl B n j) (tps B n (j + 1)) 20 0 rfl
      unfold kwd
      omega
    · rw [pif_f c1]
      by_cases c2 : dgP (B (tpl B n j))
      · rw [pif_t c2]
        split <;> omega
      · rw [pif_f c2]
        obtain ⟨u, h1, h2, h3⟩ := by_x (hB (tpl B n j) (by omega))
        rw [h2, nI_clamp (by omega)]
        omega
theorem tg_end (hB : ∀ i, i < 400 → (B i).toInt8.toInt32 = B i) (hn : n ≤ 400) (j : Nat) : tg B n j = 22 ↔ n ≤ tpl B n j := by
  constructor
  · intro e
    rcases Nat.lt_or_ge (tpl B n j) n with q | q
    · exfalso
      unfold tg at e
      rw [pif_f (by omega)] at e
      by_cases c1 : smP (B (tpl B n j))
      · rw [pif_t c1] at e
        have := wrd_r B (tpl B n j) (tps B n (j + 1)) 20 0 rfl
        unfold kwd at e
        omega
      · rw [pif_f c1] at e
        by_cases c2 : dgP (B (tpl B n j))
        · rw [pif_t c2] at e
          split at e <;> omega
        · rw [pif_f c2] at e; omega
    · exact q
  · intro q
    unfold tg
    rw [pif_t q]
end LY
