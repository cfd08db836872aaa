/-! counting choices by how many and their sum -/
noncomputable def zN (P : Nat → Prop) (w : Nat → Int) : Nat → (Int → Int → Nat) → Nat
  | 0, φ => φ 0 0
  | n + 1, φ => zN P w n φ + pif (P n) (zN P w n (fun k s => φ (k + 1) (s + w n))) 0
section ZN
variable {P : Nat → Prop} {w : Nat → Int}
theorem zN_s (n : Nat) (φ : Int → Int → Nat) : zN P w (n + 1) φ = zN P w n φ + pif (P n) (zN P w n (fun k s => φ (k + 1) (s + w n))) 0 := rfl
theorem zN_e {φ ψ : Int → Int → Nat} (n : Nat) (hh : ∀ k s, φ k s = ψ k s) : zN P w n φ = zN P w n ψ := by
  rw [show φ = ψ from funext fun k => funext fun s => hh k s]
theorem zN_add : ∀ n (φ ψ : Int → Int → Nat), zN P w n (fun k s => φ k s + ψ k s) = zN P w n φ + zN P w n ψ
  | 0, _, _ => rfl
  | n + 1, φ, ψ => by
    rw [zN_s, zN_s, zN_s, zN_add n φ ψ]
    by_cases c : P n
    · rw [pif_t c, pif_t c, pif_t c, zN_add n (fun k s => φ (k + 1) (s + w n)) (fun k s => ψ (k + 1) (s + w n))]; omega
    · rw [pif_f c, pif_f c, pif_f c]; omega
theorem zN_bd : ∀ n (φ ψ : Int → Int → Nat), (∀ i, i < n → P i → 0 ≤ w i ∧ w i ≤ 160) → (∀ k s, 0 ≤ k → k ≤ (cntT P n : Int) → 0 ≤ s → s ≤ 160 * (n : Int) → φ k s = ψ k s) → zN P w n φ = zN P w n ψ
  | 0, φ, ψ, _, hh => hh 0 0 (by omega) (by omega) (by omega) (by omega)
  | n + 1, φ, ψ, hw, hh => by
    rw [zN_s, zN_s]
    have hcn := cnt_s P n
    rw [zN_bd n φ ψ (fun i hi => hw i (by omega)) (fun k s h1 h2 h3 h4 => hh k s h1 (by rw [hcn]; omega) h3 (by omega))]
    by_cases c : P n
    · have hwn := hw n (by omega) c
      rw [pif_t c, pif_t c, zN_bd n (fun k s => φ (k + 1) (s + w n)) (fun k s => ψ (k + 1) (s + w n)) (fun i hi => hw i (by omega)) (fun k s h1 h2 h3 h4 => hh (k + 1) (s + w n) (by omega) (by rw [hcn, pif_t c]; omega) (by omega) (by omega))]
    · rw [pif_f c, pif_f c]
theorem zN_0 : ∀ n, zN P w n (fun _ _ => 0) = 0
  | 0 => rfl
  | n + 1 => by
    rw [zN_s, zN_0 n]
    by_cases c : P n
    · rw [pif_t c]
    · rw [pif_f c]
theorem zN_w {v : Nat → Int} : ∀ n (φ : Int → Int → Nat), (∀ i, i < n → P i → v i = w i) → zN P v n φ = zN P w n φ
  | 0, _, _ => rfl
  | n + 1, φ, hh => by
    rw [zN_s, zN_s, zN_w n φ (fun i hi => hh i (by omega))]
    by_cases c : P n
    · rw [pif_t c, pif_t c, hh n (by omega) c, zN_w n _ (fun i hi => hh i (by omega))]
    · rw [pif_f c, pif_f c]
theorem zN_sh (l : Int) : ∀ n (φ : Int → Int → Nat), zN P (fun i => w i - l) n φ = zN P w n (fun k s => φ k (s - k * l))
  | 0, φ => by
    show φ 0 0 = φ 0 (0 - 0 * l)
    rw [Int.zero_mul]; rfl
  | n + 1, φ => by
    rw [zN_s, zN_s, zN_sh l n φ]
    by_cases c : P n
    · rw [pif_t c, pif_t c, zN_sh l n (fun k s => φ (k + 1) (s + (w n - l)))]
      congr 1
      refine zN_e n (fun k s => ?_)
      show φ (k + 1) (s - k * l + (w n - l)) = φ (k + 1) (s + w n - (k + 1) * l)
      rw [Int.add_mul, Int.one_mul]
      congr 1
      omega
    · rw [pif_f c, pif_f c]
/-- how much they are in all -/
noncomputable def sW (P : Nat → Prop) (w : Nat → Int) : Nat → Int
  | 0 => 0
  | n + 1 => sW P w n + pif (P n) (w n) 0
theorem zN_rf (m : Int) : ∀ n (φ : Int → Int → Nat), zN P (fun i => m - w i) n φ = zN P w n (fun k s => φ ((cntT P n : Int) - k) (((cntT P n : Int) - k) * m - (sW P w n - s)))
  | 0, φ => by
    show φ 0 0 = φ ((0 : Int) - 0) (((0 : Int) - 0) * m - (0 - 0))
    simp
  | n + 1, φ => by
    rw [zN_s, zN_s, zN_rf m n φ]
    by_cases c : P n
    · have h1 : (cntT P (n + 1) : Int) = (cntT P n : Int) + 1 := by rw [cnt_s, pif_t c]; rfl
      have h2 : sW P w (n + 1) = sW P w n + w n := by show sW P w n + pif (P n) (w n) 0 = _; rw [pif_t c]
      rw [pif_t c, pif_t c, zN_rf m n (fun k s => φ (k + 1) (s + (m - w n))), h1, h2, Nat.add_comm]
      congr 1
      · refine zN_e n (fun k s => ?_)
        show φ ((cntT P n : Int) - k + 1) (((cntT P n : Int) - k) * m - (sW P w n - s) + (m - w n)) = φ ((cntT P n : Int) + 1 - k) (((cntT P n : Int) + 1 - k) * m - (sW P w n + w n - s))
        have e1 : (cntT P n : Int) + 1 - k = (cntT P n : Int) - k + 1 := by omega
        rw [e1, Int.add_mul, Int.one_mul]
        congr 1
        omega
      · refine zN_e n (fun k s => ?_)
        show φ ((cntT P n : Int) - k) (((cntT P n : Int) - k) * m - (sW P w n - s)) = φ ((cntT P n : Int) + 1 - (k + 1)) (((cntT P n : Int) + 1 - (k + 1)) * m - (sW P w n + w n - (s + w n)))
        have e1 : (cntT P n : Int) + 1 - (k + 1) = (cntT P n : Int) - k := by omega
        rw [e1]
        congr 1
        omega
    · have h1 : cntT P (n + 1) = cntT P n := by rw [cnt_s, pif_f c, Nat.add_zero]
      have h2 : sW P w (n + 1) = sW P w n := by show sW P w n + pif (P n) (w n) 0 = _; rw [pif_f c, Int.add_zero]
      rw [pif_f c, pif_f c, h1, h2]
/-- the table -/
noncomputable def tb (P : Nat → Prop) (w : Nat → Int) (n k s : Nat) : Nat := zN P w n (fun k' s' => if k' = (k : Int) ∧ s' = (s : Int) then 1 else 0)
theorem tb_0 (k s : Nat) : tb P w 0 k s = if k = 0 ∧ s = 0 then 1 else 0 := by
  show (if (0 : Int) = (k : Int) ∧ (0 : Int) = (s : Int) then 1 else 0) = _
  by_cases c : k = 0 ∧ s = 0
  · rw [if_pos c, if_pos (by omega)]
  · rw [if_neg c, if_neg (by omega)]
theorem tb_n {n : Nat} (c : ¬ P n) (k s : Nat) : tb P w (n + 1) k s = tb P w n k s := by
  unfold tb
  rw [zN_s, pif_f c, Nat.add_zero]
theorem tb_y {n u : Nat} (hw : ∀ i, i < n → P i → 0 ≤ w i ∧ w i ≤ 160) (c : P n) (hu : w n = (u : Int)) (k s : Nat) : tb P w (n + 1) k s = tb P w n k s + (if 1 ≤ k ∧ u ≤ s then tb P w n (k - 1) (s - u) else 0) := by
  unfold tb
  rw [zN_s, pif_t c]
  congr 1
  by_cases q : 1 ≤ k ∧ u ≤ s
  · rw [if_pos q]
    refine zN_e n (fun k' s' => ?_)
    show (if k' + 1 = (k : Int) ∧ s' + w n = (s : Int) then 1 else 0) = _
    rw [hu]
    by_cases r : k' + 1 = (k : Int) ∧ s' + (u : Int) = (s : Int)
    · rw [if_pos r, if_pos (by omega)]
    · rw [if_neg r, if_neg (by omega)]
  · rw [if_neg q]
    refine Eq.trans ?_ (zN_0 (P := P) (w := w) n)
    refine zN_bd n _ _ hw (fun k' s' h1 h2 h3 h4 => ?_)
    show (if k' + 1 = (k : Int) ∧ s' + w n = (s : Int) then 1 else 0) = 0
    rw [if_neg (by rw [hu]; omega)]
theorem tb_big {n k : Nat} (hw : ∀ i, i < n → P i → 0 ≤ w i ∧ w i ≤ 160) (hk : cntT P n < k) (s : Nat) : tb P w n k s = 0 := by
  unfold tb
  refine Eq.trans ?_ (zN_0 (P := P) (w := w) n)
  refine zN_bd n _ _ hw (fun k' s' h1 h2 h3 h4 => ?_)
  rw [if_neg (by omega)]
noncomputable def sumN (g : Nat → Nat) : Nat → Nat
  | 0 => 0
  | n + 1 => sumN g n + g n
theorem tb_sum (n k : Nat) : ∀ T, sumN (tb P w n k) T = zN P w n (fun k' s' => if k' = (k : Int) ∧ 0 ≤ s' ∧ s' < (T : Int) then 1 else 0)
  | 0 => by
    refine Eq.trans (zN_0 (P := P) (w := w) n).symm ?_
    refine (zN_e n (fun k' s' => ?_)).symm
    rw [if_neg (by omega)]
  | T + 1 => by
    show sumN (tb P w n k) T + tb P w n k T = _
    rw [tb_sum n k T]
    unfold tb
    rw [← zN_add]
    refine zN_e n (fun k' s' => ?_)
    by_cases c : k' = (k : Int)
    · by_cases c2 : 0 ≤ s' ∧ s' < (T : Int)
      · rw [if_pos ⟨c, c2⟩, if_neg (by omega), if_pos (by omega)]
      · by_cases c3 : s' = (T : Int)
        · rw [if_neg (fun u => c2 u.2), if_pos ⟨c, c3⟩, if_pos (by omega)]
        · rw [if_neg (fun u => c2 u.2), if_neg (by omega), if_neg (by omega)]
    · rw [if_neg (fun u => c u.1), if_neg (fun u => c u.1), if_neg (fun u => c u.1)]
/-- choosing k of n -/
def chN : Nat → Nat → Nat
  | _, 0 => 1
  | 0, _ + 1 => 0
  | n + 1, k + 1 => chN n k + chN n (k + 1)
theorem ch_0 (n : Nat) : chN n 0 = 1 := by cases n <;> rfl
theorem ch_id : ∀ n k, (k + 1) * chN (n + 1) (k + 1) = (n + 1) * chN n k
  | 0, 0 => rfl
  | 0, k + 1 => by
    show (k + 2) * (chN 0 (k + 1) + chN 0 (k + 2)) = 1 * chN 0 (k + 1)
    show (k + 2) * (0 + 0) = 1 * 0
    omega
  | n + 1, 0 => by
    have := ch_id n 0
    show (0 + 1) * (chN (n + 1) 0 + chN (n + 1) 1) = _
    rw [ch_0] at *
    rw [show (0 + 1) * chN (n + 1) (0 + 1) = chN (n + 1) 1 from Nat.one_mul _] at this
    omega
  | n + 1, j + 1 => by
    have h1 := ch_id n (j + 1)
    have h2 := ch_id n j
    show (j + 1 + 1) * (chN (n + 1) (j + 1) + chN (n + 1) (j + 1 + 1)) = (n + 1 + 1) * chN (n + 1) (j + 1)
    have h3 : chN (n + 1) (j + 1) = chN n j + chN n (j + 1) := rfl
    rw [Nat.mul_add, h1, Nat.add_mul (j + 1) 1, h2, Nat.one_mul, Nat.add_mul (n + 1) 1, Nat.one_mul]
    have h4 : (n + 1) * chN (n + 1) (j + 1) = (n + 1) * chN n j + (n + 1) * chN n (j + 1) := by rw [h3, Nat.mul_add]
    omega
theorem chN_le : ∀ n k, chN n k ≤ 2 ^ n
  | n, 0 => by rw [ch_0]; exact Nat.two_pow_pos n
  | 0, k + 1 => Nat.zero_le _
  | n + 1, k + 1 => by
    have h1 := chN_le n k
    have h2 := chN_le n (k + 1)
    show chN n k + chN n (k + 1) ≤ 2 ^ (n + 1)
    rw [Nat.pow_succ]; omega
theorem zN_neg (n : Nat) : zN P w n (fun k' _ => if k' = (-1 : Int) then 1 else 0) = 0 := by
  have key : ∀ n (j : Int), j < 0 → zN P w n (fun k' _ => if k' = j then 1 else 0) = 0 := by
    intro n
    induction n with
    | zero => intro j hj; show (if (0 : Int) = j then 1 else 0) = 0; rw [if_neg (by omega)]
    | succ n ih =>
      intro j hj
      rw [zN_s, ih j hj]
      by_cases c : P n
      · rw [pif_t c]
        have : zN P w n (fun k' _ => if k' + 1 = j then 1 else 0) = zN P w n (fun k' _ => if k' = j - 1 then 1 else 0) := zN_e n (fun k' s' => by
          by_cases r : k' + 1 = j
          · rw [if_pos r, if_pos (by omega)]
          · rw [if_neg r, if_neg (by omega)])
        show 0 + zN P w n (fun k' _ => if k' + 1 = j then 1 else 0) = 0
        rw [this, ih (j - 1) (by omega)]
      · rw [pif_f c]
  exact key n (-1) (by omega)
theorem zN_ch : ∀ n (k : Nat), zN P w n (fun k' _ => if k' = (k : Int) then 1 else 0) = chN (cntT P n) k
  | 0, k => by
    show (if (0 : Int) = (k : Int) then 1 else 0) = chN 0 k
    cases k with
    | zero => rfl
    | succ k => rw [if_neg (by omega)]; rfl
  | n + 1, k => by
    rw [zN_s, zN_ch n k, cnt_s]
    by_cases c : P n
    · rw [pif_t c, pif_t c]
      cases k with
      | zero =>
        rw [ch_0, ch_0]
        have : zN P w n (fun k' _ => if k' + 1 = ((0 : Nat) : Int) then 1 else 0) = zN P w n (fun k' _ => if k' = (-1 : Int) then 1 else 0) := zN_e n (fun k' s' => by
          by_cases r : k' + 1 = ((0 : Nat) : Int)
          · rw [if_pos r, if_pos (by omega)]
          · rw [if_neg r, if_neg (by omega)])
        show 1 + zN P w n (fun k' _ => if k' + 1 = ((0 : Nat) : Int) then 1 else 0) = 1
        rw [this, zN_neg n]
      | succ k =>
        have : zN P w n (fun k' _ => if k' + 1 = ((k + 1 : Nat) : Int) then 1 else 0) = zN P w n (fun k' _ => if k' = (k : Int) then 1 else 0) := zN_e n (fun k' s' => by
          by_cases r : k' + 1 = ((k + 1 : Nat) : Int)
          · rw [if_pos r, if_pos (by omega)]
          · rw [if_neg r, if_neg (by omega)])
        show chN (cntT P n) (k + 1) + zN P w n (fun k' _ => if k' + 1 = ((k + 1 : Nat) : Int) then 1 else 0) = _
        rw [this, zN_ch n k, Nat.add_comm]
        rfl
    · rw [pif_f c, pif_f c]
      rfl
end ZN
