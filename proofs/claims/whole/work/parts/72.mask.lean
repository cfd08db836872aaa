/-! how great what is told can be; the model asks a talker -/
def bN (y : Int32) : Prop := rg y (-1000000000) 1000000000
theorem vwi_b (x : Int32) : bN (vwi x) := by
  have h1 := pk_shr x (nI 4 &&& 31) 4 (n_sl 4 (by omega))
  have h2 := Int32.le_toInt x
  have h3 := Int32.toInt_lt x
  unfold bN rg vwi
  rw [h1, Int.shiftRight_eq_div_pow]
  have : ((2 ^ 4 : Nat) : Int) = 16 := by decide
  rw [this]
  omega
theorem vbd_b {x : Int64} {y : Int32} (e : vbd x = some y) : bN y := by
  obtain ⟨h1, h2, rfl⟩ := vbd_s e
  rw [Int64.lt_iff_toInt_lt, show (lN 1000000000).toInt = 1000000000 by decide] at h1
  rw [Int64.lt_iff_toInt_lt, show ((-1000000000 : Int64)).toInt = -1000000000 by decide] at h2
  unfold bN rg
  have h3 : x.toInt32.toInt = x.toInt := by
    rw [Int64.toInt_toInt32]
    exact Int.bmod_eq_of_le (by omega) (by omega)
  rw [h3]
  omega
theorem vone_b {env : Nat → Int32} (he : ∀ i, i < 12 → bN (env i)) {x : Int32} {z z' : VS} (hz : ∀ y, y ∈ z.1 → bN y) (e : vone env x z = some z') : ∀ y, y ∈ z'.1 → bN y := by
  unfold vone at e
  split at e
  · split at e
    · cases e
    · cases e
      intro y hy
      rcases List.mem_cons.mp hy with rfl | hy
      · exact vwi_b x
      · exact hz y hy
  · split at e
    · split at e
      · cases e
      · rename_i hc
        cases e
        intro y hy
        rcases List.mem_cons.mp hy with rfl | hy
        · have h2 : ¬ nI 12 ≤ vwi x := fun q => hc (Or.inr q)
          rw [Int32.le_iff_toInt_le, show (nI 12).toInt = 12 by decide] at h2
          refine he _ ?_
          have h3 : ((vwi x).toNatClampNeg : Int) = max (vwi x).toInt 0 := by
            show ((vwi x).toInt.toNat : Int) = _
            omega
          omega
        · exact hz y hy
    · split at e
      · obtain ⟨u, u1, u2⟩ := omap e
        cases u2
        intro y hy
        obtain ⟨l, s, k⟩ := z
        match l, hz, u1 with
        | [], hz, u1 => cases u1
        | [p], hz, u1 => cases u1
        | b :: a :: r, hz, u1 =>
          have hr : ∀ y, y ∈ r → bN y := fun y hy => hz y (List.mem_cons_of_mem _ (List.mem_cons_of_mem _ hy))
          have push : ∀ (w : Int64), (vbd w).map (fun v => (v :: r, s)) = some u → bN y := by
            intro w hw
            obtain ⟨v, v1, v2⟩ := omap hw
            rw [← v2] at hy
            rcases List.mem_cons.mp hy with rfl | hy
            · exact vbd_b v1
            · exact hr y hy
          have u1' : vrk (vop x) a b r s = some u := u1
          unfold vrk at u1'
          split at u1'
          · exact push _ u1'
          · split at u1'
            · exact push _ u1'
            · split at u1'
              · exact push _ u1'
              · split at u1'
                · split at u1'
                  · cases u1'
                  · exact push _ u1'
                · split at u1'
                  · cases u1'; exact hr y hy
                  · split at u1'
                    · cases u1'; exact hr y hy
                    · cases u1'; exact hr y hy
      · split at e
        · cases e; exact hz
        · split at e
          · cases e; exact hz
          · cases e; exact hz
theorem vrun_b {env : Nat → Int32} (he : ∀ i, i < 12 → bN (env i)) {st : Nat → Int32} : ∀ k a z z', (∀ y, y ∈ z.1 → bN y) → vrun env st k a z = some z' → ∀ y, y ∈ z'.1 → bN y
  | 0, a, z, z', hz, e => by cases e; exact hz
  | k + 1, a, z, z', hz, e => by
    unfold vrun at e
    split at e
    · exact vrun_b he k (a + 1) z z' hz e
    · obtain ⟨u, u1, u2⟩ := obind e
      exact vrun_b he k (a + 1) u z' (vone_b he hz u1) u2
theorem vho_b {env : Nat → Int32} (he : ∀ i, i < 12 → bN (env i)) {st cl : Nat → Int32} {hd : Int32} : ∀ c l, vho env st cl hd c = some l → ∀ y, y ∈ l → bN y
  | 0, l, e => by cases e
  | c + 1, l, e => by
    unfold vho at e
    split at e
    · split at e
      · split at e
        · rename_i q
          cases e
          exact vrun_b he _ _ _ _ (fun y hy => by cases hy) q
        · exact vho_b he c l e
      · exact vho_b he c l e
    · exact vho_b he c l e
theorem tv_b {T : Tk} {hd : Nat} {env : Nat → Int32} (he : ∀ i, i < 12 → bN (env i)) {y : Int32} (e : tSay T hd env = some [y]) : bN y := vho_b he _ _ e y (List.mem_cons_self ..)
