/-! one step of the abstract machine that is neither a call nor an end: the machine makes it too -/
abbrev tysA (dA : Nat → ClassId) : List (ClassId × FieldType) := [(dA 20, .int), (dA 21, .long), (dA 22, .byte), (dA 23, .boolean), (dA 24, .object (cS 7)), (dA 25, .object (cS 9)), (dA 26, .object (cS 4))]
abbrev nmTx : String := "odds move key stop if or and not warmth press ring worst rank room side doubt proof kind weight minute "
/-- what must hold of a state wherever a method begins -/
def EvK (n0 b L : Nat) (xs : Nat → Int32) (adK adV : Nat → Nat) (dA : Nat → ClassId) (D : va_G) (U : State) : Prop :=
  va_K D vcl (tysA dA) U ∧ (∀ q ∈ NW, va_Nw (fNW q) U) ∧ (va_AO (cS 7) U ∧ va_AO (cS 9) U ∧ va_AO (cS 4) U) ∧ va_Nw (.castable "[I" "java/lang/Cloneable") U ∧ va_X b L xs U U.heap ∧ (b < U.heap.size ∧ b < n0 + 1) ∧ vk_R (cS 6) 89 nmTx (adK 0) U ∧ vk_S 1 [103] [nmsL] adK adV (AA n0) U U.heap ∧ (va_Z "java/lang/String" "COMPACT_STRINGS" "Z" (.int 1) (AA n0) U U.heap ∧ va_Zq "jdk/internal/util/Preconditions" "SIOOBE_FORMATTER" "Ljava/util/function/BiFunction;" (AA n0) U U.heap)
theorem cpt {α : Type} {c : Prop} {a : α} {x : α} (h : pif c (some a) none = some x) : c ∧ a = x := by
  by_cases hc : c
  · rw [pif_t hc] at h; exact ⟨hc, Option.some.inj h⟩
  · rw [pif_f hc] at h; cases h
theorem hk_m (h : Hp) : kdm false h = hk h := rfl
theorem rp_m (h : Hp) : rpm false h = gP h := rfl
theorem jt_eq {pc : Nat} {off : Int} (h : okt pc off = true) : (pc : Int) + off = (jt pc off : Int) := by
  unfold okt at h
  unfold jt
  have := of_decide_eq_true h
  omega
section SD
variable {p : Program} {l : Launch} {e : Env} {R : Room} {s : State} {m : MethodId} {args : Array Value} {below : List Frame} {meth : Method} {c : Code} {QQ : State → Prop} {H : Heap} {locs : List Loc} {cells slots : Nat}
variable {n0 b L : Nat} {xs : Nat → Int32} {adK adV : Nat → Nat} {dA : Nat → ClassId} {D : va_G} {M pc : Nat} {ls st : List Value} {h h0 : Hp} {LS : Array Slot}
/-- the size of the heap, where the cells that are made are counted -/
theorem sz_of (hz0 : s.heap.size = n0 + hz h0) {T : State} (X : Stand p l e R s m args below meth c T locs cells slots) (hc : cells + hz h0 = hz h) : T.heap.size ≤ n0 + hz h := by
  have := X.heapSize
  omega
theorem new_q (hz0 : s.heap.size = n0 + hz h0) {q : Nat} {en : va_E} {H1 : Heap} {T : State} (hT : T.heap = H1) (X : Stand p l e R s m args below meth c T locs (cells + 1) slots) (hc : cells + hz h0 = hz h) (w : Wf h) (hP : va_P D vcl (wo n0 dA h ++ [(q, en)]) H1) (hD : va_D (AA n0) (wo n0 dA h ++ [(q, en)])) : q = n0 + hz h := by
  have h1 := X.heapSize
  have hlen : (wo n0 dA h).length = hz h - 1 := by simp [wo]
  have hat : (wo n0 dA h ++ [(q, en)])[(wo n0 dA h).length]? = some (q, en) := by
    rw [List.getElem?_append_right (Nat.le_refl _)]; simp
  have h2 : q < H1.size := (hP _ _ hat).lt
  have h3 : n0 + 1 ≤ q := hD.2 _ _ hat
  rw [hT] at h1
  have hw := w.1
  by_cases hq : q = n0 + hz h
  · exact hq
  · exfalso
    have ha : 1 ≤ q - n0 ∧ q - n0 < hz h := by omega
    have h4 := wo_at (n0 := n0) (dA := dA) ha.1 ha.2
    have h5 : (wo n0 dA h ++ [(q, en)])[q - n0 - 1]? = some (n0 + (q - n0), ce n0 dA h (q - n0)) := by
      rw [List.getElem?_append_left (by rw [hlen]; omega)]; exact h4
    have := hD.1 _ _ _ _ h5 hat (by show n0 + (q - n0) = q; omega)
    rw [hlen] at this
    omega
end SD
-- what a step's being made says of the stack
theorem xldI_i {pc : Nat} {ls st : List Value} {h : Hp} {i k : Nat} {y : Rs} (q : xldI pc ls st h i k = some y) : ∃ x, ls[i]? = some (.int x) ∧ y = .inl (pc + k, ls, .int x :: st, h) := by
  unfold xldI at q
  split at q
  · rename_i x hx; cases q; exact ⟨x, hx, rfl⟩
  · cases q
theorem xldJ_i {pc : Nat} {ls st : List Value} {h : Hp} {i k : Nat} {y : Rs} (q : xldJ pc ls st h i k = some y) : ∃ x, ls[i]? = some (.long x) ∧ y = .inl (pc + k, ls, .long x :: st, h) := by
  unfold xldJ at q
  split at q
  · rename_i x hx; cases q; exact ⟨x, hx, rfl⟩
  · cases q
theorem xldA_i {pc : Nat} {ls st : List Value} {h : Hp} {i k : Nat} {y : Rs} (q : xldA pc ls st h i k = some y) : ∃ v, ls[i]? = some v ∧ ((∃ a, v = .ref a) ∨ v = .null ∨ ∃ j, v = .retAddr j) ∧ y = .inl (pc + k, ls, v :: st, h) := by
  unfold xldA at q
  split at q
  · rename_i x hx; cases q; exact ⟨_, hx, Or.inl ⟨_, rfl⟩, rfl⟩
  · rename_i hx; cases q; exact ⟨_, hx, Or.inr (Or.inl rfl), rfl⟩
  · rename_i x hx; cases q; exact ⟨_, hx, Or.inr (Or.inr ⟨_, rfl⟩), rfl⟩
  · cases q
theorem xstI_i {pc : Nat} {ls st : List Value} {h : Hp} {b i k : Nat} {y : Rs} (q : xstI pc ls st h b i k = some y) : ∃ x r, st = .int x :: r ∧ y = .inl (pc + k, stl b ls i (.int x), r, h) := by
  unfold xstI at q
  split at q
  · cases q; exact ⟨_, _, rfl, rfl⟩
  · cases q
theorem xstJ_i {pc : Nat} {ls st : List Value} {h : Hp} {b i k : Nat} {y : Rs} (q : xstJ pc ls st h b i k = some y) : ∃ x r, st = .long x :: r ∧ y = .inl (pc + k, (stl b ls i (.long x)).set (i + 1) jn, r, h) := by
  unfold xstJ at q
  split at q
  · cases q; exact ⟨_, _, rfl, rfl⟩
  · cases q
theorem xstA_i {pc : Nat} {ls st : List Value} {h : Hp} {b i k : Nat} {y : Rs} (q : xstA pc ls st h b i k = some y) : (∃ x r, st = .ref x :: r ∧ y = .inl (pc + k, stl b ls i (.ref x), r, h)) ∨ (∃ r, st = .null :: r ∧ y = .inl (pc + k, stl b ls i .null, r, h)) := by
  unfold xstA at q
  split at q
  · cases q; exact Or.inl ⟨_, _, rfl, rfl⟩
  · cases q; exact Or.inr ⟨_, rfl, rfl⟩
  · cases q
theorem xinc_i {pc : Nat} {ls st : List Value} {h : Hp} {b i : Nat} {n : Int} {y : Rs} (q : xinc pc ls st h b i n = some y) : ∃ x, ls[i]? = some (.int x) ∧ y = .inl (pc + 3, stl b ls i (.int (x + Int32.ofInt n)), st, h) := by
  unfold xinc at q
  split at q
  · rename_i x hx; cases q; exact ⟨x, hx, rfl⟩
  · cases q
theorem xbin_i {f : Int32 → Int32 → Int32} {pc : Nat} {ls st : List Value} {h : Hp} {y : Rs} (q : xbin f pc ls st h = some y) : ∃ x z r, st = .int z :: .int x :: r ∧ y = .inl (pc + 1, ls, .int (f x z) :: r, h) := by
  unfold xbin at q
  split at q
  · cases q; exact ⟨_, _, _, rfl, rfl⟩
  · cases q
theorem xdiv_i {f : Int32 → Int32 → Int32} {pc : Nat} {ls st : List Value} {h : Hp} {y : Rs} (q : xdiv f pc ls st h = some y) : ∃ x z r, st = .int z :: .int x :: r ∧ ¬ z = 0 ∧ y = .inl (pc + 1, ls, .int (f x z) :: r, h) := by
  unfold xdiv at q
  split at q
  · obtain ⟨q1, q2⟩ := cpt q; exact ⟨_, _, _, rfl, q1, q2.symm⟩
  · cases q
theorem xun_i {f : Int32 → Int32} {pc : Nat} {ls st : List Value} {h : Hp} {y : Rs} (q : xun f pc ls st h = some y) : ∃ x r, st = .int x :: r ∧ y = .inl (pc + 1, ls, .int (f x) :: r, h) := by
  unfold xun at q
  split at q
  · cases q; exact ⟨_, _, rfl, rfl⟩
  · cases q
theorem xbinJ_i {f : Int64 → Int64 → Int64} {pc : Nat} {ls st : List Value} {h : Hp} {y : Rs} (q : xbinJ f pc ls st h = some y) : ∃ x z r, st = .long z :: .long x :: r ∧ y = .inl (pc + 1, ls, .long (f x z) :: r, h) := by
  unfold xbinJ at q
  split at q
  · cases q; exact ⟨_, _, _, rfl, rfl⟩
  · cases q
theorem xdivJ_i {f : Int64 → Int64 → Int64} {pc : Nat} {ls st : List Value} {h : Hp} {y : Rs} (q : xdivJ f pc ls st h = some y) : ∃ x z r, st = .long z :: .long x :: r ∧ ¬ z = 0 ∧ y = .inl (pc + 1, ls, .long (f x z) :: r, h) := by
  unfold xdivJ at q
  split at q
  · obtain ⟨q1, q2⟩ := cpt q; exact ⟨_, _, _, rfl, q1, q2.symm⟩
  · cases q
theorem xcmp_i {pc : Nat} {ls st : List Value} {h : Hp} {y : Rs} (q : xcmp pc ls st h = some y) : ∃ x z r, st = .long z :: .long x :: r ∧ y = .inl (pc + 1, ls, .int (lg_cmp x z) :: r, h) := by
  unfold xcmp at q
  split at q
  · cases q; exact ⟨_, _, _, rfl, rfl⟩
  · cases q
theorem xi2l_i {pc : Nat} {ls st : List Value} {h : Hp} {y : Rs} (q : xi2l pc ls st h = some y) : ∃ x r, st = .int x :: r ∧ y = .inl (pc + 1, ls, .long x.toInt64 :: r, h) := by
  unfold xi2l at q
  split at q
  · cases q; exact ⟨_, _, rfl, rfl⟩
  · cases q
theorem xl2i_i {pc : Nat} {ls st : List Value} {h : Hp} {y : Rs} (q : xl2i pc ls st h = some y) : ∃ x r, st = .long x :: r ∧ y = .inl (pc + 1, ls, .int x.toInt32 :: r, h) := by
  unfold xl2i at q
  split at q
  · cases q; exact ⟨_, _, rfl, rfl⟩
  · cases q
theorem xdup_i {pc : Nat} {ls st : List Value} {h : Hp} {y : Rs} (q : xdup pc ls st h = some y) : ∃ v r, st = v :: r ∧ v.category = 1 ∧ y = .inl (pc + 1, ls, v :: v :: r, h) := by
  unfold xdup at q
  split at q
  · cases q; exact ⟨_, _, rfl, rfl, rfl⟩
  · cases q; exact ⟨_, _, rfl, rfl, rfl⟩
  · cases q
theorem xdup2_i {pc : Nat} {ls st : List Value} {h : Hp} {y : Rs} (q : xdup2 pc ls st h = some y) : ∃ x a r, st = .int x :: .ref a :: r ∧ y = .inl (pc + 1, ls, .int x :: .ref a :: .int x :: .ref a :: r, h) := by
  unfold xdup2 at q
  split at q
  · cases q; exact ⟨_, _, _, rfl, rfl⟩
  · cases q
theorem xpop_i {pc : Nat} {ls st : List Value} {h : Hp} {y : Rs} (q : xpop pc ls st h = some y) : ∃ v r, st = v :: r ∧ v.category = 1 ∧ y = .inl (pc + 1, ls, r, h) := by
  unfold xpop at q
  split at q
  · cases q; exact ⟨_, _, rfl, rfl, rfl⟩
  · cases q; exact ⟨_, _, rfl, rfl, rfl⟩
  · cases q
theorem pif_2 {α : Type} {c : Prop} {a b x : α} (h : pif c (some a) (some b) = some x) : (c ∧ x = a) ∨ (¬ c ∧ x = b) := by
  by_cases hc : c
  · rw [pif_t hc] at h; exact Or.inl ⟨hc, (Option.some.inj h).symm⟩
  · rw [pif_f hc] at h; exact Or.inr ⟨hc, (Option.some.inj h).symm⟩
theorem xif_i {c : Jvm.ClassFile.Cond} {off : Int} {pc : Nat} {ls st : List Value} {h : Hp} {y : Rs} (q : xif c off pc ls st h = some y) : ∃ x r, st = .int x :: r ∧ ((cP c x 0 ∧ y = .inl (jt pc off, ls, r, h)) ∨ (¬ cP c x 0 ∧ y = .inl (pc + 3, ls, r, h))) := by
  unfold xif at q
  split at q
  · exact ⟨_, _, rfl, pif_2 q⟩
  · cases q
theorem xcmpi_i {c : Jvm.ClassFile.Cond} {off : Int} {pc : Nat} {ls st : List Value} {h : Hp} {y : Rs} (q : xcmpi c off pc ls st h = some y) : ∃ x z r, st = .int z :: .int x :: r ∧ ((cP c x z ∧ y = .inl (jt pc off, ls, r, h)) ∨ (¬ cP c x z ∧ y = .inl (pc + 3, ls, r, h))) := by
  unfold xcmpi at q
  split at q
  · exact ⟨_, _, _, rfl, pif_2 q⟩
  · cases q
theorem xnull_i {off : Int} {pc : Nat} {ls st : List Value} {h : Hp} {y : Rs} (q : xnull off pc ls st h = some y) : (∃ r, st = .null :: r ∧ y = .inl (jt pc off, ls, r, h)) ∨ (∃ a r, st = .ref a :: r ∧ y = .inl (pc + 3, ls, r, h)) := by
  unfold xnull at q
  split at q
  · cases q; exact Or.inl ⟨_, rfl, rfl⟩
  · cases q; exact Or.inr ⟨_, _, rfl, rfl⟩
  · cases q
theorem xnonnull_i {off : Int} {pc : Nat} {ls st : List Value} {h : Hp} {y : Rs} (q : xnonnull off pc ls st h = some y) : (∃ r, st = .null :: r ∧ y = .inl (pc + 3, ls, r, h)) ∨ (∃ a r, st = .ref a :: r ∧ y = .inl (jt pc off, ls, r, h)) := by
  unfold xnonnull at q
  split at q
  · cases q; exact Or.inl ⟨_, rfl, rfl⟩
  · cases q; exact Or.inr ⟨_, _, rfl, rfl⟩
  · cases q
theorem rfo_i {v : Value} {r : Option Nat} (h : rfo v = some r) : v = va_rf r := by
  cases v <;> first | (cases h; rfl) | cases h
def acT (c : ACond) (a b : Nat) : Nat := match c with
  | .eq => a
  | .ne => b
theorem xacmp_i {c : ACond} {off : Int} {pc : Nat} {ls st : List Value} {h : Hp} {y : Rs} (q : xacmp c off pc ls st h = some y) : ∃ rx ry r, st = va_rf ry :: va_rf rx :: r ∧ ((rx = ry ∧ y = .inl (acT c (jt pc off) (pc + 3), ls, r, h)) ∨ (¬ rx = ry ∧ y = .inl (acT c (pc + 3) (jt pc off), ls, r, h))) := by
  unfold xacmp at q
  cases st with
  | nil => cases q
  | cons vy st1 =>
    cases st1 with
    | nil => cases q
    | cons vx r =>
      cases hy : rfo vy with
      | none => simp [hy] at q
      | some ry =>
        cases hx : rfo vx with
        | none => simp [hy, hx] at q
        | some rx =>
          simp only [hy, hx] at q
          refine ⟨rx, ry, r, by rw [rfo_i hy, rfo_i hx], ?_⟩
          cases c with
          | eq => exact pif_2 q
          | ne => exact pif_2 q
theorem xtab_i {d lo hi : Int} {offs : Array Int} {pc : Nat} {ls st : List Value} {h : Hp} {y : Rs} (q : xtab d lo hi offs pc ls st h = some y) : ∃ x r, st = .int x :: r ∧ (((x.toInt < lo ∨ hi < x.toInt) ∧ y = .inl (jt pc d, ls, r, h)) ∨ (¬ (x.toInt < lo ∨ hi < x.toInt) ∧ ∃ off, offs[(x.toInt - lo).toNat]? = some off ∧ y = .inl (jt pc off, ls, r, h))) := by
  unfold xtab at q
  split at q
  · rename_i x r
    refine ⟨x, r, rfl, ?_⟩
    by_cases hc : x.toInt < lo ∨ hi < x.toInt
    · rw [pif_t hc] at q; cases q; exact Or.inl ⟨hc, rfl⟩
    · rw [pif_f hc] at q
      split at q
      · rename_i off ho; cases q; exact Or.inr ⟨hc, off, ho, rfl⟩
      · cases q
  · cases q
theorem xlook_i {d : Int} {ps : Array (Int × Int)} {pc : Nat} {ls st : List Value} {h : Hp} {y : Rs} (q : xlook d ps pc ls st h = some y) : ∃ x r, st = .int x :: r ∧ y = .inl (jt pc (Op.lookupswitch.offset ps.toList d x.toInt), ls, r, h) := by
  unfold xlook at q
  split at q
  · cases q; exact ⟨_, _, rfl, rfl⟩
  · cases q
theorem xiaload_i {kd : Nat → Nat × Nat} {pc : Nat} {ls st : List Value} {h : Hp} {y : Rs} (q : xiaload kd pc ls st h = some y) : (∃ i a r, st = .int i :: .ref a :: r ∧ ((kd a).1 = 20 ∧ vp_in i (kd a).2) ∧ y = .inl (pc + 1, ls, .int (gI h a i.toNatClampNeg) :: r, h)) ∨ (∃ i r, st = .int i :: .retAddr 1 :: r ∧ vp_in i (hk h 0).2 ∧ y = .inl (pc + 1, ls, .int (gI h 0 i.toNatClampNeg) :: r, h)) := by
  unfold xiaload at q
  split at q
  · obtain ⟨q1, q2⟩ := cpt q; exact Or.inl ⟨_, _, _, rfl, q1, q2.symm⟩
  · obtain ⟨q1, q2⟩ := cpt q; exact Or.inr ⟨_, _, rfl, q1, q2.symm⟩
  · cases q
theorem xbaload_i {kd : Nat → Nat × Nat} {pc : Nat} {ls st : List Value} {h : Hp} {y : Rs} (q : xbaload kd pc ls st h = some y) : ∃ i a r, st = .int i :: .ref a :: r ∧ (((kd a).1 = 22 ∨ (kd a).1 = 23) ∧ vp_in i (kd a).2) ∧ y = .inl (pc + 1, ls, .int (gI h a i.toNatClampNeg) :: r, h) := by
  unfold xbaload at q
  split at q
  · obtain ⟨q1, q2⟩ := cpt q; exact ⟨_, _, _, rfl, q1, q2.symm⟩
  · cases q
theorem xlaload_i {kd : Nat → Nat × Nat} {pc : Nat} {ls st : List Value} {h : Hp} {y : Rs} (q : xlaload kd pc ls st h = some y) : ∃ i a r, st = .int i :: .ref a :: r ∧ ((kd a).1 = 21 ∧ vp_in i (kd a).2) ∧ y = .inl (pc + 1, ls, .long (gJ h a i.toNatClampNeg) :: r, h) := by
  unfold xlaload at q
  split at q
  · obtain ⟨q1, q2⟩ := cpt q; exact ⟨_, _, _, rfl, q1, q2.symm⟩
  · cases q
theorem xaaload_i {kd : Nat → Nat × Nat} {rp : Nat → Nat → Option Nat} {pc : Nat} {ls st : List Value} {h : Hp} {y : Rs} (q : xaaload kd rp pc ls st h = some y) : ∃ i a r, st = .int i :: .ref a :: r ∧ ((24 ≤ (kd a).1 ∧ (kd a).1 ≤ 26) ∧ vp_in i (kd a).2) ∧ y = .inl (pc + 1, ls, va_rf (rp a i.toNatClampNeg) :: r, h) := by
  unfold xaaload at q
  split at q
  · obtain ⟨q1, q2⟩ := cpt q; exact ⟨_, _, _, rfl, q1, q2.symm⟩
  · cases q
theorem xiastore_i {kd : Nat → Nat × Nat} {pc : Nat} {ls st : List Value} {h : Hp} {y : Rs} (q : xiastore kd pc ls st h = some y) : ∃ x i a r, st = .int x :: .int i :: .ref a :: r ∧ ((kd a).1 = 20 ∧ vp_in i (kd a).2) ∧ y = .inl (pc + 1, ls, r, sI h a i.toNatClampNeg x) := by
  unfold xiastore at q
  split at q
  · obtain ⟨q1, q2⟩ := cpt q; exact ⟨_, _, _, _, rfl, q1, q2.symm⟩
  · cases q
theorem xbastore_i {kd : Nat → Nat × Nat} {pc : Nat} {ls st : List Value} {h : Hp} {y : Rs} (q : xbastore kd pc ls st h = some y) : ∃ x i a r, st = .int x :: .int i :: .ref a :: r ∧ (((kd a).1 = 22 ∨ (kd a).1 = 23) ∧ vp_in i (kd a).2) ∧ y = .inl (pc + 1, ls, r, sI h a i.toNatClampNeg (if (kd a).1 = 22 then vp_nar .byte x else vp_nar .boolean x)) := by
  unfold xbastore at q
  split at q
  · obtain ⟨q1, q2⟩ := cpt q; exact ⟨_, _, _, _, rfl, q1, q2.symm⟩
  · cases q
theorem xlastore_i {kd : Nat → Nat × Nat} {pc : Nat} {ls st : List Value} {h : Hp} {y : Rs} (q : xlastore kd pc ls st h = some y) : ∃ x i a r, st = .long x :: .int i :: .ref a :: r ∧ ((kd a).1 = 21 ∧ vp_in i (kd a).2) ∧ y = .inl (pc + 1, ls, r, sJ h a i.toNatClampNeg x) := by
  unfold xlastore at q
  split at q
  · obtain ⟨q1, q2⟩ := cpt q; exact ⟨_, _, _, _, rfl, q1, q2.symm⟩
  · cases q
theorem xaastore_i {kd : Nat → Nat × Nat} {wk : Nat → Nat → Bool} {pc : Nat} {ls st : List Value} {h : Hp} {y : Rs} (q : xaastore kd wk pc ls st h = some y) : (∃ x i a r, st = .ref x :: .int i :: .ref a :: r ∧ ((24 ≤ (kd a).1 ∧ (kd a).1 ≤ 26) ∧ vp_in i (kd a).2 ∧ (kd x).1 = elc (kd a).1 ∧ wk a i.toNatClampNeg = true) ∧ y = .inl (pc + 1, ls, r, sP h a i.toNatClampNeg (some x))) ∨ (∃ i a r, st = .null :: .int i :: .ref a :: r ∧ ((24 ≤ (kd a).1 ∧ (kd a).1 ≤ 26) ∧ vp_in i (kd a).2 ∧ wk a i.toNatClampNeg = true) ∧ y = .inl (pc + 1, ls, r, sP h a i.toNatClampNeg none)) := by
  unfold xaastore at q
  split at q
  · obtain ⟨q1, q2⟩ := cpt q; exact Or.inl ⟨_, _, _, _, rfl, q1, q2.symm⟩
  · obtain ⟨q1, q2⟩ := cpt q; exact Or.inr ⟨_, _, _, rfl, q1, q2.symm⟩
  · cases q
theorem xalen_i {kd : Nat → Nat × Nat} {pc : Nat} {ls st : List Value} {h : Hp} {y : Rs} (q : xalen kd pc ls st h = some y) : (∃ a r, st = .ref a :: r ∧ (20 ≤ (kd a).1 ∧ (kd a).1 ≤ 26) ∧ y = .inl (pc + 1, ls, .int (Int32.ofNat (kd a).2) :: r, h)) ∨ (∃ r, st = .retAddr 1 :: r ∧ y = .inl (pc + 1, ls, .int (Int32.ofNat (hk h 0).2) :: r, h)) := by
  unfold xalen at q
  split at q
  · obtain ⟨q1, q2⟩ := cpt q; exact Or.inl ⟨_, _, rfl, q1, q2.symm⟩
  · cases q; exact Or.inr ⟨_, rfl, rfl⟩
  · cases q
theorem xget_i {kd : Nat → Nat × Nat} {rp : Nat → Nat → Option Nat} {c k t pc : Nat} {ls st : List Value} {h : Hp} {y : Rs} (q : xget kd rp c k t pc ls st h = some y) : ∃ a r, st = .ref a :: r ∧ (kd a).1 = c ∧ y = .inl (pc + 3, ls, rdf rp h t a k :: r, h) := by
  unfold xget at q
  split at q
  · obtain ⟨q1, q2⟩ := cpt q; exact ⟨_, _, rfl, q1, q2.symm⟩
  · cases q
theorem xput_i {kd : Nat → Nat × Nat} {wk : Nat → Nat → Bool} {c k t pc : Nat} {ls st : List Value} {h : Hp} {y : Rs} (q : xput kd wk c k t pc ls st h = some y) : ∃ v a r h', st = v :: .ref a :: r ∧ (kd a).1 = c ∧ y = .inl (pc + 3, ls, r, h') ∧ ((∃ x, v = .int x ∧ (t = 0 ∨ (t = 1 ∧ (x = 0 ∨ x = 1))) ∧ h' = sI h a k x) ∨ (∃ x, v = .long x ∧ t = 2 ∧ h' = sJ h a k x) ∨ (∃ x, v = va_rf x ∧ (t = 3 ∧ wk a k = true) ∧ h' = sP h a k x)) := by
  unfold xput at q
  split at q
  · obtain ⟨q1, q2⟩ := cpt q; exact ⟨_, _, _, _, rfl, q1.1, q2.symm, Or.inl ⟨_, rfl, q1.2, rfl⟩⟩
  · obtain ⟨q1, q2⟩ := cpt q; exact ⟨_, _, _, _, rfl, q1.1, q2.symm, Or.inr (Or.inl ⟨_, rfl, q1.2, rfl⟩)⟩
  · obtain ⟨q1, q2⟩ := cpt q; exact ⟨_, _, _, _, rfl, q1.1, q2.symm, Or.inr (Or.inr ⟨some _, rfl, q1.2, rfl⟩)⟩
  · obtain ⟨q1, q2⟩ := cpt q; exact ⟨_, _, _, _, rfl, q1.1, q2.symm, Or.inr (Or.inr ⟨none, rfl, q1.2, rfl⟩)⟩
  · cases q
theorem xnewa_i {k pc n2 : Nat} {ls st : List Value} {h : Hp} {y : Rs} (q : xnewa k pc n2 ls st h = some y) : ∃ n r, st = .int n :: r ∧ (¬ n < 0 ∧ n.toNatClampNeg ≤ 1000000) ∧ y = .inl (pc + n2, ls, .ref (hz h) :: r, mkc h k n.toNatClampNeg) := by
  unfold xnewa at q
  split at q
  · obtain ⟨q1, q2⟩ := cpt q; exact ⟨_, _, rfl, q1, q2.symm⟩
  · cases q
theorem xcopy_i {kd : Nat → Nat × Nat} {pc : Nat} {ls st : List Value} {h : Hp} {y : Rs} (q : xcopy kd pc ls st h = some y) : ∃ n dp a sp a0 r, st = .int n :: .int dp :: .ref a :: .int sp :: .ref a0 :: r ∧ (((kd a).1 = 20 ∧ (kd a0).1 = 20) ∧ (¬ sp < 0 ∧ ¬ dp < 0 ∧ ¬ n < 0) ∧ sp.toNatClampNeg + n.toNatClampNeg ≤ (kd a0).2 ∧ dp.toNatClampNeg + n.toNatClampNeg ≤ (kd a).2 ∧ r = []) ∧ y = .inl (pc + 3, ls, r, sA h a (va_cpy (gI h a0) (gI h a) sp.toNatClampNeg dp.toNatClampNeg n.toNatClampNeg)) := by
  unfold xcopy at q
  split at q
  · obtain ⟨q1, q2⟩ := cpt q; exact ⟨_, _, _, _, _, _, rfl, q1, q2.symm⟩
  · cases q
theorem xclone_i {kd : Nat → Nat × Nat} {pc : Nat} {ls st : List Value} {h : Hp} {y : Rs} (q : xclone kd pc ls st h = some y) : ∃ a, st = [.ref a] ∧ (kd a).1 = 20 ∧ y = .inl (pc + 3, ls, [.ref (hz h)], sA (mkc h 20 (kd a).2) (hz h) (gI h a)) := by
  unfold xclone at q
  split at q
  · obtain ⟨q1, q2⟩ := cpt q
    obtain ⟨q1, rfl⟩ := q1
    exact ⟨_, rfl, q1, q2.symm⟩
  · cases q
theorem xcast_i {kd : Nat → Nat × Nat} {pc : Nat} {ls st : List Value} {h : Hp} {y : Rs} (q : xcast kd pc ls st h = some y) : ∃ a r, st = .ref a :: r ∧ (kd a).1 = 20 ∧ y = .inl (pc + 3, ls, .ref a :: r, h) := by
  unfold xcast at q
  split at q
  · obtain ⟨q1, q2⟩ := cpt q; exact ⟨_, _, rfl, q1, q2.symm⟩
  · cases q
theorem xmm_i {f : Int32 → Int32 → Int32} {pc : Nat} {ls st : List Value} {h : Hp} {y : Rs} (q : xmm f pc ls st h = some y) : ∃ x z r, st = .int z :: .int x :: r ∧ (r.map fun v => v.category).sum ≤ 8 ∧ y = .inl (pc + 3, ls, .int (f x z) :: r, h) := by
  unfold xmm at q
  split at q
  · obtain ⟨q1, q2⟩ := cpt q; exact ⟨_, _, _, rfl, q1, q2.symm⟩
  · cases q
theorem xslen_i {pc : Nat} {ls st : List Value} {h : Hp} {y : Rs} (q : xslen pc ls st h = some y) : ∃ x, st = [.retAddr 0, .int x] ∧ y = .inl (pc + 3, ls, [.int 103, .int x], h) := by
  unfold xslen at q
  split at q
  · cases q; exact ⟨_, rfl, rfl⟩
  · cases q
theorem xschar_i {pc : Nat} {ls st : List Value} {h : Hp} {y : Rs} (q : xschar pc ls st h = some y) : ∃ i, st = [.int i, .retAddr 0] ∧ vp_in i 103 ∧ y = .inl (pc + 3, ls, [.int (nms i.toNatClampNeg)], h) := by
  unfold xschar at q
  split at q
  · obtain ⟨q1, q2⟩ := cpt q; exact ⟨_, rfl, q1, q2.symm⟩
  · cases q
