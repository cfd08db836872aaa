/-! where the abstract cells lie in the machine's heap -/
def sh (n0 b : Nat) (adK : Nat → Nat) : Value → Value
  | .ref a => .ref (n0 + a)
  | .retAddr j => if j = 0 then .ref (adK 0) else .ref b
  | v => v
theorem sh_cat (n0 b : Nat) (adK : Nat → Nat) (v : Value) : (sh n0 b adK v).category = v.category := by
  cases v <;> try rfl
  rename_i j
  by_cases h : j = 0 <;> simp [sh, h, Value.category]
theorem sh_rf (n0 b : Nat) (adK : Nat → Nat) (r : Option Nat) : sh n0 b adK (va_rf r) = va_rf (r.map (fun x => n0 + x)) := by cases r <;> rfl
def fv (n0 : Nat) (h : Hp) (c k j : Nat) : Value := if tcd (fy c j) ≤ 1 then .int (gI h k j) else if tcd (fy c j) = 2 then .long (gJ h k j) else va_rf ((gP h k j).map (fun x => n0 + x))
def ce (n0 : Nat) (dA : Nat → ClassId) (h : Hp) (k : Nat) : va_E :=
  if (hk h k).1 < 13 then .inr ((hk h k).1, (List.range (hk h k).2).map (fun j => fv n0 h (hk h k).1 k j))
  else if (hk h k).1 = 21 then .inl (dA (hk h k).1, (hk h k).2, .inr (.inl (gJ h k)))
  else if 24 ≤ (hk h k).1 then .inl (dA (hk h k).1, (hk h k).2, .inr (.inr (.inr (.inr (fun j => (gP h k j).map (fun x => n0 + x))))))
  else .inl (dA (hk h k).1, (hk h k).2, .inl (gI h k))
def wo (n0 : Nat) (dA : Nat → ClassId) (h : Hp) : va_W := (List.range (hz h - 1)).map (fun j => (n0 + (j + 1), ce n0 dA h (j + 1)))
def Wf (h : Hp) : Prop := 1 ≤ hz h ∧ (∀ a, a = 0 ∨ hz h ≤ a → (hk h a).1 = 99) ∧ ∀ a, (hk h a).1 < 13 → (hk h a).2 = nF (hk h a).1
/-- the heap holds the cells of h, the script is what h says -/
def Wd (n0 L : Nat) (xs : Nat → Int32) (dA : Nat → ClassId) (D : va_G) (h : Hp) (H : Heap) : Prop := Wf h ∧ (hk h 0).2 = L ∧ gI h 0 = xs ∧ va_P D vcl (wo n0 dA h) H
abbrev AA (n0 : Nat) : Nat → Prop := fun q => n0 + 1 ≤ q
theorem Wf.in {h : Hp} (w : Wf h) {a k : Nat} (e : (hk h a).1 = k) (hk : k ≠ 99) : 1 ≤ a ∧ a < hz h := by
  refine ⟨Nat.pos_of_ne_zero fun q => ?_, Nat.lt_of_not_le fun q => ?_⟩
  · exact hk (by rw [← e]; exact w.2.1 a (Or.inl q))
  · exact hk (by rw [← e]; exact w.2.1 a (Or.inr q))
theorem wo_at {n0 : Nat} {dA : Nat → ClassId} {h : Hp} {a : Nat} (h1 : 1 ≤ a) (h2 : a < hz h) : (wo n0 dA h)[a - 1]? = some (n0 + a, ce n0 dA h a) := by
  have e : a - 1 + 1 = a := by omega
  simp only [wo, List.getElem?_map]
  rw [List.getElem?_range (by omega)]
  simp only [Option.map_some, e]
theorem wo_D (n0 : Nat) (dA : Nat → ClassId) (h : Hp) : va_D (AA n0) (wo n0 dA h) := by
  have key : ∀ (i : Nat) (q : Nat × va_E), (wo n0 dA h)[i]? = some q → q.1 = n0 + (i + 1) := by
    intro i q hq
    simp only [wo, List.getElem?_map] at hq
    cases hi : (List.range (hz h - 1))[i]? with
    | none => rw [hi] at hq; cases hq
    | some j =>
      rw [hi] at hq
      have hj : j = i := by
        have := List.getElem?_eq_some_iff.mp hi
        obtain ⟨hl, e⟩ := this
        rw [← e]; exact List.getElem_range hl
      subst hj
      cases hq
      rfl
  refine ⟨fun i j p q hp hq e => ?_, fun k q hq => ?_⟩
  · rw [key i p hp, key j q hq] at e
    omega
  · show n0 + 1 ≤ q.1
    rw [key k q hq]
    omega
theorem wo_set {n0 : Nat} {dA : Nat → ClassId} {h h' : Hp} {a : Nat} {e : va_E} (h1 : 1 ≤ a) (h2 : a < hz h) (hz' : hz h' = hz h) (ho : ∀ k, k ≠ a → ce n0 dA h' k = ce n0 dA h k) (ha : ce n0 dA h' a = e) : (wo n0 dA h).set (a - 1) (n0 + a, e) = wo n0 dA h' := by
  apply List.ext_getElem?
  intro j
  by_cases hj : j = a - 1
  · subst hj
    have hl : a - 1 < (wo n0 dA h).length := by simp [wo]; omega
    rw [List.getElem?_set_self hl, wo_at h1 (by rw [hz']; exact h2), ha]
  · rw [List.getElem?_set_ne (Ne.symm hj)]
    simp only [wo, List.getElem?_map, hz']
    cases hi : (List.range (hz h - 1))[j]? with
    | none => rfl
    | some i =>
      have hij : i = j := by
        obtain ⟨hl, e⟩ := List.getElem?_eq_some_iff.mp hi
        rw [← e]; exact List.getElem_range hl
      subst hij
      simp only [Option.map_some]
      rw [ho (i + 1) (by omega)]
theorem wo_push {n0 : Nat} {dA : Nat → ClassId} {h h' : Hp} {e : va_E} (h1 : 1 ≤ hz h) (hz' : hz h' = hz h + 1) (ho : ∀ k, k < hz h → ce n0 dA h' k = ce n0 dA h k) (ha : ce n0 dA h' (hz h) = e) : wo n0 dA h ++ [(n0 + hz h, e)] = wo n0 dA h' := by
  have e1 : hz h' - 1 = (hz h - 1) + 1 := by omega
  simp only [wo, e1, List.range_succ, List.map_append, List.map_cons, List.map_nil]
  rw [show hz h - 1 + 1 = hz h by omega, ha]
  congr 1
  apply List.map_congr_left
  intro j hj
  rw [ho (j + 1) (by have := List.mem_range.mp hj; omega)]
-- the cells of a heap that has changed
theorem gI_sI (h : Hp) (a i : Nat) (v : Int32) (b : Nat) : gI (sI h a i v) b = if b = a then upd (gI h a) i v else gI h b := by
  funext j
  show up2 (gI h) a i v b j = _
  unfold up2
  by_cases hb : b = a
  · subst hb
    simp [upd]
  · simp [hb]
theorem gJ_sJ (h : Hp) (a i : Nat) (v : Int64) (b : Nat) : gJ (sJ h a i v) b = if b = a then vp_updL (gJ h a) i v else gJ h b := by
  funext j
  show up2 (gJ h) a i v b j = _
  unfold up2
  by_cases hb : b = a
  · subst hb
    simp [vp_updL]
  · simp [hb]
theorem gP_sP (h : Hp) (a i : Nat) (v : Option Nat) (b : Nat) : gP (sP h a i v) b = if b = a then va_up (gP h a) i v else gP h b := by
  funext j
  show up2 (gP h) a i v b j = _
  unfold up2
  by_cases hb : b = a
  · subst hb
    simp [va_up]
  · simp [hb]
theorem gI_sA (h : Hp) (a : Nat) (f : Nat → Int32) (b : Nat) : gI (sA h a f) b = if b = a then f else gI h b := rfl
theorem ce_cong {n0 : Nat} {dA : Nat → ClassId} {h h' : Hp} {k : Nat} (e1 : hk h' k = hk h k) (e2 : gI h' k = gI h k) (e3 : gJ h' k = gJ h k) (e4 : gP h' k = gP h k) : ce n0 dA h' k = ce n0 dA h k := by
  unfold ce fv
  rw [e1, e2, e3, e4]
theorem ce_obj {n0 : Nat} {dA : Nat → ClassId} {h : Hp} {a c : Nat} (e : (hk h a).1 = c) (hc : c < 13) : ce n0 dA h a = .inr (c, (List.range (hk h a).2).map (fun j => fv n0 h c a j)) := by
  unfold ce
  rw [e, if_pos hc]
theorem ce_int {n0 : Nat} {dA : Nat → ClassId} {h : Hp} {a k : Nat} (e : (hk h a).1 = k) (h1 : k = 20 ∨ k = 22 ∨ k = 23) : ce n0 dA h a = .inl (dA k, (hk h a).2, .inl (gI h a)) := by
  unfold ce
  rw [e, if_neg (by omega), if_neg (by omega), if_neg (by omega)]
theorem ce_long {n0 : Nat} {dA : Nat → ClassId} {h : Hp} {a : Nat} (e : (hk h a).1 = 21) : ce n0 dA h a = .inl (dA 21, (hk h a).2, .inr (.inl (gJ h a))) := by
  unfold ce
  rw [e, if_neg (by omega), if_pos rfl]
theorem ce_ref {n0 : Nat} {dA : Nat → ClassId} {h : Hp} {a k : Nat} (e : (hk h a).1 = k) (h1 : 24 ≤ k) : ce n0 dA h a = .inl (dA k, (hk h a).2, .inr (.inr (.inr (.inr (fun j => (gP h a j).map (fun x => n0 + x)))))) := by
  unfold ce
  rw [e, if_neg (by omega), if_neg (by omega), if_pos h1]
theorem fs_set {n0 : Nat} {h h' : Hp} {c a k n : Nat} {v : Value} (hkn : k < n) (hv : fv n0 h' c a k = v) (ho : ∀ j, j ≠ k → fv n0 h' c a j = fv n0 h c a j) : ((List.range n).map (fun j => fv n0 h c a j)).set k v = (List.range n).map (fun j => fv n0 h' c a j) := by
  apply List.ext_getElem?
  intro j
  by_cases hj : j = k
  · subst hj
    rw [List.getElem?_set_self (by simp; exact hkn), List.getElem?_map, List.getElem?_range hkn, Option.map_some, hv]
  · rw [List.getElem?_set_ne (Ne.symm hj), List.getElem?_map, List.getElem?_map]
    cases hi : (List.range n)[j]? with
    | none => rfl
    | some i =>
      have hij : i = j := by
        obtain ⟨hl, e⟩ := List.getElem?_eq_some_iff.mp hi
        rw [← e]; exact List.getElem_range hl
      subst hij
      simp only [Option.map_some]
      rw [ho i hj]
theorem tcd_le : ∀ c, c < 13 → ∀ k, k < nF c → tcd (fy c k) ≤ 3 := by decide +kernel
-- locals
def al (n0 b : Nat) (adK : Nat → Nat) (ls : List Value) : List (Nat × Value) := (List.range ls.length).filterMap (fun i => match ls[i]? with
  | some v => bif isJ v then none else some (i, sh n0 b adK v)
  | none => none)
theorem al_mem {n0 b : Nat} {adK : Nat → Nat} {ls : List Value} {q : Nat × Value} : q ∈ al n0 b adK ls ↔ ∃ v, ls[q.1]? = some v ∧ isJ v = false ∧ q.2 = sh n0 b adK v := by
  unfold al
  rw [List.mem_filterMap]
  constructor
  · rintro ⟨i, -, h⟩
    cases hv : ls[i]? with
    | none => rw [hv] at h; cases h
    | some v =>
      rw [hv] at h
      cases hj : isJ v with
      | true => simp [hj] at h
      | false =>
        simp [hj] at h
        subst h
        exact ⟨v, hv, hj, rfl⟩
  · rintro ⟨v, h1, h2, h3⟩
    refine ⟨q.1, List.mem_range.mpr (List.getElem?_eq_some_iff.mp h1).1, ?_⟩
    rw [h1]
    simp [h2, ← h3]
def lrep (n0 b : Nat) (adK : Nat → Nat) (nL : Nat) (wd : List Nat) (ls : List Value) (LS : Array Slot) : Prop := lv_has LS nL (al n0 b adK ls) ∧ ls.length = nL ∧ ∀ (i : Nat) (x : Int64), ls[i]? = some (.long x) → i ∈ wd
theorem lrep.at {n0 b : Nat} {adK : Nat → Nat} {nL : Nat} {wd : List Nat} {ls : List Value} {LS : Array Slot} (h : lrep n0 b adK nL wd ls LS) {i : Nat} {v : Value} (hv : ls[i]? = some v) (hj : isJ v = false) : LS[i]? = some (.val (sh n0 b adK v)) := h.1.2.2 (i, sh n0 b adK v) (al_mem.mpr ⟨v, hv, hj, rfl⟩)
theorem stl_len (b : Nat) (ls : List Value) (i : Nat) (v : Value) : (stl b ls i v).length = ls.length := by
  unfold stl
  cases Nat.beq b 1 <;> simp
theorem stl_at {b : Nat} {ls : List Value} {i j : Nat} {v w : Value} (h : (stl b ls i v)[j]? = some w) (hw : isJ w = false) : (j = i ∧ w = v) ∨ (j ≠ i ∧ ls[j]? = some w ∧ (Nat.beq b 1 = true → j ≠ i - 1)) := by
  unfold stl at h
  by_cases hj : j = i
  · subst hj
    left
    refine ⟨rfl, ?_⟩
    have hl := (List.getElem?_eq_some_iff.mp h).1
    rw [List.length_set] at hl
    rw [List.getElem?_set_self hl] at h
    exact (Option.some.inj h).symm
  · right
    refine ⟨hj, ?_⟩
    rw [List.getElem?_set_ne (Ne.symm hj)] at h
    cases hb : Nat.beq b 1 with
    | false => rw [hb] at h; exact ⟨h, fun q => by cases q⟩
    | true =>
      rw [hb] at h
      by_cases hj2 : j = i - 1
      · subst hj2
        exfalso
        have h : (ls.set (i - 1) jn)[i - 1]? = some w := h
        have hl := (List.getElem?_eq_some_iff.mp h).1
        rw [List.length_set] at hl
        rw [List.getElem?_set_self hl] at h
        cases h
        cases hw
      · have h : (ls.set (i - 1) jn)[j]? = some w := h
        rw [List.getElem?_set_ne (Ne.symm hj2)] at h
        exact ⟨h, fun _ => hj2⟩
theorem cat2 {v : Value} (h : v.category = 2) (hj : isJ v = false) : ∃ x, v = .long x := by
  cases v <;> first | exact ⟨_, rfl⟩ | (cases hj; done) | (cases h; done)
theorem okS_d {wd : List Nat} {b i : Nat} (h : okS wd b i = true) : Nat.beq b 1 = true ∨ i = 0 ∨ i - 1 ∉ wd := by
  unfold okS at h
  simp only [Bool.or_eq_true] at h
  rcases h with (h | h) | h
  · exact Or.inl h
  · exact Or.inr (Or.inl (Nat.eq_of_beq_eq_true h))
  · right; right
    intro q
    rw [List.contains_iff_mem.mpr q] at h
    cases h
theorem lrep_st1 {n0 b : Nat} {adK : Nat → Nat} {nL : Nat} {wd : List Nat} {ls : List Value} {LS LS' : Array Slot} {bb i : Nat} {v : Value} (hl : lrep n0 b adK nL wd ls LS) (hc : v.category = 1) (hok : okS wd bb i = true)
    (h' : lv_has LS' nL ((i, sh n0 b adK v) :: (al n0 b adK ls).filter (fun q => !(q.1 == i) && !(q.1 + 1 == i && q.2.category == 2)))) : lrep n0 b adK nL wd (stl bb ls i v) LS' := by
  refine ⟨⟨h'.1, h'.2.1, fun q hq => h'.2.2 q ?_⟩, by rw [stl_len]; exact hl.2.1, fun j x hx => ?_⟩
  · obtain ⟨w, h1, h2, h3⟩ := al_mem.mp hq
    rcases stl_at h1 h2 with ⟨e1, e2⟩ | ⟨e1, e2, e3⟩
    · subst e2
      refine List.mem_cons.mpr (Or.inl ?_)
      rw [← h3, ← e1]
    · refine List.mem_cons.mpr (Or.inr (List.mem_filter.mpr ⟨al_mem.mpr ⟨w, e2, h2, h3⟩, ?_⟩))
      have e1' : (q.1 == i) = false := by simp [e1]
      rw [e1']
      simp only [Bool.not_false, Bool.true_and, Bool.not_eq_true', Bool.and_eq_false_iff]
      by_cases hq1 : q.1 + 1 = i
      · right
        cases hcat : (q.2.category == 2) with
        | false => rfl
        | true =>
          exfalso
          have hcat : q.2.category = 2 := by simpa using hcat
          rw [h3, sh_cat] at hcat
          obtain ⟨x, rfl⟩ := cat2 hcat h2
          have hin := hl.2.2 _ _ e2
          rcases okS_d hok with g | g | g
          · exact e3 g (by omega)
          · omega
          · exact g (by rw [show i - 1 = q.1 by omega]; exact hin)
      · left
        simp [hq1]
  · rcases stl_at hx rfl with ⟨e1, e2⟩ | ⟨e1, e2, e3⟩
    · rw [← e2] at hc; cases hc
    · exact hl.2.2 _ _ e2
theorem lrep_st2 {n0 b : Nat} {adK : Nat → Nat} {nL : Nat} {wd : List Nat} {ls : List Value} {LS LS' : Array Slot} {bb i : Nat} {x : Int64} (hl : lrep n0 b adK nL wd ls LS) (hi : i ∈ wd) (hok : okS wd bb i = true)
    (h' : lv_has LS' nL ((i, .long x) :: (al n0 b adK ls).filter (fun q => !(q.1 == i) && (!(q.1 == i + 1) && !(q.1 + 1 == i && q.2.category == 2))))) : lrep n0 b adK nL wd ((stl bb ls i (.long x)).set (i + 1) jn) LS' := by
  have key : ∀ {j : Nat} {w : Value}, ((stl bb ls i (.long x)).set (i + 1) jn)[j]? = some w → isJ w = false → j ≠ i + 1 ∧ (stl bb ls i (.long x))[j]? = some w := by
    intro j w h1 h2
    by_cases hj : j = i + 1
    · subst hj
      exfalso
      have hl := (List.getElem?_eq_some_iff.mp h1).1
      rw [List.length_set] at hl
      rw [List.getElem?_set_self hl] at h1
      cases h1
      cases h2
    · rw [List.getElem?_set_ne (Ne.symm hj)] at h1
      exact ⟨hj, h1⟩
  refine ⟨⟨h'.1, h'.2.1, fun q hq => h'.2.2 q ?_⟩, by rw [List.length_set, stl_len]; exact hl.2.1, fun j y hx => ?_⟩
  · obtain ⟨w, h1, h2, h3⟩ := al_mem.mp hq
    obtain ⟨k1, k2⟩ := key h1 h2
    rcases stl_at k2 h2 with ⟨e1, e2⟩ | ⟨e1, e2, e3⟩
    · subst e2
      refine List.mem_cons.mpr (Or.inl ?_)
      have : sh n0 b adK (.long x) = .long x := rfl
      rw [this] at h3
      rw [← h3, ← e1]
    · refine List.mem_cons.mpr (Or.inr (List.mem_filter.mpr ⟨al_mem.mpr ⟨w, e2, h2, h3⟩, ?_⟩))
      have e1' : (q.1 == i) = false := by simp [e1]
      have e2' : (q.1 == i + 1) = false := by simp [k1]
      rw [e1', e2']
      simp only [Bool.not_false, Bool.true_and, Bool.not_eq_true', Bool.and_eq_false_iff]
      by_cases hq1 : q.1 + 1 = i
      · right
        cases hcat : (q.2.category == 2) with
        | false => rfl
        | true =>
          exfalso
          have hcat : q.2.category = 2 := by simpa using hcat
          rw [h3, sh_cat] at hcat
          obtain ⟨y, rfl⟩ := cat2 hcat h2
          have hin := hl.2.2 _ _ e2
          rcases okS_d hok with g | g | g
          · exact e3 g (by omega)
          · omega
          · exact g (by rw [show i - 1 = q.1 by omega]; exact hin)
      · left
        simp [hq1]
  · obtain ⟨k1, k2⟩ := key hx rfl
    rcases stl_at k2 rfl with ⟨e1, e2⟩ | ⟨e1, e2, e3⟩
    · rw [e1]; exact hi
    · exact hl.2.2 _ _ e2
/-- at a method's entry -/
theorem argOk_at {wd : List Nat} : ∀ {as : List Value} {i : Nat}, argOk wd i as = true → ∀ (j : Nat) (v : Value), (entL as)[j]? = some v → isJ v = false → ∀ n0 b adK, (i + j, sh n0 b adK v) ∈ lv_args i (as.map (sh n0 b adK)) ∧ (∀ x, v = .long x → i + j ∈ wd) := by
  intro as
  induction as with
  | nil => intro i _ j v h; simp [entL] at h
  | cons w t ih =>
    intro i hok j v hv hj n0 b adK
    by_cases hc : w.category = 2
    · have e : entL (w :: t) = w :: jn :: entL t := by simp [entL, hc]
      rw [e] at hv
      have hw : ∃ x, w = .long x := by
        cases w <;> first | exact ⟨_, rfl⟩ | (simp [argOk] at hok; done) | (cases hc; done)
      obtain ⟨x, rfl⟩ := hw
      have hok' : (wd.contains i && argOk wd (i + 2) t) = true := hok
      simp only [Bool.and_eq_true] at hok'
      match j, hv with
      | 0, hv =>
        cases hv
        exact ⟨List.mem_cons.mpr (Or.inl rfl), fun _ _ => List.contains_iff_mem.mp hok'.1⟩
      | 1, hv => cases hv; cases hj
      | k + 2, hv =>
        have hv : (entL t)[k]? = some v := hv
        obtain ⟨g1, g2⟩ := ih hok'.2 k v hv hj n0 b adK
        refine ⟨List.mem_cons.mpr (Or.inr ?_), fun y hy => ?_⟩
        · rw [show i + (k + 2) = i + 2 + k by omega]
          exact g1
        · rw [show i + (k + 2) = i + 2 + k by omega]
          exact g2 y hy
    · have e : entL (w :: t) = w :: entL t := by simp [entL, hc]
      rw [e] at hv
      have hok' : argOk wd (i + 1) t = true := by
        cases w <;> first | exact hok | (exact absurd rfl hc) | (simp [argOk] at hok)
      match j, hv with
      | 0, hv =>
        cases hv
        exact ⟨List.mem_cons.mpr (Or.inl rfl), fun x hx => absurd (by rw [hx]; rfl) hc⟩
      | k + 1, hv =>
        have hv : (entL t)[k]? = some v := hv
        obtain ⟨g1, g2⟩ := ih hok' k v hv hj n0 b adK
        have hc2 : ¬ (sh n0 b adK w).category = 2 := by rw [sh_cat]; exact hc
        refine ⟨?_, fun y hy => ?_⟩
        · show _ ∈ lv_args i (sh n0 b adK w :: t.map (sh n0 b adK))
          unfold lv_args
          rw [if_neg hc2]
          refine List.mem_cons.mpr (Or.inr ?_)
          rw [show i + (k + 1) = i + 1 + k by omega]
          exact g1
        · rw [show i + (k + 1) = i + 1 + k by omega]
          exact g2 y hy
theorem sl_len (n0 b : Nat) (adK : Nat → Nat) : ∀ as : List Value, (lg_sl (as.map (sh n0 b adK))).length = (entL as).length := by
  intro as
  induction as with
  | nil => rfl
  | cons w t ih =>
    have e1 : lg_sl ((w :: t).map (sh n0 b adK)) = (if (sh n0 b adK w).category = 2 then [Slot.val (sh n0 b adK w), .second] else [Slot.val (sh n0 b adK w)]) ++ lg_sl (t.map (sh n0 b adK)) := rfl
    have e2 : entL (w :: t) = (if w.category = 2 then [w, jn] else [w]) ++ entL t := rfl
    rw [e1, e2, List.length_append, List.length_append, ih, sh_cat]
    by_cases hc : w.category = 2
    · rw [if_pos hc, if_pos hc]; rfl
    · rw [if_neg hc, if_neg hc]; rfl
theorem lrep_ent {n0 b : Nat} {adK : Nat → Nat} {nL : Nat} {wd : List Nat} {as : List Value} (hok : argOk wd 0 as = true) (hn : (entL as).length ≤ nL) : lrep n0 b adK nL wd (ent nL as) ((lg_sl (as.map (sh n0 b adK)) ++ List.replicate (nL - (lg_sl (as.map (sh n0 b adK))).length) Slot.unset).toArray) := by
  have he := lv_entry (as.map (sh n0 b adK)) (n := nL) (by rw [sl_len]; exact hn)
  have key : ∀ (j : Nat) (v : Value), (ent nL as)[j]? = some v → isJ v = false → (entL as)[j]? = some v := by
    intro j v h1 h2
    unfold ent at h1
    by_cases hj : j < (entL as).length
    · rw [List.getElem?_append_left hj] at h1; exact h1
    · rw [List.getElem?_append_right (by omega)] at h1
      have := List.mem_replicate.mp (List.mem_of_getElem? h1)
      rw [this.2] at h2
      cases h2
  refine ⟨⟨he.1, he.2.1, fun q hq => he.2.2 q ?_⟩, ?_, fun i x hx => ?_⟩
  · obtain ⟨w, h1, h2, h3⟩ := al_mem.mp hq
    have h4 := (argOk_at hok q.1 w (key _ _ h1 h2) h2 n0 b adK).1
    rw [← h3, Nat.zero_add] at h4
    exact h4
  · simp [ent]
    omega
  · have h4 := (argOk_at hok i _ (key _ _ hx rfl) rfl n0 b adK).2 x rfl
    rw [Nat.zero_add] at h4
    exact h4
