/-! row -/
theorem sh_or (x y : Int32) : x <<< (nI 8 &&& 31) ||| (y &&& nI 255) = x * nI 256 + (y &&& nI 255) := by
  have h1 : x <<< (nI 8 &&& 31) = x * nI 256 := by
    apply Int32.toBitVec_inj.1
    apply BitVec.eq_of_toNat_eq
    rw [pk_shl x (nI 8 &&& 31) 8 (n_sl 8 (by omega)), Int32.toBitVec_mul, BitVec.toNat_mul, pk_tn (by omega)]
  have h2 : ∀ i, i < 8 → (x <<< (nI 8 &&& 31)).toBitVec.getLsbD i = false := by
    intro i hi
    rw [Int32.toBitVec_shiftLeft]
    show (x.toBitVec <<< ((nI 8 &&& 31).toBitVec.smod 32).toNat).getLsbD i = _
    rw [n_sl 8 (by omega), BitVec.getLsbD_shiftLeft]
    simp [hi]
  have h3 : ∀ i, i < 32 → 8 ≤ i → (nI 255).toBitVec.getLsbD i = false := by decide +kernel
  rw [← h1]
  apply Int32.toBitVec_inj.1
  rw [Int32.toBitVec_or, Int32.toBitVec_add]
  symm
  apply BitVec.add_eq_or_of_and_eq_zero
  apply BitVec.eq_of_getLsbD_eq
  intro i hi
  rw [Int32.toBitVec_and, BitVec.getLsbD_and, BitVec.getLsbD_and, BitVec.getLsbD_zero]
  by_cases e : i < 8
  · rw [h2 i e]; rfl
  · rw [h3 i hi (by omega), Bool.and_false, Bool.and_false]
/-- the warmth that two bytes tell -/
def rwW (tp : Nat → Int32) (i : Nat) : Int32 := tp i <<< (nI 8 &&& 31) ||| (tp (i + 1) &&& nI 255)
def rwO (tp : Nat → Int32) (m j : Nat) : Prop := 2 * j + 1 < m ∧ (-40 ≤ rwW tp (2 * j) ∧ rwW tp (2 * j) ≤ nI 120)
noncomputable def rwV (tp : Nat → Int32) (m j : Nat) : Int32 × Int32 := pif (rwO tp m j) (rwW tp (2 * j), nI 0) (nI 0, -1)
noncomputable def rwL (tp : Nat → Int32) (m j : Nat) : Nat := cntT (fun j => ¬ rwO tp m j) j
theorem rwO_cg {tp tq : Nat → Int32} {m : Nat} (hm : m ≤ 400) (he : ∀ i, i < 400 → tp i = tq i) (j : Nat) : rwO tp m j ↔ rwO tq m j := by
  unfold rwO
  constructor
  · rintro ⟨h1, h2⟩
    rw [show rwW tp (2 * j) = rwW tq (2 * j) by unfold rwW; rw [he _ (by omega), he _ (by omega)]] at h2
    exact ⟨h1, h2⟩
  · rintro ⟨h1, h2⟩
    rw [show rwW tq (2 * j) = rwW tp (2 * j) by unfold rwW; rw [he _ (by omega), he _ (by omega)]] at h2
    exact ⟨h1, h2⟩
theorem rwV_cg {tp tq : Nat → Int32} {m : Nat} (hm : m ≤ 400) (he : ∀ i, i < 400 → tp i = tq i) (j : Nat) : rwV tp m j = rwV tq m j := by
  unfold rwV
  rw [propext (rwO_cg hm he j)]
  by_cases e : rwO tq m j
  · rw [pif_t e, pif_t e, show rwW tp (2 * j) = rwW tq (2 * j) by unfold rwW; rw [he _ (by have := e.1; omega), he _ (by have := e.1; omega)]]
  · rw [pif_f e, pif_f e]
theorem rwL_cg {tp tq : Nat → Int32} {m : Nat} (hm : m ≤ 400) (he : ∀ i, i < 400 → tp i = tq i) (j : Nat) : rwL tp m j = rwL tq m j := cnt_cg j (fun i _ => not_congr (rwO_cg hm he i))
theorem rwV_rg (tp : Nat → Int32) (m j : Nat) : rg (rwV tp m j).1 (-40) 120 ∧ rg (rwV tp m j).2 (-1) 9 := by
  unfold rwV
  by_cases e : rwO tp m j
  · rw [pif_t e]; exact ⟨rg_of e.2 (by decide) (by decide), show rg (nI 0) (-1) 9 from ⟨by decide, by decide⟩⟩
  · rw [pif_f e]; exact ⟨⟨by decide, by decide⟩, by decide, by decide⟩
/-- flights that come, the class's and the model's -/
noncomputable def rCA (v : Nat → Int32 × Int32) (N : Nat) (b c : Int32) (x : Hp) : Nat → Hp
  | 0 => x
  | j + 1 => adh (rCA v N b c x j) (N + j) (v j).1 b c (v j).2
noncomputable def rMA (v : Nat → Int32 × Int32) (N : Nat) (b c : Int32) (x : Hp) : Nat → Hp
  | 0 => x
  | j + 1 => flh (rMA v N b c x j) (N + j) (v j).1 b c (v j).2
section RO
variable (d : Nat) (h : Hp) (F : Po) (v : Nat → Int32 × Int32) (N : Nat) (b c : Int32)
theorem c40 {i : Nat} (hi : i + 1 < 400) : cwp true d 40 [.ref 76, .int (nI i)] h F = F (some (.int (rwW (gI h 77) i))) h := by
  simp (disch := omega) only [e40, r40_0, r40_1, r40_4, r40_5, r40_6, r40_8, r40_9, r40_10, r40_13, r40_14, r40_15, r40_16, r40_17, r40_20, r40_21, r40_22, kdC, kdM, rpC, rpM, q_rs, q_rn, Option.toList_some, Option.toList_none, List.cons_append, List.nil_append, true_and, and_true, eq_self, ↓reduceIte, not_true_eq_false, not_false_eq_true, Nat.reduceEqDiff, Nat.reduceLeDiff, Nat.reduceLT, Nat.reduceAdd, Nat.reduceMul, Nat.reduceSub, false_or, or_false, true_or, or_true, false_and, and_false, reduceCtorEq, q_n0, q_n1, q_em, q_em2, q_b0, q_b1, Classical.not_not, nI_add, pk_mul, nI_clamp, q_vp, nI_eq, nI_leI, nI_ltI, q_sub, show i < 400 by omega, hi, rwW]
theorem rCA_n {y : Nat} (hy : y < 3 ∨ 7 < y) : ∀ j, gI (rCA v N b c h j) y = gI h y
  | 0 => rfl
  | j + 1 => by
    show gI (adh (rCA v N b c h j) (N + j) (v j).1 b c (v j).2) y = _
    rw [adh_gn _ hy, rCA_n hy j]
theorem rCA_s (hn : gI h 3 4 = nI N) : ∀ j, gI (rCA v N b c h j) 3 4 = nI (N + j)
  | 0 => hn
  | j + 1 => by
    show gI (adh (rCA v N b c h j) (N + j) (v j).1 b c (v j).2) 3 4 = _
    unfold adh
    rw [q_gs, Nat.add_assoc]
theorem rMA_n {y : Nat} (hy : y ≠ 103) : ∀ j, gI (rMA v N b c h j) y = gI h y
  | 0 => rfl
  | j + 1 => by
    show gI (flh (rMA v N b c h j) (N + j) (v j).1 b c (v j).2) y = _
    rw [flh_gn _ hy, rMA_n hy j]
theorem cl93 {m J : Nat} (hm : m ≤ 400) (hJ : J = (m + 1) / 2) (hN : N + J ≤ 24) (hn : gI h 3 4 = nI N) (hv : v = rwV (gI h 77) m) : ∀ k j i (u : Value), j + k = J → i = 2 * j → wp true (d + 2) 93 75 [.ref 1, .int b, .int c, .int (nI m), .int (nI (rwL (gI h 77) m j)), .int (nI i), u] [] (rCA v N b c h j) F = F (some (.int (nI (rwL (gI h 77) m J)))) (grt (rCA v N b c h J))
  | 0, j, i, u, e, hi => by
    obtain rfl : j = J := e
    rw [r93_75]
    simp (disch := omega) only [e93, r93_0, r93_1, r93_2, r93_5, r93_8, r93_9, r93_10, r93_13, r93_14, r93_15, r93_18, r93_21, r93_22, r93_23, r93_26, r93_27, r93_30, r93_31, r93_34, r93_37, r93_40, r93_41, r93_42, r93_43, r93_44, r93_45, r93_46, r93_48, r93_51, r93_52, r93_54, r93_57, r93_58, r93_59, r93_62, r93_63, r93_65, r93_68, r93_69, r93_70, r93_72, r93_73, r93_77, r93_78, r93_81, r93_83, r93_84, r93_85, r93_86, r93_89, r93_90, r93_93, r93_95, r93_98, r93_101, r93_104, r93_106, r93_108, r93_111, r93_114, r93_115, r93_118, r93_121, r93_123, r93_124, r93_125, r93_126, r93_129, r93_130, r93_133, r93_134, r93_137, r93_140, r93_141, r93_142, r93_143, r93_144, r93_147, r93_148, r93_151, r93_154, r93_157, r93_158, r93_160, r93_163, c135, kdC, kdM, rpC, rpM, q_rs, q_rn, Option.toList_some, Option.toList_none, List.cons_append, List.nil_append, true_and, and_true, eq_self, ↓reduceIte, not_true_eq_false, not_false_eq_true, Nat.reduceEqDiff, Nat.reduceLeDiff, Nat.reduceLT, Nat.reduceAdd, Nat.reduceMul, Nat.reduceSub, false_or, or_false, true_or, or_true, false_and, and_false, reduceCtorEq, q_n0, q_n1, q_em, q_em2, q_b0, q_b1, Classical.not_not, nI_add, pk_mul, nI_clamp, q_vp, nI_eq, nI_leI, nI_ltI, q_sub, show m ≤ i by omega]
  | k + 1, j, i, u, e, hi => by
    have hs := rCA_s h v N b c hn j
    have ht := rCA_n h v N b c (y := 77) (by omega) j
    have hl : rwL (gI h 77) m (j + 1) = rwL (gI h 77) m j + pif (¬ rwO (gI h 77) m j) 1 0 := rfl
    have hc := fun (F : Po) (d : Nat) => cc12 d (rCA v N b c h j) F hs (by omega)
    have hcc : rCA v N b c h (j + 1) = adh (rCA v N b c h j) (N + j) (v j).1 b c (v j).2 := rfl
    have hvj : v j = rwV (gI h 77) m j := by rw [hv]
    by_cases e1 : 2 * j + 1 < m
    · have h40 := fun (F : Po) (d : Nat) => c40 d (rCA v N b c h j) F (i := i) (by omega)
      rw [ht] at h40
      have ih := cl93 hm hJ hN hn hv k (j + 1) (i + 2) (.int (rwW (gI h 77) i)) (by omega) (by omega)
      refine Eq.trans ?_ ih
      rw [r93_75]
      by_cases e2 : -40 ≤ rwW (gI h 77) i ∧ rwW (gI h 77) i ≤ nI 120
      · have ho : rwO (gI h 77) m j := ⟨e1, by rw [← hi]; exact e2⟩
        have hw : v j = (rwW (gI h 77) i, nI 0) := by rw [hvj, rwV, pif_t ho, hi]
        rw [hl, pif_f (fun q => q ho), hcc, hw]
        simp (disch := omega) only [r93_77, r93_78, r93_81, r93_83, r93_84, r93_85, r93_86, r93_89, r93_90, r93_93, r93_95, r93_98, r93_101, r93_104, r93_106, r93_108, r93_111, r93_114, r93_115, r93_118, r93_121, r93_123, r93_124, r93_125, r93_126, r93_129, r93_130, r93_133, r93_134, r93_137, r93_140, r93_141, r93_142, r93_143, r93_144, r93_147, r93_148, r93_151, r93_154, h40, c129, hc, e2, kdC, kdM, rpC, rpM, q_rs, q_rn, Option.toList_some, Option.toList_none, List.cons_append, List.nil_append, true_and, and_true, eq_self, ↓reduceIte, not_true_eq_false, not_false_eq_true, Nat.reduceEqDiff, Nat.reduceLeDiff, Nat.reduceLT, Nat.reduceAdd, Nat.reduceMul, Nat.reduceSub, false_or, or_false, true_or, or_true, false_and, and_false, reduceCtorEq, q_n0, q_n1, q_em, q_em2, q_b0, q_b1, Classical.not_not, nI_add, pk_mul, nI_clamp, q_vp, nI_eq, nI_leI, nI_ltI, q_sub, show ¬ m ≤ i by omega, show ¬ m ≤ i + 1 by omega, Nat.add_zero]
      · have ho : ¬ rwO (gI h 77) m j := fun q => e2 (by rw [hi]; exact q.2)
        have hw : v j = (nI 0, -1) := by rw [hvj, rwV, pif_f ho]
        rw [hl, pif_t ho, hcc, hw]
        simp (disch := omega) only [r93_77, r93_78, r93_81, r93_83, r93_84, r93_85, r93_86, r93_89, r93_90, r93_93, r93_95, r93_98, r93_101, r93_104, r93_106, r93_108, r93_111, r93_114, r93_115, r93_118, r93_121, r93_123, r93_124, r93_125, r93_126, r93_129, r93_130, r93_133, r93_134, r93_137, r93_140, r93_141, r93_142, r93_143, r93_144, r93_147, r93_148, r93_151, r93_154, h40, c129, hc, e2, kdC, kdM, rpC, rpM, q_rs, q_rn, Option.toList_some, Option.toList_none, List.cons_append, List.nil_append, true_and, and_true, eq_self, ↓reduceIte, not_true_eq_false, not_false_eq_true, Nat.reduceEqDiff, Nat.reduceLeDiff, Nat.reduceLT, Nat.reduceAdd, Nat.reduceMul, Nat.reduceSub, false_or, or_false, true_or, or_true, false_and, and_false, reduceCtorEq, q_n0, q_n1, q_em, q_em2, q_b0, q_b1, Classical.not_not, nI_add, pk_mul, nI_clamp, q_vp, nI_eq, nI_leI, nI_ltI, q_sub, show ¬ m ≤ i by omega, show ¬ m ≤ i + 1 by omega]
    · have ih := cl93 hm hJ hN hn hv k (j + 1) (i + 2) (.int (-1000)) (by omega) (by omega)
      refine Eq.trans ?_ ih
      have ho : ¬ rwO (gI h 77) m j := fun q => e1 q.1
      have hw : v j = (nI 0, -1) := by rw [hvj, rwV, pif_f ho]
      rw [hl, pif_t ho, hcc, hw]
      rw [r93_75]
      simp (disch := omega) only [r93_77, r93_78, r93_81, r93_83, r93_84, r93_85, r93_86, r93_89, r93_90, r93_93, r93_95, r93_98, r93_101, r93_104, r93_106, r93_108, r93_111, r93_114, r93_115, r93_118, r93_121, r93_123, r93_124, r93_125, r93_126, r93_129, r93_130, r93_133, r93_134, r93_137, r93_140, r93_141, r93_142, r93_143, r93_144, r93_147, r93_148, r93_151, r93_154, c129, hc, kdC, kdM, rpC, rpM, q_rs, q_rn, Option.toList_some, Option.toList_none, List.cons_append, List.nil_append, true_and, and_true, eq_self, ↓reduceIte, not_true_eq_false, not_false_eq_true, Nat.reduceEqDiff, Nat.reduceLeDiff, Nat.reduceLT, Nat.reduceAdd, Nat.reduceMul, Nat.reduceSub, false_or, or_false, true_or, or_true, false_and, and_false, reduceCtorEq, q_n0, q_n1, q_em, q_em2, q_b0, q_b1, Classical.not_not, nI_add, pk_mul, nI_clamp, q_vp, nI_eq, nI_leI, nI_ltI, q_sub, show ¬ m ≤ i by omega, show m ≤ i + 1 by omega, show ¬ (-40 : Int32) ≤ -1000 by decide]
/-- how K comes to be -/
noncomputable def rK (v : Nat → Int32 × Int32) (N : Nat) (b c : Int32) (K : Nat → Int32) : Nat → Nat → Int32
  | 0 => K
  | j + 1 => flK (rK v N b c K j) (N + j) (v j).1 b c (v j).2
theorem rMA_K {K : Nat → Int32} (hK : gI h 103 = K) : ∀ j, gI (rMA v N b c h j) 103 = rK v N b c K j
  | 0 => hK
  | j + 1 => by
    show gI (flh (rMA v N b c h j) (N + j) (v j).1 b c (v j).2) 103 = flK (rK v N b c K j) (N + j) (v j).1 b c (v j).2
    rw [flh_K _ (rMA_K hK j)]
theorem rK_n {K : Nat → Int32} (hn : nf K = N) : ∀ j, N + j < 1000 → nf (rK v N b c K j) = N + j
  | 0, _ => hn
  | j + 1, hj => by
    show (flK (rK v N b c K j) (N + j) (v j).1 b c (v j).2 376).toNatClampNeg = _
    unfold flK
    rw [if_pos rfl, nI_clamp (by omega), Nat.add_assoc]
theorem ml167 {K : Nat → Int32} {m J : Nat} (hm : m ≤ 400) (hJ : J = (m + 1) / 2) (hN : N + J ≤ 24) (hn : nf K = N) (hK : gI h 103 = K) (hw : ∀ j, j ≤ J → WF (rK v N b c K j)) (hv : v = rwV (gI h 107) m) : ∀ k j i (u u' : Value), j + k = J → i = 2 * j → wp true (d + 2) 167 75 [.ref 101, .int b, .int c, .int (nI m), .int (nI (rwL (gI h 107) m j)), .int (nI i), u, u'] [] (rMA v N b c h j) F = F (some (.int (nI (rwL (gI h 107) m J)))) (sI (rMA v N b c h J) 101 0 (nI 0))
  | 0, j, i, u, u', e, hi => by
    obtain rfl : j = J := e
    rw [r167_75]
    simp (disch := omega) only [e167, r167_0, r167_1, r167_2, r167_4, r167_7, r167_10, r167_11, r167_12, r167_14, r167_17, r167_20, r167_21, r167_22, r167_25, r167_26, r167_27, r167_30, r167_31, r167_32, r167_33, r167_36, r167_37, r167_40, r167_41, r167_42, r167_43, r167_44, r167_45, r167_46, r167_48, r167_51, r167_52, r167_54, r167_57, r167_58, r167_59, r167_62, r167_63, r167_65, r167_68, r167_69, r167_70, r167_72, r167_73, r167_77, r167_78, r167_81, r167_83, r167_84, r167_85, r167_86, r167_89, r167_90, r167_93, r167_95, r167_96, r167_99, r167_100, r167_101, r167_104, r167_106, r167_107, r167_108, r167_109, r167_112, r167_113, r167_114, r167_117, r167_119, r167_121, r167_123, r167_126, r167_128, r167_129, r167_131, r167_134, r167_136, r167_139, r167_140, r167_141, r167_142, r167_144, r167_147, r167_148, r167_151, r167_152, r167_155, r167_157, r167_159, r167_162, r167_163, r167_166, r167_167, r167_168, r167_170, r167_173, r167_176, r167_177, r167_179, r167_182, c145, kdC, kdM, rpC, rpM, q_rs, q_rn, Option.toList_some, Option.toList_none, List.cons_append, List.nil_append, true_and, and_true, eq_self, ↓reduceIte, not_true_eq_false, not_false_eq_true, Nat.reduceEqDiff, Nat.reduceLeDiff, Nat.reduceLT, Nat.reduceAdd, Nat.reduceMul, Nat.reduceSub, false_or, or_false, true_or, or_true, false_and, and_false, reduceCtorEq, q_n0, q_n1, q_em, q_em2, q_b0, q_b1, Classical.not_not, nI_add, pk_mul, nI_clamp, q_vp, nI_eq, nI_leI, nI_ltI, q_sub, show m ≤ i by omega]
  | k + 1, j, i, u, u', e, hi => by
    have hKj := rMA_K h v N b c hK j
    have hnj := rK_n v N b c hn j (by omega)
    have ht := rMA_n h v N b c (y := 107) (by omega) j
    have hl : rwL (gI h 107) m (j + 1) = rwL (gI h 107) m j + pif (¬ rwO (gI h 107) m j) 1 0 := rfl
    have hc := fun (F : Po) (d : Nat) => m162 d (rMA v N b c h j) F hKj (hw j (by omega)) (by omega)
    rw [hnj] at hc
    have hcc : rMA v N b c h (j + 1) = flh (rMA v N b c h j) (N + j) (v j).1 b c (v j).2 := rfl
    have hvj : v j = rwV (gI h 107) m j := by rw [hv]
    by_cases e1 : 2 * j + 1 < m
    · have hww : gI (rMA v N b c h j) 107 i * nI 256 + (gI (rMA v N b c h j) 107 (i + 1) &&& nI 255) = rwW (gI h 107) i := by rw [ht, rwW, sh_or]
      by_cases e2 : -40 ≤ rwW (gI h 107) i ∧ rwW (gI h 107) i ≤ nI 120
      · have ih := ml167 hm hJ hN hn hK hw hv k (j + 1) (i + 2) (.int (rwW (gI h 107) i)) (.int (nI 1)) (by omega) (by omega)
        refine Eq.trans ?_ ih
        have ho : rwO (gI h 107) m j := ⟨e1, by rw [← hi]; exact e2⟩
        have hw : v j = (rwW (gI h 107) i, nI 0) := by rw [hvj, rwV, pif_t ho, hi]
        rw [hl, pif_f (fun q => q ho), hcc, hw]
        rw [r167_75]
        simp (disch := omega) only [r167_77, r167_78, r167_81, r167_83, r167_84, r167_85, r167_86, r167_89, r167_90, r167_93, r167_95, r167_96, r167_99, r167_100, r167_101, r167_104, r167_106, r167_107, r167_108, r167_109, r167_112, r167_113, r167_114, r167_117, r167_119, r167_121, r167_123, r167_126, r167_128, r167_129, r167_131, r167_134, r167_136, r167_139, r167_140, r167_141, r167_142, r167_144, r167_147, r167_148, r167_151, r167_152, r167_155, r167_157, r167_159, r167_162, r167_163, r167_166, r167_167, r167_168, r167_170, r167_173, hww, c151, hc, e2, kdC, kdM, rpC, rpM, q_rs, q_rn, Option.toList_some, Option.toList_none, List.cons_append, List.nil_append, true_and, and_true, eq_self, ↓reduceIte, not_true_eq_false, not_false_eq_true, Nat.reduceEqDiff, Nat.reduceLeDiff, Nat.reduceLT, Nat.reduceAdd, Nat.reduceMul, Nat.reduceSub, false_or, or_false, true_or, or_true, false_and, and_false, reduceCtorEq, q_n0, q_n1, q_em, q_em2, q_b0, q_b1, Classical.not_not, nI_add, pk_mul, nI_clamp, q_vp, nI_eq, nI_leI, nI_ltI, q_sub, q_bT, show ¬ m ≤ i by omega, show ¬ m ≤ i + 1 by omega, show i < 400 by omega, show i + 1 < 400 by omega, Nat.add_zero]
      · have ih := ml167 hm hJ hN hn hK hw hv k (j + 1) (i + 2) (.int (rwW (gI h 107) i)) (.int (nI 0)) (by omega) (by omega)
        refine Eq.trans ?_ ih
        have ho : ¬ rwO (gI h 107) m j := fun q => e2 (by rw [hi]; exact q.2)
        have hw : v j = (nI 0, -1) := by rw [hvj, rwV, pif_f ho]
        rw [hl, pif_t ho, hcc, hw]
        rw [r167_75]
        simp (disch := omega) only [r167_77, r167_78, r167_81, r167_83, r167_84, r167_85, r167_86, r167_89, r167_90, r167_93, r167_95, r167_96, r167_99, r167_100, r167_101, r167_104, r167_106, r167_107, r167_108, r167_109, r167_112, r167_113, r167_114, r167_117, r167_119, r167_121, r167_123, r167_126, r167_128, r167_129, r167_131, r167_134, r167_136, r167_139, r167_140, r167_141, r167_142, r167_144, r167_147, r167_148, r167_151, r167_152, r167_155, r167_157, r167_159, r167_162, r167_163, r167_166, r167_167, r167_168, r167_170, r167_173, hww, c151, hc, e2, kdC, kdM, rpC, rpM, q_rs, q_rn, Option.toList_some, Option.toList_none, List.cons_append, List.nil_append, true_and, and_true, eq_self, ↓reduceIte, not_true_eq_false, not_false_eq_true, Nat.reduceEqDiff, Nat.reduceLeDiff, Nat.reduceLT, Nat.reduceAdd, Nat.reduceMul, Nat.reduceSub, false_or, or_false, true_or, or_true, false_and, and_false, reduceCtorEq, q_n0, q_n1, q_em, q_em2, q_b0, q_b1, Classical.not_not, nI_add, pk_mul, nI_clamp, q_vp, nI_eq, nI_leI, nI_ltI, q_sub, q_bF, show ¬ m ≤ i by omega, show ¬ m ≤ i + 1 by omega, show i < 400 by omega, show i + 1 < 400 by omega]
    · have ih := ml167 hm hJ hN hn hK hw hv k (j + 1) (i + 2) (.int (nI 121)) (.int (nI 0)) (by omega) (by omega)
      refine Eq.trans ?_ ih
      have ho : ¬ rwO (gI h 107) m j := fun q => e1 q.1
      have hw : v j = (nI 0, -1) := by rw [hvj, rwV, pif_f ho]
      rw [hl, pif_t ho, hcc, hw]
      rw [r167_75]
      simp (disch := omega) only [r167_77, r167_78, r167_81, r167_83, r167_84, r167_85, r167_86, r167_89, r167_90, r167_93, r167_95, r167_96, r167_99, r167_100, r167_101, r167_104, r167_106, r167_107, r167_108, r167_109, r167_112, r167_113, r167_114, r167_117, r167_119, r167_121, r167_123, r167_126, r167_128, r167_129, r167_131, r167_134, r167_136, r167_139, r167_140, r167_141, r167_142, r167_144, r167_147, r167_148, r167_151, r167_152, r167_155, r167_157, r167_159, r167_162, r167_163, r167_166, r167_167, r167_168, r167_170, r167_173, c151, hc, kdC, kdM, rpC, rpM, q_rs, q_rn, Option.toList_some, Option.toList_none, List.cons_append, List.nil_append, true_and, and_true, eq_self, ↓reduceIte, not_true_eq_false, not_false_eq_true, Nat.reduceEqDiff, Nat.reduceLeDiff, Nat.reduceLT, Nat.reduceAdd, Nat.reduceMul, Nat.reduceSub, false_or, or_false, true_or, or_true, false_and, and_false, reduceCtorEq, q_n0, q_n1, q_em, q_em2, q_b0, q_b1, Classical.not_not, nI_add, pk_mul, nI_clamp, q_vp, nI_eq, nI_leI, nI_ltI, q_sub, q_bF, show ¬ m ≤ i by omega, show m ≤ i + 1 by omega, Nat.reduceLeDiff]
theorem q_103 {x : Hp} {a i j : Nat} {v w : Int32} (ha : a ≠ 103) : sI (sI x a i v) 103 j w = sI (sI x 103 j w) a i v := q_sIc ha
theorem q_101 {x : Hp} {a i j : Nat} {v w : Int32} (ha : a ≠ 101) : sI (sI x a i v) 101 j w = sI (sI x 101 j w) a i v := q_sIc ha
theorem fl_ad (x : Hp) (n n' : Nat) (a b c s a' b' c' s' : Int32) : flh (adh x n a b c s) n' a' b' c' s' = adh (flh x n' a' b' c' s') n a b c s := by
  unfold flh adh
  simp (disch := omega) only [q_103]
theorem rMA_ad (n : Nat) (a s : Int32) : ∀ j, rMA v N b c (adh h n a b c s) j = adh (rMA v N b c h j) n a b c s
  | 0 => rfl
  | j + 1 => by
    show flh (rMA v N b c (adh h n a b c s) j) (N + j) (v j).1 b c (v j).2 = adh (flh (rMA v N b c h j) (N + j) (v j).1 b c (v j).2) n a b c s
    rw [rMA_ad n a s j, fl_ad]
theorem rMA_gr : ∀ j, rMA v N b c (grt h) j = grt (rMA v N b c h j)
  | 0 => rfl
  | j + 1 => by
    show flh (rMA v N b c (grt h) j) (N + j) (v j).1 b c (v j).2 = grt (flh (rMA v N b c h j) (N + j) (v j).1 b c (v j).2)
    rw [rMA_gr j, flh_grt]
theorem rCA_1 (w : Int32) : ∀ j, sI (rCA v N b c h j) 101 8 w = rCA v N b c (sI h 101 8 w) j
  | 0 => rfl
  | j + 1 => by
    show sI (adh (rCA v N b c h j) (N + j) (v j).1 b c (v j).2) 101 8 w = adh (rCA v N b c (sI h 101 8 w) j) (N + j) (v j).1 b c (v j).2
    rw [← rCA_1 w j]
    unfold adh
    simp (disch := omega) only [q_101]
theorem row_S (hb : rg b 0 9) (hc : rg c 1 6) (hv : ∀ j, rg (v j).1 (-40) 120 ∧ rg (v j).2 (-1) 9) {K : Nat → Int32} (hK : gI h 103 = K) (z : STS h 0 K) (hn : nf K = N) : ∀ j, N + j ≤ 24 → STS (rMA v N b c (rCA v N b c h j) j) 0 (rK v N b c K j) ∧ gI (rMA v N b c (rCA v N b c h j) j) 103 = rK v N b c K j ∧ Mu h (rMA v N b c (rCA v N b c h j) j)
  | 0, _ => ⟨z, hK, FrS.refl h⟩
  | j + 1, hj => by
    obtain ⟨z1, z2, z3⟩ := row_S hb hc hv hK z hn j (by omega)
    have e : rMA v N b c (rCA v N b c h (j + 1)) (j + 1) = flh (adh (rMA v N b c (rCA v N b c h j) j) (N + j) (v j).1 b c (v j).2) (N + j) (v j).1 b c (v j).2 := by
      show flh (rMA v N b c (adh (rCA v N b c h j) (N + j) (v j).1 b c (v j).2) j) (N + j) (v j).1 b c (v j).2 = _
      rw [rMA_ad]
    have hnj := rK_n v N b c hn j (by omega)
    have hs := fly_S (rMA v N b c (rCA v N b c h j) j) z1 z2 (by omega) (hv j).1 hb hc (hv j).2
    rw [hnj] at hs
    rw [e]
    refine ⟨hs, ?_, ?_⟩
    · rw [flh_K _ (show gI (adh (rMA v N b c (rCA v N b c h j) j) (N + j) (v j).1 b c (v j).2) 103 = rK v N b c K j by rw [adh_gn _ (by omega)]; exact z2)]
      rfl
    · refine z3.trans ?_
      unfold flh adh
      iterate 20 refine FrS.sI ?_ _ rfl
      exact FrS.refl _
end RO
section RP
variable {n : Nat} {h h' : Hp}
theorem ALS_mu (x : Mu h h') (i8 : ALS n h) : ALS n h' := by
  rcases i8 with ⟨h1, h2, h3⟩ | ⟨a, h1, h2, h3, h4, h5, h6, h7⟩
  · exact Or.inl ⟨(x.p rfl).trans h1, by rw [x.1.1]; exact h2, by rw [x.1.2.1]; exact h3⟩
  · refine Or.inr ⟨a, (x.p rfl).trans h1, h2, by rw [x.1.1]; exact h3, by rw [x.1.2.2]; exact h4, ?_, by rw [x.1.1]; exact h6, by rw [x.1.2.1]; exact h7⟩
    intro b hb1 hb2 hb3
    rw [x.1.1] at hb2
    rw [x.1.2.2] at hb3
    rw [x.p (mus_big hb1), x.p (mus_big hb1)]
    exact h5 b hb1 hb2 hb3
/-- the tape taken -/
def tp0 (h : Hp) : Hp := sI (sI h 76 1 (nI 0)) 101 8 (nI 0)
theorem tp0_x (h : Hp) : Mu h (tp0 h) := ((FrS.refl h).sI _ rfl).sI _ rfl
theorem tp0_n (h : Hp) {b : Nat} (h1 : b ≠ 76) (h2 : b ≠ 101) : gI (tp0 h) b = gI h b := by unfold tp0; rw [q_gn h2, q_gn h1]
theorem tp0_I (z : Inv n h) : Inv n (tp0 h) := by
  have t := z.2.2.1
  have hI : Inv (n + 1) (tp0 h) := by
    refine Inv_tp z (tp0_x h) (fun b h1 h2 h3 h4 h5 => tp0_n h h1 h5) ?_ ?_ ?_ ⟨fun i hi => ?_, ?_, ?_⟩
    · unfold tp0; rw [q_gm (by omega), q_gn (by omega)]
    · unfold tp0; rw [q_gm (by omega), q_gn (by omega)]
    · unfold tp0; rw [q_gPI, q_gPI]
    · rw [tp0_n h (by omega) (by omega), tp0_n h (by omega) (by omega)]; exact t.1 i hi
    · unfold tp0; rw [q_gs, q_gn (by omega), q_gs]
    · unfold tp0; rw [q_gn (by omega), q_gs]; exact ⟨by decide, by decide⟩
  obtain ⟨i1, i2, i3, i4, i5, i6, i7, i8, i9⟩ := hI
  exact ⟨i1, i2, i3, i4, i5, i6, i7, ALS_mu (tp0_x h) z.2.2.2.2.2.2.2.1, i9⟩
theorem tp0_rf (h : Hp) (k : Int32) {i : Nat} : sI (rfc (sI h 76 1 (nI 0)) k i) 101 8 (nI 0) = rfc (tp0 h) k i := by
  unfold rfc tp0
  simp (disch := omega) only [q_101, q_gn]
theorem p_row (z : Inv n h) (b c : Int32) : PRI n h 93 167 [.int b, .int c] := by
  intro d
  have w := z.1.1
  have q := z.1.2.1
  have hn := w.hnf
  have t := z.2.2.1
  obtain ⟨m, hm, e1, e2⟩ := t.len
  have q34 : gI h 3 4 = nI (nf (gI h 103)) := by rw [q.hnf]; exact hn.1
  by_cases hB : nI 0 ≤ b ∧ b ≤ nI 9
  · by_cases hC : nI 1 ≤ c ∧ c ≤ nI 6
    · have q34' : gI (sI h 76 1 (nI 0)) 3 4 = nI (nf (gI h 103)) := by rw [q_gn (by omega)]; exact q34
      by_cases hR : nf (gI h 103) + (m + 1) / 2 ≤ 24
      · by_cases h0 : m = 0
        · have hK : gI (rfc (tp0 h) (-6) 4) 103 = gI h 103 := by rw [q_rfK, tp0_n h (by omega) (by omega)]
          have e3 : gI (rfc (sI h 76 1 (nI 0)) (-6) 4) 101 8 = nI m := by unfold rfc; rw [q_gn (by omega), q_gn (by omega), q_gn (by omega)]; exact e2
          refine ⟨-6, rfc (sI h 76 1 (nI 0)) (-6) 4, rfm (rfc (tp0 h) (-6) 4) (-6) 6, fun F => ?_, fun F => ?_, Inv_rf (tp0_I z) (by omega)⟩
          · simp (disch := omega) only [e93, r93_0, r93_1, r93_2, r93_5, r93_8, r93_9, r93_10, r93_13, r93_14, r93_15, r93_18, r93_21, r93_22, r93_23, r93_26, r93_27, r93_30, r93_31, r93_34, r93_37, r93_40, r93_41, r93_42, r93_43, r93_44, r93_45, r93_46, r93_48, r93_51, r93_52, r93_54, r93_57, r93_58, r93_59, r93_62, r93_63, r93_65, r93_68, r93_69, r93_70, r93_72, r93_73, r93_77, r93_78, r93_81, r93_83, r93_84, r93_85, r93_86, r93_89, r93_90, r93_93, r93_95, r93_98, r93_101, r93_104, r93_106, r93_108, r93_111, r93_114, r93_115, r93_118, r93_121, r93_123, r93_124, r93_125, r93_126, r93_129, r93_130, r93_133, r93_134, r93_137, r93_140, r93_141, r93_142, r93_143, r93_144, r93_147, r93_148, r93_151, r93_154, r93_157, r93_158, r93_160, r93_163, c130, c133_6, hB, hC, e1, q34', kdC, kdM, rpC, rpM, q_rs, q_rn, Option.toList_some, Option.toList_none, List.cons_append, List.nil_append, true_and, and_true, eq_self, ↓reduceIte, not_true_eq_false, not_false_eq_true, Nat.reduceEqDiff, Nat.reduceLeDiff, Nat.reduceLT, Nat.reduceAdd, Nat.reduceMul, Nat.reduceSub, false_or, or_false, true_or, or_true, false_and, and_false, reduceCtorEq, q_n0, q_n1, q_em, q_em2, q_b0, q_b1, Classical.not_not, nI_add, pk_mul, nI_clamp, q_vp, nI_eq, nI_leI, nI_ltI, q_sub, pk_div, hR, eq_true h0]
          · simp (disch := omega) only [e167, r167_0, r167_1, r167_2, r167_4, r167_7, r167_10, r167_11, r167_12, r167_14, r167_17, r167_20, r167_21, r167_22, r167_25, r167_26, r167_27, r167_30, r167_31, r167_32, r167_33, r167_36, r167_37, r167_40, r167_41, r167_42, r167_43, r167_44, r167_45, r167_46, r167_48, r167_51, r167_52, r167_54, r167_57, r167_58, r167_59, r167_62, r167_63, r167_65, r167_68, r167_69, r167_70, r167_72, r167_73, r167_77, r167_78, r167_81, r167_83, r167_84, r167_85, r167_86, r167_89, r167_90, r167_93, r167_95, r167_96, r167_99, r167_100, r167_101, r167_104, r167_106, r167_107, r167_108, r167_109, r167_112, r167_113, r167_114, r167_117, r167_119, r167_121, r167_123, r167_126, r167_128, r167_129, r167_131, r167_134, r167_136, r167_139, r167_140, r167_141, r167_142, r167_144, r167_147, r167_148, r167_151, r167_152, r167_155, r167_157, r167_159, r167_162, r167_163, r167_166, r167_167, r167_168, r167_170, r167_173, r167_176, r167_177, r167_179, r167_182, c143, c153 _ _ _ hK w, m144_6, hB, hC, e3, kdC, kdM, rpC, rpM, q_rs, q_rn, Option.toList_some, Option.toList_none, List.cons_append, List.nil_append, true_and, and_true, eq_self, ↓reduceIte, not_true_eq_false, not_false_eq_true, Nat.reduceEqDiff, Nat.reduceLeDiff, Nat.reduceLT, Nat.reduceAdd, Nat.reduceMul, Nat.reduceSub, false_or, or_false, true_or, or_true, false_and, and_false, reduceCtorEq, q_n0, q_n1, q_em, q_em2, q_b0, q_b1, Classical.not_not, nI_add, pk_mul, nI_clamp, q_vp, nI_eq, nI_leI, nI_ltI, q_sub, pk_div, hR, eq_true h0, tp0_rf]
        · have hv := rwV_rg (gI h 77) m
          have hcl := fun (F : Po) (d : Nat) => cl93 d (sI h 76 1 (nI 0)) F (rwV (gI h 77) m) (nf (gI h 103)) b c hm rfl hR q34' (by rw [q_gn (by omega)]) ((m + 1) / 2) 0 0 jn (by omega) rfl
          have hlL : rwL (gI (sI h 76 1 (nI 0)) 77) m = rwL (gI h 77) m := by rw [q_gn (by omega)]
          have hl0 : rwL (gI h 77) m 0 = 0 := rfl
          rw [hlL, hl0] at hcl
          have hS := row_S (tp0 h) (rwV (gI h 77) m) (nf (gI h 103)) b c (rg_of hB (by decide) (by decide)) (rg_of hC (by decide) (by decide)) hv (K := gI h 103) (tp0_n h (by omega) (by omega)) (by have := (tp0_I z).1; rw [tp0_n h (by omega) (by omega)] at this; exact this) rfl
          have hX : sI (grt (rCA (rwV (gI h 77) m) (nf (gI h 103)) b c (sI h 76 1 (nI 0)) ((m + 1) / 2))) 101 8 (nI 0) = grt (rCA (rwV (gI h 77) m) (nf (gI h 103)) b c (tp0 h) ((m + 1) / 2)) := by
            rw [q_grc (by omega), rCA_1]
            rfl
          have h107 : gI (grt (rCA (rwV (gI h 77) m) (nf (gI h 103)) b c (tp0 h) ((m + 1) / 2))) 107 = gI h 107 := by
            unfold grt
            rw [q_gIP, q_gIP, q_gn (by omega), rCA_n _ _ _ _ _ (by omega), tp0_n h (by omega) (by omega)]
          have hK : gI (grt (rCA (rwV (gI h 77) m) (nf (gI h 103)) b c (tp0 h) ((m + 1) / 2))) 103 = gI h 103 := by
            rw [grt_K, rCA_n _ _ _ _ _ (by omega), tp0_n h (by omega) (by omega)]
          have he : ∀ i, i < 400 → gI h 77 i = gI h 107 i := fun i hi => (t.1 i hi).1
          have hml := fun (F : Po) (d : Nat) => ml167 d (grt (rCA (rwV (gI h 77) m) (nf (gI h 103)) b c (tp0 h) ((m + 1) / 2))) F (rwV (gI h 77) m) (nf (gI h 103)) b c hm rfl hR rfl hK (fun j hj => (hS j (by omega)).1.1) (by rw [h107]; exact funext fun j => rwV_cg hm he j) ((m + 1) / 2) 0 0 jn jn (by omega) rfl
          have hl0' : rwL (gI h 107) m 0 = 0 := rfl
          rw [h107, hl0', ← rwL_cg hm he, rMA_gr _ _ _ _ _ ((m + 1) / 2)] at hml
          have hSJ := hS ((m + 1) / 2) hR
          have e3 : gI (grt (rCA (rwV (gI h 77) m) (nf (gI h 103)) b c (sI h 76 1 (nI 0)) ((m + 1) / 2))) 101 8 = nI m := by
            unfold grt
            rw [q_gIP, q_gIP, q_gn (by omega), rCA_n _ _ _ _ _ (by omega), q_gn (by omega)]; exact e2
          refine ⟨nI (rwL (gI h 77) m ((m + 1) / 2)), grt (rCA (rwV (gI h 77) m) (nf (gI h 103)) b c (sI h 76 1 (nI 0)) ((m + 1) / 2)), sI (grt (rMA (rwV (gI h 77) m) (nf (gI h 103)) b c (rCA (rwV (gI h 77) m) (nf (gI h 103)) b c (tp0 h) ((m + 1) / 2)) ((m + 1) / 2))) 101 0 (nI 0), fun F => ?_, fun F => ?_, ?_⟩
          · simp (disch := omega) only [e93, r93_0, r93_1, r93_2, r93_5, r93_8, r93_9, r93_10, r93_13, r93_14, r93_15, r93_18, r93_21, r93_22, r93_23, r93_26, r93_27, r93_30, r93_31, r93_34, r93_37, r93_40, r93_41, r93_42, r93_43, r93_44, r93_45, r93_46, r93_48, r93_51, r93_52, r93_54, r93_57, r93_58, r93_59, r93_62, r93_63, r93_65, r93_68, r93_69, r93_70, r93_72, r93_73, r93_77, r93_78, r93_81, r93_83, r93_84, r93_85, r93_86, r93_89, r93_90, r93_93, r93_95, r93_98, r93_101, r93_104, r93_106, r93_108, r93_111, r93_114, r93_115, r93_118, r93_121, r93_123, r93_124, r93_125, r93_126, r93_129, r93_130, r93_133, r93_134, r93_137, r93_140, r93_141, r93_142, r93_143, r93_144, r93_147, r93_148, r93_151, r93_154, r93_157, r93_158, r93_160, r93_163, c130, hB, hC, e1, q34', kdC, kdM, rpC, rpM, q_rs, q_rn, Option.toList_some, Option.toList_none, List.cons_append, List.nil_append, true_and, and_true, eq_self, ↓reduceIte, not_true_eq_false, not_false_eq_true, Nat.reduceEqDiff, Nat.reduceLeDiff, Nat.reduceLT, Nat.reduceAdd, Nat.reduceMul, Nat.reduceSub, false_or, or_false, true_or, or_true, false_and, and_false, reduceCtorEq, q_n0, q_n1, q_em, q_em2, q_b0, q_b1, Classical.not_not, nI_add, pk_mul, nI_clamp, q_vp, nI_eq, nI_leI, nI_ltI, q_sub, pk_div, hR, h0]
            exact hcl F (d + 898)
          · simp (disch := omega) only [e167, r167_0, r167_1, r167_2, r167_4, r167_7, r167_10, r167_11, r167_12, r167_14, r167_17, r167_20, r167_21, r167_22, r167_25, r167_26, r167_27, r167_30, r167_31, r167_32, r167_33, r167_36, r167_37, r167_40, r167_41, r167_42, r167_43, r167_44, r167_45, r167_46, r167_48, r167_51, r167_52, r167_54, r167_57, r167_58, r167_59, r167_62, r167_63, r167_65, r167_68, r167_69, r167_70, r167_72, r167_73, r167_77, r167_78, r167_81, r167_83, r167_84, r167_85, r167_86, r167_89, r167_90, r167_93, r167_95, r167_96, r167_99, r167_100, r167_101, r167_104, r167_106, r167_107, r167_108, r167_109, r167_112, r167_113, r167_114, r167_117, r167_119, r167_121, r167_123, r167_126, r167_128, r167_129, r167_131, r167_134, r167_136, r167_139, r167_140, r167_141, r167_142, r167_144, r167_147, r167_148, r167_151, r167_152, r167_155, r167_157, r167_159, r167_162, r167_163, r167_166, r167_167, r167_168, r167_170, r167_173, r167_176, r167_177, r167_179, r167_182, c143, hX, c153 _ _ _ hK w, hB, hC, e3, kdC, kdM, rpC, rpM, q_rs, q_rn, Option.toList_some, Option.toList_none, List.cons_append, List.nil_append, true_and, and_true, eq_self, ↓reduceIte, not_true_eq_false, not_false_eq_true, Nat.reduceEqDiff, Nat.reduceLeDiff, Nat.reduceLT, Nat.reduceAdd, Nat.reduceMul, Nat.reduceSub, false_or, or_false, true_or, or_true, false_and, and_false, reduceCtorEq, q_n0, q_n1, q_em, q_em2, q_b0, q_b1, Classical.not_not, nI_add, pk_mul, nI_clamp, q_vp, nI_eq, nI_leI, nI_ltI, q_sub, pk_div, hR, h0]
            exact hml F (d + 898)
          · have hgn : ∀ y, y ≠ 103 → y < 3 ∨ 7 < y → gI (rMA (rwV (gI h 77) m) (nf (gI h 103)) b c (rCA (rwV (gI h 77) m) (nf (gI h 103)) b c (tp0 h) ((m + 1) / 2)) ((m + 1) / 2)) y = gI (tp0 h) y := by
              intro y h1 h2
              rw [rMA_n _ _ _ _ _ h1, rCA_n _ _ _ _ _ h2]
            refine Inv_gr z ((tp0_x h).trans hSJ.2.2) ?_ ?_ ?_ ?_
            · rw [hSJ.2.1]; exact hSJ.1
            · unfold TPS
              rw [hgn 77 (by omega) (by omega), hgn 107 (by omega) (by omega), hgn 76 (by omega) (by omega), hgn 101 (by omega) (by omega)]
              exact (tp0_I z).2.2.1
            · unfold RFS
              rw [hgn 100 (by omega) (by omega), hgn 102 (by omega) (by omega)]
              exact (tp0_I z).2.2.2.1
            · rw [hgn 1 (by omega) (by omega), hgn 101 (by omega) (by omega)]
              exact (tp0_I z).2.2.2.2.1.2
      · have hK : gI (rfc (tp0 h) (-5) 3) 103 = gI h 103 := by rw [q_rfK, tp0_n h (by omega) (by omega)]
        have e3 : gI (rfc (sI h 76 1 (nI 0)) (-5) 3) 101 8 = nI m := by unfold rfc; rw [q_gn (by omega), q_gn (by omega), q_gn (by omega)]; exact e2
        refine ⟨-5, rfc (sI h 76 1 (nI 0)) (-5) 3, rfm (rfc (tp0 h) (-5) 3) (-5) 5, fun F => ?_, fun F => ?_, Inv_rf (tp0_I z) (by omega)⟩
        · simp (disch := omega) only [e93, r93_0, r93_1, r93_2, r93_5, r93_8, r93_9, r93_10, r93_13, r93_14, r93_15, r93_18, r93_21, r93_22, r93_23, r93_26, r93_27, r93_30, r93_31, r93_34, r93_37, r93_40, r93_41, r93_42, r93_43, r93_44, r93_45, r93_46, r93_48, r93_51, r93_52, r93_54, r93_57, r93_58, r93_59, r93_62, r93_63, r93_65, r93_68, r93_69, r93_70, r93_72, r93_73, r93_77, r93_78, r93_81, r93_83, r93_84, r93_85, r93_86, r93_89, r93_90, r93_93, r93_95, r93_98, r93_101, r93_104, r93_106, r93_108, r93_111, r93_114, r93_115, r93_118, r93_121, r93_123, r93_124, r93_125, r93_126, r93_129, r93_130, r93_133, r93_134, r93_137, r93_140, r93_141, r93_142, r93_143, r93_144, r93_147, r93_148, r93_151, r93_154, r93_157, r93_158, r93_160, r93_163, c130, c133_5, hB, hC, e1, q34', kdC, kdM, rpC, rpM, q_rs, q_rn, Option.toList_some, Option.toList_none, List.cons_append, List.nil_append, true_and, and_true, eq_self, ↓reduceIte, not_true_eq_false, not_false_eq_true, Nat.reduceEqDiff, Nat.reduceLeDiff, Nat.reduceLT, Nat.reduceAdd, Nat.reduceMul, Nat.reduceSub, false_or, or_false, true_or, or_true, false_and, and_false, reduceCtorEq, q_n0, q_n1, q_em, q_em2, q_b0, q_b1, Classical.not_not, nI_add, pk_mul, nI_clamp, q_vp, nI_eq, nI_leI, nI_ltI, q_sub, pk_div, hR]
        · simp (disch := omega) only [e167, r167_0, r167_1, r167_2, r167_4, r167_7, r167_10, r167_11, r167_12, r167_14, r167_17, r167_20, r167_21, r167_22, r167_25, r167_26, r167_27, r167_30, r167_31, r167_32, r167_33, r167_36, r167_37, r167_40, r167_41, r167_42, r167_43, r167_44, r167_45, r167_46, r167_48, r167_51, r167_52, r167_54, r167_57, r167_58, r167_59, r167_62, r167_63, r167_65, r167_68, r167_69, r167_70, r167_72, r167_73, r167_77, r167_78, r167_81, r167_83, r167_84, r167_85, r167_86, r167_89, r167_90, r167_93, r167_95, r167_96, r167_99, r167_100, r167_101, r167_104, r167_106, r167_107, r167_108, r167_109, r167_112, r167_113, r167_114, r167_117, r167_119, r167_121, r167_123, r167_126, r167_128, r167_129, r167_131, r167_134, r167_136, r167_139, r167_140, r167_141, r167_142, r167_144, r167_147, r167_148, r167_151, r167_152, r167_155, r167_157, r167_159, r167_162, r167_163, r167_166, r167_167, r167_168, r167_170, r167_173, r167_176, r167_177, r167_179, r167_182, c143, c153 _ _ _ hK w, m144_5, hB, hC, e3, kdC, kdM, rpC, rpM, q_rs, q_rn, Option.toList_some, Option.toList_none, List.cons_append, List.nil_append, true_and, and_true, eq_self, ↓reduceIte, not_true_eq_false, not_false_eq_true, Nat.reduceEqDiff, Nat.reduceLeDiff, Nat.reduceLT, Nat.reduceAdd, Nat.reduceMul, Nat.reduceSub, false_or, or_false, true_or, or_true, false_and, and_false, reduceCtorEq, q_n0, q_n1, q_em, q_em2, q_b0, q_b1, Classical.not_not, nI_add, pk_mul, nI_clamp, q_vp, nI_eq, nI_leI, nI_ltI, q_sub, pk_div, hR, tp0_rf]
    · refine ⟨-1, rfc h (-1) 0, rfm (rfc h (-1) 0) (-1) 1, fun F => ?_, fun F => ?_, Inv_rf z (by omega)⟩
      · simp (disch := omega) only [e93, r93_0, r93_1, r93_2, r93_5, r93_8, r93_9, r93_10, r93_13, r93_14, r93_15, r93_18, r93_21, r93_22, r93_23, r93_26, r93_27, r93_30, r93_31, r93_34, r93_37, r93_40, r93_41, r93_42, r93_43, r93_44, r93_45, r93_46, r93_48, r93_51, r93_52, r93_54, r93_57, r93_58, r93_59, r93_62, r93_63, r93_65, r93_68, r93_69, r93_70, r93_72, r93_73, r93_77, r93_78, r93_81, r93_83, r93_84, r93_85, r93_86, r93_89, r93_90, r93_93, r93_95, r93_98, r93_101, r93_104, r93_106, r93_108, r93_111, r93_114, r93_115, r93_118, r93_121, r93_123, r93_124, r93_125, r93_126, r93_129, r93_130, r93_133, r93_134, r93_137, r93_140, r93_141, r93_142, r93_143, r93_144, r93_147, r93_148, r93_151, r93_154, r93_157, r93_158, r93_160, r93_163, c130, c133_1, hB, hC, kdC, kdM, rpC, rpM, q_rs, q_rn, Option.toList_some, Option.toList_none, List.cons_append, List.nil_append, true_and, and_true, eq_self, ↓reduceIte, not_true_eq_false, not_false_eq_true, Nat.reduceEqDiff, Nat.reduceLeDiff, Nat.reduceLT, Nat.reduceAdd, Nat.reduceMul, Nat.reduceSub, false_or, or_false, true_or, or_true, false_and, and_false, reduceCtorEq, q_n0, q_n1, q_em, q_em2, q_b0, q_b1, Classical.not_not, nI_add, pk_mul, nI_clamp, q_vp, nI_eq, nI_leI, nI_ltI, q_sub]
      · simp (disch := omega) only [e167, r167_0, r167_1, r167_2, r167_4, r167_7, r167_10, r167_11, r167_12, r167_14, r167_17, r167_20, r167_21, r167_22, r167_25, r167_26, r167_27, r167_30, r167_31, r167_32, r167_33, r167_36, r167_37, r167_40, r167_41, r167_42, r167_43, r167_44, r167_45, r167_46, r167_48, r167_51, r167_52, r167_54, r167_57, r167_58, r167_59, r167_62, r167_63, r167_65, r167_68, r167_69, r167_70, r167_72, r167_73, r167_77, r167_78, r167_81, r167_83, r167_84, r167_85, r167_86, r167_89, r167_90, r167_93, r167_95, r167_96, r167_99, r167_100, r167_101, r167_104, r167_106, r167_107, r167_108, r167_109, r167_112, r167_113, r167_114, r167_117, r167_119, r167_121, r167_123, r167_126, r167_128, r167_129, r167_131, r167_134, r167_136, r167_139, r167_140, r167_141, r167_142, r167_144, r167_147, r167_148, r167_151, r167_152, r167_155, r167_157, r167_159, r167_162, r167_163, r167_166, r167_167, r167_168, r167_170, r167_173, r167_176, r167_177, r167_179, r167_182, c143, m144_1, hB, hC, kdC, kdM, rpC, rpM, q_rs, q_rn, Option.toList_some, Option.toList_none, List.cons_append, List.nil_append, true_and, and_true, eq_self, ↓reduceIte, not_true_eq_false, not_false_eq_true, Nat.reduceEqDiff, Nat.reduceLeDiff, Nat.reduceLT, Nat.reduceAdd, Nat.reduceMul, Nat.reduceSub, false_or, or_false, true_or, or_true, false_and, and_false, reduceCtorEq, q_n0, q_n1, q_em, q_em2, q_b0, q_b1, Classical.not_not, nI_add, pk_mul, nI_clamp, q_vp, nI_eq, nI_leI, nI_ltI, q_sub]
  · refine ⟨-1, rfc h (-1) 0, rfm (rfc h (-1) 0) (-1) 1, fun F => ?_, fun F => ?_, Inv_rf z (by omega)⟩
    · simp (disch := omega) only [e93, r93_0, r93_1, r93_2, r93_5, r93_8, r93_9, r93_10, r93_13, r93_14, r93_15, r93_18, r93_21, r93_22, r93_23, r93_26, r93_27, r93_30, r93_31, r93_34, r93_37, r93_40, r93_41, r93_42, r93_43, r93_44, r93_45, r93_46, r93_48, r93_51, r93_52, r93_54, r93_57, r93_58, r93_59, r93_62, r93_63, r93_65, r93_68, r93_69, r93_70, r93_72, r93_73, r93_77, r93_78, r93_81, r93_83, r93_84, r93_85, r93_86, r93_89, r93_90, r93_93, r93_95, r93_98, r93_101, r93_104, r93_106, r93_108, r93_111, r93_114, r93_115, r93_118, r93_121, r93_123, r93_124, r93_125, r93_126, r93_129, r93_130, r93_133, r93_134, r93_137, r93_140, r93_141, r93_142, r93_143, r93_144, r93_147, r93_148, r93_151, r93_154, r93_157, r93_158, r93_160, r93_163, c130, c133_1, hB, kdC, kdM, rpC, rpM, q_rs, q_rn, Option.toList_some, Option.toList_none, List.cons_append, List.nil_append, true_and, and_true, eq_self, ↓reduceIte, not_true_eq_false, not_false_eq_true, Nat.reduceEqDiff, Nat.reduceLeDiff, Nat.reduceLT, Nat.reduceAdd, Nat.reduceMul, Nat.reduceSub, false_or, or_false, true_or, or_true, false_and, and_false, reduceCtorEq, q_n0, q_n1, q_em, q_em2, q_b0, q_b1, Classical.not_not, nI_add, pk_mul, nI_clamp, q_vp, nI_eq, nI_leI, nI_ltI, q_sub]
    · simp (disch := omega) only [e167, r167_0, r167_1, r167_2, r167_4, r167_7, r167_10, r167_11, r167_12, r167_14, r167_17, r167_20, r167_21, r167_22, r167_25, r167_26, r167_27, r167_30, r167_31, r167_32, r167_33, r167_36, r167_37, r167_40, r167_41, r167_42, r167_43, r167_44, r167_45, r167_46, r167_48, r167_51, r167_52, r167_54, r167_57, r167_58, r167_59, r167_62, r167_63, r167_65, r167_68, r167_69, r167_70, r167_72, r167_73, r167_77, r167_78, r167_81, r167_83, r167_84, r167_85, r167_86, r167_89, r167_90, r167_93, r167_95, r167_96, r167_99, r167_100, r167_101, r167_104, r167_106, r167_107, r167_108, r167_109, r167_112, r167_113, r167_114, r167_117, r167_119, r167_121, r167_123, r167_126, r167_128, r167_129, r167_131, r167_134, r167_136, r167_139, r167_140, r167_141, r167_142, r167_144, r167_147, r167_148, r167_151, r167_152, r167_155, r167_157, r167_159, r167_162, r167_163, r167_166, r167_167, r167_168, r167_170, r167_173, r167_176, r167_177, r167_179, r167_182, c143, m144_1, hB, kdC, kdM, rpC, rpM, q_rs, q_rn, Option.toList_some, Option.toList_none, List.cons_append, List.nil_append, true_and, and_true, eq_self, ↓reduceIte, not_true_eq_false, not_false_eq_true, Nat.reduceEqDiff, Nat.reduceLeDiff, Nat.reduceLT, Nat.reduceAdd, Nat.reduceMul, Nat.reduceSub, false_or, or_false, true_or, or_true, false_and, and_false, reduceCtorEq, q_n0, q_n1, q_em, q_em2, q_b0, q_b1, Classical.not_not, nI_add, pk_mul, nI_clamp, q_vp, nI_eq, nI_leI, nI_ltI, q_sub]
end RP
