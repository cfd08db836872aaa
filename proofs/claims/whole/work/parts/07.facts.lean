/-! facts of the tables that the walk uses -/
set_option maxRecDepth 100000 in
theorem MW_q : MW.all (fun q => QW.contains q.2.2) = true := by decide +kernel
set_option maxRecDepth 100000 in
theorem NW_q : NW.all (fun q => QW.contains q.2.2) = true := by decide +kernel
set_option maxRecDepth 100000 in
theorem QW_k : QW.all (fun M => (bif Nat.beq (kM M) 0 then SW.contains M else IW.contains M && (bif Nat.beq (kM M) 1 then EW.contains M else true)) && (ZW.contains (oM M) && (Nat.blt (oM M) 17 && (!(Nat.beq (oM M) 14) && (Nat.ble (lM M) 40 && Nat.blt M 266))))) = true := by decide +kernel
def inits : List Nat := (List.range 266).filter (fun M => Nat.beq (kM M) 2)
set_option maxRecDepth 100000 in
theorem yM_cls : (List.range 266).map (fun M => (yM M).cls) = (List.range 266).map (fun M => cS (oM M)) := rfl
set_option maxRecDepth 100000 in
theorem yM_init : inits.map (fun M => (yM M).name) = inits.map (fun _ => "<init>") := rfl
theorem cS_plain : ∀ k, k < 17 → k ≠ 14 → plainName (cS k) = true := by decide +kernel
theorem cS_mh : ∀ k, k < 17 → cS k ≠ "java/lang/invoke/MethodHandle" := by decide +kernel
theorem cS_vh : ∀ k, k < 17 → cS k ≠ "java/lang/invoke/VarHandle" := by decide +kernel
theorem mapR_at {α : Type} {n : Nat} {f g : Nat → α} (h : (List.range n).map f = (List.range n).map g) {k : Nat} (hk : k < n) : f k = g k := by
  have h1 := congrArg (fun l : List α => l[k]?) h
  simp only [List.getElem?_map, List.getElem?_range hk, Option.map_some] at h1
  exact Option.some.inj h1
theorem mapL_at {α β : Type} {l : List β} {f g : β → α} (h : l.map f = l.map g) {k : β} (hk : k ∈ l) : f k = g k := List.map_inj_left.mp h k hk
theorem yM_c {M : Nat} (h : M < 266) : (yM M).cls = cS (oM M) := mapR_at yM_cls h
def nF (c : Nat) : Nat := match c with
  | 0 => 5
  | 1 => 5
  | 2 => 5
  | 3 => 14
  | 4 => 2
  | 5 => 6
  | 6 => 12
  | 7 => 6
  | 8 => 14
  | 9 => 2
  | 10 => 3
  | 11 => 12
  | _ => 35
set_option maxRecDepth 100000 in
theorem LW_all : (List.range 13).all (fun c => (List.range (nF c)).all (fun k => LW.contains (c, k))) = true := by decide +kernel
theorem vcl_at : ∀ c, c < 13 → vcl[c]? = some (cS c, fT c, nF c) := by
  intro c hc
  rcases (show c = 0 ∨ c = 1 ∨ c = 2 ∨ c = 3 ∨ c = 4 ∨ c = 5 ∨ c = 6 ∨ c = 7 ∨ c = 8 ∨ c = 9 ∨ c = 10 ∨ c = 11 ∨ c = 12 by omega) with rfl | rfl | rfl | rfl | rfl | rfl | rfl | rfl | rfl | rfl | rfl | rfl | rfl <;> rfl
theorem fT_nm (c : Nat) (hc : c < 13) : ∀ a, a < nF c → ∀ b, b < nF c → a ≠ b → (fT c a).2.1 ≠ (fT c b).2.1 := by
  rcases (show c = 0 ∨ c = 1 ∨ c = 2 ∨ c = 3 ∨ c = 4 ∨ c = 5 ∨ c = 6 ∨ c = 7 ∨ c = 8 ∨ c = 9 ∨ c = 10 ∨ c = 11 ∨ c = 12 by omega) with rfl | rfl | rfl | rfl | rfl | rfl | rfl | rfl | rfl | rfl | rfl | rfl | rfl
  · exact nmX0
  · exact nmX1
  · exact nmX2
  · exact nmX3
  · exact nmX4
  · exact nmX5
  · exact nmX6
  · exact nmX7
  · exact nmX8
  · exact nmX9
  · exact nmX10
  · exact nmX11
  · exact nmX12
theorem fy_ok (c : Nat) (hc : c < 13) : ∀ k, k < nF c → parseFieldDescriptor (fT c k).2.2.1 = some (fy c k) := by
  rcases (show c = 0 ∨ c = 1 ∨ c = 2 ∨ c = 3 ∨ c = 4 ∨ c = 5 ∨ c = 6 ∨ c = 7 ∨ c = 8 ∨ c = 9 ∨ c = 10 ∨ c = 11 ∨ c = 12 by omega) with rfl | rfl | rfl | rfl | rfl | rfl | rfl | rfl | rfl | rfl | rfl | rfl | rfl
  · exact tyX0_ok
  · exact tyX1_ok
  · exact tyX2_ok
  · exact tyX3_ok
  · exact tyX4_ok
  · exact tyX5_ok
  · exact tyX6_ok
  · exact tyX7_ok
  · exact tyX8_ok
  · exact tyX9_ok
  · exact tyX10_ok
  · exact tyX11_ok
  · exact tyX12_ok
set_option maxRecDepth 100000 in
theorem yM_par0 : (List.range' 0 34).all (fun M => decide ((parseMethodDescriptor (yM M).desc).map (fun d => d.parameters.length) = some (aM M))) = true := by decide +kernel
set_option maxRecDepth 100000 in
theorem yM_par1 : (List.range' 34 34).all (fun M => decide ((parseMethodDescriptor (yM M).desc).map (fun d => d.parameters.length) = some (aM M))) = true := by decide +kernel
set_option maxRecDepth 100000 in
theorem yM_par2 : (List.range' 68 34).all (fun M => decide ((parseMethodDescriptor (yM M).desc).map (fun d => d.parameters.length) = some (aM M))) = true := by decide +kernel
set_option maxRecDepth 100000 in
theorem yM_par3 : (List.range' 102 34).all (fun M => decide ((parseMethodDescriptor (yM M).desc).map (fun d => d.parameters.length) = some (aM M))) = true := by decide +kernel
set_option maxRecDepth 100000 in
theorem yM_par4 : (List.range' 136 34).all (fun M => decide ((parseMethodDescriptor (yM M).desc).map (fun d => d.parameters.length) = some (aM M))) = true := by decide +kernel
set_option maxRecDepth 100000 in
theorem yM_par5 : (List.range' 170 34).all (fun M => decide ((parseMethodDescriptor (yM M).desc).map (fun d => d.parameters.length) = some (aM M))) = true := by decide +kernel
set_option maxRecDepth 100000 in
theorem yM_par6 : (List.range' 204 34).all (fun M => decide ((parseMethodDescriptor (yM M).desc).map (fun d => d.parameters.length) = some (aM M))) = true := by decide +kernel
set_option maxRecDepth 100000 in
theorem yM_par7 : (List.range' 238 28).all (fun M => decide ((parseMethodDescriptor (yM M).desc).map (fun d => d.parameters.length) = some (aM M))) = true := by decide +kernel
theorem yM_par {M : Nat} (h : M < 266) : (parseMethodDescriptor (yM M).desc).map (fun d => d.parameters.length) = some (aM M) := by
  by_cases q0 : M < 34
  · exact of_decide_eq_true (List.all_eq_true.mp yM_par0 M (List.mem_range'_1.mpr (by omega)))
  by_cases q1 : M < 68
  · exact of_decide_eq_true (List.all_eq_true.mp yM_par1 M (List.mem_range'_1.mpr (by omega)))
  by_cases q2 : M < 102
  · exact of_decide_eq_true (List.all_eq_true.mp yM_par2 M (List.mem_range'_1.mpr (by omega)))
  by_cases q3 : M < 136
  · exact of_decide_eq_true (List.all_eq_true.mp yM_par3 M (List.mem_range'_1.mpr (by omega)))
  by_cases q4 : M < 170
  · exact of_decide_eq_true (List.all_eq_true.mp yM_par4 M (List.mem_range'_1.mpr (by omega)))
  by_cases q5 : M < 204
  · exact of_decide_eq_true (List.all_eq_true.mp yM_par5 M (List.mem_range'_1.mpr (by omega)))
  by_cases q6 : M < 238
  · exact of_decide_eq_true (List.all_eq_true.mp yM_par6 M (List.mem_range'_1.mpr (by omega)))
  by_cases q7 : M < 266
  · exact of_decide_eq_true (List.all_eq_true.mp yM_par7 M (List.mem_range'_1.mpr (by omega)))
  omega
theorem cnt {l : List Nat} {k : Nat} (h : l.contains k = true) : k ∈ l := List.contains_iff_mem.mp h
theorem cnt2 {l : List (Nat × Nat)} {k : Nat × Nat} (h : l.contains k = true) : k ∈ l := List.contains_iff_mem.mp h
theorem cnt3 {l : List (Nat × Nat × Nat)} {k : Nat × Nat × Nat} (h : l.contains k = true) : k ∈ l := List.contains_iff_mem.mp h
theorem cnt4 {l : List (Nat × Nat × Nat × Nat)} {k : Nat × Nat × Nat × Nat} (h : l.contains k = true) : k ∈ l := List.contains_iff_mem.mp h
theorem cntK {l : List (Nat × Nat × Int)} {k : Nat × Nat × Int} (h : l.contains k = true) : k ∈ l := List.contains_iff_mem.mp h
/-- what is known of a method that may be called -/
theorem QW_all {M : Nat} (h : M ∈ QW) : M < 266 ∧ (oM M < 17 ∧ oM M ≠ 14) ∧ lM M ≤ 40 ∧ oM M ∈ ZW ∧ (kM M = 0 → M ∈ SW) ∧ (kM M ≠ 0 → M ∈ IW) ∧ (kM M = 1 → M ∈ EW) := by
  have h1 := List.all_eq_true.mp QW_k M h
  simp only [Bool.and_eq_true] at h1
  obtain ⟨h1, h2, h3, h3b, h4, h5⟩ := h1
  refine ⟨Nat.le_of_ble_eq_true h5, ⟨Nat.le_of_ble_eq_true h3, fun q => by rw [q] at h3b; cases h3b⟩, Nat.le_of_ble_eq_true h4, cnt h2, fun e => ?_, fun e => ?_, fun e => ?_⟩
  · rw [e] at h1; exact cnt h1
  · have : Nat.beq (kM M) 0 = false := by
      cases hb : Nat.beq (kM M) 0 with
      | false => rfl
      | true => exact absurd (Nat.eq_of_beq_eq_true hb) e
    rw [this] at h1
    simp only [cond_false, Bool.and_eq_true] at h1
    exact cnt h1.1
  · rw [e] at h1
    simp only [show Nat.beq 1 0 = false from rfl, show Nat.beq 1 1 = true from rfl, cond_false, cond_true, Bool.and_eq_true] at h1
    exact cnt h1.2
theorem yM_n {M : Nat} (h : M ∈ QW) (hk : kM M = 2) : (yM M).name = "<init>" := by
  have h1 := (QW_all h).1
  exact mapL_at yM_init (List.mem_filter.mpr ⟨List.mem_range.mpr h1, by rw [hk]; rfl⟩)
def gtb : List Cond := lw_tbl.filter goodWord
theorem gtb_in {w : Cond} (h : w ∈ lw_tbl) (hg : goodWord w = true) : w ∈ gtb := List.mem_filter.mpr ⟨h, hg⟩
abbrev wsM (M : Nat) : List Cond := .code (yM M) (bM M) (lM M) (rM M) :: gtb
theorem gtb_good {M : Nat} (h : M ∈ QW) : GoodIn gtb (wsM M) := by
  intro w hw
  rcases List.mem_cons.mp hw with rfl | hw
  · exact ⟨gtb_in (QW_in h) rfl, good_of_word rfl⟩
  · exact ⟨hw, good_of_word (List.mem_filter.mp hw).2⟩
theorem u_ws_in (c : Nat) (hc : c < 13) : ∀ w ∈ u_ws (cS c) (fT c) (nF c), w ∈ gtb := by
  intro w hw
  obtain ⟨k, hk, rfl⟩ := List.mem_map.mp hw
  have hk := List.mem_range.mp hk
  refine gtb_in (LW_in (q := (c, k)) (cnt2 ?_)) ?_
  · have h1 := List.all_eq_true.mp LW_all c (List.mem_range.mpr hc)
    exact List.all_eq_true.mp h1 k (List.mem_range.mpr hk)
  · unfold u_lay
    split <;> rfl
set_option maxRecDepth 100000 in
theorem FW_k : FW.all (fun q => Nat.blt q.2.2.1 13 && Nat.blt q.2.2.2 (nF q.2.2.1)) = true := by decide +kernel
theorem fT_own : ∀ c, c < 13 → ∀ k, k < nF c → (fT c k).1 = cS c := by
  intro c hc k hk
  rcases (show c = 0 ∨ c = 1 ∨ c = 2 ∨ c = 3 ∨ c = 4 ∨ c = 5 ∨ c = 6 ∨ c = 7 ∨ c = 8 ∨ c = 9 ∨ c = 10 ∨ c = 11 ∨ c = 12 by omega) with rfl | rfl | rfl | rfl | rfl | rfl | rfl | rfl | rfl | rfl | rfl | rfl | rfl
  · exact mapR_at (show (List.range 5).map (fun k => (fT 0 k).1) = (List.range 5).map (fun _ => cS 0) from rfl) hk
  · exact mapR_at (show (List.range 5).map (fun k => (fT 1 k).1) = (List.range 5).map (fun _ => cS 1) from rfl) hk
  · exact mapR_at (show (List.range 5).map (fun k => (fT 2 k).1) = (List.range 5).map (fun _ => cS 2) from rfl) hk
  · exact mapR_at (show (List.range 14).map (fun k => (fT 3 k).1) = (List.range 14).map (fun _ => cS 3) from rfl) hk
  · exact mapR_at (show (List.range 2).map (fun k => (fT 4 k).1) = (List.range 2).map (fun _ => cS 4) from rfl) hk
  · exact mapR_at (show (List.range 6).map (fun k => (fT 5 k).1) = (List.range 6).map (fun _ => cS 5) from rfl) hk
  · exact mapR_at (show (List.range 12).map (fun k => (fT 6 k).1) = (List.range 12).map (fun _ => cS 6) from rfl) hk
  · exact mapR_at (show (List.range 6).map (fun k => (fT 7 k).1) = (List.range 6).map (fun _ => cS 7) from rfl) hk
  · exact mapR_at (show (List.range 14).map (fun k => (fT 8 k).1) = (List.range 14).map (fun _ => cS 8) from rfl) hk
  · exact mapR_at (show (List.range 2).map (fun k => (fT 9 k).1) = (List.range 2).map (fun _ => cS 9) from rfl) hk
  · exact mapR_at (show (List.range 3).map (fun k => (fT 10 k).1) = (List.range 3).map (fun _ => cS 10) from rfl) hk
  · exact mapR_at (show (List.range 12).map (fun k => (fT 11 k).1) = (List.range 12).map (fun _ => cS 11) from rfl) hk
  · exact mapR_at (show (List.range 35).map (fun k => (fT 12 k).1) = (List.range 35).map (fun _ => cS 12) from rfl) hk
