/-! the constant text: its length, the sign at a place, as the machine's own classes answer them -/
abbrev jS : String := "java/lang/String"
abbrev jL : String := "java/lang/StringLatin1"
abbrev jP : String := "jdk/internal/util/Preconditions"
abbrev y_len : MethodName := ⟨jS, "length", "()I"⟩
abbrev y_cod : MethodName := ⟨jS, "coder", "()B"⟩
abbrev y_lat : MethodName := ⟨jS, "isLatin1", "()Z"⟩
abbrev y_cha : MethodName := ⟨jS, "charAt", "(I)C"⟩
abbrev y_lch : MethodName := ⟨jL, "charAt", "([BI)C"⟩
abbrev y_chk : MethodName := ⟨jS, "checkIndex", "(II)V"⟩
abbrev y_pck : MethodName := ⟨jP, "checkIndex", "(IILjava/util/function/BiFunction;)I"⟩
abbrev b_len : ByteArray := prog_18_method_54_code
abbrev b_cod : ByteArray := prog_18_method_152_code
abbrev b_lat : ByteArray := prog_18_method_154_code
abbrev b_cha : ByteArray := prog_18_method_56_code
abbrev b_lch : ByteArray := prog_19_method_2_code
abbrev b_chk : ByteArray := prog_18_method_155_code
abbrev b_pck : ByteArray := prog_23_method_11_code
abbrev wsJ (y : MethodName) (cc : ByteArray) (n : Nat) (rt : Option FieldType) : List Cond := .code y cc n rt :: gtb
def rmJ (k : Nat) : Room := { frames := k, cells := 0, slots := 0, locals := 60 * k }
/-- what the constant text needs: it stands, and two fields of the machine's own classes -/
def Es (n0 : Nat) (adK adV : Nat → Nat) (U : State) : Prop := vk_S 1 [103] [nmsL] adK adV (AA n0) U U.heap ∧ va_Z jS "COMPACT_STRINGS" "Z" (.int 1) (AA n0) U U.heap ∧ va_Zq jP "SIOOBE_FORMATTER" "Ljava/util/function/BiFunction;" (AA n0) U U.heap
theorem Es.go {n0 : Nat} {adK adV : Nat → Nat} {s : State} {H : Heap} {locs : List Loc} (hE : Es n0 adK adV s) (hS : va_S (AA n0) s.heap H locs) {U : State} (hU : U.heap = H) (hW : s.WarmedH U.vm) : Es n0 adK adV U := by
  obtain ⟨h8, h9, h10⟩ := hE
  refine ⟨?_, ?_, ?_⟩
  · rw [hU]; exact (h8.kept hS.2.1).moved hW.alike
  · rw [hU]; exact (h9.kept hS.2.1).moved hW.alike
  · rw [hU]; exact (h10.kept hS.2.1).moved hW.alike
abbrev Pj (n0 : Nat) (adK adV : Nat → Nat) (as : List Value) : Array Value → State → Prop := fun vv U => vv = as.toArray ∧ Es n0 adK adV U
theorem pj_blind {n0 : Nat} {adK adV : Nat → Nat} {as : List Value} : FrameBlind (Pj n0 adK adV as) := fun a U g mk q => ⟨q.1, q.2.go (H := U.heap) va_S.rf rfl (State.WarmedH.refl U)⟩
abbrev Qj (r : Option Value) : Array Value → State → Outcome → State → Prop := fun _ st oc t => oc = .returned r ∧ t.heap = st.heap
theorem jB {R : Room} {s : State} {args : Array Value} {own : String} {i : Nat} {y : MethodName} {cc : ByteArray} {maxL : Nat} {rt : Option FieldType} {k n : Nat} (hts : ∀ w ∈ gtb, w.before args s = true) (hc : Cond.code y cc maxL rt ∈ lw_tbl) (hi : Cond.initialized y.cls ∈ lw_tbl) (hl : Cond.methodLink own i y ∈ lw_tbl) (hd : y.cls ≠ "java/lang/invoke/MethodHandle" ∧ y.cls ≠ "java/lang/invoke/VarHandle" ∧ (parseMethodDescriptor y.desc).map (fun d => d.parameters.length) = some n) (hr : (rmJ k).frames + 1 ≤ R.frames ∧ 8 + (maxL + 11) + (rmJ k).locals ≤ R.locals) : CallB R s args own i y cc maxL rt (wsJ y cc maxL rt) (rmJ k) 0 0 n :=
  callB_of (ws' := gtb) (Ts := gtb) n hts (fun w hw => by
    rcases List.mem_cons.mp hw with rfl | hw
    · exact ⟨gtb_in hc rfl, good_of_word rfl⟩
    · exact ⟨hw, good_of_word (List.mem_filter.mp hw).2⟩) rfl rfl rfl (hts _ (gtb_in hi rfl)) (hts _ (gtb_in hl rfl)) hd hr
section JP
variable {p : Program} {l : Launch} {e : Env} {R : Room} {s : State} {m : MethodId} {args : Array Value} {below : List Frame} {meth : Method} {c : Code} {H : Heap} {locs : List Loc} {cells slots : Nat} {Q : State → Prop} {pc : Nat} {LS : Array Slot} {st0 rest : List Value}
/-- a call that leaves the heap as it was -/
theorem pj_call {r : Option Value} {aa : Array Value} (hr : va_Run p l e R s m args below meth c H locs cells slots 0 0 (F0 m pc LS st0) rest (Qj r aa) (fun _ => False)) (kk : W p l e R s m args below meth c H locs cells slots Q (F0 m (pc + 3) LS (r.toList ++ rest))) : W p l e R s m args below meth c H locs cells slots Q (F0 m pc LS st0) := by
  intro T hT X
  obtain ⟨v, st₀, t, T', Lc, h0, X', hL, e1, e2, ⟨hv, hh⟩, st⟩ := hr T hT X
  cases hv
  have hLc : Lc = [] := by
    cases Lc with
    | nil => rfl
    | cons q w => exact (hL q List.mem_cons_self).elim
  subst hLc
  rw [List.append_nil] at X'
  obtain ⟨t2, a1, b1⟩ := kk T' (by rw [e1, hh, h0]) X'
  exact ⟨t2, st t2 a1, b1⟩
end JP
set_option maxRecDepth 100000 in
theorem w_0 : Cond.fieldLink jS 38 "java/lang/String" "COMPACT_STRINGS" "Z" ∈ lw_tbl := by decide +kernel
set_option maxRecDepth 100000 in
theorem w_1 : Cond.fieldLink jS 15 "java/lang/String" "coder" "B" ∈ lw_tbl := by decide +kernel
set_option maxRecDepth 100000 in
theorem w_2 : Cond.fieldLink jS 9 "java/lang/String" "value" "[B" ∈ lw_tbl := by decide +kernel
set_option maxRecDepth 100000 in
theorem w_3 : Cond.fieldLink jS 1053 "jdk/internal/util/Preconditions" "SIOOBE_FORMATTER" "Ljava/util/function/BiFunction;" ∈ lw_tbl := by decide +kernel
set_option maxRecDepth 100000 in
theorem w_4 : Cond.methodLink jS 335 y_cod ∈ lw_tbl := by decide +kernel
set_option maxRecDepth 100000 in
theorem w_5 : Cond.instanceMethod y_cod ∈ lw_tbl := by decide +kernel
set_option maxRecDepth 100000 in
theorem w_6 : Cond.selects jS y_cod y_cod ∈ lw_tbl := by decide +kernel
set_option maxRecDepth 100000 in
theorem w_7 : Cond.initialized jS ∈ lw_tbl := by decide +kernel
set_option maxRecDepth 100000 in
theorem w_8 : Cond.code y_cod b_cod 1 (some .byte) ∈ lw_tbl := by decide +kernel
set_option maxRecDepth 100000 in
theorem w_9 : Cond.methodLink jS 492 y_lat ∈ lw_tbl := by decide +kernel
set_option maxRecDepth 100000 in
theorem w_10 : Cond.instanceMethod y_lat ∈ lw_tbl := by decide +kernel
set_option maxRecDepth 100000 in
theorem w_11 : Cond.selects jS y_lat y_lat ∈ lw_tbl := by decide +kernel
set_option maxRecDepth 100000 in
theorem w_12 : Cond.code y_lat b_lat 1 (some .boolean) ∈ lw_tbl := by decide +kernel
set_option maxRecDepth 100000 in
theorem w_13 : Cond.methodLink jS 495 y_lch ∈ lw_tbl := by decide +kernel
set_option maxRecDepth 100000 in
theorem w_14 : Cond.static y_lch ∈ lw_tbl := by decide +kernel
set_option maxRecDepth 100000 in
theorem w_15 : Cond.initialized jL ∈ lw_tbl := by decide +kernel
set_option maxRecDepth 100000 in
theorem w_16 : Cond.code y_lch b_lch 2 (some .char) ∈ lw_tbl := by decide +kernel
set_option maxRecDepth 100000 in
theorem w_17 : Cond.methodLink jL 9 y_chk ∈ lw_tbl := by decide +kernel
set_option maxRecDepth 100000 in
theorem w_18 : Cond.static y_chk ∈ lw_tbl := by decide +kernel
set_option maxRecDepth 100000 in
theorem w_19 : Cond.code y_chk b_chk 2 none ∈ lw_tbl := by decide +kernel
set_option maxRecDepth 100000 in
theorem w_20 : Cond.methodLink jS 1059 y_pck ∈ lw_tbl := by decide +kernel
set_option maxRecDepth 100000 in
theorem w_21 : Cond.static y_pck ∈ lw_tbl := by decide +kernel
set_option maxRecDepth 100000 in
theorem w_22 : Cond.initialized jP ∈ lw_tbl := by decide +kernel
set_option maxRecDepth 100000 in
theorem w_23 : Cond.code y_pck b_pck 3 (some .int) ∈ lw_tbl := by decide +kernel
set_option maxRecDepth 100000 in
theorem w_24 : Cond.methodLink "ColdRing$Reader" 91 y_len ∈ lw_tbl := by decide +kernel
set_option maxRecDepth 100000 in
theorem w_25 : Cond.instanceMethod y_len ∈ lw_tbl := by decide +kernel
set_option maxRecDepth 100000 in
theorem w_26 : Cond.selects jS y_len y_len ∈ lw_tbl := by decide +kernel
set_option maxRecDepth 100000 in
theorem w_27 : Cond.code y_len b_len 1 (some .int) ∈ lw_tbl := by decide +kernel
set_option maxRecDepth 100000 in
theorem w_28 : Cond.methodLink "ColdRing$Reader" 95 y_cha ∈ lw_tbl := by decide +kernel
set_option maxRecDepth 100000 in
theorem w_29 : Cond.instanceMethod y_cha ∈ lw_tbl := by decide +kernel
set_option maxRecDepth 100000 in
theorem w_30 : Cond.selects jS y_cha y_cha ∈ lw_tbl := by decide +kernel
set_option maxRecDepth 100000 in
theorem w_31 : Cond.code y_cha b_cha 2 (some .char) ∈ lw_tbl := by decide +kernel
set_option maxRecDepth 100000 in
theorem nms_c : ∀ i, i < 103 → ((nmsL.getD i 0 &&& 255).toUInt32 % 65536).toInt32 = nms i ∧ narrow .char (.int (nms i)) = .int (nms i) := by decide +kernel
section JM
variable (l : Launch) (n0 : Nat) (adK adV : Nat → Nat)
set_option maxRecDepth 100000 in
set_option maxHeartbeats 4000000 in
/-- coder() -/
theorem j_cod : Met l y_cod (wsJ y_cod b_cod 1 (some .byte)) (rmJ 0) (Pj n0 adK adV [.ref (adK 0)]) (Qj (some (.int 0))) 0 0 (fun _ => False) := by
  refine Met.ofW (cc := b_cod) (maxL := 1) (ret := some .byte) (by decide) rfl ?_
  intro p e s m args below meth c s₁ B hml hv
  obtain ⟨rfl, hE⟩ := hv
  have hx := B.exec
  have hb := B.bytes
  have hr := B.returns
  have hts0 := atoms_spec (ws := wsJ y_cod b_cod 1 (some .byte)) B.pre
  have hts : ∀ w ∈ gtb, w.before _ s = true := fun w hw => hts0 w (List.mem_cons_of_mem _ hw)
  have hown : s.vm.findClass jS = some m.cls := findClass_of_methodNamed B.named
  have hS : va_S (AA n0) s.heap s.heap [] := va_S.rf
  have hl := lv_entry ([.ref (adK 0)]) (n := 1) (Nat.le_of_ble_eq_true rfl)
  rw [lg_entry_eq]
  generalize (lg_sl ([.ref (adK 0)]) ++ List.replicate (1 - (lg_sl ([.ref (adK 0)])).length) Slot.unset).toArray = ls at hl ⊢
  have hl : lv_has ls 1 [(0, .ref (adK 0))] := hl
  refine va_gets hx hb hE.2.1 hS hown (hts _ (gtb_in w_0 rfl)) (fun _ h9 => h9) (by decide +kernel) ?_
  refine lv_if_eq (off := 10) (tgt := 13) hx hb (by decide +kernel) (by decide) (fun c0 => absurd c0 (by decide)) (fun _ => ?_)
  refine lv_aload_n (k := 0) hx hb (by decide +kernel) rfl (lv_at hl 0 rfl) ?_
  refine vk_getf hx hb (hE.1.1 0 (by decide)).2.1 hS hown (hts _ (gtb_in w_1 rfl)) (fun _ h9 => h9) (by decide +kernel) ?_
  refine lv_goto (off := 4) (tgt := 14) hx hb (by decide +kernel) (by decide) ?_
  exact W.zret hx hb hr (show narrow .byte (.int 0) = .int 0 by decide) (fun t ht hW => ⟨rfl, ht⟩) (fun q hq => by cases hq) (by decide +kernel)
set_option maxRecDepth 100000 in
set_option maxHeartbeats 4000000 in
/-- isLatin1() -/
theorem j_lat : Met l y_lat (wsJ y_lat b_lat 1 (some .boolean)) (rmJ 0) (Pj n0 adK adV [.ref (adK 0)]) (Qj (some (.int 1))) 0 0 (fun _ => False) := by
  refine Met.ofW (cc := b_lat) (maxL := 1) (ret := some .boolean) (by decide) rfl ?_
  intro p e s m args below meth c s₁ B hml hv
  obtain ⟨rfl, hE⟩ := hv
  have hx := B.exec
  have hb := B.bytes
  have hr := B.returns
  have hts0 := atoms_spec (ws := wsJ y_lat b_lat 1 (some .boolean)) B.pre
  have hts : ∀ w ∈ gtb, w.before _ s = true := fun w hw => hts0 w (List.mem_cons_of_mem _ hw)
  have hown : s.vm.findClass jS = some m.cls := findClass_of_methodNamed B.named
  have hS : va_S (AA n0) s.heap s.heap [] := va_S.rf
  have hl := lv_entry ([.ref (adK 0)]) (n := 1) (Nat.le_of_ble_eq_true rfl)
  rw [lg_entry_eq]
  generalize (lg_sl ([.ref (adK 0)]) ++ List.replicate (1 - (lg_sl ([.ref (adK 0)])).length) Slot.unset).toArray = ls at hl ⊢
  have hl : lv_has ls 1 [(0, .ref (adK 0))] := hl
  refine va_gets hx hb hE.2.1 hS hown (hts _ (gtb_in w_0 rfl)) (fun _ h9 => h9) (by decide +kernel) ?_
  refine lv_if_eq (off := 14) (tgt := 17) hx hb (by decide +kernel) (by decide) (fun c0 => absurd c0 (by decide)) (fun _ => ?_)
  refine lv_aload_n (k := 0) hx hb (by decide +kernel) rfl (lv_at hl 0 rfl) ?_
  refine vk_getf hx hb (hE.1.1 0 (by decide)).2.1 hS hown (hts _ (gtb_in w_1 rfl)) (fun _ h9 => h9) (by decide +kernel) ?_
  refine lv_if_ne (off := 7) (tgt := 17) hx hb (by decide +kernel) (by decide) (fun c0 => absurd rfl c0) (fun _ => ?_)
  refine lv_iconst (n := 1) (v := 1) hx hb (by decide +kernel) (by decide) ?_
  refine lv_goto (off := 4) (tgt := 18) hx hb (by decide +kernel) (by decide) ?_
  exact W.zret hx hb hr (show narrow .boolean (.int 1) = .int 1 by decide) (fun t ht hW => ⟨rfl, ht⟩) (fun q hq => by cases hq) (by decide +kernel)
set_option maxRecDepth 100000 in
set_option maxHeartbeats 4000000 in
/-- length() -/
theorem j_len : Met l y_len (wsJ y_len b_len 1 (some .int)) (rmJ 1) (Pj n0 adK adV [.ref (adK 0)]) (Qj (some (.int 103))) 0 0 (fun _ => False) := by
  refine Met.ofW (cc := b_len) (maxL := 1) (ret := some .int) (by decide) rfl ?_
  intro p e s m args below meth c s₁ B hml hv
  obtain ⟨rfl, hE⟩ := hv
  have hx := B.exec
  have hb := B.bytes
  have hr := B.returns
  have hts0 := atoms_spec (ws := wsJ y_len b_len 1 (some .int)) B.pre
  have hts : ∀ w ∈ gtb, w.before _ s = true := fun w hw => hts0 w (List.mem_cons_of_mem _ hw)
  have hown : s.vm.findClass jS = some m.cls := findClass_of_methodNamed B.named
  have hS : va_S (AA n0) s.heap s.heap [] := va_S.rf
  have hl := lv_entry ([.ref (adK 0)]) (n := 1) (Nat.le_of_ble_eq_true rfl)
  rw [lg_entry_eq]
  generalize (lg_sl ([.ref (adK 0)]) ++ List.replicate (1 - (lg_sl ([.ref (adK 0)])).length) Slot.unset).toArray = ls at hl ⊢
  have hl : lv_has ls 1 [(0, .ref (adK 0))] := hl
  have hT : va_T .byte (adV 0) 103 (fun j => .int (nmsL.getD j 0)) (AA n0) s s.heap := (hE.1.1 0 (by decide)).2.2.2
  refine lv_aload_n (k := 0) hx hb (by decide +kernel) rfl (lv_at hl 0 rfl) ?_
  refine vk_getf hx hb (hE.1.1 0 (by decide)).2.2.1 hS hown (hts _ (gtb_in w_2 rfl)) (fun _ h9 => h9) (by decide +kernel) ?_
  refine va_tlen (v := 103) hx hb hT hS (by decide) (by decide +kernel) ?_
  refine lv_aload_n (k := 0) hx hb (by decide +kernel) rfl (lv_at hl 0 rfl) ?_
  refine pj_call (va_runV (C := jS) (b := adK 0) (index := 335) (bytes := b_cod) (maxL := 1) (ret := some .byte) (n := 0) (As := []) (rest := [.int 103]) ⟨hx, hb, hml, hown, hts⟩ (j_cod l n0 adK adV) ⟨jB hts w_8 w_7 w_4 (by decide +kernel) ⟨Nat.le_of_ble_eq_true rfl, Nat.le_of_ble_eq_true rfl⟩, hts _ (gtb_in w_5 rfl), hts _ (gtb_in w_6 rfl)⟩ ⟨pj_blind, vk_recv hE.1 (by decide) hS, fun U hU hW => ⟨rfl, hE.go hS hU hW⟩⟩ rfl rfl hl.1 rfl (lv_room (Nat.le_of_ble_eq_true rfl)) (show decode b_len 6 = .ok (.invokevirtual 335, 3) by decide +kernel) ⟨Nat.zero_le _, Nat.zero_le _⟩) ?_
  refine lv_ishr hx hb (by decide +kernel) ?_
  exact W.zret hx hb hr (show narrow .int (.int 103) = .int 103 by decide) (fun t ht hW => ⟨rfl, ht⟩) (fun q hq => by cases hq) (by decide +kernel)
set_option maxRecDepth 100000 in
set_option maxHeartbeats 4000000 in
/-- Preconditions.checkIndex(i, n, f), within -/
theorem j_pck (i : Int32) (t : Nat) (hi : vp_in i 103) : Met l y_pck (wsJ y_pck b_pck 3 (some .int)) (rmJ 0) (Pj n0 adK adV [.int i, .int 103, (.ref t)]) (Qj (some (.int i))) 0 0 (fun _ => False) := by
  refine Met.ofW (cc := b_pck) (maxL := 3) (ret := some .int) (by decide) rfl ?_
  intro p e s m args below meth c s₁ B hml hv
  obtain ⟨rfl, hE⟩ := hv
  have hx := B.exec
  have hb := B.bytes
  have hr := B.returns
  have hl := lv_entry ([.int i, .int 103, (.ref t)]) (n := 3) (Nat.le_of_ble_eq_true rfl)
  rw [lg_entry_eq]
  generalize (lg_sl ([.int i, .int 103, (.ref t)]) ++ List.replicate (3 - (lg_sl ([.int i, .int 103, (.ref t)])).length) Slot.unset).toArray = ls at hl ⊢
  have hl : lv_has ls 3 [(0, .int i), (1, .int 103), (2, (.ref t))] := hl
  have h0 : ¬ i < 0 := fun q => hi (Or.inl q)
  have h1 : i < 103 := by
    obtain ⟨n, hn, rfl⟩ := nI_of h0
    have : n < 103 := Nat.lt_of_not_le (fun q => hi (Or.inr (by rw [nI_clamp hn]; exact q)))
    exact (nI_ltI hn (by decide)).mpr this
  refine lv_iload_n (k := 0) hx hb (by decide +kernel) rfl (lv_at hl 0 rfl) ?_
  refine lv_if_lt (off := 8) (tgt := 9) hx hb (by decide +kernel) (by decide) (fun c0 => absurd c0 h0) (fun _ => ?_)
  refine lv_iload_n (k := 0) hx hb (by decide +kernel) rfl (lv_at hl 0 rfl) ?_
  refine lv_iload_n (k := 1) hx hb (by decide +kernel) rfl (lv_at hl 1 rfl) ?_
  refine lv_icmp_lt (off := 10) (tgt := 16) hx hb (by decide +kernel) (by decide) (fun _ => ?_) (fun c0 => absurd h1 c0)
  refine lv_iload_n (k := 0) hx hb (by decide +kernel) rfl (lv_at hl 0 rfl) ?_
  exact W.zret hx hb hr (show narrow .int (.int i) = .int i from rfl) (fun t ht hW => ⟨rfl, ht⟩) (fun q hq => by cases hq) (by decide +kernel)
set_option maxRecDepth 100000 in
set_option maxHeartbeats 4000000 in
/-- Preconditions.checkIndex(i, n, f), within -/
theorem j_pckN (i : Int32) (t : Nat) (hi : vp_in i 103) : Met l y_pck (wsJ y_pck b_pck 3 (some .int)) (rmJ 0) (Pj n0 adK adV [.int i, .int 103, .null]) (Qj (some (.int i))) 0 0 (fun _ => False) := by
  refine Met.ofW (cc := b_pck) (maxL := 3) (ret := some .int) (by decide) rfl ?_
  intro p e s m args below meth c s₁ B hml hv
  obtain ⟨rfl, hE⟩ := hv
  have hx := B.exec
  have hb := B.bytes
  have hr := B.returns
  have hl := lv_entry ([.int i, .int 103, .null]) (n := 3) (Nat.le_of_ble_eq_true rfl)
  rw [lg_entry_eq]
  generalize (lg_sl ([.int i, .int 103, .null]) ++ List.replicate (3 - (lg_sl ([.int i, .int 103, .null])).length) Slot.unset).toArray = ls at hl ⊢
  have hl : lv_has ls 3 [(0, .int i), (1, .int 103), (2, .null)] := hl
  have h0 : ¬ i < 0 := fun q => hi (Or.inl q)
  have h1 : i < 103 := by
    obtain ⟨n, hn, rfl⟩ := nI_of h0
    have : n < 103 := Nat.lt_of_not_le (fun q => hi (Or.inr (by rw [nI_clamp hn]; exact q)))
    exact (nI_ltI hn (by decide)).mpr this
  refine lv_iload_n (k := 0) hx hb (by decide +kernel) rfl (lv_at hl 0 rfl) ?_
  refine lv_if_lt (off := 8) (tgt := 9) hx hb (by decide +kernel) (by decide) (fun c0 => absurd c0 h0) (fun _ => ?_)
  refine lv_iload_n (k := 0) hx hb (by decide +kernel) rfl (lv_at hl 0 rfl) ?_
  refine lv_iload_n (k := 1) hx hb (by decide +kernel) rfl (lv_at hl 1 rfl) ?_
  refine lv_icmp_lt (off := 10) (tgt := 16) hx hb (by decide +kernel) (by decide) (fun _ => ?_) (fun c0 => absurd h1 c0)
  refine lv_iload_n (k := 0) hx hb (by decide +kernel) rfl (lv_at hl 0 rfl) ?_
  exact W.zret hx hb hr (show narrow .int (.int i) = .int i from rfl) (fun t ht hW => ⟨rfl, ht⟩) (fun q hq => by cases hq) (by decide +kernel)
set_option maxRecDepth 100000 in
set_option maxHeartbeats 4000000 in
/-- String.checkIndex(i, n), within -/
theorem j_chk (i : Int32) (hi : vp_in i 103) : Met l y_chk (wsJ y_chk b_chk 2 none) (rmJ 1) (Pj n0 adK adV [.int i, .int 103]) (Qj none) 0 0 (fun _ => False) := by
  refine Met.ofW (cc := b_chk) (maxL := 2) (ret := none) (by decide) rfl ?_
  intro p e s m args below meth c s₁ B hml hv
  obtain ⟨rfl, hE⟩ := hv
  have hx := B.exec
  have hb := B.bytes
  have hr := B.returns
  have hts0 := atoms_spec (ws := wsJ y_chk b_chk 2 none) B.pre
  have hts : ∀ w ∈ gtb, w.before _ s = true := fun w hw => hts0 w (List.mem_cons_of_mem _ hw)
  have hown : s.vm.findClass jS = some m.cls := findClass_of_methodNamed B.named
  have hS : va_S (AA n0) s.heap s.heap [] := va_S.rf
  have hl := lv_entry ([.int i, .int 103]) (n := 2) (Nat.le_of_ble_eq_true rfl)
  rw [lg_entry_eq]
  generalize (lg_sl ([.int i, .int 103]) ++ List.replicate (2 - (lg_sl ([.int i, .int 103])).length) Slot.unset).toArray = ls at hl ⊢
  have hl : lv_has ls 2 [(0, .int i), (1, .int 103)] := hl
  refine lv_iload_n (k := 0) hx hb (by decide +kernel) rfl (lv_at hl 0 rfl) ?_
  refine lv_iload_n (k := 1) hx hb (by decide +kernel) rfl (lv_at hl 1 rfl) ?_
  rcases hE.2.2 with hZ | ⟨t, hZ⟩
  · refine va_gets hx hb hZ hS hown (hts _ (gtb_in w_3 rfl)) (fun _ h9 => h9) (by decide +kernel) ?_
    refine pj_call (va_runS (index := 1059) (bytes := b_pck) (maxL := 3) (ret := some .int) (n := 3) (As := [.int i, .int 103, .null]) (rest := []) ⟨hx, hb, hml, hown, hts⟩ (j_pckN l n0 adK adV i 0 hi) ⟨jB hts w_23 w_22 w_20 (by decide +kernel) ⟨Nat.le_of_ble_eq_true rfl, Nat.le_of_ble_eq_true rfl⟩, hts _ (gtb_in w_21 rfl)⟩ ⟨pj_blind, fun U hU hW => ⟨rfl, hE.go hS hU hW⟩⟩ rfl rfl hl.1 rfl (lv_room (Nat.le_of_ble_eq_true rfl)) (show decode b_chk 5 = .ok (.invokestatic 1059, 3) by decide +kernel) ⟨Nat.zero_le _, Nat.zero_le _⟩) ?_
    refine lv_pop hx hb (by decide +kernel) rfl ?_
    exact W.vret hx hb hr (fun t ht hW => ⟨rfl, ht⟩) (fun q hq => by cases hq) (by decide +kernel)
  · refine va_gets hx hb hZ hS hown (hts _ (gtb_in w_3 rfl)) (fun _ h9 => h9) (by decide +kernel) ?_
    refine pj_call (va_runS (index := 1059) (bytes := b_pck) (maxL := 3) (ret := some .int) (n := 3) (As := [.int i, .int 103, .ref t]) (rest := []) ⟨hx, hb, hml, hown, hts⟩ (j_pck l n0 adK adV i t hi) ⟨jB hts w_23 w_22 w_20 (by decide +kernel) ⟨Nat.le_of_ble_eq_true rfl, Nat.le_of_ble_eq_true rfl⟩, hts _ (gtb_in w_21 rfl)⟩ ⟨pj_blind, fun U hU hW => ⟨rfl, hE.go hS hU hW⟩⟩ rfl rfl hl.1 rfl (lv_room (Nat.le_of_ble_eq_true rfl)) (show decode b_chk 5 = .ok (.invokestatic 1059, 3) by decide +kernel) ⟨Nat.zero_le _, Nat.zero_le _⟩) ?_
    refine lv_pop hx hb (by decide +kernel) rfl ?_
    exact W.vret hx hb hr (fun t ht hW => ⟨rfl, ht⟩) (fun q hq => by cases hq) (by decide +kernel)
set_option maxRecDepth 100000 in
set_option maxHeartbeats 4000000 in
/-- StringLatin1.charAt(v, i), within -/
theorem j_lch (i : Int32) (hi : vp_in i 103) : Met l y_lch (wsJ y_lch b_lch 2 (some .char)) (rmJ 2) (Pj n0 adK adV [.ref (adV 0), .int i]) (Qj (some (.int (nms i.toNatClampNeg)))) 0 0 (fun _ => False) := by
  refine Met.ofW (cc := b_lch) (maxL := 2) (ret := some .char) (by decide) rfl ?_
  intro p e s m args below meth c s₁ B hml hv
  obtain ⟨rfl, hE⟩ := hv
  have hx := B.exec
  have hb := B.bytes
  have hr := B.returns
  have hts0 := atoms_spec (ws := wsJ y_lch b_lch 2 (some .char)) B.pre
  have hts : ∀ w ∈ gtb, w.before _ s = true := fun w hw => hts0 w (List.mem_cons_of_mem _ hw)
  have hown : s.vm.findClass jL = some m.cls := findClass_of_methodNamed B.named
  have hS : va_S (AA n0) s.heap s.heap [] := va_S.rf
  have hT : va_T .byte (adV 0) 103 (fun j => .int (nmsL.getD j 0)) (AA n0) s s.heap := (hE.1.1 0 (by decide)).2.2.2
  have hn : i.toNatClampNeg < 103 := Nat.lt_of_not_le (fun q => hi (Or.inr q))
  obtain ⟨n1, n2⟩ := nms_c _ hn
  have hl := lv_entry ([.ref (adV 0), .int i]) (n := 2) (Nat.le_of_ble_eq_true rfl)
  rw [lg_entry_eq]
  generalize (lg_sl ([.ref (adV 0), .int i]) ++ List.replicate (2 - (lg_sl ([.ref (adV 0), .int i])).length) Slot.unset).toArray = ls at hl ⊢
  have hl : lv_has ls 2 [(0, .ref (adV 0)), (1, .int i)] := hl
  refine lv_iload_n (k := 1) hx hb (by decide +kernel) rfl (lv_at hl 1 rfl) ?_
  refine lv_aload_n (k := 0) hx hb (by decide +kernel) rfl (lv_at hl 0 rfl) ?_
  refine va_tlen (v := 103) hx hb hT hS (by decide) (by decide +kernel) ?_
  refine pj_call (va_runS (index := 9) (bytes := b_chk) (maxL := 2) (ret := none) (n := 2) (As := [.int i, .int 103]) (rest := []) ⟨hx, hb, hml, hown, hts⟩ (j_chk l n0 adK adV i hi) ⟨jB hts w_19 w_7 w_17 (by decide +kernel) ⟨Nat.le_of_ble_eq_true rfl, Nat.le_of_ble_eq_true rfl⟩, hts _ (gtb_in w_18 rfl)⟩ ⟨pj_blind, fun U hU hW => ⟨rfl, hE.go hS hU hW⟩⟩ rfl rfl hl.1 rfl (lv_room (Nat.le_of_ble_eq_true rfl)) (show decode b_lch 3 = .ok (.invokestatic 9, 3) by decide +kernel) ⟨Nat.zero_le _, Nat.zero_le _⟩) ?_
  refine lv_aload_n (k := 0) hx hb (by decide +kernel) rfl (lv_at hl 0 rfl) ?_
  refine lv_iload_n (k := 1) hx hb (by decide +kernel) rfl (lv_at hl 1 rfl) ?_
  refine va_tb hx hb hT hS hi (v := .int (nmsL.getD i.toNatClampNeg 0)) rfl (by decide +kernel) ?_
  refine lv_sipush (n := 255) (v := 255) hx hb (by decide +kernel) (by decide) ?_
  refine lv_iand hx hb (by decide +kernel) ?_
  refine lv_i2c hx hb (by decide +kernel) n1 ?_
  exact W.zret hx hb hr n2 (fun t ht hW => ⟨rfl, ht⟩) (fun q hq => by cases hq) (by decide +kernel)
set_option maxRecDepth 100000 in
set_option maxHeartbeats 4000000 in
/-- charAt(i), within -/
theorem j_cha (i : Int32) (hi : vp_in i 103) : Met l y_cha (wsJ y_cha b_cha 2 (some .char)) (rmJ 3) (Pj n0 adK adV [.ref (adK 0), .int i]) (Qj (some (.int (nms i.toNatClampNeg)))) 0 0 (fun _ => False) := by
  refine Met.ofW (cc := b_cha) (maxL := 2) (ret := some .char) (by decide) rfl ?_
  intro p e s m args below meth c s₁ B hml hv
  obtain ⟨rfl, hE⟩ := hv
  have hx := B.exec
  have hb := B.bytes
  have hr := B.returns
  have hts0 := atoms_spec (ws := wsJ y_cha b_cha 2 (some .char)) B.pre
  have hts : ∀ w ∈ gtb, w.before _ s = true := fun w hw => hts0 w (List.mem_cons_of_mem _ hw)
  have hown : s.vm.findClass jS = some m.cls := findClass_of_methodNamed B.named
  have hS : va_S (AA n0) s.heap s.heap [] := va_S.rf
  have hn : i.toNatClampNeg < 103 := Nat.lt_of_not_le (fun q => hi (Or.inr q))
  obtain ⟨n1, n2⟩ := nms_c _ hn
  have hl := lv_entry ([.ref (adK 0), .int i]) (n := 2) (Nat.le_of_ble_eq_true rfl)
  rw [lg_entry_eq]
  generalize (lg_sl ([.ref (adK 0), .int i]) ++ List.replicate (2 - (lg_sl ([.ref (adK 0), .int i])).length) Slot.unset).toArray = ls at hl ⊢
  have hl : lv_has ls 2 [(0, .ref (adK 0)), (1, .int i)] := hl
  refine lv_aload_n (k := 0) hx hb (by decide +kernel) rfl (lv_at hl 0 rfl) ?_
  refine pj_call (va_runV (C := jS) (b := adK 0) (index := 492) (bytes := b_lat) (maxL := 1) (ret := some .boolean) (n := 0) (As := []) (rest := []) ⟨hx, hb, hml, hown, hts⟩ (j_lat l n0 adK adV) ⟨jB hts w_12 w_7 w_9 (by decide +kernel) ⟨Nat.le_of_ble_eq_true rfl, Nat.le_of_ble_eq_true rfl⟩, hts _ (gtb_in w_10 rfl), hts _ (gtb_in w_11 rfl)⟩ ⟨pj_blind, vk_recv hE.1 (by decide) hS, fun U hU hW => ⟨rfl, hE.go hS hU hW⟩⟩ rfl rfl hl.1 rfl (lv_room (Nat.le_of_ble_eq_true rfl)) (show decode b_cha 1 = .ok (.invokevirtual 492, 3) by decide +kernel) ⟨Nat.zero_le _, Nat.zero_le _⟩) ?_
  refine lv_if_eq (off := 12) (tgt := 16) hx hb (by decide +kernel) (by decide) (fun c0 => absurd c0 (by decide)) (fun _ => ?_)
  refine lv_aload_n (k := 0) hx hb (by decide +kernel) rfl (lv_at hl 0 rfl) ?_
  refine vk_getf hx hb (hE.1.1 0 (by decide)).2.2.1 hS hown (hts _ (gtb_in w_2 rfl)) (fun _ h9 => h9) (by decide +kernel) ?_
  refine lv_iload_n (k := 1) hx hb (by decide +kernel) rfl (lv_at hl 1 rfl) ?_
  refine pj_call (va_runS (index := 495) (bytes := b_lch) (maxL := 2) (ret := some .char) (n := 2) (As := [.ref (adV 0), .int i]) (rest := []) ⟨hx, hb, hml, hown, hts⟩ (j_lch l n0 adK adV i hi) ⟨jB hts w_16 w_15 w_13 (by decide +kernel) ⟨Nat.le_of_ble_eq_true rfl, Nat.le_of_ble_eq_true rfl⟩, hts _ (gtb_in w_14 rfl)⟩ ⟨pj_blind, fun U hU hW => ⟨rfl, hE.go hS hU hW⟩⟩ rfl rfl hl.1 rfl (lv_room (Nat.le_of_ble_eq_true rfl)) (show decode b_cha 12 = .ok (.invokestatic 495, 3) by decide +kernel) ⟨Nat.zero_le _, Nat.zero_le _⟩) ?_
  exact W.zret hx hb hr n2 (fun t ht hW => ⟨rfl, ht⟩) (fun q hq => by cases hq) (by decide +kernel)
end JM
/-- the constant text's two methods, wherever they are called -/
theorem hstr (l : Launch) (n0 b L : Nat) (xs : Nat → Int32) (adK adV : Nat → Nat) (dA : Nat → ClassId) (D : va_G) : HStr l n0 b L xs adK adV dA D := by
  intro p e R s m args below meth c QQ M h0 hx hb hml hown hts hE hRf hRl pc ls h ho hc1 hc2
  have hE2 : Es n0 adK adV s := ⟨hE.2.2.2.2.2.2.2.1, hE.2.2.2.2.2.2.2.2.1, hE.2.2.2.2.2.2.2.2.2⟩
  have hown' : s.vm.findClass "ColdRing$Reader" = some m.cls := by rw [ho] at hown; exact hown
  constructor
  · intro hd x k LS H locs cells slots hl hW hS hc hs
    have k2 := k LS H locs cells slots hl hW hS hc hs
    exact pj_call (va_runV (C := jS) (b := adK 0) (index := 91) (bytes := b_len) (maxL := 1) (ret := some .int) (n := 0) (As := []) (rest := [.int x]) ⟨hx, hb, hml, hown', hts⟩ (j_len l n0 adK adV) ⟨jB hts w_27 w_7 w_24 (by decide +kernel) ⟨Nat.le_trans (by decide) hRf, Nat.le_trans (by decide) hRl⟩, hts _ (gtb_in w_25 rfl), hts _ (gtb_in w_26 rfl)⟩ ⟨pj_blind, vk_recv hE2.1 (by decide) hS, fun U hU hW => ⟨rfl, hE2.go hS hU hW⟩⟩ rfl rfl hl.1.1 rfl (lv_room (Nat.le_of_ble_eq_true rfl)) hd ⟨by omega, by omega⟩) k2
  · intro hd x hi k LS H locs cells slots hl hW hS hc hs
    have k2 := k LS H locs cells slots hl hW hS hc hs
    exact pj_call (va_runV (C := jS) (b := adK 0) (index := 95) (bytes := b_cha) (maxL := 2) (ret := some .char) (n := 1) (As := [.int x]) (rest := []) ⟨hx, hb, hml, hown', hts⟩ (j_cha l n0 adK adV x hi) ⟨jB hts w_31 w_7 w_28 (by decide +kernel) ⟨Nat.le_trans (by decide) hRf, Nat.le_trans (by decide) hRl⟩, hts _ (gtb_in w_29 rfl), hts _ (gtb_in w_30 rfl)⟩ ⟨pj_blind, vk_recv hE2.1 (by decide) hS, fun U hU hW => ⟨rfl, hE2.go hS hU hW⟩⟩ rfl rfl hl.1.1 rfl (lv_room (Nat.le_of_ble_eq_true rfl)) hd ⟨by omega, by omega⟩) k2
