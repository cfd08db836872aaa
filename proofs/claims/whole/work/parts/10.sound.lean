/-! every step of the abstract machine that is neither a call nor an end is a step of the machine -/
abbrev KK (p : Program) (l : Launch) (e : Env) (R : Room) (s : State) (m : MethodId) (args : Array Value) (below : List Frame) (meth : Method) (c : Code) (QQ : State → Prop) (n0 b L : Nat) (xs : Nat → Int32) (adK : Nat → Nat) (dA : Nat → ClassId) (D : va_G) (M : Nat) (h0 : Hp) (pc : Nat) (ls st : List Value) (h : Hp) : Prop :=
  ∀ (LS : Array Slot) (H : Heap) (locs : List Loc) (cells slots : Nat), lrep n0 b adK (lM M) (wM M) ls LS → Wd n0 L xs dA D h H → va_S (AA n0) s.heap H locs → cells + hz h0 = hz h → slots + hu h0 = hu h → W p l e R s m args below meth c H locs cells slots QQ (F0 m pc LS (st.map (sh n0 b adK)))
theorem len_of {len n : Nat} {ins : Instr} (h : len = ilen ins ∨ isSw ins = true) (hs : isSw ins = false) (hn : ilen ins = n) : len = n := by
  rcases h with q | q
  · exact q.trans hn
  · rw [hs] at q; cases q
theorem sum_sh (n0 b : Nat) (adK : Nat → Nat) (r : List Value) : ((r.map (sh n0 b adK)).map fun v => v.category).sum = (r.map fun v => v.category).sum := by
  rw [List.map_map]
  congr 1
  apply List.map_congr_left
  intro v _
  exact sh_cat n0 b adK v
section S1
variable {p : Program} {l : Launch} {e : Env} {R : Room} {s : State} {m : MethodId} {args : Array Value} {below : List Frame} {meth : Method} {c : Code} {QQ : State → Prop}
variable {n0 b L : Nat} {xs : Nat → Int32} {adK adV : Nat → Nat} {dA : Nat → ClassId} {D : va_G} {M pc : Nat} {ls st : List Value} {h h0 : Hp} {pc' : Nat} {ls' st' : List Value} {h' : Hp}
set_option maxHeartbeats 4000000 in
set_option maxRecDepth 100000 in
/-- steps that leave the heap as it is -/
theorem sd_1 {ins : Instr} {len a bb t pl : Nat} {v : Int} (hx : p.tables.exec = Jvm.exec) (hb : c.code = bM M) (hml : c.maxLocals = lM M) (hown : s.vm.findClass (cS (oM M)) = some m.cls) (hts : ∀ w ∈ gtb, w.before args s = true) (hE : EvK n0 b L xs adK adV dA D s)
    (hd : decode (bM M) pc = .ok (ins, len)) (hoe : okE (oM M) (wM M) pc (ins, len, a, bb, t, pl, v) = true) (hck : ckE M (ins, len, a, bb, t, pl, v) ls.length = true)
    (hex : exi (hk h) (gP h) (fun _ _ => true) (ins, len, a, bb, t, pl, v) (rM M) pc ls st h = some (.inl (pc', ls', st', h'))) (k : KK p l e R s m args below meth c QQ n0 b L xs adK dA D M h0 pc' ls' st' h')
    (hkind : (match ins with | .aconst_null | .iconst _ | .bipush _ | .sipush _ | .lconst _ | .ldc _ | .ldc_w _ | .ldc2_w _ | .iload _ | .iload_n _ | .lload _ | .lload_n _ | .aload _ | .aload_n _ | .istore _ | .istore_n _ | .lstore _ | .lstore_n _ | .astore _ | .astore_n _ | .iinc _ _ => true | _ => false) = true) : KK p l e R s m args below meth c QQ n0 b L xs adK dA D M h0 pc ls st h := by
  intro LS H locs cells slots hl hW hS hc hs
  unfold ckE at hck
  simp only [Bool.and_eq_true, Bool.or_eq_true] at hck
  obtain ⟨hlen, hin, -⟩ := hck
  have hlen : len = ilen ins ∨ isSw ins = true := hlen.imp Nat.eq_of_beq_eq_true id
  have hLl := hl.2.1
  cases ins with
  | aconst_null =>
    obtain rfl := len_of hlen rfl rfl
    cases hex
    exact lv_null hx hb hd (k LS H locs cells slots hl hW hS hc hs)
  | iconst n =>
    obtain rfl := len_of hlen rfl rfl
    cases hex
    exact lv_iconst hx hb hd rfl (k LS H locs cells slots hl hW hS hc hs)
  | bipush n =>
    obtain rfl := len_of hlen rfl rfl
    cases hex
    exact lv_bipush hx hb hd rfl (k LS H locs cells slots hl hW hS hc hs)
  | sipush n =>
    obtain rfl := len_of hlen rfl rfl
    cases hex
    exact lv_sipush hx hb hd rfl (k LS H locs cells slots hl hW hS hc hs)
  | lconst n =>
    obtain rfl := len_of hlen rfl rfl
    cases hex
    exact lv_lconst hx hb hd rfl (k LS H locs cells slots hl hW hS hc hs)
  | ldc i =>
    obtain rfl := len_of hlen rfl rfl
    have hex : (if bb = 1 then nxt (pc + 2) ls (.retAddr 0 :: st) h else nxt (pc + 2) ls (.int (Int32.ofInt v) :: st) h) = some (.inl (pc', ls', st', h')) := hex
    have hoe : ((Nat.beq bb 1 && (Nat.beq (oM M) 6 && Nat.beq i 89)) || (Nat.beq bb 0 && KW.contains (oM M, i, v))) = true := hoe
    by_cases hb1 : bb = 1
    · rw [if_pos hb1] at hex
      cases hex
      subst hb1
      simp only [show Nat.beq 1 1 = true from rfl, show Nat.beq 1 0 = false from rfl, Bool.true_and, Bool.false_and, Bool.or_false, Bool.and_eq_true] at hoe
      have e1 := Nat.eq_of_beq_eq_true hoe.1
      have e2 := Nat.eq_of_beq_eq_true hoe.2
      subst e2
      refine va_ldcS hx hb hown (by rw [e1]; exact hE.2.2.2.2.2.2.1) hd (k LS H locs cells slots hl hW hS hc hs)
    · rw [if_neg hb1] at hex
      cases hex
      have hne : Nat.beq bb 1 = false := by
        cases hq : Nat.beq bb 1 with
        | false => rfl
        | true => exact absurd (Nat.eq_of_beq_eq_true hq) hb1
      rw [hne] at hoe
      simp only [Bool.false_and, Bool.false_or, Bool.and_eq_true] at hoe
      exact lv_ldc hx hb hown (hts _ (gtb_in (KW_in (cntK hoe.2)) rfl)) hd (k LS H locs cells slots hl hW hS hc hs)
  | ldc_w i =>
    obtain rfl := len_of hlen rfl rfl
    cases hex
    exact lv_ldcw hx hb hown (hts _ (gtb_in (KW_in (cntK hoe)) rfl)) hd (k LS H locs cells slots hl hW hS hc hs)
  | ldc2_w i =>
    obtain rfl := len_of hlen rfl rfl
    cases hex
    exact lv_ldc2 hx hb hown (hts _ (gtb_in (JW_in (cntK hoe)) rfl)) hd (k LS H locs cells slots hl hW hS hc hs)
  | iload i =>
    obtain rfl := len_of hlen rfl rfl
    obtain ⟨x, e1, e2⟩ := xldI_i hex
    cases e2
    exact lv_iload hx hb hd (hl.at e1 rfl) (k LS H locs cells slots hl hW hS hc hs)
  | iload_n i =>
    obtain rfl := len_of hlen rfl rfl
    obtain ⟨x, e1, e2⟩ := xldI_i hex
    cases e2
    exact lv_iload_n hx hb hd rfl (hl.at e1 rfl) (k LS H locs cells slots hl hW hS hc hs)
  | lload i =>
    obtain rfl := len_of hlen rfl rfl
    obtain ⟨x, e1, e2⟩ := xldJ_i hex
    cases e2
    exact lv_lload hx hb hd (hl.at e1 rfl) (k LS H locs cells slots hl hW hS hc hs)
  | lload_n i =>
    obtain rfl := len_of hlen rfl rfl
    obtain ⟨x, e1, e2⟩ := xldJ_i hex
    cases e2
    exact lv_lload_n hx hb hd rfl (hl.at e1 rfl) (k LS H locs cells slots hl hW hS hc hs)
  | aload i =>
    obtain rfl := len_of hlen rfl rfl
    obtain ⟨x, e1, e3, e2⟩ := xldA_i hex
    cases e2
    rcases e3 with ⟨a, rfl⟩ | rfl | ⟨j, rfl⟩
    · exact lv_aload hx hb hd (hl.at e1 rfl) (k LS H locs cells slots hl hW hS hc hs)
    · exact lv_aloadN hx hb hd (hl.at e1 rfl) (k LS H locs cells slots hl hW hS hc hs)
    · have g1 := hl.at e1 rfl
      have g2 := k LS H locs cells slots hl hW hS hc hs
      by_cases hj : j = 0
      · simp only [sh, hj, if_true] at g1
        simp only [List.map_cons, sh, hj, if_true] at g2
        exact lv_aload hx hb hd g1 g2
      · simp only [sh, hj, if_false] at g1
        simp only [List.map_cons, sh, hj, if_false] at g2
        exact lv_aload hx hb hd g1 g2
  | aload_n i =>
    obtain rfl := len_of hlen rfl rfl
    obtain ⟨x, e1, e3, e2⟩ := xldA_i hex
    cases e2
    rcases e3 with ⟨a, rfl⟩ | rfl | ⟨j, rfl⟩
    · exact lv_aload_n hx hb hd rfl (hl.at e1 rfl) (k LS H locs cells slots hl hW hS hc hs)
    · exact lv_aload_nN hx hb hd rfl (hl.at e1 rfl) (k LS H locs cells slots hl hW hS hc hs)
    · have g1 := hl.at e1 rfl
      have g2 := k LS H locs cells slots hl hW hS hc hs
      by_cases hj : j = 0
      · simp only [sh, hj, if_true] at g1
        simp only [List.map_cons, sh, hj, if_true] at g2
        exact lv_aload_n hx hb hd rfl g1 g2
      · simp only [sh, hj, if_false] at g1
        simp only [List.map_cons, sh, hj, if_false] at g2
        exact lv_aload_n hx hb hd rfl g1 g2
  | istore i =>
    obtain rfl := len_of hlen rfl rfl
    obtain ⟨x, r, rfl, e2⟩ := xstI_i hex
    cases e2
    have hi : i < lM M := by rw [← hLl]; exact Nat.le_of_ble_eq_true hin
    exact lv_istore hx hb hd hl.1 hi rfl (fun LS' hl' => k LS' H locs cells slots (lrep_st1 hl rfl hoe hl') hW hS hc hs)
  | istore_n i =>
    obtain rfl := len_of hlen rfl rfl
    obtain ⟨x, r, rfl, e2⟩ := xstI_i hex
    cases e2
    have hi : (i : Nat) < lM M := by rw [← hLl]; exact Nat.le_of_ble_eq_true hin
    exact lv_istore_n hx hb hd rfl hl.1 hi rfl (fun LS' hl' => k LS' H locs cells slots (lrep_st1 hl rfl hoe hl') hW hS hc hs)
  | lstore i =>
    obtain rfl := len_of hlen rfl rfl
    obtain ⟨x, r, rfl, e2⟩ := xstJ_i hex
    cases e2
    have hi : i + 1 < lM M := by rw [← hLl]; exact Nat.le_of_ble_eq_true hin
    have ho : okS (wM M) bb i = true ∧ (wM M).contains i = true := (Bool.and_eq_true _ _).mp hoe
    exact lv_lstore hx hb hd hl.1 hi rfl (fun LS' hl' => k LS' H locs cells slots (lrep_st2 hl (cnt ho.2) ho.1 hl') hW hS hc hs)
  | lstore_n i =>
    obtain rfl := len_of hlen rfl rfl
    obtain ⟨x, r, rfl, e2⟩ := xstJ_i hex
    cases e2
    have hi : (i : Nat) + 1 < lM M := by rw [← hLl]; exact Nat.le_of_ble_eq_true hin
    have ho : okS (wM M) bb i = true ∧ (wM M).contains (i : Nat) = true := (Bool.and_eq_true _ _).mp hoe
    exact lv_lstore_n hx hb hd rfl hl.1 hi rfl (fun LS' hl' => k LS' H locs cells slots (lrep_st2 hl (cnt ho.2) ho.1 hl') hW hS hc hs)
  | astore i =>
    obtain rfl := len_of hlen rfl rfl
    have hi : i < lM M := by rw [← hLl]; exact Nat.le_of_ble_eq_true hin
    rcases xstA_i hex with ⟨x, r, rfl, e2⟩ | ⟨r, rfl, e2⟩
    · cases e2
      exact lv_astore hx hb hd hl.1 hi rfl (fun LS' hl' => k LS' H locs cells slots (lrep_st1 hl rfl hoe hl') hW hS hc hs)
    · cases e2
      exact lv_astoreN hx hb hd hl.1 hi rfl (fun LS' hl' => k LS' H locs cells slots (lrep_st1 hl rfl hoe hl') hW hS hc hs)
  | astore_n i =>
    obtain rfl := len_of hlen rfl rfl
    have hi : (i : Nat) < lM M := by rw [← hLl]; exact Nat.le_of_ble_eq_true hin
    rcases xstA_i hex with ⟨x, r, rfl, e2⟩ | ⟨r, rfl, e2⟩
    · cases e2
      exact lv_astore_n hx hb hd rfl hl.1 hi rfl (fun LS' hl' => k LS' H locs cells slots (lrep_st1 hl rfl hoe hl') hW hS hc hs)
    · cases e2
      exact lv_astore_nN hx hb hd rfl hl.1 hi rfl (fun LS' hl' => k LS' H locs cells slots (lrep_st1 hl rfl hoe hl') hW hS hc hs)
  | iinc i n =>
    obtain rfl := len_of hlen rfl rfl
    obtain ⟨x, e1, e2⟩ := xinc_i hex
    cases e2
    have hi : i < lM M := by rw [← hLl]; exact Nat.le_of_ble_eq_true hin
    obtain ⟨kk, hkk⟩ := List.getElem?_of_mem (al_mem (n0 := n0) (b := b) (adK := adK) (q := (i, .int x)).mpr ⟨.int x, e1, rfl, rfl⟩)
    exact lv_iinc hx hb hd hl.1 hkk rfl hi rfl (fun LS' hl' => k LS' H locs cells slots (lrep_st1 hl rfl hoe hl') hW hS hc hs)
  | _ => cases hkind
end S1
