/-! what is made; the calls that are one step here -/
theorem arr_int (s : State) (dA : Nat → ClassId) {D : va_G} (hK : va_K D vcl (tysA dA) s) : s.vm.findClass "[I" = some (dA 20) := by
  have g : s.vm.findClass ("[" ++ (FieldType.int).toString) = some (dA 20) := (hK.2 0 (dA 20, .int) rfl).2
  have e : "[" ++ (FieldType.int).toString = "[I" := by decide
  rw [e] at g
  exact g
theorem Wd_cl {n0 L : Nat} {xs : Nat → Int32} {dA : Nat → ClassId} {D : va_G} {h : Hp} {nn : Nat} {ff : Nat → Int32} {H1 : Heap} (w : Wf h) (hL : (hk h 0).2 = L) (hxs : gI h 0 = xs) (hP1 : va_P D vcl (wo n0 dA h ++ [(n0 + hz h, .inl (dA 20, nn, .inl ff))]) H1) : Wd n0 L xs dA D (sA (mkc h 20 nn) (hz h) ff) H1 := by
  have h1 := w.1
  refine ⟨Wf_mk (h := h) w (a := 20) (n := nn) (fun q => absurd q (by decide)), ?_, ?_, ?_⟩
  · show (if 0 = hz h then (20, nn) else hk h 0).2 = L
    rw [if_neg (by omega)]; exact hL
  · rw [gI_sA, if_neg (by omega)]
    show (if 0 = hz h then (fun _ => (0 : Int32)) else gI h 0) = xs
    rw [if_neg (by omega)]; exact hxs
  · have o1 : ∀ j, j < hz h → ce n0 dA (sA (mkc h 20 nn) (hz h) ff) j = ce n0 dA h j := by
      intro jj hjj
      rw [← ce_mk (a := 20) (n := nn) hjj]
      exact ce_cong rfl (by rw [gI_sA, if_neg (by omega)]) rfl rfl
    have o2 : ce n0 dA (sA (mkc h 20 nn) (hz h) ff) (hz h) = .inl (dA 20, nn, .inl ff) := by
      have e1 : hk (sA (mkc h 20 nn) (hz h) ff) (hz h) = (20, nn) := hk_mk h 20 nn
      rw [ce_int (h := sA (mkc h 20 nn) (hz h) ff) (k := 20) (by rw [e1]) (Or.inl rfl), e1, gI_sA, if_pos rfl]
    rw [← wo_push (h' := sA (mkc h 20 nn) (hz h) ff) h1 rfl o1 o2]
    exact hP1
section S5
variable {p : Program} {l : Launch} {e : Env} {R : Room} {s : State} {m : MethodId} {args : Array Value} {below : List Frame} {meth : Method} {c : Code} {QQ : State → Prop}
variable {n0 b L : Nat} {xs : Nat → Int32} {adK adV : Nat → Nat} {dA : Nat → ClassId} {D : va_G} {M pc : Nat} {ls st : List Value} {h h0 : Hp} {pc' : Nat} {ls' st' : List Value} {h' : Hp}
set_option maxHeartbeats 4000000 in
set_option maxRecDepth 100000 in
theorem sd_5 {ins : Instr} {len a bb t pl : Nat} {v : Int} (hx : p.tables.exec = Jvm.exec) (hb : c.code = bM M) (hml : c.maxLocals = lM M) (hown : s.vm.findClass (cS (oM M)) = some m.cls) (hts : ∀ w ∈ gtb, w.before args s = true) (hE : EvK n0 b L xs adK adV dA D s)
    (hz0 : s.heap.size = n0 + hz h0) (hz1 : 1 ≤ hz h0) (hca1 : hz h' ≤ R.cells + hz h0) (hca2 : hu h' ≤ R.slots + hu h0)
    (hd : decode (bM M) pc = .ok (ins, len)) (hoe : okE (oM M) (wM M) pc (ins, len, a, bb, t, pl, v) = true) (hck : ckE M (ins, len, a, bb, t, pl, v) ls.length = true)
    (hex : exi (hk h) (gP h) (fun _ _ => true) (ins, len, a, bb, t, pl, v) (rM M) pc ls st h = some (.inl (pc', ls', st', h'))) (k : KK p l e R s m args below meth c QQ n0 b L xs adK dA D M h0 pc' ls' st' h')
    (hkind : (match ins with | .new _ | .newarray _ | .anewarray _ | .checkcast _ => true | _ => false) = true) : KK p l e R s m args below meth c QQ n0 b L xs adK dA D M h0 pc ls st h := by
  intro LS H locs cells slots hl hW hS hc hs
  unfold ckE at hck
  simp only [Bool.and_eq_true, Bool.or_eq_true] at hck
  obtain ⟨hlen, hin, hfi⟩ := hck
  have hlen : len = ilen ins ∨ isSw ins = true := hlen.imp Nat.eq_of_beq_eq_true id
  obtain ⟨w, hL, hxs, hP⟩ := id hW
  have hD := wo_D n0 dA h
  have hK := hE.1
  have hA : ∀ q, s.heap.size ≤ q → AA n0 q := fun q hq => by show n0 + 1 ≤ q; omega
  cases ins with
  | new i =>
    obtain rfl := len_of hlen rfl rfl
    have hoe : CW.contains (oM M, i, a) = true ∧ HW.contains (a, bb) = true := (Bool.and_eq_true _ _).mp hoe
    have hhw := cnt2 hoe.2
    have hab := List.all_eq_true.mp HW_k _ hhw
    have ha : a < 13 := Nat.le_of_ble_eq_true ((Bool.and_eq_true _ _).mp hab).1
    have hbn : bb = nF a := Nat.eq_of_beq_eq_true ((Bool.and_eq_true _ _).mp hab).2
    subst hbn
    have hex : nxt (pc + 3) ls (.ref (hz h) :: st) (mkc h a (nF a)) = some (.inl (pc', ls', st', h')) := hex
    simp only [Option.some.injEq, Sum.inl.injEq, Prod.mk.injEq] at hex
    obtain ⟨rfl, rfl, rfl, rfl⟩ := hex
    have hca1 : hz h + 1 ≤ R.cells + hz h0 := hca1
    have hca2 : hu h + nF a ≤ R.slots + hu h0 := hca2
    refine va_new (c0 := c) (ci := a) (fs := (List.range (nF a)).map (fun j => fv n0 (mkc h a (nF a)) a (hz h) j)) hx hb hts (u_ws_in a ha) (fy a) (fy_ok a ha) hown (hts _ (gtb_in (CW_in (cnt3 hoe.1)) rfl)) (hts _ (gtb_in (HW_in hhw) rfl)) (hts _ (gtb_in (ZW_in (cnt (List.all_eq_true.mp ZW_k a (List.mem_range.mpr ha)))) rfl)) hK hP hD hS hA (vcl_at a ha) (fun j hj => ?_) (by omega) (by omega) hd (fun q H1 hP1 hD1 hS1 => ?_)
    · have e1 : vp_V ((List.range (nF a)).map (fun j => fv n0 (mkc h a (nF a)) a (hz h) j)) j = fv n0 (mkc h a (nF a)) a (hz h) j := by
        unfold vp_V
        rw [List.getD_eq_getElem?_getD, fs_at hj]; rfl
      rw [e1]
      unfold fv
      rw [gI_mk, gJ_mk, gP_mk]
      have hle := tcd_le a ha j hj
      cases hfy : fy a j <;> first | rfl | (rw [hfy] at hle; exact absurd hle (by decide))
    · intro T hT X
      have hq := new_q hz0 hT X hc w hP1 hD1
      subst hq
      exact k LS H1 locs (cells + 1) (slots + nF a) hl (Wd_mk w (fun _ => rfl) hL hxs (by rw [ce_obj (h := mkc h a (nF a)) (by rw [hk_mk]) ha, hk_mk]) hP1) hS1 (by show cells + 1 + hz h0 = hz h + 1; omega) (by show slots + nF a + hu h0 = hu h + nF a; omega) T hT X
  | newarray ty =>
    obtain rfl := len_of hlen rfl rfl
    obtain ⟨nn, rr, rfl, ⟨q1, q2⟩, e2⟩ := xnewa_i hex
    simp only [Sum.inl.injEq, Prod.mk.injEq] at e2
    obtain ⟨rfl, rfl, rfl, rfl⟩ := e2
    have hca1 : hz h + 1 ≤ R.cells + hz h0 := hca1
    have hca2 : hu h + nn.toNatClampNeg ≤ R.slots + hu h0 := hca2
    cases ty with
    | int =>
      have ha : a = 20 := Nat.eq_of_beq_eq_true hoe
      subst ha
      refine va_newa (atype := .int) (ty := .int) (a0 := (nn.toNatClampNeg, .inl (fun _ => 0))) hx hb (hts _ (gtb_in w_ar_int rfl)) rfl hK hP hD hS hA (fun cA => rfl) q1 rfl (by show nn.toNatClampNeg * 4 ≤ 536870912; omega) (by omega) (by omega) hd (fun q cA H1 hK1 hP1 hD1 hS1 => ?_)
      have g1 : s.vm.findClass ("[" ++ (FieldType.int).toString) = some cA := (hK1.2 7 (cA, .int) rfl).2
      have g2 : s.vm.findClass ("[" ++ (FieldType.int).toString) = some (dA 20) := (hK.2 0 (dA 20, .int) rfl).2
      have hcA : cA = dA 20 := Option.some.inj (g1.symm.trans g2)
      subst hcA
      intro T hT X
      have hq := new_q hz0 hT X hc w hP1 hD1
      subst hq
      exact k LS H1 locs (cells + 1) (slots + nn.toNatClampNeg) hl (Wd_mk w (fun q => absurd q (by decide)) hL hxs (by rw [ce_int (h := mkc h 20 nn.toNatClampNeg) (k := 20) (by rw [hk_mk]) (Or.inl rfl), hk_mk, gI_mk]) hP1) hS1 (by show cells + 1 + hz h0 = hz h + 1; omega) (by show slots + nn.toNatClampNeg + hu h0 = hu h + nn.toNatClampNeg; omega) T hT X
    | long =>
      have ha : a = 21 := Nat.eq_of_beq_eq_true hoe
      subst ha
      refine va_newa (atype := .long) (ty := .long) (a0 := (nn.toNatClampNeg, .inr (.inl (fun _ => 0)))) hx hb (hts _ (gtb_in w_ar_long rfl)) rfl hK hP hD hS hA (fun cA => rfl) q1 rfl (by show nn.toNatClampNeg * 8 ≤ 536870912; omega) (by omega) (by omega) hd (fun q cA H1 hK1 hP1 hD1 hS1 => ?_)
      have g1 : s.vm.findClass ("[" ++ (FieldType.long).toString) = some cA := (hK1.2 7 (cA, .long) rfl).2
      have g2 : s.vm.findClass ("[" ++ (FieldType.long).toString) = some (dA 21) := (hK.2 1 (dA 21, .long) rfl).2
      have hcA : cA = dA 21 := Option.some.inj (g1.symm.trans g2)
      subst hcA
      intro T hT X
      have hq := new_q hz0 hT X hc w hP1 hD1
      subst hq
      exact k LS H1 locs (cells + 1) (slots + nn.toNatClampNeg) hl (Wd_mk w (fun q => absurd q (by decide)) hL hxs (by rw [ce_long (h := mkc h 21 nn.toNatClampNeg) (by rw [hk_mk]), hk_mk, gJ_mk]) hP1) hS1 (by show cells + 1 + hz h0 = hz h + 1; omega) (by show slots + nn.toNatClampNeg + hu h0 = hu h + nn.toNatClampNeg; omega) T hT X
    | byte =>
      have ha : a = 22 := Nat.eq_of_beq_eq_true hoe
      subst ha
      refine va_newa (atype := .byte) (ty := .byte) (a0 := (nn.toNatClampNeg, .inl (fun _ => 0))) hx hb (hts _ (gtb_in w_ar_byte rfl)) rfl hK hP hD hS hA (fun cA => rfl) q1 rfl (by show nn.toNatClampNeg * 1 ≤ 536870912; omega) (by omega) (by omega) hd (fun q cA H1 hK1 hP1 hD1 hS1 => ?_)
      have g1 : s.vm.findClass ("[" ++ (FieldType.byte).toString) = some cA := (hK1.2 7 (cA, .byte) rfl).2
      have g2 : s.vm.findClass ("[" ++ (FieldType.byte).toString) = some (dA 22) := (hK.2 2 (dA 22, .byte) rfl).2
      have hcA : cA = dA 22 := Option.some.inj (g1.symm.trans g2)
      subst hcA
      intro T hT X
      have hq := new_q hz0 hT X hc w hP1 hD1
      subst hq
      exact k LS H1 locs (cells + 1) (slots + nn.toNatClampNeg) hl (Wd_mk w (fun q => absurd q (by decide)) hL hxs (by rw [ce_int (h := mkc h 22 nn.toNatClampNeg) (k := 22) (by rw [hk_mk]) (Or.inr (Or.inl rfl)), hk_mk, gI_mk]) hP1) hS1 (by show cells + 1 + hz h0 = hz h + 1; omega) (by show slots + nn.toNatClampNeg + hu h0 = hu h + nn.toNatClampNeg; omega) T hT X
    | boolean =>
      have ha : a = 23 := Nat.eq_of_beq_eq_true hoe
      subst ha
      refine va_newa (atype := .boolean) (ty := .boolean) (a0 := (nn.toNatClampNeg, .inl (fun _ => 0))) hx hb (hts _ (gtb_in w_ar_boolean rfl)) rfl hK hP hD hS hA (fun cA => rfl) q1 rfl (by show nn.toNatClampNeg * 1 ≤ 536870912; omega) (by omega) (by omega) hd (fun q cA H1 hK1 hP1 hD1 hS1 => ?_)
      have g1 : s.vm.findClass ("[" ++ (FieldType.boolean).toString) = some cA := (hK1.2 7 (cA, .boolean) rfl).2
      have g2 : s.vm.findClass ("[" ++ (FieldType.boolean).toString) = some (dA 23) := (hK.2 3 (dA 23, .boolean) rfl).2
      have hcA : cA = dA 23 := Option.some.inj (g1.symm.trans g2)
      subst hcA
      intro T hT X
      have hq := new_q hz0 hT X hc w hP1 hD1
      subst hq
      exact k LS H1 locs (cells + 1) (slots + nn.toNatClampNeg) hl (Wd_mk w (fun q => absurd q (by decide)) hL hxs (by rw [ce_int (h := mkc h 23 nn.toNatClampNeg) (k := 23) (by rw [hk_mk]) (Or.inr (Or.inr rfl)), hk_mk, gI_mk]) hP1) hS1 (by show cells + 1 + hz h0 = hz h + 1; omega) (by show slots + nn.toNatClampNeg + hu h0 = hu h + nn.toNatClampNeg; omega) T hT X
    | _ => cases hoe
  | anewarray i =>
    obtain rfl := len_of hlen rfl rfl
    obtain ⟨nn, rr, rfl, ⟨q1, q2⟩, e2⟩ := xnewa_i hex
    simp only [Sum.inl.injEq, Prod.mk.injEq] at e2
    obtain ⟨rfl, rfl, rfl, rfl⟩ := e2
    have hca1 : hz h + 1 ≤ R.cells + hz h0 := hca1
    have hca2 : hu h + nn.toNatClampNeg ≤ R.slots + hu h0 := hca2
    have hoe : CW.contains (oM M, i, bb) = true ∧ ((Nat.beq a 24 && Nat.beq bb 7) || (Nat.beq a 25 && Nat.beq bb 9) || (Nat.beq a 26 && Nat.beq bb 4)) = true := (Bool.and_eq_true _ _).mp hoe
    obtain ⟨ho1, ho2⟩ := hoe
    simp only [Bool.or_eq_true, Bool.and_eq_true] at ho2
    have fin : ∀ (tt : Nat), a = tt + 20 → 4 ≤ tt → (tysA dA)[tt]? = some (dA a, .object (cS bb)) → va_AO (cS bb) s → W p l e R s m args below meth c H locs cells slots QQ (F0 m pc LS ((Value.int nn :: rr).map (sh n0 b adK))) := by
      intro tt hat htl htt hao
      refine va_newq (C := cS bb) hx hb hown (hts _ (gtb_in (CW_in (cnt3 ho1)) rfl)) hao hK hP hD hS hA q1 rfl (by omega) (by omega) (by omega) hd (fun q cA H1 hK1 hP1 hD1 hS1 => ?_)
      obtain ⟨-, -, -, -, -, g1⟩ : ∃ (kA : Class) (comp : ClassId), s.vm.classes[cA]? = some kA ∧ kA.kind = .array comp (.object (cS bb)) ∧ s.vm.findClass (cS bb) = some comp ∧ s.vm.findClass ("[" ++ (FieldType.object (cS bb)).toString) = some cA := (hK1.2 7 (cA, .object (cS bb)) rfl).2
      obtain ⟨-, -, -, -, -, g2⟩ : ∃ (kA : Class) (comp : ClassId), s.vm.classes[dA a]? = some kA ∧ kA.kind = .array comp (.object (cS bb)) ∧ s.vm.findClass (cS bb) = some comp ∧ s.vm.findClass ("[" ++ (FieldType.object (cS bb)).toString) = some (dA a) := (hK.2 tt (dA a, .object (cS bb)) htt).2
      have hcA : cA = dA a := Option.some.inj (g1.symm.trans g2)
      subst hcA
      intro T hT X
      have hq := new_q hz0 hT X hc w hP1 hD1
      subst hq
      exact k LS H1 locs (cells + 1) (slots + nn.toNatClampNeg) hl (Wd_mk w (fun q => by omega) hL hxs (by rw [ce_ref (h := mkc h a nn.toNatClampNeg) (k := a) (by rw [hk_mk]) (by omega), hk_mk, gP_mk]; rfl) hP1) hS1 (by show cells + 1 + hz h0 = hz h + 1; omega) (by show slots + nn.toNatClampNeg + hu h0 = hu h + nn.toNatClampNeg; omega) T hT X
    rcases ho2 with (⟨g1, g2⟩ | ⟨g1, g2⟩) | ⟨g1, g2⟩
    · have e1 := Nat.eq_of_beq_eq_true g1
      have e2 := Nat.eq_of_beq_eq_true g2
      subst e1
      subst e2
      exact fin 4 rfl (by decide) rfl hE.2.2.1.1
    · have e1 := Nat.eq_of_beq_eq_true g1
      have e2 := Nat.eq_of_beq_eq_true g2
      subst e1
      subst e2
      exact fin 5 rfl (by decide) rfl hE.2.2.1.2.1
    · have e1 := Nat.eq_of_beq_eq_true g1
      have e2 := Nat.eq_of_beq_eq_true g2
      subst e1
      subst e2
      exact fin 6 rfl (by decide) rfl hE.2.2.1.2.2
  | checkcast i =>
    obtain rfl := len_of hlen rfl rfl
    obtain ⟨x, rr, rfl, q1, e2⟩ := xcast_i hex
    cases e2
    have hoe : Nat.beq (oM M) 16 = true ∧ Nat.beq i 317 = true := (Bool.and_eq_true _ _).mp hoe
    have e1 := Nat.eq_of_beq_eq_true hoe.1
    have e3 := Nat.eq_of_beq_eq_true hoe.2
    subst e3
    obtain ⟨h1, h2⟩ := w.in q1 (by decide)
    have ha := wo_at (n0 := n0) (dA := dA) h1 h2
    rw [ce_int q1 (Or.inl rfl)] at ha
    exact va_castA (nm := "[I") hx hb hown (by rw [e1]; exact hts _ (gtb_in w_cc rfl)) hP (x - 1) ha (arr_int s dA hK) hd (k LS H locs cells slots hl hW hS hc hs)
  | _ => cases hkind
end S5
