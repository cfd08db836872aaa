/-! the heap: fields, arrays, what is made -/
theorem w_ar_int : (.arrayClass .int : Cond) ∈ lw_tbl := seg1 (List.mem_of_getElem? (i := 68) rfl)
theorem w_ar_long : (.arrayClass .long : Cond) ∈ lw_tbl := seg5 (List.mem_of_getElem? (i := 215) rfl)
theorem w_ar_byte : (.arrayClass .byte : Cond) ∈ lw_tbl := seg1 (List.mem_of_getElem? (i := 235) rfl)
theorem w_ar_boolean : (.arrayClass .boolean : Cond) ∈ lw_tbl := seg1 (List.mem_of_getElem? (i := 234) rfl)
theorem w_cl1 : (.methodLink (cS 16) 316 ⟨"[I", "clone", "()Ljava/lang/Object;"⟩ : Cond) ∈ lw_tbl := seg3 (List.mem_of_getElem? (i := 153) rfl)
theorem w_cl2 : (.sameMethod "[I" "java/lang/Object" "clone" "()Ljava/lang/Object;" : Cond) ∈ lw_tbl := seg3 (List.mem_of_getElem? (i := 154) rfl)
theorem w_cl3 : (.native ⟨"java/lang/Object", "clone", "()Ljava/lang/Object;"⟩ : Cond) ∈ lw_tbl := seg3 (List.mem_of_getElem? (i := 155) rfl)
theorem w_cl4 : (.instanceMethod ⟨"java/lang/Object", "clone", "()Ljava/lang/Object;"⟩ : Cond) ∈ lw_tbl := seg3 (List.mem_of_getElem? (i := 156) rfl)
theorem w_cl5 : (.selects "[I" ⟨"[I", "clone", "()Ljava/lang/Object;"⟩ ⟨"java/lang/Object", "clone", "()Ljava/lang/Object;"⟩ : Cond) ∈ lw_tbl := seg3 (List.mem_of_getElem? (i := 157) rfl)
theorem w_cc : (.classLink (cS 16) 317 "[I" : Cond) ∈ lw_tbl := seg3 (List.mem_of_getElem? (i := 159) rfl)
set_option maxRecDepth 100000 in
theorem HW_k : HW.all (fun q => Nat.blt q.1 13 && Nat.beq q.2 (nF q.1)) = true := by decide +kernel
set_option maxRecDepth 100000 in
theorem ZW_k : (List.range 13).all (fun k => ZW.contains k) = true := by decide +kernel
set_option maxRecDepth 100000 in
theorem ZW_j : (ZW.contains 14 && ZW.contains 17) = true := by decide +kernel
theorem Wd_up {n0 L : Nat} {xs : Nat → Int32} {dA : Nat → ClassId} {D : va_G} {h h' : Hp} {a : Nat} {en : va_E} {H1 : Heap} (w : Wf h) (hz' : hz h' = hz h) (hk' : hk h' = hk h) (h1 : 1 ≤ a) (h2 : a < hz h) (hL : (hk h 0).2 = L) (hxs : gI h' 0 = xs) (ho : ∀ k, k ≠ a → ce n0 dA h' k = ce n0 dA h k) (ha : ce n0 dA h' a = en) (hP1 : va_P D vcl ((wo n0 dA h).set (a - 1) (n0 + a, en)) H1) : Wd n0 L xs dA D h' H1 := by
  refine ⟨?_, by rw [hk']; exact hL, hxs, ?_⟩
  · unfold Wf
    rw [hz', hk']
    exact w
  · rw [← wo_set h1 h2 hz' ho ha]
    exact hP1
theorem Wf_mk {h : Hp} (w : Wf h) {a n : Nat} (hab : a < 13 → n = nF a) : Wf (mkc h a n) := by
  have e : ∀ x, hk (mkc h a n) x = if x = hz h then (a, n) else hk h x := fun _ => rfl
  have ez : hz (mkc h a n) = hz h + 1 := rfl
  refine ⟨by rw [ez]; omega, fun x hx => ?_, fun x hx => ?_⟩
  · rw [ez] at hx
    have h1 := w.1
    rw [e, if_neg (by omega)]
    exact w.2.1 x (by omega)
  · rw [e] at hx ⊢
    by_cases q : x = hz h
    · rw [if_pos q] at hx ⊢
      exact hab hx
    · rw [if_neg q] at hx ⊢
      exact w.2.2 x hx
theorem ce_mk {n0 : Nat} {dA : Nat → ClassId} {h : Hp} {a n k : Nat} (hkl : k < hz h) : ce n0 dA (mkc h a n) k = ce n0 dA h k := by
  have hne : k ≠ hz h := by omega
  refine ce_cong ?_ ?_ ?_ ?_
  · show (if k = hz h then (a, n) else hk h k) = _; rw [if_neg hne]
  · show (if k = hz h then (fun _ => (0 : Int32)) else gI h k) = _; rw [if_neg hne]
  · show (if k = hz h then (fun _ => (0 : Int64)) else gJ h k) = _; rw [if_neg hne]
  · show (if k = hz h then (fun _ => none) else gP h k) = _; rw [if_neg hne]
theorem gI_mk (h : Hp) (a n : Nat) : gI (mkc h a n) (hz h) = fun _ => 0 := by show (if hz h = hz h then (fun _ => (0 : Int32)) else gI h (hz h)) = _; rw [if_pos rfl]
theorem gJ_mk (h : Hp) (a n : Nat) : gJ (mkc h a n) (hz h) = fun _ => 0 := by show (if hz h = hz h then (fun _ => (0 : Int64)) else gJ h (hz h)) = _; rw [if_pos rfl]
theorem gP_mk (h : Hp) (a n : Nat) : gP (mkc h a n) (hz h) = fun _ => none := by show (if hz h = hz h then (fun _ => none) else gP h (hz h)) = _; rw [if_pos rfl]
theorem hk_mk (h : Hp) (a n : Nat) : hk (mkc h a n) (hz h) = (a, n) := by show (if hz h = hz h then (a, n) else hk h (hz h)) = _; rw [if_pos rfl]
theorem Wd_mk {n0 L : Nat} {xs : Nat → Int32} {dA : Nat → ClassId} {D : va_G} {h : Hp} {a n : Nat} {en : va_E} {H1 : Heap} (w : Wf h) (hab : a < 13 → n = nF a) (hL : (hk h 0).2 = L) (hxs : gI h 0 = xs) (ha : ce n0 dA (mkc h a n) (hz h) = en) (hP1 : va_P D vcl (wo n0 dA h ++ [(n0 + hz h, en)]) H1) : Wd n0 L xs dA D (mkc h a n) H1 := by
  have h1 := w.1
  refine ⟨Wf_mk w hab, ?_, ?_, ?_⟩
  · show (if 0 = hz h then (a, n) else hk h 0).2 = L
    rw [if_neg (by omega)]; exact hL
  · show (if 0 = hz h then (fun _ => (0 : Int32)) else gI h 0) = xs
    rw [if_neg (by omega)]; exact hxs
  · rw [← wo_push (h' := mkc h a n) h1 rfl (fun k hk => ce_mk hk) ha]
    exact hP1
section S3
variable {p : Program} {l : Launch} {e : Env} {R : Room} {s : State} {m : MethodId} {args : Array Value} {below : List Frame} {meth : Method} {c : Code} {QQ : State → Prop}
variable {n0 b L : Nat} {xs : Nat → Int32} {adK adV : Nat → Nat} {dA : Nat → ClassId} {D : va_G} {M pc : Nat} {ls st : List Value} {h h0 : Hp} {pc' : Nat} {ls' st' : List Value} {h' : Hp}
set_option maxHeartbeats 4000000 in
set_option maxRecDepth 100000 in
theorem sd_3 {ins : Instr} {len a bb t pl : Nat} {v : Int} (hx : p.tables.exec = Jvm.exec) (hb : c.code = bM M) (hml : c.maxLocals = lM M) (hown : s.vm.findClass (cS (oM M)) = some m.cls) (hts : ∀ w ∈ gtb, w.before args s = true) (hE : EvK n0 b L xs adK adV dA D s)
    (hd : decode (bM M) pc = .ok (ins, len)) (hoe : okE (oM M) (wM M) pc (ins, len, a, bb, t, pl, v) = true) (hck : ckE M (ins, len, a, bb, t, pl, v) ls.length = true)
    (hex : exi (hk h) (gP h) (fun _ _ => true) (ins, len, a, bb, t, pl, v) (rM M) pc ls st h = some (.inl (pc', ls', st', h'))) (k : KK p l e R s m args below meth c QQ n0 b L xs adK dA D M h0 pc' ls' st' h')
    (hkind : (match ins with | .iaload | .baload | .laload | .aaload | .iastore | .bastore | .lastore | .aastore | .arraylength => true | _ => false) = true) : KK p l e R s m args below meth c QQ n0 b L xs adK dA D M h0 pc ls st h := by
  intro LS H locs cells slots hl hW hS hc hs
  unfold ckE at hck
  simp only [Bool.and_eq_true, Bool.or_eq_true] at hck
  obtain ⟨hlen, hin, -⟩ := hck
  have hlen : len = ilen ins ∨ isSw ins = true := hlen.imp Nat.eq_of_beq_eq_true id
  obtain ⟨w, hL, hxs, hP⟩ := id hW
  have hD := wo_D n0 dA h
  have hK := hE.1
  have hX := hE.2.2.2.2.1
  have hbb := hE.2.2.2.2.2.1
  cases ins with
  | iaload =>
    obtain rfl := len_of hlen rfl rfl
    rcases xiaload_i hex with ⟨i, x, r, rfl, ⟨q1, q2⟩, e2⟩ | ⟨i, r, rfl, q2, e2⟩
    · cases e2
      obtain ⟨h1, h2⟩ := w.in q1 (by decide)
      have ha := wo_at (n0 := n0) (dA := dA) h1 h2
      rw [ce_int q1 (Or.inl rfl)] at ha
      exact va_iald hx hb hK hP (x - 1) 0 ha rfl q2 hd (k LS H locs cells slots hl hW hS hc hs)
    · cases e2
      rw [hL] at q2
      have k2 := k LS H locs cells slots hl hW hS hc hs
      rw [hxs] at k2
      exact va_sld hx hb hX hbb.1 (fun q => by have := hbb.2; omega) hS q2 hd k2
  | baload =>
    obtain rfl := len_of hlen rfl rfl
    obtain ⟨i, x, r, rfl, ⟨q1, q2⟩, e2⟩ := xbaload_i hex
    cases e2
    rcases q1 with q1 | q1
    · obtain ⟨h1, h2⟩ := w.in q1 (by decide)
      have ha := wo_at (n0 := n0) (dA := dA) h1 h2
      rw [ce_int q1 (Or.inr (Or.inl rfl))] at ha
      exact va_bald hx hb hK hP (x - 1) 2 ha rfl q2 hd (k LS H locs cells slots hl hW hS hc hs)
    · obtain ⟨h1, h2⟩ := w.in q1 (by decide)
      have ha := wo_at (n0 := n0) (dA := dA) h1 h2
      rw [ce_int q1 (Or.inr (Or.inr rfl))] at ha
      exact va_zald hx hb hK hP (x - 1) 3 ha rfl q2 hd (k LS H locs cells slots hl hW hS hc hs)
  | laload =>
    obtain rfl := len_of hlen rfl rfl
    obtain ⟨i, x, r, rfl, ⟨q1, q2⟩, e2⟩ := xlaload_i hex
    cases e2
    obtain ⟨h1, h2⟩ := w.in q1 (by decide)
    have ha := wo_at (n0 := n0) (dA := dA) h1 h2
    rw [ce_long q1] at ha
    exact va_lald hx hb hK hP (x - 1) 1 ha rfl q2 hd (k LS H locs cells slots hl hW hS hc hs)
  | aaload =>
    obtain rfl := len_of hlen rfl rfl
    obtain ⟨i, x, r, rfl, ⟨⟨q0, q1⟩, q2⟩, e2⟩ := xaaload_i hex
    cases e2
    have k2 := k LS H locs cells slots hl hW hS hc hs
    rw [List.map_cons, sh_rf] at k2
    rcases (show (hk h x).1 = 24 ∨ (hk h x).1 = 25 ∨ (hk h x).1 = 26 by omega) with q1 | q1 | q1
    · obtain ⟨h1, h2⟩ := w.in q1 (by decide)
      have ha := wo_at (n0 := n0) (dA := dA) h1 h2
      rw [ce_ref q1 (by decide)] at ha
      exact va_aldq hx hb hK hP (x - 1) 4 ha rfl q2 hd k2
    · obtain ⟨h1, h2⟩ := w.in q1 (by decide)
      have ha := wo_at (n0 := n0) (dA := dA) h1 h2
      rw [ce_ref q1 (by decide)] at ha
      exact va_aldq hx hb hK hP (x - 1) 5 ha rfl q2 hd k2
    · obtain ⟨h1, h2⟩ := w.in q1 (by decide)
      have ha := wo_at (n0 := n0) (dA := dA) h1 h2
      rw [ce_ref q1 (by decide)] at ha
      exact va_aldq hx hb hK hP (x - 1) 6 ha rfl q2 hd k2
  | iastore =>
    obtain rfl := len_of hlen rfl rfl
    obtain ⟨y, i, x, r, rfl, ⟨q1, q2⟩, e2⟩ := xiastore_i hex
    cases e2
    obtain ⟨h1, h2⟩ := w.in q1 (by decide)
    have ha := wo_at (n0 := n0) (dA := dA) h1 h2
    rw [ce_int q1 (Or.inl rfl)] at ha
    refine va_iast hx hb hK hP hD hS (x - 1) 0 ha rfl q2 hd (fun H1 locs1 hP1 _ hS1 => k LS H1 locs1 cells slots hl (Wd_up w rfl rfl h1 h2 hL ?_ (fun j hj => ce_cong rfl ?_ rfl rfl) ?_ hP1) hS1 hc hs)
    · rw [gI_sI, if_neg (by omega)]; exact hxs
    · rw [gI_sI, if_neg hj]
    · rw [ce_int (h := sI h x i.toNatClampNeg y) q1 (Or.inl rfl), gI_sI, if_pos rfl]; rfl
  | bastore =>
    obtain rfl := len_of hlen rfl rfl
    obtain ⟨y, i, x, r, rfl, ⟨q1, q2⟩, e2⟩ := xbastore_i hex
    cases e2
    rcases q1 with q1 | q1
    · rw [if_pos q1] at k
      obtain ⟨h1, h2⟩ := w.in q1 (by decide)
      have ha := wo_at (n0 := n0) (dA := dA) h1 h2
      rw [ce_int q1 (Or.inr (Or.inl rfl))] at ha
      refine va_bast hx hb hK hP hD hS (x - 1) 2 ha rfl q2 hd (fun H1 locs1 hP1 _ hS1 => k LS H1 locs1 cells slots hl (Wd_up w rfl rfl h1 h2 hL ?_ (fun j hj => ce_cong rfl ?_ rfl rfl) ?_ hP1) hS1 hc hs)
      · rw [gI_sI, if_neg (by omega)]; exact hxs
      · rw [gI_sI, if_neg hj]
      · rw [ce_int (h := sI h x i.toNatClampNeg (vp_nar .byte y)) q1 (Or.inr (Or.inl rfl)), gI_sI, if_pos rfl]; rfl
    · rw [if_neg (by omega)] at k
      obtain ⟨h1, h2⟩ := w.in q1 (by decide)
      have ha := wo_at (n0 := n0) (dA := dA) h1 h2
      rw [ce_int q1 (Or.inr (Or.inr rfl))] at ha
      refine va_zast hx hb hK hP hD hS (x - 1) 3 ha rfl q2 hd (fun H1 locs1 hP1 _ hS1 => k LS H1 locs1 cells slots hl (Wd_up w rfl rfl h1 h2 hL ?_ (fun j hj => ce_cong rfl ?_ rfl rfl) ?_ hP1) hS1 hc hs)
      · rw [gI_sI, if_neg (by omega)]; exact hxs
      · rw [gI_sI, if_neg hj]
      · rw [ce_int (h := sI h x i.toNatClampNeg (vp_nar .boolean y)) q1 (Or.inr (Or.inr rfl)), gI_sI, if_pos rfl]; rfl
  | lastore =>
    obtain rfl := len_of hlen rfl rfl
    obtain ⟨y, i, x, r, rfl, ⟨q1, q2⟩, e2⟩ := xlastore_i hex
    cases e2
    obtain ⟨h1, h2⟩ := w.in q1 (by decide)
    have ha := wo_at (n0 := n0) (dA := dA) h1 h2
    rw [ce_long q1] at ha
    refine va_last hx hb hK hP hD hS (x - 1) 1 ha rfl q2 hd (fun H1 locs1 hP1 _ hS1 => k LS H1 locs1 cells slots hl (Wd_up w rfl rfl h1 h2 hL hxs (fun j hj => ce_cong rfl rfl ?_ rfl) ?_ hP1) hS1 hc hs)
    · rw [gJ_sJ, if_neg hj]
    · rw [ce_long (h := sJ h x i.toNatClampNeg y) q1, gJ_sJ, if_pos rfl]; rfl
  | aastore =>
    obtain rfl := len_of hlen rfl rfl
    have key : ∀ (z : Option Nat) (f : Nat → Option Nat) (j : Nat), (fun i => (va_up f j z i).map (fun x => n0 + x)) = va_up (fun i => (f i).map (fun x => n0 + x)) j (z.map (fun x => n0 + x)) := by
      intro z f j
      funext i
      unfold va_up
      split <;> rfl
    rcases xaastore_i (kd := hk h) (wk := fun _ _ => true) hex with ⟨y, i, x, r, rfl, ⟨⟨q0, q1⟩, q2, q3, -⟩, e2⟩ | ⟨i, x, r, rfl, ⟨⟨q0, q1⟩, q2, -⟩, e2⟩
    · cases e2
      rcases (show (hk h x).1 = 24 ∨ (hk h x).1 = 25 ∨ (hk h x).1 = 26 by omega) with q1 | q1 | q1
      · obtain ⟨h1, h2⟩ := w.in q1 (by decide)
        have ha := wo_at (n0 := n0) (dA := dA) h1 h2
        rw [ce_ref q1 (by decide)] at ha
        have q3 : (hk h y).1 = 7 := by rw [q3, q1]; rfl
        obtain ⟨g1, g2⟩ := w.in q3 (by decide)
        have hb2 := wo_at (n0 := n0) (dA := dA) g1 g2
        rw [ce_obj q3 (by decide)] at hb2
        refine va_astq (r := (cS 7, fT 7, nF 7)) hx hb hK hP hD hS (x - 1) 4 (y - 1) 7 ha rfl hb2 (vcl_at 7 (by decide)) q2 hd (fun H1 locs1 hP1 _ hS1 => k LS H1 locs1 cells slots hl (Wd_up w rfl rfl h1 h2 hL hxs (fun j hj => ce_cong rfl rfl rfl ?_) ?_ hP1) hS1 hc hs)
        · rw [gP_sP, if_neg hj]
        · rw [ce_ref (h := sP h x i.toNatClampNeg (some y)) q1 (by decide), gP_sP, if_pos rfl, key]; rfl
      · obtain ⟨h1, h2⟩ := w.in q1 (by decide)
        have ha := wo_at (n0 := n0) (dA := dA) h1 h2
        rw [ce_ref q1 (by decide)] at ha
        have q3 : (hk h y).1 = 9 := by rw [q3, q1]; rfl
        obtain ⟨g1, g2⟩ := w.in q3 (by decide)
        have hb2 := wo_at (n0 := n0) (dA := dA) g1 g2
        rw [ce_obj q3 (by decide)] at hb2
        refine va_astq (r := (cS 9, fT 9, nF 9)) hx hb hK hP hD hS (x - 1) 5 (y - 1) 9 ha rfl hb2 (vcl_at 9 (by decide)) q2 hd (fun H1 locs1 hP1 _ hS1 => k LS H1 locs1 cells slots hl (Wd_up w rfl rfl h1 h2 hL hxs (fun j hj => ce_cong rfl rfl rfl ?_) ?_ hP1) hS1 hc hs)
        · rw [gP_sP, if_neg hj]
        · rw [ce_ref (h := sP h x i.toNatClampNeg (some y)) q1 (by decide), gP_sP, if_pos rfl, key]; rfl
      · obtain ⟨h1, h2⟩ := w.in q1 (by decide)
        have ha := wo_at (n0 := n0) (dA := dA) h1 h2
        rw [ce_ref q1 (by decide)] at ha
        have q3 : (hk h y).1 = 4 := by rw [q3, q1]; rfl
        obtain ⟨g1, g2⟩ := w.in q3 (by decide)
        have hb2 := wo_at (n0 := n0) (dA := dA) g1 g2
        rw [ce_obj q3 (by decide)] at hb2
        refine va_astq (r := (cS 4, fT 4, nF 4)) hx hb hK hP hD hS (x - 1) 6 (y - 1) 4 ha rfl hb2 (vcl_at 4 (by decide)) q2 hd (fun H1 locs1 hP1 _ hS1 => k LS H1 locs1 cells slots hl (Wd_up w rfl rfl h1 h2 hL hxs (fun j hj => ce_cong rfl rfl rfl ?_) ?_ hP1) hS1 hc hs)
        · rw [gP_sP, if_neg hj]
        · rw [ce_ref (h := sP h x i.toNatClampNeg (some y)) q1 (by decide), gP_sP, if_pos rfl, key]; rfl
    · cases e2
      obtain ⟨h1, h2⟩ := w.in (k := (hk h x).1) rfl (by omega)
      have ha := wo_at (n0 := n0) (dA := dA) h1 h2
      rw [ce_ref rfl q0] at ha
      have fin : ∀ (tt : Nat) (C : String), (tysA dA)[tt]? = some (dA (hk h x).1, .object C) → W p l e R s m args below meth c H locs cells slots QQ (F0 m pc LS ((Value.null :: .int i :: .ref x :: st').map (sh n0 b adK))) := by
        intro tt C htt
        refine va_astqN hx hb hK hP hD hS (x - 1) tt ha htt q2 hd (fun H1 locs1 hP1 _ hS1 => k LS H1 locs1 cells slots hl (Wd_up w rfl rfl h1 h2 hL hxs (fun j hj => ce_cong rfl rfl rfl ?_) ?_ hP1) hS1 hc hs)
        · rw [gP_sP, if_neg hj]
        · rw [ce_ref (h := sP h x i.toNatClampNeg none) rfl q0, gP_sP, if_pos rfl, key]; rfl
      rcases (show (hk h x).1 = 24 ∨ (hk h x).1 = 25 ∨ (hk h x).1 = 26 by omega) with q1 | q1 | q1
      · exact fin 4 (cS 7) (by rw [q1]; rfl)
      · exact fin 5 (cS 9) (by rw [q1]; rfl)
      · exact fin 6 (cS 4) (by rw [q1]; rfl)
  | arraylength =>
    obtain rfl := len_of hlen rfl rfl
    rcases xalen_i hex with ⟨x, r, rfl, ⟨q0, q1⟩, e2⟩ | ⟨r, rfl, e2⟩
    · cases e2
      have k2 := k LS H locs cells slots hl hW hS hc hs
      rcases (show (hk h x).1 = 21 ∨ (hk h x).1 = 20 ∨ (hk h x).1 = 22 ∨ (hk h x).1 = 23 ∨ (hk h x).1 = 24 ∨ (hk h x).1 = 25 ∨ (hk h x).1 = 26 by omega) with q1 | q1 | q1 | q1 | q1 | q1 | q1
      · obtain ⟨h1, h2⟩ := w.in q1 (by decide)
        have ha := wo_at (n0 := n0) (dA := dA) h1 h2
        rw [ce_long q1] at ha
        exact va_alen hx hb hK hP (x - 1) 1 ha rfl rfl hd k2
      · obtain ⟨h1, h2⟩ := w.in q1 (by decide)
        have ha := wo_at (n0 := n0) (dA := dA) h1 h2
        rw [ce_int q1 (Or.inl rfl)] at ha
        exact va_alen hx hb hK hP (x - 1) 0 ha rfl rfl hd k2
      · obtain ⟨h1, h2⟩ := w.in q1 (by decide)
        have ha := wo_at (n0 := n0) (dA := dA) h1 h2
        rw [ce_int q1 (Or.inr (Or.inl rfl))] at ha
        exact va_alen hx hb hK hP (x - 1) 2 ha rfl rfl hd k2
      · obtain ⟨h1, h2⟩ := w.in q1 (by decide)
        have ha := wo_at (n0 := n0) (dA := dA) h1 h2
        rw [ce_int q1 (Or.inr (Or.inr rfl))] at ha
        exact va_alen hx hb hK hP (x - 1) 3 ha rfl rfl hd k2
      · obtain ⟨h1, h2⟩ := w.in q1 (by decide)
        have ha := wo_at (n0 := n0) (dA := dA) h1 h2
        rw [ce_ref q1 (by decide)] at ha
        exact va_alen hx hb hK hP (x - 1) 4 ha rfl rfl hd k2
      · obtain ⟨h1, h2⟩ := w.in q1 (by decide)
        have ha := wo_at (n0 := n0) (dA := dA) h1 h2
        rw [ce_ref q1 (by decide)] at ha
        exact va_alen hx hb hK hP (x - 1) 5 ha rfl rfl hd k2
      · obtain ⟨h1, h2⟩ := w.in q1 (by decide)
        have ha := wo_at (n0 := n0) (dA := dA) h1 h2
        rw [ce_ref q1 (by decide)] at ha
        exact va_alen hx hb hK hP (x - 1) 6 ha rfl rfl hd k2
    · cases e2
      have k2 := k LS H locs cells slots hl hW hS hc hs
      rw [hL] at k2
      exact va_slen hx hb hX hbb.1 (fun q => by have := hbb.2; omega) hS hd k2
  | _ => cases hkind
end S3
