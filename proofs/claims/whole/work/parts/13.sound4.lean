/-! fields, what is made, the calls that are one step here -/
theorem rdf_fv {n0 b : Nat} {adK : Nat → Nat} {h : Hp} {c x k : Nat} (hle : tcd (fy c k) ≤ 3) : sh n0 b adK (rdf (gP h) h (tcd (fy c k)) x k) = fv n0 h c x k := by
  unfold rdf fv
  by_cases h1 : tcd (fy c k) ≤ 1
  · rw [if_pos h1, if_pos h1]; rfl
  · rw [if_neg h1, if_neg h1]
    by_cases h2 : tcd (fy c k) = 2
    · rw [if_pos h2, if_pos h2]; rfl
    · rw [if_neg h2, if_neg h2, sh_rf]
theorem fv_sI {n0 : Nat} {h : Hp} {c x k j : Nat} {y : Int32} : fv n0 (sI h x k y) c x j = if j = k ∧ tcd (fy c j) ≤ 1 then .int y else fv n0 h c x j := by
  have e : gI (sI h x k y) x j = if j = k then y else gI h x j := by
    rw [gI_sI, if_pos rfl]; rfl
  unfold fv
  show (if tcd (fy c j) ≤ 1 then Value.int (gI (sI h x k y) x j) else if tcd (fy c j) = 2 then .long (gJ h x j) else va_rf ((gP h x j).map (fun x => n0 + x))) = _
  rw [e]
  by_cases h1 : tcd (fy c j) ≤ 1
  · rw [if_pos h1, if_pos h1]
    by_cases h2 : j = k
    · rw [if_pos h2, if_pos ⟨h2, h1⟩]
    · rw [if_neg h2, if_neg (fun q => h2 q.1)]
  · rw [if_neg h1, if_neg h1, if_neg (show ¬ (j = k ∧ tcd (fy c j) ≤ 1) from fun q => h1 q.2)]
theorem fv_sJ {n0 : Nat} {h : Hp} {c x k j : Nat} {y : Int64} : fv n0 (sJ h x k y) c x j = if j = k ∧ tcd (fy c j) = 2 then .long y else fv n0 h c x j := by
  have e : gJ (sJ h x k y) x j = if j = k then y else gJ h x j := by
    rw [gJ_sJ, if_pos rfl]; rfl
  unfold fv
  show (if tcd (fy c j) ≤ 1 then Value.int (gI h x j) else if tcd (fy c j) = 2 then .long (gJ (sJ h x k y) x j) else va_rf ((gP h x j).map (fun x => n0 + x))) = _
  rw [e]
  by_cases h1 : tcd (fy c j) ≤ 1
  · rw [if_pos h1, if_pos h1, if_neg (fun q => by omega)]
  · rw [if_neg h1, if_neg h1]
    by_cases h3 : tcd (fy c j) = 2
    · rw [if_pos h3, if_pos h3]
      by_cases h2 : j = k
      · rw [if_pos h2, if_pos ⟨h2, h3⟩]
      · rw [if_neg h2, if_neg (fun q => h2 q.1)]
    · rw [if_neg h3, if_neg h3, if_neg (fun q => h3 q.2)]
theorem fv_sP {n0 : Nat} {h : Hp} {c x k j : Nat} {y : Option Nat} : fv n0 (sP h x k y) c x j = if j = k ∧ 3 ≤ tcd (fy c j) then va_rf (y.map (fun x => n0 + x)) else fv n0 h c x j := by
  have e : gP (sP h x k y) x j = if j = k then y else gP h x j := by
    rw [gP_sP, if_pos rfl]; rfl
  unfold fv
  show (if tcd (fy c j) ≤ 1 then Value.int (gI h x j) else if tcd (fy c j) = 2 then .long (gJ h x j) else va_rf ((gP (sP h x k y) x j).map (fun x => n0 + x))) = _
  rw [e]
  by_cases h1 : tcd (fy c j) ≤ 1
  · rw [if_pos h1, if_pos h1, if_neg (fun q => by omega)]
  · rw [if_neg h1, if_neg h1]
    by_cases h3 : tcd (fy c j) = 2
    · rw [if_pos h3, if_pos h3, if_neg (fun q => by omega)]
    · rw [if_neg h3, if_neg h3]
      by_cases h2 : j = k
      · rw [if_pos h2, if_pos ⟨h2, by omega⟩]
      · rw [if_neg h2, if_neg (fun q => h2 q.1)]
theorem nar_ok {ty : FieldType} {v : Value} (h : (tcd ty = 0 ∧ ∃ x, v = .int x) ∨ (tcd ty = 1 ∧ (v = .int 0 ∨ v = .int 1)) ∨ (tcd ty = 2 ∧ ∃ x, v = .long x) ∨ (tcd ty = 3 ∧ ∃ r, v = va_rf r)) : narrow ty v = v ∧ fits ty v = true := by
  rcases h with ⟨h, x, rfl⟩ | ⟨h, rfl | rfl⟩ | ⟨h, x, rfl⟩ | ⟨h, r, rfl⟩
  · cases ty <;> first | exact ⟨rfl, rfl⟩ | (simp [tcd] at h; done)
  · cases ty <;> first | (simp [tcd] at h; done) | exact ⟨by decide, by decide⟩
  · cases ty <;> first | (simp [tcd] at h; done) | exact ⟨by decide, by decide⟩
  · cases ty <;> first | exact ⟨rfl, rfl⟩ | (simp [tcd] at h; done)
  · cases ty <;> cases r <;> first | exact ⟨rfl, rfl⟩ | (simp [tcd] at h; done)
theorem fs_at {n0 : Nat} {h : Hp} {c x k n : Nat} (hk : k < n) : ((List.range n).map (fun j => fv n0 h c x j))[k]? = some (fv n0 h c x k) := by
  rw [List.getElem?_map, List.getElem?_range hk]; rfl
section S4
variable {p : Program} {l : Launch} {e : Env} {R : Room} {s : State} {m : MethodId} {args : Array Value} {below : List Frame} {meth : Method} {c : Code} {QQ : State → Prop}
variable {n0 b L : Nat} {xs : Nat → Int32} {adK adV : Nat → Nat} {dA : Nat → ClassId} {D : va_G} {M pc : Nat} {ls st : List Value} {h h0 : Hp} {pc' : Nat} {ls' st' : List Value} {h' : Hp}
set_option maxHeartbeats 4000000 in
set_option maxRecDepth 100000 in
theorem sd_4 {ins : Instr} {len a bb t pl : Nat} {v : Int} (hx : p.tables.exec = Jvm.exec) (hb : c.code = bM M) (hml : c.maxLocals = lM M) (hown : s.vm.findClass (cS (oM M)) = some m.cls) (hnm : kM M = 2 → meth.name = "<init>") (hts : ∀ w ∈ gtb, w.before args s = true) (hE : EvK n0 b L xs adK adV dA D s)
    (hd : decode (bM M) pc = .ok (ins, len)) (hoe : okE (oM M) (wM M) pc (ins, len, a, bb, t, pl, v) = true) (hck : ckE M (ins, len, a, bb, t, pl, v) ls.length = true)
    (hex : exi (hk h) (gP h) (fun _ _ => true) (ins, len, a, bb, t, pl, v) (rM M) pc ls st h = some (.inl (pc', ls', st', h'))) (k : KK p l e R s m args below meth c QQ n0 b L xs adK dA D M h0 pc' ls' st' h')
    (hkind : (match ins with | .getfield _ | .putfield _ => true | _ => false) = true) : KK p l e R s m args below meth c QQ n0 b L xs adK dA D M h0 pc ls st h := by
  intro LS H locs cells slots hl hW hS hc hs
  unfold ckE at hck
  simp only [Bool.and_eq_true, Bool.or_eq_true] at hck
  obtain ⟨hlen, hin, hfi⟩ := hck
  have hlen : len = ilen ins ∨ isSw ins = true := hlen.imp Nat.eq_of_beq_eq_true id
  obtain ⟨w, hL, hxs, hP⟩ := id hW
  have hD := wo_D n0 dA h
  have hK := hE.1
  cases ins with
  | getfield i =>
    obtain rfl := len_of hlen rfl rfl
    have hoe : FW.contains (oM M, i, a, bb) = true ∧ Nat.beq (tcd (fy a bb)) t = true := (Bool.and_eq_true _ _).mp hoe
    have hfw := cnt4 hoe.1
    have ht := Nat.eq_of_beq_eq_true hoe.2
    subst ht
    have hab := List.all_eq_true.mp FW_k _ hfw
    have hab : a < 13 ∧ bb < nF a := ⟨Nat.le_of_ble_eq_true ((Bool.and_eq_true _ _).mp hab).1, Nat.le_of_ble_eq_true ((Bool.and_eq_true _ _).mp hab).2⟩
    obtain ⟨x, r, rfl, q1, e2⟩ := xget_i hex
    cases e2
    obtain ⟨h1, h2⟩ := w.in q1 (by omega)
    have ha := wo_at (n0 := n0) (dA := dA) h1 h2
    rw [ce_obj q1 hab.1] at ha
    have hn : (hk h x).2 = nF a := by rw [← q1]; exact w.2.2 x (by rw [q1]; exact hab.1)
    have k2 := k LS H locs cells slots hl hW hS hc hs
    rw [List.map_cons, rdf_fv (tcd_le a hab.1 bb hab.2)] at k2
    exact va_get (ref := cS a) hx hb hts (u_ws_in a hab.1) hown hK hP (x - 1) ha (vcl_at a hab.1) bb hab.2 (hts _ (gtb_in (FW_in hfw) rfl)) (fun y hy => by rw [fT_own a hab.1 bb hab.2] at hy; exact hy) (fs_at (by rw [hn]; exact hab.2)) hd k2
  | putfield i =>
    obtain rfl := len_of hlen rfl rfl
    have hoe : FW.contains (oM M, i, a, bb) = true ∧ Nat.beq (tcd (fy a bb)) t = true := (Bool.and_eq_true _ _).mp hoe
    have hfw := cnt4 hoe.1
    have ht := Nat.eq_of_beq_eq_true hoe.2
    subst ht
    have hab := List.all_eq_true.mp FW_k _ hfw
    have hab : a < 13 ∧ bb < nF a := ⟨Nat.le_of_ble_eq_true ((Bool.and_eq_true _ _).mp hab).1, Nat.le_of_ble_eq_true ((Bool.and_eq_true _ _).mp hab).2⟩
    obtain ⟨vv, x, r, h2', rfl, q1, e2, q3⟩ := xput_i (kd := hk h) (wk := fun _ _ => true) hex
    cases e2
    obtain ⟨h1, h2⟩ := w.in q1 (by omega)
    have ha := wo_at (n0 := n0) (dA := dA) h1 h2
    rw [ce_obj q1 hab.1] at ha
    have hn : (hk h x).2 = nF a := by rw [← q1]; exact w.2.2 x (by rw [q1]; exact hab.1)
    -- the value fits, and the world behind it
    have hfit : narrow (fy a bb) (sh n0 b adK vv) = sh n0 b adK vv ∧ fits (fy a bb) (sh n0 b adK vv) = true := by
      refine nar_ok ?_
      rcases q3 with ⟨y, rfl, q4 | ⟨q4, q5 | q5⟩, -⟩ | ⟨y, rfl, q4, -⟩ | ⟨y, rfl, ⟨q4, -⟩, -⟩
      · exact Or.inl ⟨q4, y, rfl⟩
      · exact Or.inr (Or.inl ⟨q4, Or.inl (by rw [q5]; rfl)⟩)
      · exact Or.inr (Or.inl ⟨q4, Or.inr (by rw [q5]; rfl)⟩)
      · exact Or.inr (Or.inr (Or.inl ⟨q4, y, rfl⟩))
      · exact Or.inr (Or.inr (Or.inr ⟨q4, _, sh_rf n0 b adK y⟩))
    have hnew : hz h' = hz h ∧ hu h' = hu h ∧ hk h' = hk h ∧ gI h' 0 = xs ∧ (∀ j, j ≠ x → ce n0 dA h' j = ce n0 dA h j) ∧ ce n0 dA h' x = .inr (a, ((List.range (hk h x).2).map (fun j => fv n0 h a x j)).set bb (sh n0 b adK vv)) := by
      rcases q3 with ⟨y, rfl, q4, rfl⟩ | ⟨y, rfl, q4, rfl⟩ | ⟨y, rfl, ⟨q4, -⟩, rfl⟩
      · have q5 : tcd (fy a bb) ≤ 1 := by rcases q4 with q | ⟨q, -⟩ <;> omega
        refine ⟨rfl, rfl, rfl, by rw [gI_sI, if_neg (by omega)]; exact hxs, fun j hj => ce_cong rfl (by rw [gI_sI, if_neg hj]) rfl rfl, ?_⟩
        rw [ce_obj (h := sI h x bb y) q1 hab.1]
        rw [fs_set (h' := sI h x bb y) (by rw [hn]; exact hab.2) (by rw [fv_sI, if_pos ⟨rfl, q5⟩]; rfl) (fun j hj => by rw [fv_sI, if_neg (fun q => hj q.1)])]
        rfl
      · refine ⟨rfl, rfl, rfl, hxs, fun j hj => ce_cong rfl rfl (by rw [gJ_sJ, if_neg hj]) rfl, ?_⟩
        rw [ce_obj (h := sJ h x bb y) q1 hab.1]
        rw [fs_set (h' := sJ h x bb y) (by rw [hn]; exact hab.2) (by rw [fv_sJ, if_pos ⟨rfl, q4⟩]; rfl) (fun j hj => by rw [fv_sJ, if_neg (fun q => hj q.1)])]
        rfl
      · refine ⟨rfl, rfl, rfl, hxs, fun j hj => ce_cong rfl rfl rfl (by rw [gP_sP, if_neg hj]), ?_⟩
        rw [ce_obj (h := sP h x bb y) q1 hab.1]
        rw [fs_set (h' := sP h x bb y) (by rw [hn]; exact hab.2) (by rw [fv_sP, if_pos ⟨rfl, by omega⟩, sh_rf]) (fun j hj => by rw [fv_sP, if_neg (fun q => hj q.1)])]
        rfl
    obtain ⟨n1, n2, n3, n4, n5, n6⟩ := hnew
    have kk : ∀ (H1 : Heap) (locs1 : List Loc), va_P D vcl ((wo n0 dA h).set (x - 1) (n0 + x, .inr (a, ((List.range (hk h x).2).map (fun j => fv n0 h a x j)).set bb (sh n0 b adK vv)))) H1 → va_D (AA n0) ((wo n0 dA h).set (x - 1) (n0 + x, .inr (a, ((List.range (hk h x).2).map (fun j => fv n0 h a x j)).set bb (sh n0 b adK vv)))) → va_S (AA n0) s.heap H1 locs1 → W p l e R s m args below meth c H1 locs1 cells slots QQ (F0 m (pc + 3) LS (st'.map (sh n0 b adK))) := fun H1 locs1 hP1 _ hS1 => k LS H1 locs1 cells slots hl (Wd_up w n1 n3 h1 h2 hL n4 n5 n6 hP1) hS1 (by rw [n1]; exact hc) (by rw [n2]; exact hs)
    have hlt : bb < ((List.range (hk h x).2).map (fun j => fv n0 h a x j)).length := by simp; rw [hn]; exact hab.2
    have hsame : ∀ y, s.fieldFound? (fT a bb).1 (fT a bb).2.1 (fT a bb).2.2.1 = some y → s.fieldFound? (cS a) (fT a bb).2.1 (fT a bb).2.2.1 = some y := fun y hy => by rw [fT_own a hab.1 bb hab.2] at hy; exact hy
    cases hf : (fT a bb).2.2.2 with
    | false => exact va_put (ref := cS a) hx hb hts (u_ws_in a hab.1) (fy a) (fy_ok a hab.1) (fT_nm a hab.1) hown hK hP hD hS (x - 1) ha (vcl_at a hab.1) bb hab.2 (hts _ (gtb_in (FW_in hfw) rfl)) hsame hf (fy_ok a hab.1 bb hab.2) hfit.1 hfit.2 hlt hd kk
    | true =>
      have hfi : (!(fT a bb).2.2.2 || (Nat.beq (kM M) 2 && Nat.beq a (oM M))) = true := hfi
      rw [hf] at hfi
      have hfi : Nat.beq (kM M) 2 = true ∧ Nat.beq a (oM M) = true := (Bool.and_eq_true _ _).mp hfi
      exact va_putF (ref := cS a) hx hb hts (u_ws_in a hab.1) (fy a) (fy_ok a hab.1) (fT_nm a hab.1) hown hK hP hD hS (x - 1) ha (vcl_at a hab.1) bb hab.2 (hts _ (gtb_in (FW_in hfw) rfl)) hsame hf (hnm (Nat.eq_of_beq_eq_true hfi.1)) (by rw [fT_own a hab.1 bb hab.2, Nat.eq_of_beq_eq_true hfi.2]) (fy_ok a hab.1 bb hab.2) hfit.1 hfit.2 hlt hd kk
  | _ => cases hkind
end S4
