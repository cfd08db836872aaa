/-! the abstract machine's runs are the machine's -/
theorem om1 {cells c0 z z1 zF R : Nat} (h1 : cells + c0 = z) (h2 : z ≤ z1) (h3 : z1 ≤ zF) (h4 : zF ≤ R + c0) : cells + (z1 - z) ≤ R ∧ cells + (z1 - z) + c0 = z1 := by omega
theorem om2 {hs ns cells c0 z H : Nat} (h1 : H ≤ hs + cells) (h2 : hs = ns + c0) (h3 : cells + c0 = z) (h4 : ns + z ≤ H) : H = ns + z := by omega
theorem om3 {q w : Nat} (h : q + 1 = w) {v : Nat} (h2 : v + 1 = w) : v = q := by omega
theorem om4 {a : Nat} (h : Nat.beq a 0 = true) (h2 : 3 ≤ a) : False := by have := Nat.eq_of_beq_eq_true h; omega
set_option maxRecDepth 100000 in
theorem om7 {dd lo : Nat} (h : 60 * (dd + 8) ≤ lo) : 60 ≤ lo ∧ 480 ≤ lo := by
  have e : 60 * (dd + 8) = 60 * dd + 480 := by rw [Nat.mul_add]
  rw [e] at h
  generalize 60 * dd = kk at h
  omega
section S11
variable {n0 b L : Nat} {xs : Nat → Int32} {adK adV : Nat → Nat} {dA : Nat → ClassId} {D : va_G} {l : Launch}
theorem head_of {w : List Value} {x : Nat} (h : w.head? = some (.ref x)) : ∃ wt, w = .ref x :: wt := by
  cases w with
  | nil => cases h
  | cons z zs => cases h; exact ⟨zs, rfl⟩
theorem v_obj {a : Nat} (haq : a ∈ QW) (hka : kM a = 1) : oM a < 13 := by
  have h9 := List.all_eq_true.mp QW_v a haq
  rw [hka] at h9
  exact Nat.le_of_ble_eq_true h9
theorem i_void {a : Nat} (haq : a ∈ QW) (hka : kM a = 2) : rM a = none := by
  have h9 := List.all_eq_true.mp init_void a haq
  rw [hka] at h9
  have h9 : (match rM a with | none => true | _ => false) = true := h9
  cases hq9 : rM a with
  | none => rfl
  | some ty => rw [hq9] at h9; cases h9
theorem len_tk {t : Nat} {st : List Value} (h : t ≤ st.length) : (((st.take t).reverse).map (sh n0 b adK)).length = t := by simp; omega
theorem stk_2 {x : Nat} {wt rest : List Value} : ((Value.ref x :: wt).map (sh n0 b adK)).reverse ++ rest = (wt.map (sh n0 b adK)).reverse ++ .ref (n0 + x) :: rest := by
  show (sh n0 b adK (.ref x) :: wt.map (sh n0 b adK)).reverse ++ _ = _
  rw [List.reverse_cons, List.append_assoc]
  rfl
section CK
variable {p : Program} {e : Env} {R : Room} {s : State} {m : MethodId} {args : Array Value} {below : List Frame} {meth : Method} {c : Code} {QQ : State → Prop} {H : Heap} {locs : List Loc} {cells slots : Nat}
variable {M a i pc n d' t bb len : Nat} {ls st : List Value} {h h0 h1 hF : Hp} {r r1 : Option Value} {LS : Array Slot}
/-- behind a call the run goes on -/
theorem c_goes (hS : va_S (AA n0) s.heap H locs) (hl : lrep n0 b adK (lM M) (wM M) ls LS) (hc : cells + hz h0 = hz h) (hs : slots + hu h0 = hu h) (g1 : Gr h h1)
    (kcont : KK p l e R s m args below meth c QQ n0 b L xs adK dA D M h0 (pc + 3) ls (r1.toList ++ st.drop t) h1) {aa : Array Value}
    (hrun : va_Run p l e R s m args below meth c H locs cells slots (hz h1 - hz h) (hu h1 - hu h) (F0 m pc LS (st.map (sh n0 b adK))) ((st.drop t).map (sh n0 b adK)) (QcM n0 b L xs adK dA D r1 h1 aa) (AA n0)) : W p l e R s m args below meth c H locs cells slots QQ (F0 m pc LS (st.map (sh n0 b adK))) := by
  refine iv_run hrun hS (fun H1 locs1 hW1 hS1 => ?_)
  have k2 := kcont LS H1 locs1 (cells + (hz h1 - hz h)) (slots + (hu h1 - hu h)) hl hW1 hS1 (om1 hc g1.1 (Nat.le_refl _) (Nat.le_add_right _ _)).2 (om1 hs g1.2 (Nat.le_refl _) (Nat.le_add_right _ _)).2
  have e5 : (r1.toList ++ st.drop t).map (sh n0 b adK) = (r1.map (sh n0 b adK)).toList ++ (st.drop t).map (sh n0 b adK) := by
    rw [List.map_append]
    cases r1 <;> rfl
  rw [e5] at k2
  exact k2
set_option maxHeartbeats 4000000 in
theorem snd_call {ins : Instr} {pl : Nat} {v : Int} (hx : p.tables.exec = Jvm.exec) (hb : c.code = bM M) (hml : c.maxLocals = lM M) (hown : s.vm.findClass (cS (oM M)) = some m.cls) (hts : ∀ w ∈ gtb, w.before args s = true) (hE : EvK n0 b L xs adK adV dA D s) (hz0 : s.heap.size = n0 + hz h0) (hz1 : 1 ≤ hz h0) (hRf : d' + 1 + 8 ≤ R.frames) (hRl : 60 * (d' + 1 + 8) ≤ R.locals) (hca1 : hz hF ≤ R.cells + hz h0) (hca2 : hu hF ≤ R.slots + hu h0)
    (ih : SndAt l n0 b L xs adK adV dA D n) (b1 : wpN false n d' a 0 (ent (lM a) (st.take t).reverse) [] h (eqP r1 h1)) (g1 : Gr h h1) (g2 : Gr h1 hF)
    (c1 : t ≤ st.length) (c2 : ((st.drop t).map fun v => v.category).sum ≤ 8) (c3 : argOk (wM a) 0 (st.take t).reverse = true) (c4 : (entL (st.take t).reverse).length ≤ lM a) (c5 : bb = 2 → ∃ x, (st.take t).reverse.head? = some (.ref x) ∧ (hk h x).1 = oM a) (c6 : 3 ≤ bb → ∃ x, (st.take t).reverse.head? = some (.ref x))
    (hd : decode (bM M) pc = .ok (ins, len)) (hlen : len = ilen ins ∨ isSw ins = true) (hi : ins = .invokestatic i ∨ ins = .invokevirtual i ∨ ins = .invokespecial i) (hb4 : bb ≤ 4) (hoe : okE (oM M) (wM M) pc (ins, len, a, bb, t, pl, v) = true)
    (kcont : KK p l e R s m args below meth c QQ n0 b L xs adK dA D M h0 (pc + 3) ls (r1.toList ++ st.drop t) h1) : KK p l e R s m args below meth c QQ n0 b L xs adK dA D M h0 pc ls st h := by
  intro LS H locs cells slots hl hW hS hc hs T hT X
  obtain ⟨w, hL, hxs, hP⟩ := id hW
  have hup := X.heapSize
  rw [hT] at hup
  have hsz : H.size = n0 + hz h := om2 hup hz0 hc (Wd_sz hW hS hz0 hz1)
  have haslen := len_tk (n0 := n0) (b := b) (adK := adK) c1
  have hff : cells + (hz h1 - hz h) ≤ R.cells ∧ slots + (hu h1 - hu h) ≤ R.slots := ⟨(om1 hc g1.1 g2.1 hca1).1, (om1 hs g1.2 g2.2 hca2).1⟩
  have hpre : ∀ U : State, U.heap = H → s.WarmedH U.vm → PcM n0 b L xs adK adV dA D (st.take t).reverse h (((st.take t).reverse).map (sh n0 b adK)).toArray U := fun U hU hWm => ⟨rfl, by rw [hU]; exact hW, hE.go hS hU hWm, by rw [hU]; exact hsz⟩
  have hwsum : (((st.drop t).map (sh n0 b adK)).map fun v => v.category).sum ≤ 8 := by rw [sum_sh]; exact c2
  have hstk : st.map (sh n0 b adK) = (((st.take t).reverse).map (sh n0 b adK)).reverse ++ (st.drop t).map (sh n0 b adK) := map_take
  have hm : a ∈ QW → Met l (yM a) (wsM a) (rmD d' (hz h1 - hz h) (hu h1 - hu h)) (PcM n0 b L xs adK adV dA D (st.take t).reverse h) (QcM n0 b L xs adK dA D r1 h1) (hz h1 - hz h) (hu h1 - hu h) (AA n0) := fun haq => met_of ih b1 haq c3 c4 w.1
  refine c_goes hS hl hc hs g1 kcont (aa := (((st.take t).reverse).map (sh n0 b adK)).toArray) ?_ T hT X
  clear hup X hT
  rcases hi with rfl | rfl | rfl
  · obtain rfl := len_of hlen rfl rfl
    simp only [okE, Bool.or_eq_true, Bool.and_eq_true] at hoe
    rcases hoe with (((⟨gg, gm, gk, ga⟩ | ⟨gg, gm, gk, ga⟩) | ⟨gg, -⟩) | ⟨gg, -⟩) | ⟨gg, -⟩
    · have haq : a ∈ QW := cnt (List.all_eq_true.mp MW_q _ (cnt3 gm))
      exact run_S hx hb hml hown hts (hm haq) (c_B hts haq (cnt3 gm) rfl hRf hRl) (hts (fSW a) (gtb_in (SW_in ((QW_all haq).2.2.2.2.1 (Nat.eq_of_beq_eq_true gk))) rfl)) hpre (haslen.trans (Nat.eq_of_beq_eq_true ga).symm) hl.1.1 hstk hwsum hd hff
    · have haq : a ∈ QW := cnt (List.all_eq_true.mp NW_q _ (cnt3 gm))
      exact run_SN hx hb hml hown hts (hm haq) (c_N hts haq (hE.2.1 (oM M, i, a) (cnt3 gm)) rfl hRf hRl) (hts (fSW a) (gtb_in (SW_in ((QW_all haq).2.2.2.2.1 (Nat.eq_of_beq_eq_true gk))) rfl)) hpre (haslen.trans (Nat.eq_of_beq_eq_true ga).symm) hl.1.1 hstk hwsum hd hff
    · rw [Nat.eq_of_beq_eq_true gg] at hb4; exact absurd hb4 (by decide)
    · rw [Nat.eq_of_beq_eq_true gg] at hb4; exact absurd hb4 (by decide)
    · rw [Nat.eq_of_beq_eq_true gg] at hb4; exact absurd hb4 (by decide)
  · obtain rfl := len_of hlen rfl rfl
    simp only [okE, Bool.or_eq_true, Bool.and_eq_true] at hoe
    rcases hoe with (⟨gg, gm, gk, ga⟩ | ⟨gg, -⟩) | ⟨gg | gg, -⟩
    · have haq : a ∈ QW := cnt (List.all_eq_true.mp MW_q _ (cnt3 gm))
      have hka := Nat.eq_of_beq_eq_true gk
      have hat := Nat.eq_of_beq_eq_true ga
      have hq := QW_all haq
      obtain ⟨x, hx0, hxk⟩ := c5 (Nat.eq_of_beq_eq_true gg)
      obtain ⟨as', has⟩ := head_of hx0
      rw [has] at hpre hstk haslen hm ⊢
      have hoa := v_obj haq hka
      obtain ⟨k1, k2⟩ := w.in hxk (Nat.ne_of_lt (Nat.lt_trans hoa (by decide)))
      have hat2 := wo_at (n0 := n0) (dA := dA) k1 k2
      rw [ce_obj hxk hoa] at hat2
      have hrec := va_recv hE.1 hP (vcl_at _ hoa) hat2
      have hrec2 : ∃ cell : Cell, H[n0 + x]? = some cell ∧ cell.vm.isStatics = false ∧ s.vm.findClass (yM a).cls = some cell.cls := by
        rw [yM_c hq.1]; exact hrec
      exact run_V hx hb hml hown hts (hm haq) (c_B hts haq (cnt3 gm) rfl hRf hRl) (hts (fIW a) (gtb_in (IW_in (hq.2.2.2.2.2.1 (by rw [hka]; decide))) rfl)) (hts (fEW a) (gtb_in (EW_in (hq.2.2.2.2.2.2 hka)) rfl)) hrec2 hpre (om3 hat (by rw [List.map_cons, List.length_cons] at haslen; exact haslen)) hl.1.1 (hstk.trans stk_2) hwsum hd hff
    · rw [Nat.eq_of_beq_eq_true gg] at hb4; exact absurd hb4 (by decide)
    · rw [Nat.eq_of_beq_eq_true gg] at hb4; exact absurd hb4 (by decide)
    · rw [Nat.eq_of_beq_eq_true gg] at hb4; exact absurd hb4 (by decide)
  · obtain rfl := len_of hlen rfl rfl
    simp only [okE, Bool.or_eq_true, Bool.and_eq_true] at hoe
    rcases hoe with (⟨gg, gm, gk, ga⟩ | ⟨gg, gm, gk, ga⟩) | ⟨gg, -⟩
    · have haq : a ∈ QW := cnt (List.all_eq_true.mp MW_q _ (cnt3 gm))
      have hka := Nat.eq_of_beq_eq_true gk
      have hat := Nat.eq_of_beq_eq_true ga
      obtain ⟨x, hx0⟩ := c6 (by rw [Nat.eq_of_beq_eq_true gg]; decide)
      obtain ⟨as', has⟩ := head_of hx0
      rw [has] at hpre hstk haslen hm ⊢
      exact run_I hx hb hml hown hts (hm haq) (c_B hts haq (cnt3 gm) (i_void haq hka) hRf hRl) (yM_n haq hka) (hts (fIW a) (gtb_in (IW_in ((QW_all haq).2.2.2.2.2.1 (by rw [hka]; decide))) rfl)) hpre (om3 hat (by rw [List.map_cons, List.length_cons] at haslen; exact haslen)) hl.1.1 (hstk.trans stk_2) hwsum hd hff
    · have haq : a ∈ QW := cnt (List.all_eq_true.mp NW_q _ (cnt3 gm))
      have hka := Nat.eq_of_beq_eq_true gk
      have hat := Nat.eq_of_beq_eq_true ga
      obtain ⟨x, hx0⟩ := c6 (by rw [Nat.eq_of_beq_eq_true gg]; decide)
      obtain ⟨as', has⟩ := head_of hx0
      rw [has] at hpre hstk haslen hm ⊢
      exact run_IN hx hb hml hown hts (hm haq) (c_N hts haq (hE.2.1 (oM M, i, a) (cnt3 gm)) (i_void haq hka) hRf hRl) (yM_n haq hka) (hts (fIW a) (gtb_in (IW_in ((QW_all haq).2.2.2.2.2.1 (by rw [hka]; decide))) rfl)) hpre (om3 hat (by rw [List.map_cons, List.length_cons] at haslen; exact haslen)) hl.1.1 (hstk.trans stk_2) hwsum hd hff
    · rw [Nat.eq_of_beq_eq_true gg] at hb4; exact absurd hb4 (by decide)
end CK
set_option maxHeartbeats 4000000 in
theorem snd_main (HS : HStr l n0 b L xs adK adV dA D) : ∀ n : Nat, SndAt l n0 b L xs adK adV dA D n := by
  intro n
  induction n with
  | zero => intro d M pc ls st h r hF hw; exact hw.elim
  | succ n ih =>
    intro d M pc ls st h r hF hw p e R s m args below meth c QQ h0 hx hb hml hown hnm hts hE hz0 hz1 hRf hRl hca1 hca2 hret
    unfold wpN at hw
    cases hr : res false M pc ls st h with
    | none => rw [hr] at hw; exact hw.elim
    | some yy =>
      rw [hr] at hw
      obtain ⟨en, hp, hck, hex⟩ := res_i hr
      obtain ⟨hM, hok, hoe⟩ := prg_ok hp
      obtain ⟨ins, len, a, bb, t, pl, v⟩ := en
      have hd : decode (bM M) pc = .ok (ins, len) := of_decide_eq_true hok
      have hex : exi (hk h) (gP h) (fun _ _ => true) (ins, len, a, bb, t, pl, v) (rM M) pc ls st h = some yy := hex
      rcases yy with ⟨pc', ls', st', h'⟩ | r' | ⟨M', as, pc', st'⟩
      · have g := wpN_grow n hw
        exact sd_all hx hb hml hown hnm hts hE hz0 hz1 (Nat.le_trans (Nat.le_add_left 1 (d + 7)) hRf) (om7 hRl).1 (Nat.le_trans g.1 hca1) (Nat.le_trans g.2 hca2) hd hoe hck hex (ih hw hx hb hml hown hnm hts hE hz0 hz1 hRf hRl hca1 hca2 hret) (HS hx hb hml hown hts hE (Nat.le_trans (Nat.le_add_left 8 d) hRf) (om7 hRl).2)
      · obtain ⟨e3, e4⟩ := hw
        subst e3
        subst e4
        rcases exi_r hck hex with ⟨r2, e1, hRI, rfl⟩ | ⟨-, -, e1⟩
        · cases e1
          intro LS H locs cells slots hl hW hS hc hs
          exact hret pc LS H locs cells slots ins st hd hRI hW hS hc hs
        · unfold xcall at e1
          have := (cpt e1).2
          cases this
      · cases d with
        | zero => exact hw.elim
        | succ d' =>
          obtain ⟨r1, h1, a1, b1⟩ := wpN_det n hw
          have g1 := wpN_grow n b1
          have g2 := wpN_grow n a1
          rcases exi_r hck hex with ⟨r2, e1, -, -⟩ | ⟨⟨i, hi⟩, hb4, e1⟩
          · cases e1
          · unfold xcall at e1
            obtain ⟨⟨c1, ⟨c2, c3, c4⟩, c5, c6⟩, e1⟩ := cpt e1
            simp only [Sum.inr.injEq, Prod.mk.injEq] at e1
            obtain ⟨rfl, rfl, rfl, rfl⟩ := e1
            unfold ckE at hck
            simp only [Bool.and_eq_true, Bool.or_eq_true] at hck
            have hlen : len = ilen ins ∨ isSw ins = true := hck.1.imp Nat.eq_of_beq_eq_true id
            exact snd_call hx hb hml hown hts hE hz0 hz1 hRf hRl hca1 hca2 ih b1 g1 g2 c1 c2 c3 c4 c5 c6 hd hlen hi hb4 hoe (ih a1 hx hb hml hown hnm hts hE hz0 hz1 hRf hRl hca1 hca2 hret)
end S11
