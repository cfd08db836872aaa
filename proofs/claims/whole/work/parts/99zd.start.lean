/-! from the law's entry to its end -/
def hs0 (L : Nat) (xs : Nat → Int32) : Hp := (1, 0, (fun a => (99, if a = 0 then L else 0)), (fun a => if a = 0 then xs else fun _ => 0), (fun _ _ => 0), (fun _ _ => none))
theorem hs0_e (L : Nat) (xs : Nat → Int32) : hpC (hs0 L xs) [] = hs0 L xs := by
  refine Prod.ext rfl (Prod.ext rfl (Prod.ext (funext fun a => ?_) (Prod.ext (funext fun a => ?_) (Prod.ext (funext fun a => ?_) (funext fun a => ?_)))))
  all_goals (cases a <;> rfl)
set_option maxRecDepth 100000 in
theorem lw_end {L : Nat} {xs : Nat → Int32} (hL : L ≤ 3072) : ∃ (hF : Hp) (n : Nat), wpN false n 901 266 0 [.retAddr 1, jn, jn, jn] [] (hs0 L xs) (eqP (some (.int (nI 1))) hF) ∧ hz hF ≤ 10000 ∧ hu hF ≤ 2000000 := by
  have w := lw_all (h0 := hs0 L xs) hL rfl rfl rfl (hs0_e L xs)
  obtain ⟨r, hF, ⟨e, n, hn, z, -⟩, n2, w2⟩ := wp_det w
  subst e
  refine ⟨hF, n2, w2, ?_⟩
  have al := z.2.2.2.2.2.2.2.1
  have hk9 : 450 * n ≤ 450 * 3072 := Nat.mul_le_mul_left _ hn
  have hu0 : U0 = 137000 := rfl
  have hk8 : 450 * 3072 = 1382400 := rfl
  rw [hk8] at hk9
  rcases al with ⟨-, h1, h2⟩ | ⟨a, -, -, -, -, -, h1, h2⟩
  · generalize 450 * n = k9 at h2 hk9
    exact ⟨by omega, by omega⟩
  · generalize 450 * n = k9 at h2 hk9
    exact ⟨by omega, by omega⟩
section EV
variable {s : State} {b L : Nat} {xs : Nat → Int32} {n0 : Nat}
theorem ev_K (hts : ∀ w ∈ lw_tbl, w.before #[Value.ref b] s = true) : ∃ (D : va_G) (dA : Nat → ClassId), va_K D vcl (tysA dA) s := by
  have htg : ∀ w ∈ gtb, w.before #[Value.ref b] s = true := fun w hw => hts w (List.mem_filter.mp hw).1
  have h1 : ∀ c, ∃ q : ClassId × (Nat → Nat), c < 13 → u_Kn s (cS c) (fT c) (nF c) q.1 q.2 := by
    intro c
    by_cases hc : c < 13
    · have hi : ∃ n, Cond.instantiable (cS c) n ∈ lw_tbl := by
        have : ∀ c, c < 13 → (c, nF c) ∈ HW := by decide +kernel
        exact ⟨_, HW_in (this c hc)⟩
      obtain ⟨n, hi⟩ := hi
      obtain ⟨cC, iS, h⟩ := u_known htg (u_ws_in c hc) (hts _ hi)
      exact ⟨(cC, iS), fun _ => h⟩
    · exact ⟨(0, fun _ => 0), fun h => absurd h hc⟩
  obtain ⟨f, hf⟩ := Classical.axiomOfChoice h1
  have pr : ∀ ty : FieldType, (Cond.arrayClass ty).before #[Value.ref b] s = true → ∃ cA, ArrOfT s cA ty ∧ s.vm.findClass ("[" ++ ty.toString) = some cA := by
    intro ty h
    obtain ⟨cA, kA, comp, g1, g2, g3⟩ := Cond.arrayClass_spec h
    exact ⟨cA, fun N z => ⟨(fun k h => by cases h), kA, g2, comp, g3⟩, g1⟩
  have ob : ∀ C : String, (Cond.arrayOver (.object C)).before #[Value.ref b] s = true → ∃ cA, ArrOfT s cA (.object C) ∧ va_RA s cA (.object C) := by
    intro C h
    obtain ⟨comp, cA, kA, g1, g2, g3, g4, g5⟩ := Cond.arrayOver_spec h
    exact ⟨cA, fun N z => ⟨(fun k h => by cases h), kA, g3, comp, g4⟩, kA, comp, g3, g4, g1, g5⟩
  obtain ⟨c20, a20, b20⟩ := pr .int (hts _ (by decide +kernel))
  obtain ⟨c21, a21, b21⟩ := pr .long (hts _ (by decide +kernel))
  obtain ⟨c22, a22, b22⟩ := pr .byte (hts _ (by decide +kernel))
  obtain ⟨c23, a23, b23⟩ := pr .boolean (hts _ (by decide +kernel))
  obtain ⟨c24, a24, b24⟩ := ob (cS 7) (hts _ (by decide +kernel))
  obtain ⟨c25, a25, b25⟩ := ob (cS 9) (hts _ (by decide +kernel))
  obtain ⟨c26, a26, b26⟩ := ob (cS 4) (hts _ (by decide +kernel))
  refine ⟨(fun c => (f c).1, fun c => (f c).2), fun k => if k = 20 then c20 else if k = 21 then c21 else if k = 22 then c22 else if k = 23 then c23 else if k = 24 then c24 else if k = 25 then c25 else c26, ?_, ?_⟩
  · intro c q hq
    have hc : c < 13 := (List.getElem?_eq_some_iff.mp hq).1
    rw [vcl_at c hc] at hq
    cases hq
    exact hf c hc
  · intro k q hq
    match k, hq with
    | 0, hq => cases hq; exact ⟨a20, b20⟩
    | 1, hq => cases hq; exact ⟨a21, b21⟩
    | 2, hq => cases hq; exact ⟨a22, b22⟩
    | 3, hq => cases hq; exact ⟨a23, b23⟩
    | 4, hq => cases hq; exact ⟨a24, b24⟩
    | 5, hq => cases hq; exact ⟨a25, b25⟩
    | 6, hq => cases hq; exact ⟨a26, b26⟩
    | k + 7, hq => simp at hq
abbrev tS : Term := .string "ColdRing$Reader" 89
set_option maxRecDepth 100000 in
theorem el_in : ∀ j, j < 103 → Cond.eq (.elem (.field tS "java/lang/String" "value" "[B") (.int (Int32.ofNat j))) (.int (nmsL.getD j 0)) ∈ flatC (Jvm.Cond.and given_1 narrow_1) := by decide +kernel
set_option maxRecDepth 100000 in
theorem ev_all (hn : s.heap.size = n0 + 1) (hts : ∀ w ∈ lw_tbl, w.before #[Value.ref b] s = true) (hX : va_X b L xs s s.heap) (hbl : b < s.heap.size) (hgv : (Jvm.Cond.and given_1 narrow_1).before #[Value.ref b] s = true) : ∃ (adK adV : Nat → Nat) (dA : Nat → ClassId) (D : va_G), EvK n0 b L xs adK adV dA D s := by
  have hs := flat_of_before _ hgv
  have hA : ∀ a : Nat, a < s.heap.size → ¬ AA n0 a := fun a ha h => by
    have h : n0 + 1 ≤ a := h
    omega
  obtain ⟨D, dA, hK⟩ := ev_K hts
  obtain ⟨adK, adV, hV, hT⟩ := vk_Sof (args := #[Value.ref b]) (s := s) (N := 1) (tm := fun _ => tS) (len := [103]) (byt := [nmsL]) (A := AA n0)
    (fun i hi => by rcases (show i = 0 by omega) with rfl; decide)
    (fun i hi => hs _ (by decide +kernel))
    (fun i hi => hs _ (by decide +kernel))
    (fun i hi => hs _ (by decide +kernel))
    (fun i hi => by rcases (show i = 0 by omega) with rfl; exact hs _ (by decide +kernel))
    (fun i hi j hj => by rcases (show i = 0 by omega) with rfl; exact hs _ (el_in j hj))
    (fun i j hi hj hij => absurd (by omega) hij) hA
  refine ⟨adK, adV, dA, D, hK, fun q hq => va_Nw.of rfl (hts _ (NW_in hq)), ⟨va_AO.of (hts _ (by decide +kernel)), va_AO.of (hts _ (by decide +kernel)), va_AO.of (hts _ (by decide +kernel))⟩, va_Nw.of rfl (hts _ (by decide +kernel)), hX, ⟨hbl, by omega⟩, vk_R.of (hts _ (by decide +kernel)) (hT 0 (by omega)), hV, ?_, ?_⟩
  · exact va_Zof (hts _ (by decide +kernel)) (hts _ (by decide +kernel)) (va_eqi (hs _ (by decide +kernel))) hA
  · exact va_Zqof (hts _ (by decide +kernel)) (hts _ (by decide +kernel)) (hs _ (by decide +kernel)) hA
end EV
def R_law : String := "ColdRingLaw"
def lw_P (b : Addr) (xs : List Int32) (args : Array Value) (s : State) : Prop := args = #[.ref b] ∧ s.IntsAt b xs ∧ xs.length ≤ 3072 ∧ (Jvm.Cond.and given_1 narrow_1).before args s = true
def lw_Q (_ : Array Value) (s : State) (o : Outcome) (t : State) : Prop := o = .returned (some (.int 1)) ∧ Framed s o t [] 600000 7302250
def lw_Z (below : List Frame) (a : Array Value) (s : State) : State → Prop := fun t => ∃ o, t.status = .running ∧ Ended t below o ∧ lw_Q a s o t
/-- the law's own end, with 1 on the stack, nothing written that was there before, its room as the claim has it -/
theorem lw_ret {p : Program} {l : Launch} {e : Env} {s : State} {m : MethodId} {below : List Frame} {meth : Method} {c : Code} {b : Nat} (hx : p.tables.exec = Jvm.exec) (hb : c.code = code) (hr : meth.sig.returnType = ret) (hlocks : meth.locks = false) {pc : Nat} {H : Heap} {ls : Array Slot} (hdg : decode code pc = .ok (.ireturn, 1)) : W p l e room_1 s m #[Value.ref b] below meth c H [] 600000 7302250 (lw_Z below #[Value.ref b] s) (F0 m pc ls [.int 1]) := by
  intro T hT X
  obtain ⟨fs, hret, hrun, hended, hW, hframe⟩ := X.leave (v := some (.int 1)) (hlocks := hlocks) (fun h => by rw [hr] at h; cases h)
  have hmeth' : T.vm.method? m = some meth := X.method'
  refine ⟨T.setFrames fs, ?_, .returned (some (.int 1)), hrun, hended, rfl, ⟨_, rfl⟩, hW, hframe⟩
  jvm_step X.here [X.here.top, hx, hb, hdg, hmeth', hr, ret, narrow_b1]
  (try refine ⟨rfl, ?_⟩); (try refine ⟨rfl, ?_⟩)
  first | (intro acts; rw [hret _ acts rfl rfl rfl]) | rw [hret _ _ rfl rfl rfl]
  exact Steps.refl _
/-- what holds at the law's entry: the machine, the code, the tables' words (any of lw_tbl by 'hts w (by decide +kernel)'), the script of L ints xs at the cell b, what the Statement gives of the start (any of its parts by flat_of_before) -/
def lw_At (p : Program) (s : State) (m : MethodId) (meth : Method) (c : Code) (b L : Nat) (xs : Nat → Int32) : Prop :=
  p.tables.exec = Jvm.exec ∧ c.code = code ∧ meth.sig.returnType = ret ∧ c.maxLocals = 4 ∧ s.vm.findClass R_law = some m.cls ∧ (∀ w ∈ lw_tbl, w.before #[Value.ref b] s = true) ∧ va_X b L xs s s.heap ∧ b < s.heap.size ∧ meth.locks = false ∧ (Jvm.Cond.and given_1 narrow_1).before #[Value.ref b] s = true
set_option maxRecDepth 100000 in
theorem whole_start {p : Program} {e : Env} {s : State} {m : MethodId} {below : List Frame} {meth : Method} {c : Code} (l : Launch) {b L : Nat} {xs : Nat → Int32} (hL : L ≤ 3072) (C0 : lw_At p s m meth c b L xs) : W p l e room_1 s m #[Value.ref b] below meth c s.heap [] 0 0 (lw_Z below #[Value.ref b] s) (entryFrame m ([Value.ref b] : List Value).toArray 4) := by
  obtain ⟨hx, hb, hr, hml, hown, hts, hX, hbl, hlocks, hgv⟩ := id C0
  obtain ⟨n0, hn⟩ : ∃ n0, s.heap.size = n0 + 1 := ⟨s.heap.size - 1, by omega⟩
  have htg : ∀ w ∈ gtb, w.before #[Value.ref b] s = true := fun w hw => hts w (List.mem_filter.mp hw).1
  obtain ⟨adK, adV, dA, D, hE⟩ := ev_all hn hts hX hbl hgv
  obtain ⟨hF, n, hw, hz1, hu1⟩ := lw_end (xs := xs) hL
  have hW0 : Wd n0 L xs dA D (hs0 L xs) s.heap := ⟨⟨Nat.le_refl _, fun a _ => rfl, fun a h => absurd h (by show ¬ 99 < 13; omega)⟩, rfl, rfl, fun k q h => by cases h⟩
  have K := snd_main (hstr l n0 b L xs adK adV dA D) n hw (p := p) (e := e) (R := room_1) (s := s) (m := m) (args := #[Value.ref b]) (below := below) (meth := meth) (c := c) (QQ := lw_Z below #[Value.ref b] s) (h0 := hs0 L xs) hx hb hml hown (fun h => absurd h (by decide)) htg hE hn (Nat.le_refl _) (Nat.le_of_ble_eq_true rfl) (Nat.le_of_ble_eq_true rfl) (Nat.le_trans hz1 (by show 10000 ≤ 600000 + 1; omega)) (Nat.le_trans hu1 (by show 2000000 ≤ 7302250 + 0; omega)) ?_
  · have h9 := K _ s.heap [] 0 0 (lrep_ent (as := [.retAddr 1]) (nL := 4) rfl (Nat.le_of_ble_eq_true rfl)) hW0 va_S.rf rfl rfl
    rw [lg_entry_eq]
    exact h9
  · intro pcx LS H locs cells slots ins stx hd hRI hWx hS hc hs
    have hc : cells + 1 = hz hF := hc
    have hs : slots + 0 = hu hF := hs
    rcases hRI with ⟨rfl, x, hok, e1, rfl⟩ | ⟨rfl, hrt, x, e1, rfl⟩ | ⟨rfl, hrt, rq, e1, rfl⟩ | ⟨rfl, hrt, e1, rfl⟩
    · cases e1
      refine va_forget (fun q hq => by have := hS.2.2 q hq; have : n0 + 1 ≤ q.base := this; omega) ?_
      refine W.widen (k := 600000) (n := 7302250) (by omega) (by omega) ?_
      exact lw_ret hx hb hr hlocks hd
    · cases e1
    · cases rq <;> cases e1
    · cases e1
set_option maxHeartbeats 4000000 in
theorem lw_walk (l : Launch) (b : Addr) (xs : List Int32) : MetFree l x (headSpec (Jvm.Cond.code x code maxLocals ret :: tables_1) room_1) (lw_P b xs) (fun _ _ _ _ _ => True) lw_Q := by
  refine MetFree.of_bodyS (code := code) (maxLocals := maxLocals) (ret := ret) (by decide) ?_ ?_
  · intro args s m h hn
    obtain ⟨meth, c, h1, h2, h3, h4, h5, h6, -, -⟩ := Cond.code_spec hn (atoms_spec (ws := Jvm.Cond.code x code maxLocals ret :: tables_1) h _ List.mem_cons_self)
    exact ⟨meth, c, h1, h2, h3, h4, h5, h6⟩
  · intro p e s m args below meth c s₁ B hml0 hP _
    obtain ⟨rfl, hx, hbd, hgv⟩ := hP
    obtain ⟨scr, harrAt, hlist, hof, hsmall⟩ := hx
    obtain ⟨hcb, hkn, -, -⟩ := State.arrayAt?_spec harrAt
    have hown : s.vm.findClass R_law = some m.cls := findClass_of_methodNamed B.named
    have hts0 : ∀ c ∈ (Jvm.Cond.code x code maxLocals ret :: tables_1), c.before #[Value.ref b] s = true := atoms_spec (ws := Jvm.Cond.code x code maxLocals ret :: tables_1) B.pre
    have hts : ∀ w ∈ lw_tbl, w.before #[Value.ref b] s = true := k2_hts_sels lw_privs (fun w hw => hts0 w (List.mem_cons_of_mem _ hw)) lw_privs_ok
    have hml : c.maxLocals = 4 := B.maxLocals_eq (hts0 _ List.mem_cons_self)
    have X₀ : Stand p l e room_1 s m #[Value.ref b] below meth c s₁ [] 0 0 := Stand.of_body B
    have hh0 : s₁.heap = s.heap := by rw [B.state]; rfl
    have hsz : scr.slots.size = xs.length := by rw [← Array.length_toList, hlist, List.length_map]
    have hval : ∀ j : Nat, j < xs.length → scr.slots[j]? = some (.int (xs.getD j 0)) := fun j hj => by
      rw [← Array.getElem?_toList, hlist]
      simp [hj]
    have hbl : b < s.heap.size := (Array.getElem?_eq_some_iff.mp hcb).1
    have hX : va_X b xs.length (fun j => xs.getD j 0) s s.heap := ⟨scr, hcb, hof, hkn, hsz, hval⟩
    have K : W p l e room_1 s m #[Value.ref b] below meth c s₁.heap [] 0 0 (lw_Z below #[Value.ref b] s) (entryFrame m ([Value.ref b] : List Value).toArray 4) := by
      rw [hh0]
      exact whole_start l hbd ⟨B.exec, B.bytes, B.returns, hml, hown, hts, hX, hbl, B.notSynchronized, hgv⟩
    obtain ⟨t, a1, o, b1, b2, b3⟩ := K s₁ rfl X₀
    exact ⟨t, o, a1, b1, b2, b3⟩
theorem lw_pre_spec {args : Array Value} {s : State} (h : (Jvm.Cond.and given_1 narrow_1).before args s = true) (hr : rest_1_c.before args s = true) : ∃ (b : Addr) (xs : List Int32), lw_P b xs args s := by
  have hs := flat_of_before _ h
  have hq := flat_of_before _ hr
  have hc : (Cond.count 1).before args s = true := hs _ (by decide +kernel)
  have harr : (Cond.arrayOf (.arg 0) .int).before args s = true := hs _ (by decide +kernel)
  have hle : (Cond.le (.length (.arg 0)) (.int 3072)).before args s = true := hs _ (by decide +kernel)
  have hlen : (Cond.isInt (.length (.arg 0))).before args s = true := hq _ (by decide +kernel)
  have hall : (Cond.all (.arg 0) (.isInt (.elem (.arg 0) (.index 0)))).before args s = true := hq _ (by decide +kernel)
  obtain ⟨b, xs, hb, hx⟩ := State.ints_of_pre rfl harr hlen hall
  have hsm : xs.length < 2 ^ 31 := hx.choose_spec.2.2.2
  have hev : (Term.length (.arg 0)).eval args s none [] s = some (.int xs.length.toInt32) := hx.length_eval hb
  have hv := Cond.le_ints hev (show (Term.int 3072).eval args s none [] s = some (.int 3072) from rfl)
  have hd : xs.length.toInt32 ≤ 3072 := by
    simpa [Cond.before, Cond.holds, hv] using hle
  have hN : xs.length ≤ 3072 := (Int32.ofNat_le_ofNat hsm (by decide)).mp (show Int32.ofNat xs.length ≤ Int32.ofNat 3072 from hd)
  exact ⟨b, xs, Cond.one_arg hc (show args[0]? = some (.ref b) from hb), hx, hN, h⟩
theorem lw_comes (l : Launch) : Comes l x (Jvm.Cond.code x code maxLocals ret :: tables_1) room_1 (fun tb e args s => Calls_1 tb e args s ∧ rest_1 tb e args s ∧ Pre_1 tb e args s)
    (fun _ _ args s o t => lw_Q args s o t) := by
  intro p e ha hc hk s m args below hf hfit hheap happ hpre
  obtain ⟨b, xs, hP⟩ := lw_pre_spec hpre.2.2 hpre.2.1
  obtain ⟨k, o, h1, h2, h3, hQ⟩ := lw_walk l b xs p e ha hc hk s m args below hf ((Spec.applies_iff_loose hf).mp happ).1 hP trivial
  exact ⟨k, o, h1, h2, h3, hQ⟩
theorem lw_frame {s t : State} {o : Outcome} {args : Array Value} (h : Framed s o t [] 600000 7302250) :
    Framed s o t (fieldLocs frame_1_writes args s ++ arrayLocs frame_1_arrays args s ++ staticLocs frame_1_statics s) 600000 7302250 := h
theorem lw_limb (L : Cond) (hL : ∀ (args : Array Value) (s t : State), L.after args s (.returned (some (.int 1))) t = true) :
    ArmFor flags0 classFile x code maxLocals ret World_1 tables_1 room_1 Calls_1 rest_1 Pre_1
      (fun tb e a s o t => postC L tb e a s o t ∧ Framed s o t (fieldLocs frame_1_writes a s ++ arrayLocs frame_1_arrays a s ++ staticLocs frame_1_statics s) 600000 7302250) := by
  intro l _ _ _ p e ha hc hk s m args below hf hfit hheap happ hpre
  obtain ⟨k, o, h1, h2, h3, rfl, hF⟩ := lw_comes l p e ha hc hk s m args below hf hfit hheap happ hpre
  exact ⟨k, _, h1, h2, h3, hL args s _, lw_frame hF⟩
theorem i_vc : Claimed_1_1 ∧ Claimed_1_2 := ⟨lw_limb limb_1_1 (fun args s t => by simp [limb_1_1, Cond.after, Cond.holds, Cond.value]), lw_limb limb_1_2 (fun args s t => Cond.after_iff.mpr (by
  first | (rw [show limb_1_2 = Cond.eq .result (.int 1) from rfl, Cond.eq_ints (x := 1) (y := 1) rfl rfl]; simp; done) | (simp [limb_1_2, Cond.value, Term.eval]; done)))⟩
