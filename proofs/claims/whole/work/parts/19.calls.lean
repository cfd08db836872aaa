/-! calls, kind by kind -/
theorem om5 {dd fr : Nat} (h : dd + 1 + 8 ≤ fr) : dd + 8 + 1 ≤ fr := by omega
set_option maxRecDepth 100000 in
theorem om6 {zz dd lo : Nat} (h : zz ≤ 40) (h2 : 60 * (dd + 1 + 8) ≤ lo) : 8 + (zz + 11) + 60 * (dd + 8) ≤ lo := by
  have e : 60 * (dd + 1 + 8) = 60 * (dd + 8) + 60 := by rw [show dd + 1 + 8 = dd + 8 + 1 from rfl, Nat.mul_succ]
  rw [e] at h2
  generalize 60 * (dd + 8) = kk at h2 ⊢
  omega
section S10
variable {n0 b L : Nat} {xs : Nat → Int32} {adK adV : Nat → Nat} {dA : Nat → ClassId} {D : va_G} {l : Launch}
variable {p : Program} {e : Env} {R : Room} {s : State} {m : MethodId} {args : Array Value} {below : List Frame} {meth : Method} {c : Code} {H : Heap} {locs : List Loc} {cells slots mc ms dd : Nat}
variable {M a i pc : Nat} {as as' rest st0 : List Value} {h h1 : Hp} {r1 : Option Value} {LS : Array Slot} {x : Nat}
theorem c_ini (hts : ∀ w ∈ gtb, w.before args s = true) (haq : a ∈ QW) : (Cond.initialized (yM a).cls).before args s = true := by
  rw [yM_c (QW_all haq).1]
  exact hts _ (gtb_in (ZW_in (QW_all haq).2.2.2.1) rfl)
theorem c_dd (haq : a ∈ QW) : (yM a).cls ≠ "java/lang/invoke/MethodHandle" ∧ (yM a).cls ≠ "java/lang/invoke/VarHandle" ∧ (parseMethodDescriptor (yM a).desc).map (fun d => d.parameters.length) = some (aM a) := by
  have hq := QW_all haq
  refine ⟨?_, ?_, yM_par hq.1⟩
  · rw [yM_c hq.1]; exact cS_mh _ hq.2.1.1
  · rw [yM_c hq.1]; exact cS_vh _ hq.2.1.1
theorem c_RR (haq : a ∈ QW) (h1 : dd + 1 + 8 ≤ R.frames) (h2 : 60 * (dd + 1 + 8) ≤ R.locals) : (rmD dd mc ms).frames + 1 ≤ R.frames ∧ 8 + (lM a + 11) + (rmD dd mc ms).locals ≤ R.locals := by
  exact ⟨om5 h1, om6 (QW_all haq).2.2.1 h2⟩
theorem c_B {rt : Option FieldType} (hts : ∀ w ∈ gtb, w.before args s = true) (haq : a ∈ QW) (gm : (oM M, i, a) ∈ MW) (hrt : rM a = rt) (h1 : dd + 1 + 8 ≤ R.frames) (h2 : 60 * (dd + 1 + 8) ≤ R.locals) : CallB R s args (cS (oM M)) i (yM a) (bM a) (lM a) rt (wsM a) (rmD dd mc ms) mc ms (aM a) := by
  subst hrt
  exact callB_of (ws' := gtb) (Ts := gtb) (aM a) hts (gtb_good haq) rfl rfl rfl (c_ini hts haq) (hts (fMW (oM M, i, a)) (gtb_in (MW_in gm) rfl)) (c_dd haq) (c_RR haq h1 h2)
theorem c_N {rt : Option FieldType} (hts : ∀ w ∈ gtb, w.before args s = true) (haq : a ∈ QW) (gm : va_Nw (.methodLinkNest (cS (oM M)) i (yM a) "ColdRing") s) (hrt : rM a = rt) (h1 : dd + 1 + 8 ≤ R.frames) (h2 : 60 * (dd + 1 + 8) ≤ R.locals) : va_CN R s args (cS (oM M)) i (yM a) "ColdRing" (bM a) (lM a) rt (wsM a) (rmD dd mc ms) mc ms (aM a) := by
  subst hrt
  exact va_cnB (ws' := gtb) (Ts := gtb) (aM a) hts (gtb_good haq) rfl rfl rfl gm (c_ini hts haq) (c_dd haq) (c_RR haq h1 h2)
theorem run_S (hx : p.tables.exec = Jvm.exec) (hb : c.code = bM M) (hml : c.maxLocals = lM M) (hown : s.vm.findClass (cS (oM M)) = some m.cls) (hts : ∀ w ∈ gtb, w.before args s = true)
    (hm : Met l (yM a) (wsM a) (rmD dd mc ms) (PcM n0 b L xs adK adV dA D as h) (QcM n0 b L xs adK dA D r1 h1) mc ms (AA n0)) (cb : CallB R s args (cS (oM M)) i (yM a) (bM a) (lM a) (rM a) (wsM a) (rmD dd mc ms) mc ms (aM a)) (hst : (Cond.static (yM a)).before args s = true)
    (hpre : ∀ U : State, U.heap = H → s.WarmedH U.vm → PcM n0 b L xs adK adV dA D as h (as.map (sh n0 b adK)).toArray U) (hal : (as.map (sh n0 b adK)).length = aM a) (hsz : LS.size = lM M) (hstk : st0 = (as.map (sh n0 b adK)).reverse ++ rest) (hw : (rest.map fun v => v.category).sum ≤ 8) (hd : decode (bM M) pc = .ok (.invokestatic i, 3)) (hff : cells + mc ≤ R.cells ∧ slots + ms ≤ R.slots) :
    va_Run p l e R s m args below meth c H locs cells slots mc ms (F0 m pc LS st0) rest (QcM n0 b L xs adK dA D r1 h1 (as.map (sh n0 b adK)).toArray) (AA n0) :=
  va_runS (Pc := PcM n0 b L xs adK adV dA D as h) (Qc := QcM n0 b L xs adK dA D r1 h1) (free := AA n0) (As := as.map (sh n0 b adK)) (rest := rest) (g := F0 m pc LS st0) ⟨hx, hb, hml, hown, hts⟩ hm ⟨cb, hst⟩ ⟨pc_blind, hpre⟩ rfl hal hsz hstk (lv_room hw) hd hff
theorem run_SN (hx : p.tables.exec = Jvm.exec) (hb : c.code = bM M) (hml : c.maxLocals = lM M) (hown : s.vm.findClass (cS (oM M)) = some m.cls) (hts : ∀ w ∈ gtb, w.before args s = true)
    (hm : Met l (yM a) (wsM a) (rmD dd mc ms) (PcM n0 b L xs adK adV dA D as h) (QcM n0 b L xs adK dA D r1 h1) mc ms (AA n0)) (cb : va_CN R s args (cS (oM M)) i (yM a) "ColdRing" (bM a) (lM a) (rM a) (wsM a) (rmD dd mc ms) mc ms (aM a)) (hst : (Cond.static (yM a)).before args s = true)
    (hpre : ∀ U : State, U.heap = H → s.WarmedH U.vm → PcM n0 b L xs adK adV dA D as h (as.map (sh n0 b adK)).toArray U) (hal : (as.map (sh n0 b adK)).length = aM a) (hsz : LS.size = lM M) (hstk : st0 = (as.map (sh n0 b adK)).reverse ++ rest) (hw : (rest.map fun v => v.category).sum ≤ 8) (hd : decode (bM M) pc = .ok (.invokestatic i, 3)) (hff : cells + mc ≤ R.cells ∧ slots + ms ≤ R.slots) :
    va_Run p l e R s m args below meth c H locs cells slots mc ms (F0 m pc LS st0) rest (QcM n0 b L xs adK dA D r1 h1 (as.map (sh n0 b adK)).toArray) (AA n0) :=
  va_runSN (Pc := PcM n0 b L xs adK adV dA D as h) (Qc := QcM n0 b L xs adK dA D r1 h1) (free := AA n0) (As := as.map (sh n0 b adK)) (rest := rest) (g := F0 m pc LS st0) ⟨hx, hb, hml, hown, hts⟩ hm ⟨cb, hst, trivial⟩ ⟨pc_blind, hpre⟩ rfl hal hsz hstk (lv_room hw) hd hff
theorem run_V (hx : p.tables.exec = Jvm.exec) (hb : c.code = bM M) (hml : c.maxLocals = lM M) (hown : s.vm.findClass (cS (oM M)) = some m.cls) (hts : ∀ w ∈ gtb, w.before args s = true)
    (hm : Met l (yM a) (wsM a) (rmD dd mc ms) (PcM n0 b L xs adK adV dA D (.ref x :: as') h) (QcM n0 b L xs adK dA D r1 h1) mc ms (AA n0)) (cb : CallB R s args (cS (oM M)) i (yM a) (bM a) (lM a) (rM a) (wsM a) (rmD dd mc ms) mc ms (aM a)) (hin : (Cond.instanceMethod (yM a)).before args s = true) (hse : (Cond.selects (yM a).cls (yM a) (yM a)).before args s = true)
    (hrec : ∃ cell : Cell, H[n0 + x]? = some cell ∧ cell.vm.isStatics = false ∧ s.vm.findClass (yM a).cls = some cell.cls)
    (hpre : ∀ U : State, U.heap = H → s.WarmedH U.vm → PcM n0 b L xs adK adV dA D (.ref x :: as') h ((Value.ref x :: as').map (sh n0 b adK)).toArray U) (hal : (as'.map (sh n0 b adK)).length = aM a) (hsz : LS.size = lM M) (hstk : st0 = (as'.map (sh n0 b adK)).reverse ++ .ref (n0 + x) :: rest) (hw : (rest.map fun v => v.category).sum ≤ 8) (hd : decode (bM M) pc = .ok (.invokevirtual i, 3)) (hff : cells + mc ≤ R.cells ∧ slots + ms ≤ R.slots) :
    va_Run p l e R s m args below meth c H locs cells slots mc ms (F0 m pc LS st0) rest (QcM n0 b L xs adK dA D r1 h1 ((Value.ref x :: as').map (sh n0 b adK)).toArray) (AA n0) :=
  va_runV (C := (yM a).cls) (b := n0 + x) (Pc := PcM n0 b L xs adK adV dA D (.ref x :: as') h) (Qc := QcM n0 b L xs adK dA D r1 h1) (free := AA n0) (As := as'.map (sh n0 b adK)) (rest := rest) (g := F0 m pc LS st0) ⟨hx, hb, hml, hown, hts⟩ hm ⟨cb, hin, hse⟩ ⟨pc_blind, hrec, hpre⟩ rfl hal hsz hstk (lv_room hw) hd hff
theorem run_I (hx : p.tables.exec = Jvm.exec) (hb : c.code = bM M) (hml : c.maxLocals = lM M) (hown : s.vm.findClass (cS (oM M)) = some m.cls) (hts : ∀ w ∈ gtb, w.before args s = true)
    (hm : Met l (yM a) (wsM a) (rmD dd mc ms) (PcM n0 b L xs adK adV dA D (.ref x :: as') h) (QcM n0 b L xs adK dA D r1 h1) mc ms (AA n0)) (cb : CallB R s args (cS (oM M)) i (yM a) (bM a) (lM a) none (wsM a) (rmD dd mc ms) mc ms (aM a)) (hnn : (yM a).name = "<init>") (hin : (Cond.instanceMethod (yM a)).before args s = true)
    (hpre : ∀ U : State, U.heap = H → s.WarmedH U.vm → PcM n0 b L xs adK adV dA D (.ref x :: as') h ((Value.ref x :: as').map (sh n0 b adK)).toArray U) (hal : (as'.map (sh n0 b adK)).length = aM a) (hsz : LS.size = lM M) (hstk : st0 = (as'.map (sh n0 b adK)).reverse ++ .ref (n0 + x) :: rest) (hw : (rest.map fun v => v.category).sum ≤ 8) (hd : decode (bM M) pc = .ok (.invokespecial i, 3)) (hff : cells + mc ≤ R.cells ∧ slots + ms ≤ R.slots) :
    va_Run p l e R s m args below meth c H locs cells slots mc ms (F0 m pc LS st0) rest (QcM n0 b L xs adK dA D r1 h1 ((Value.ref x :: as').map (sh n0 b adK)).toArray) (AA n0) :=
  va_runI (b := n0 + x) (Pc := PcM n0 b L xs adK adV dA D (.ref x :: as') h) (Qc := QcM n0 b L xs adK dA D r1 h1) (free := AA n0) (As := as'.map (sh n0 b adK)) (rest := rest) (g := F0 m pc LS st0) ⟨hx, hb, hml, hown, hts⟩ hm ⟨cb, hnn, hin⟩ ⟨pc_blind, hpre⟩ rfl hal hsz hstk (lv_room hw) hd hff
theorem run_IN (hx : p.tables.exec = Jvm.exec) (hb : c.code = bM M) (hml : c.maxLocals = lM M) (hown : s.vm.findClass (cS (oM M)) = some m.cls) (hts : ∀ w ∈ gtb, w.before args s = true)
    (hm : Met l (yM a) (wsM a) (rmD dd mc ms) (PcM n0 b L xs adK adV dA D (.ref x :: as') h) (QcM n0 b L xs adK dA D r1 h1) mc ms (AA n0)) (cb : va_CN R s args (cS (oM M)) i (yM a) "ColdRing" (bM a) (lM a) none (wsM a) (rmD dd mc ms) mc ms (aM a)) (hnn : (yM a).name = "<init>") (hin : (Cond.instanceMethod (yM a)).before args s = true)
    (hpre : ∀ U : State, U.heap = H → s.WarmedH U.vm → PcM n0 b L xs adK adV dA D (.ref x :: as') h ((Value.ref x :: as').map (sh n0 b adK)).toArray U) (hal : (as'.map (sh n0 b adK)).length = aM a) (hsz : LS.size = lM M) (hstk : st0 = (as'.map (sh n0 b adK)).reverse ++ .ref (n0 + x) :: rest) (hw : (rest.map fun v => v.category).sum ≤ 8) (hd : decode (bM M) pc = .ok (.invokespecial i, 3)) (hff : cells + mc ≤ R.cells ∧ slots + ms ≤ R.slots) :
    va_Run p l e R s m args below meth c H locs cells slots mc ms (F0 m pc LS st0) rest (QcM n0 b L xs adK dA D r1 h1 ((Value.ref x :: as').map (sh n0 b adK)).toArray) (AA n0) :=
  va_runIN (b := n0 + x) (Pc := PcM n0 b L xs adK adV dA D (.ref x :: as') h) (Qc := QcM n0 b L xs adK dA D r1 h1) (free := AA n0) (As := as'.map (sh n0 b adK)) (rest := rest) (g := F0 m pc LS st0) ⟨hx, hb, hml, hown, hts⟩ hm ⟨cb, hnn, hin⟩ ⟨pc_blind, hpre⟩ rfl hal hsz hstk (lv_room hw) hd hff
end S10
