/-! the abstract machine's runs are the machine's: contracts out of runs -/
def rmD (d mc ms : Nat) : Room := { frames := d + 8, cells := mc, slots := ms, locals := 60 * (d + 8) }
abbrev RetW (p : Program) (l : Launch) (e : Env) (R : Room) (s : State) (m : MethodId) (args : Array Value) (below : List Frame) (meth : Method) (c : Code) (QQ : State → Prop) (n0 b L : Nat) (xs : Nat → Int32) (adK : Nat → Nat) (dA : Nat → ClassId) (D : va_G) (M : Nat) (h0 : Hp) (r : Option Value) (hF : Hp) : Prop :=
  ∀ (pcx : Nat) (LS : Array Slot) (H : Heap) (locs : List Loc) (cells slots : Nat) (ins : Instr) (stx : List Value), decode (bM M) pcx = .ok (ins, 1) → RetI (rM M) ins r stx → Wd n0 L xs dA D hF H → va_S (AA n0) s.heap H locs → cells + hz h0 = hz hF → slots + hu h0 = hu hF → W p l e R s m args below meth c H locs cells slots QQ (F0 m pcx LS (stx.map (sh n0 b adK)))
/-- the constant text's two methods, wherever they are called -/
abbrev HStr (l : Launch) (n0 b L : Nat) (xs : Nat → Int32) (adK adV : Nat → Nat) (dA : Nat → ClassId) (D : va_G) : Prop :=
  ∀ {p : Program} {e : Env} {R : Room} {s : State} {m : MethodId} {args : Array Value} {below : List Frame} {meth : Method} {c : Code} {QQ : State → Prop} {M : Nat} {h0 : Hp}, p.tables.exec = Jvm.exec → c.code = bM M → c.maxLocals = lM M → s.vm.findClass (cS (oM M)) = some m.cls → (∀ w ∈ gtb, w.before args s = true) → EvK n0 b L xs adK adV dA D s → 8 ≤ R.frames → 480 ≤ R.locals → StrW p l e R s m args below meth c QQ n0 b L xs adK dA D M h0
abbrev SndAt (l : Launch) (n0 b L : Nat) (xs : Nat → Int32) (adK adV : Nat → Nat) (dA : Nat → ClassId) (D : va_G) (n : Nat) : Prop :=
  ∀ {d M pc : Nat} {ls st : List Value} {h : Hp} {r : Option Value} {hF : Hp}, wpN false n d M pc ls st h (eqP r hF) → ∀ {p : Program} {e : Env} {R : Room} {s : State} {m : MethodId} {args : Array Value} {below : List Frame} {meth : Method} {c : Code} {QQ : State → Prop} {h0 : Hp}, p.tables.exec = Jvm.exec → c.code = bM M → c.maxLocals = lM M → s.vm.findClass (cS (oM M)) = some m.cls → (kM M = 2 → meth.name = "<init>") → (∀ w ∈ gtb, w.before args s = true) → EvK n0 b L xs adK adV dA D s → s.heap.size = n0 + hz h0 → 1 ≤ hz h0 → d + 8 ≤ R.frames → 60 * (d + 8) ≤ R.locals → hz hF ≤ R.cells + hz h0 → hu hF ≤ R.slots + hu h0 → RetW p l e R s m args below meth c QQ n0 b L xs adK dA D M h0 r hF → KK p l e R s m args below meth c QQ n0 b L xs adK dA D M h0 pc ls st h
set_option maxRecDepth 100000 in
theorem QW_v : QW.all (fun M => !(Nat.beq (kM M) 1) || Nat.blt (oM M) 13) = true := by decide +kernel
section S9
variable {n0 b L : Nat} {xs : Nat → Int32} {adK adV : Nat → Nat} {dA : Nat → ClassId} {D : va_G} {l : Launch}
set_option maxHeartbeats 4000000 in
theorem met_of {n d a : Nat} {as : List Value} {h : Hp} {r1 : Option Value} {h1 : Hp} (ih : SndAt l n0 b L xs adK adV dA D n) (b1 : wpN false n d a 0 (ent (lM a) as) [] h (eqP r1 h1)) (haq : a ∈ QW) (c3 : argOk (wM a) 0 as = true) (c4 : (entL as).length ≤ lM a) (hz1 : 1 ≤ hz h) :
    Met l (yM a) (wsM a) (rmD d (hz h1 - hz h) (hu h1 - hu h)) (PcM n0 b L xs adK adV dA D as h) (QcM n0 b L xs adK dA D r1 h1) (hz h1 - hz h) (hu h1 - hu h) (AA n0) := by
  have hq := QW_all haq
  refine Met.ofW (cc := bM a) (maxL := lM a) (ret := rM a) ?_ rfl ?_
  · rw [yM_c hq.1]
    exact cS_plain _ hq.2.1.1 hq.2.1.2
  · intro p e s m args below meth c s₁ B hml hv
    obtain ⟨rfl, hWd, hEv, hsz⟩ := hv
    have hts := atoms_spec (ws := wsM a) B.pre
    have hown : s.vm.findClass (cS (oM a)) = some m.cls := by rw [← yM_c hq.1]; exact findClass_of_methodNamed B.named
    have hgr := wpN_grow n b1
    have hg1 := hgr.1
    have hg2 := hgr.2
    rw [lg_entry_eq]
    refine ih b1 (h0 := h) B.exec B.bytes hml hown (fun hk2 => by rw [(name_of_methodNamed B.named B.method).1]; exact yM_n haq hk2) (fun w hw => hts w (List.mem_cons_of_mem _ hw)) hEv hsz hz1 (Nat.le_refl _) (Nat.le_refl _) (by show hz h1 ≤ (hz h1 - hz h) + hz h; omega) (by show hu h1 ≤ (hu h1 - hu h) + hu h; omega) ?_ _ s.heap [] 0 0 (lrep_ent c3 c4) hWd va_S.rf (Nat.zero_add _) (Nat.zero_add _)
    intro pcx LS H locs cells slots ins stx hd hRI hWx hS hc hs
    have e1 : cells = hz h1 - hz h := by omega
    have e2 : slots = hu h1 - hu h := by omega
    subst e1
    subst e2
    rcases hRI with ⟨rfl, x, hok, rfl, rfl⟩ | ⟨rfl, hrt, x, rfl, rfl⟩ | ⟨rfl, hrt, rq, rfl, rfl⟩ | ⟨rfl, hrt, rfl, rfl⟩
    · cases hq9 : rM a with
      | none => rw [hq9] at hok; exact hok.elim
      | some ty =>
        rw [hq9] at hok
        have hr : meth.sig.returnType = some ty := by rw [B.returns, hq9]
        have hn : narrow ty (.int x) = .int x := by cases ty <;> first | exact hok | rfl
        exact W.zret B.exec B.bytes hr hn (fun t ht hW => ⟨rfl, by rw [ht]; exact hWx, hS.F ht⟩) hS.2.2 hd
    · have hr : meth.sig.returnType = some .long := by rw [B.returns, hrt]
      exact W.lret B.exec B.bytes hr (fun t ht hW => ⟨rfl, by rw [ht]; exact hWx, hS.F ht⟩) hS.2.2 hd
    · have hv : sh n0 b adK (va_rf rq) = .null ∨ ∃ aa, sh n0 b adK (va_rf rq) = .ref aa := by
        cases rq with
        | none => exact Or.inl rfl
        | some qa => exact Or.inr ⟨_, rfl⟩
      rcases hrt with ⟨nn, hrt⟩ | ⟨tt, hrt⟩
      · exact W.aret B.exec B.bytes (by rw [B.returns, hrt]) (Or.inl ⟨nn, rfl⟩) hv (fun t ht hW => ⟨rfl, by rw [ht]; exact hWx, hS.F ht⟩) hS.2.2 hd
      · exact W.aret B.exec B.bytes (by rw [B.returns, hrt]) (Or.inr ⟨tt, rfl⟩) hv (fun t ht hW => ⟨rfl, by rw [ht]; exact hWx, hS.F ht⟩) hS.2.2 hd
    · exact W.vret B.exec B.bytes (by rw [B.returns, hrt]) (fun t ht hW => ⟨rfl, by rw [ht]; exact hWx, hS.F ht⟩) hS.2.2 hd
theorem Wd_sz {h h0 : Hp} {H H0 : Heap} {locs : List Loc} (hW : Wd n0 L xs dA D h H) (hS : va_S (AA n0) H0 H locs) (hz0 : H0.size = n0 + hz h0) (hz1 : 1 ≤ hz h0) : n0 + hz h ≤ H.size := by
  obtain ⟨w, -, -, hP⟩ := hW
  have h1 := w.1
  have h2 := hS.1
  by_cases q : hz h = 1
  · omega
  · have ha := wo_at (n0 := n0) (dA := dA) (h := h) (a := hz h - 1) (by omega) (by omega)
    have := (hP _ _ ha).lt
    have : n0 + (hz h - 1) < H.size := this
    omega
theorem map_take {t : Nat} {st : List Value} : st.map (sh n0 b adK) = (((st.take t).reverse).map (sh n0 b adK)).reverse ++ (st.drop t).map (sh n0 b adK) := by
  rw [List.map_reverse, List.reverse_reverse, ← List.map_append, List.take_append_drop]
end S9
