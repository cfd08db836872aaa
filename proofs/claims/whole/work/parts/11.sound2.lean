section S2
variable {p : Program} {l : Launch} {e : Env} {R : Room} {s : State} {m : MethodId} {args : Array Value} {below : List Frame} {meth : Method} {c : Code} {QQ : State → Prop}
variable {n0 b L : Nat} {xs : Nat → Int32} {adK adV : Nat → Nat} {dA : Nat → ClassId} {D : va_G} {M pc : Nat} {ls st : List Value} {h h0 : Hp} {pc' : Nat} {ls' st' : List Value} {h' : Hp}
theorem look_ok {pc : Nat} {d : Int} : ∀ {l : List (Int × Int)} {x : Int}, okt pc d = true → l.all (fun q => okt pc q.2) = true → okt pc (Op.lookupswitch.offset l d x) = true := by
  intro l
  induction l with
  | nil => intro x hd _; exact hd
  | cons q t ih =>
    intro x hd ha
    simp only [List.all_cons, Bool.and_eq_true] at ha
    obtain ⟨a, o⟩ := q
    unfold Op.lookupswitch.offset
    split
    · exact ha.1
    · exact ih hd ha.2
set_option maxHeartbeats 4000000 in
set_option maxRecDepth 100000 in
theorem sd_2 {ins : Instr} {len a bb t pl : Nat} {v : Int} (hx : p.tables.exec = Jvm.exec) (hb : c.code = bM M) (hml : c.maxLocals = lM M) (hown : s.vm.findClass (cS (oM M)) = some m.cls) (hts : ∀ w ∈ gtb, w.before args s = true) (hE : EvK n0 b L xs adK adV dA D s)
    (hd : decode (bM M) pc = .ok (ins, len)) (hoe : okE (oM M) (wM M) pc (ins, len, a, bb, t, pl, v) = true) (hck : ckE M (ins, len, a, bb, t, pl, v) ls.length = true)
    (hex : exi (hk h) (gP h) (fun _ _ => true) (ins, len, a, bb, t, pl, v) (rM M) pc ls st h = some (.inl (pc', ls', st', h'))) (k : KK p l e R s m args below meth c QQ n0 b L xs adK dA D M h0 pc' ls' st' h')
    (hkind : (match ins with | .iadd | .isub | .imul | .iand | .ior | .ixor | .ishl | .ishr | .iushr | .idiv | .irem | .ineg | .i2b | .ladd | .lsub | .lmul | .ldiv | .lrem | .lcmp | .i2l | .l2i | .dup | .dup2 | .pop | .goto _ | .ifCond _ _ | .if_icmp _ _ | .ifnull _ | .ifnonnull _ | .if_acmp _ _ | .tableswitch _ _ _ _ | .lookupswitch _ _ => true | _ => false) = true) : KK p l e R s m args below meth c QQ n0 b L xs adK dA D M h0 pc ls st h := by
  intro LS H locs cells slots hl hW hS hc hs
  unfold ckE at hck
  simp only [Bool.and_eq_true, Bool.or_eq_true] at hck
  obtain ⟨hlen, hin, -⟩ := hck
  have hlen : len = ilen ins ∨ isSw ins = true := hlen.imp Nat.eq_of_beq_eq_true id
  have hLl := hl.2.1
  cases ins with
  | iadd =>
    obtain rfl := len_of hlen rfl rfl
    obtain ⟨x, y, r, rfl, e2⟩ := xbin_i hex
    cases e2
    exact lv_iadd hx hb hd (k LS H locs cells slots hl hW hS hc hs)
  | isub =>
    obtain rfl := len_of hlen rfl rfl
    obtain ⟨x, y, r, rfl, e2⟩ := xbin_i hex
    cases e2
    exact lv_isub hx hb hd (k LS H locs cells slots hl hW hS hc hs)
  | imul =>
    obtain rfl := len_of hlen rfl rfl
    obtain ⟨x, y, r, rfl, e2⟩ := xbin_i hex
    cases e2
    exact lv_imul hx hb hd (k LS H locs cells slots hl hW hS hc hs)
  | iand =>
    obtain rfl := len_of hlen rfl rfl
    obtain ⟨x, y, r, rfl, e2⟩ := xbin_i hex
    cases e2
    exact lv_iand hx hb hd (k LS H locs cells slots hl hW hS hc hs)
  | ior =>
    obtain rfl := len_of hlen rfl rfl
    obtain ⟨x, y, r, rfl, e2⟩ := xbin_i hex
    cases e2
    exact lv_ior hx hb hd (k LS H locs cells slots hl hW hS hc hs)
  | ixor =>
    obtain rfl := len_of hlen rfl rfl
    obtain ⟨x, y, r, rfl, e2⟩ := xbin_i hex
    cases e2
    exact lv_ixor hx hb hd (k LS H locs cells slots hl hW hS hc hs)
  | ishl =>
    obtain rfl := len_of hlen rfl rfl
    obtain ⟨x, y, r, rfl, e2⟩ := xbin_i hex
    cases e2
    exact lv_ishl hx hb hd (k LS H locs cells slots hl hW hS hc hs)
  | ishr =>
    obtain rfl := len_of hlen rfl rfl
    obtain ⟨x, y, r, rfl, e2⟩ := xbin_i hex
    cases e2
    exact lv_ishr hx hb hd (k LS H locs cells slots hl hW hS hc hs)
  | iushr =>
    obtain rfl := len_of hlen rfl rfl
    obtain ⟨x, y, r, rfl, e2⟩ := xbin_i hex
    cases e2
    exact lv_iushr hx hb hd rfl (k LS H locs cells slots hl hW hS hc hs)
  | idiv =>
    obtain rfl := len_of hlen rfl rfl
    obtain ⟨x, y, r, rfl, hne, e2⟩ := xdiv_i hex
    cases e2
    exact lv_idiv hx hb hd hne (k LS H locs cells slots hl hW hS hc hs)
  | irem =>
    obtain rfl := len_of hlen rfl rfl
    obtain ⟨x, y, r, rfl, hne, e2⟩ := xdiv_i hex
    cases e2
    exact lv_irem hx hb hd hne (k LS H locs cells slots hl hW hS hc hs)
  | ineg =>
    obtain rfl := len_of hlen rfl rfl
    obtain ⟨x, r, rfl, e2⟩ := xun_i hex
    cases e2
    exact lv_ineg hx hb hd (k LS H locs cells slots hl hW hS hc hs)
  | i2b =>
    obtain rfl := len_of hlen rfl rfl
    obtain ⟨x, r, rfl, e2⟩ := xun_i hex
    cases e2
    exact lv_i2b hx hb hd rfl (k LS H locs cells slots hl hW hS hc hs)
  | ladd =>
    obtain rfl := len_of hlen rfl rfl
    obtain ⟨x, y, r, rfl, e2⟩ := xbinJ_i hex
    cases e2
    exact lv_ladd hx hb hd (k LS H locs cells slots hl hW hS hc hs)
  | lsub =>
    obtain rfl := len_of hlen rfl rfl
    obtain ⟨x, y, r, rfl, e2⟩ := xbinJ_i hex
    cases e2
    exact lv_lsub hx hb hd (k LS H locs cells slots hl hW hS hc hs)
  | lmul =>
    obtain rfl := len_of hlen rfl rfl
    obtain ⟨x, y, r, rfl, e2⟩ := xbinJ_i hex
    cases e2
    exact lv_lmul hx hb hd (k LS H locs cells slots hl hW hS hc hs)
  | ldiv =>
    obtain rfl := len_of hlen rfl rfl
    obtain ⟨x, y, r, rfl, hne, e2⟩ := xdivJ_i hex
    cases e2
    exact lv_ldiv hx hb hd hne (k LS H locs cells slots hl hW hS hc hs)
  | lrem =>
    obtain rfl := len_of hlen rfl rfl
    obtain ⟨x, y, r, rfl, hne, e2⟩ := xdivJ_i hex
    cases e2
    exact lv_lrem hx hb hd hne (k LS H locs cells slots hl hW hS hc hs)
  | lcmp =>
    obtain rfl := len_of hlen rfl rfl
    obtain ⟨x, y, r, rfl, e2⟩ := xcmp_i hex
    cases e2
    exact W.lcmp hx hb hd (k LS H locs cells slots hl hW hS hc hs)
  | i2l =>
    obtain rfl := len_of hlen rfl rfl
    obtain ⟨x, r, rfl, e2⟩ := xi2l_i hex
    cases e2
    exact lv_i2l hx hb hd rfl (k LS H locs cells slots hl hW hS hc hs)
  | l2i =>
    obtain rfl := len_of hlen rfl rfl
    obtain ⟨x, r, rfl, e2⟩ := xl2i_i hex
    cases e2
    exact lv_l2i hx hb hd rfl (k LS H locs cells slots hl hW hS hc hs)
  | dup =>
    obtain rfl := len_of hlen rfl rfl
    obtain ⟨x, r, rfl, hcat, e2⟩ := xdup_i hex
    cases e2
    exact lv_dup hx hb hd (by rw [sh_cat]; exact hcat) (k LS H locs cells slots hl hW hS hc hs)
  | dup2 =>
    obtain rfl := len_of hlen rfl rfl
    obtain ⟨x, y, r, rfl, e2⟩ := xdup2_i hex
    cases e2
    exact lv_dup2_11 hx hb hd rfl rfl (k LS H locs cells slots hl hW hS hc hs)
  | pop =>
    obtain rfl := len_of hlen rfl rfl
    obtain ⟨x, r, rfl, hcat, e2⟩ := xpop_i hex
    cases e2
    exact lv_pop hx hb hd (by rw [sh_cat]; exact hcat) (k LS H locs cells slots hl hW hS hc hs)
  | goto off =>
    obtain rfl := len_of hlen rfl rfl
    cases hex
    exact lv_goto hx hb hd (jt_eq hoe) (k LS H locs cells slots hl hW hS hc hs)
  | ifCond cd off =>
    obtain rfl := len_of hlen rfl rfl
    obtain ⟨x, r, rfl, e2⟩ := xif_i hex
    cases cd with
    | eq =>
      rcases e2 with ⟨q, e2⟩ | ⟨q, e2⟩
      · cases e2; exact lv_if_eq hx hb hd (jt_eq hoe) (fun _ => (k LS H locs cells slots hl hW hS hc hs)) (fun q2 => absurd q q2)
      · cases e2; exact lv_if_eq hx hb hd (jt_eq hoe) (fun q2 => absurd q2 q) (fun _ => (k LS H locs cells slots hl hW hS hc hs))
    | ne =>
      rcases e2 with ⟨q, e2⟩ | ⟨q, e2⟩
      · cases e2; exact lv_if_ne hx hb hd (jt_eq hoe) (fun _ => (k LS H locs cells slots hl hW hS hc hs)) (fun q2 => absurd q2 q)
      · cases e2; exact lv_if_ne hx hb hd (jt_eq hoe) (fun q2 => absurd q2 q) (fun _ => (k LS H locs cells slots hl hW hS hc hs))
    | lt =>
      rcases e2 with ⟨q, e2⟩ | ⟨q, e2⟩
      · cases e2; exact lv_if_lt hx hb hd (jt_eq hoe) (fun _ => (k LS H locs cells slots hl hW hS hc hs)) (fun q2 => absurd q q2)
      · cases e2; exact lv_if_lt hx hb hd (jt_eq hoe) (fun q2 => absurd q2 q) (fun _ => (k LS H locs cells slots hl hW hS hc hs))
    | ge =>
      rcases e2 with ⟨q, e2⟩ | ⟨q, e2⟩
      · cases e2; exact lv_if_ge hx hb hd (jt_eq hoe) (fun _ => (k LS H locs cells slots hl hW hS hc hs)) (fun q2 => absurd q q2)
      · cases e2; exact lv_if_ge hx hb hd (jt_eq hoe) (fun q2 => absurd q2 q) (fun _ => (k LS H locs cells slots hl hW hS hc hs))
    | gt =>
      rcases e2 with ⟨q, e2⟩ | ⟨q, e2⟩
      · cases e2; exact lv_if_gt hx hb hd (jt_eq hoe) (fun _ => (k LS H locs cells slots hl hW hS hc hs)) (fun q2 => absurd q q2)
      · cases e2; exact lv_if_gt hx hb hd (jt_eq hoe) (fun q2 => absurd q2 q) (fun _ => (k LS H locs cells slots hl hW hS hc hs))
    | le =>
      rcases e2 with ⟨q, e2⟩ | ⟨q, e2⟩
      · cases e2; exact lv_if_le hx hb hd (jt_eq hoe) (fun _ => (k LS H locs cells slots hl hW hS hc hs)) (fun q2 => absurd q q2)
      · cases e2; exact lv_if_le hx hb hd (jt_eq hoe) (fun q2 => absurd q2 q) (fun _ => (k LS H locs cells slots hl hW hS hc hs))
  | if_icmp cd off =>
    obtain rfl := len_of hlen rfl rfl
    obtain ⟨x, y, r, rfl, e2⟩ := xcmpi_i hex
    cases cd with
    | eq =>
      rcases e2 with ⟨q, e2⟩ | ⟨q, e2⟩
      · cases e2; exact lv_icmp_eq hx hb hd (jt_eq hoe) (fun _ => (k LS H locs cells slots hl hW hS hc hs)) (fun q2 => absurd q q2)
      · cases e2; exact lv_icmp_eq hx hb hd (jt_eq hoe) (fun q2 => absurd q2 q) (fun _ => (k LS H locs cells slots hl hW hS hc hs))
    | ne =>
      rcases e2 with ⟨q, e2⟩ | ⟨q, e2⟩
      · cases e2; exact lv_icmp_ne hx hb hd (jt_eq hoe) (fun _ => (k LS H locs cells slots hl hW hS hc hs)) (fun q2 => absurd q2 q)
      · cases e2; exact lv_icmp_ne hx hb hd (jt_eq hoe) (fun q2 => absurd q2 q) (fun _ => (k LS H locs cells slots hl hW hS hc hs))
    | lt =>
      rcases e2 with ⟨q, e2⟩ | ⟨q, e2⟩
      · cases e2; exact lv_icmp_lt hx hb hd (jt_eq hoe) (fun _ => (k LS H locs cells slots hl hW hS hc hs)) (fun q2 => absurd q q2)
      · cases e2; exact lv_icmp_lt hx hb hd (jt_eq hoe) (fun q2 => absurd q2 q) (fun _ => (k LS H locs cells slots hl hW hS hc hs))
    | ge =>
      rcases e2 with ⟨q, e2⟩ | ⟨q, e2⟩
      · cases e2; exact lv_icmp_ge hx hb hd (jt_eq hoe) (fun _ => (k LS H locs cells slots hl hW hS hc hs)) (fun q2 => absurd q q2)
      · cases e2; exact lv_icmp_ge hx hb hd (jt_eq hoe) (fun q2 => absurd q2 q) (fun _ => (k LS H locs cells slots hl hW hS hc hs))
    | gt =>
      rcases e2 with ⟨q, e2⟩ | ⟨q, e2⟩
      · cases e2; exact lv_icmp_gt hx hb hd (jt_eq hoe) (fun _ => (k LS H locs cells slots hl hW hS hc hs)) (fun q2 => absurd q q2)
      · cases e2; exact lv_icmp_gt hx hb hd (jt_eq hoe) (fun q2 => absurd q2 q) (fun _ => (k LS H locs cells slots hl hW hS hc hs))
    | le =>
      rcases e2 with ⟨q, e2⟩ | ⟨q, e2⟩
      · cases e2; exact lv_icmp_le hx hb hd (jt_eq hoe) (fun _ => (k LS H locs cells slots hl hW hS hc hs)) (fun q2 => absurd q q2)
      · cases e2; exact lv_icmp_le hx hb hd (jt_eq hoe) (fun q2 => absurd q2 q) (fun _ => (k LS H locs cells slots hl hW hS hc hs))
  | ifnull off =>
    obtain rfl := len_of hlen rfl rfl
    rcases xnull_i hex with ⟨r, rfl, e2⟩ | ⟨x, r, rfl, e2⟩
    · cases e2; exact lv_ifnullN hx hb hd (jt_eq hoe) (k LS H locs cells slots hl hW hS hc hs)
    · cases e2; exact lv_ifnull hx hb hd (k LS H locs cells slots hl hW hS hc hs)
  | ifnonnull off =>
    obtain rfl := len_of hlen rfl rfl
    rcases xnonnull_i hex with ⟨r, rfl, e2⟩ | ⟨x, r, rfl, e2⟩
    · cases e2; exact lv_ifnonnullN hx hb hd (k LS H locs cells slots hl hW hS hc hs)
    · cases e2; exact lv_ifnonnull hx hb hd (jt_eq hoe) (k LS H locs cells slots hl hW hS hc hs)
  | if_acmp cd off =>
    obtain rfl := len_of hlen rfl rfl
    obtain ⟨rx, ry, r, rfl, e2⟩ := xacmp_i hex
    have hinj : rx.map (fun x => n0 + x) = ry.map (fun x => n0 + x) ↔ rx = ry := by
      constructor
      · intro q
        cases rx <;> cases ry <;> simp_all
      · rintro rfl; rfl
    simp only [List.map_cons, sh_rf]
    cases cd with
    | eq =>
      rcases e2 with ⟨q, e2⟩ | ⟨q, e2⟩
      · cases e2; exact lv_acmp_eq hx hb hd (jt_eq hoe) (fun _ => (k LS H locs cells slots hl hW hS hc hs)) (fun q2 => absurd (hinj.mpr q) q2)
      · cases e2; exact lv_acmp_eq hx hb hd (jt_eq hoe) (fun q2 => absurd (hinj.mp q2) q) (fun _ => (k LS H locs cells slots hl hW hS hc hs))
    | ne =>
      rcases e2 with ⟨q, e2⟩ | ⟨q, e2⟩
      · cases e2; exact lv_acmp_ne hx hb hd (jt_eq hoe) (fun q2 => absurd (hinj.mpr q) q2) (fun _ => (k LS H locs cells slots hl hW hS hc hs))
      · cases e2; exact lv_acmp_ne hx hb hd (jt_eq hoe) (fun _ => (k LS H locs cells slots hl hW hS hc hs)) (fun q2 => absurd (hinj.mp q2) q)
  | tableswitch d lo hi offs =>
    obtain ⟨x, r, rfl, e2⟩ := xtab_i hex
    have ho : okt pc d = true ∧ offs.toList.all (okt pc) = true := (Bool.and_eq_true _ _).mp hoe
    rcases e2 with ⟨q, e2⟩ | ⟨q, off, e1, e2⟩
    · cases e2; exact lv_tableOut hx hb hd q (jt_eq ho.1) (k LS H locs cells slots hl hW hS hc hs)
    · cases e2
      have hof : okt pc off = true := List.all_eq_true.mp ho.2 off (by
        have := Array.getElem?_eq_some_iff.mp e1
        obtain ⟨hl9, e9⟩ := this
        rw [← e9]
        exact Array.getElem_mem_toList hl9)
      exact lv_tableIn hx hb hd (fun q2 => q (Or.inl q2)) (fun q2 => q (Or.inr q2)) e1 (jt_eq hof) (k LS H locs cells slots hl hW hS hc hs)
  | lookupswitch d ps =>
    obtain ⟨x, r, rfl, e2⟩ := xlook_i hex
    cases e2
    have ho : okt pc d = true ∧ (ps.toList.all (fun q => okt pc q.2) && (ps.toList.zip (ps.toList.drop 1)).all (fun (a, next) => a.1 < next.1)) = true := (Bool.and_eq_true _ _).mp hoe
    have ho2 := (Bool.and_eq_true _ _).mp ho.2
    have hof : okt pc (Op.lookupswitch.offset ps.toList d x.toInt) = true := look_ok ho.1 ho2.1
    exact lv_lookup hx hb hd ho2.2 rfl (jt_eq hof) (k LS H locs cells slots hl hW hS hc hs)
  | _ => cases hkind
end S2
