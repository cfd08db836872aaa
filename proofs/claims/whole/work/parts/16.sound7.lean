/-! all steps; heaps grow -/
theorem res_i {μ : Bool} {M pc : Nat} {ls st : List Value} {h : Hp} {yy : Rs} (q : res μ M pc ls st h = some yy) : ∃ en, prg M pc = some en ∧ ckE M en ls.length = true ∧ exi (kdm μ h) (rpm μ h) (wkm μ) en (rM M) pc ls st h = some yy := by
  unfold res at q
  cases hp : prg M pc with
  | none => rw [hp] at q; cases q
  | some en =>
    rw [hp] at q
    have q : (bif ckE M en ls.length then exi (kdm μ h) (rpm μ h) (wkm μ) en (rM M) pc ls st h else none) = some yy := q
    cases hc : ckE M en ls.length with
    | false => rw [hc] at q; cases q
    | true => rw [hc] at q; exact ⟨en, rfl, hc, q⟩
section G1
variable {kd : Nat → Nat × Nat} {rp : Nat → Nat → Option Nat} {wk : Nat → Nat → Bool} {pc : Nat} {ls st : List Value} {h : Hp} {pc' : Nat} {ls' st' : List Value} {h' : Hp}
abbrev Gr (h h' : Hp) : Prop := hz h ≤ hz h' ∧ hu h ≤ hu h'
theorem gr_rf (h : Hp) : Gr h h := ⟨Nat.le_refl _, Nat.le_refl _⟩
theorem gr_mk (h : Hp) (a n : Nat) : Gr h (mkc h a n) := ⟨Nat.le_succ _, Nat.le_add_right _ _⟩
theorem exi_grow {en : En} {rt : Option FieldType} (q : exi kd rp wk en rt pc ls st h = some (.inl (pc', ls', st', h'))) : Gr h h' := by
  obtain ⟨ins, len, a, bb, t, pl, v⟩ := en
  cases ins with
  | aconst_null =>
    cases q; exact gr_rf _
  | iconst z0 =>
    cases q; exact gr_rf _
  | bipush z0 =>
    cases q; exact gr_rf _
  | sipush z0 =>
    cases q; exact gr_rf _
  | lconst z0 =>
    cases q; exact gr_rf _
  | ldc z0 =>
    have q : (if bb = 1 then nxt (pc + 2) ls (.retAddr 0 :: st) h else nxt (pc + 2) ls (.int (Int32.ofInt v) :: st) h) = some (.inl (pc', ls', st', h')) := q
    split at q <;> (cases q; exact gr_rf _)
  | ldc_w z0 =>
    cases q; exact gr_rf _
  | ldc2_w z0 =>
    cases q; exact gr_rf _
  | iload z0 =>
    obtain ⟨_, _, e2⟩ := xldI_i q; cases e2; exact ⟨Nat.le_refl _, Nat.le_refl _⟩
  | iload_n z0 =>
    obtain ⟨_, _, e2⟩ := xldI_i q; cases e2; exact ⟨Nat.le_refl _, Nat.le_refl _⟩
  | lload z0 =>
    obtain ⟨_, _, e2⟩ := xldJ_i q; cases e2; exact ⟨Nat.le_refl _, Nat.le_refl _⟩
  | lload_n z0 =>
    obtain ⟨_, _, e2⟩ := xldJ_i q; cases e2; exact ⟨Nat.le_refl _, Nat.le_refl _⟩
  | aload z0 =>
    obtain ⟨_, _, _, e2⟩ := xldA_i q; cases e2; exact ⟨Nat.le_refl _, Nat.le_refl _⟩
  | aload_n z0 =>
    obtain ⟨_, _, _, e2⟩ := xldA_i q; cases e2; exact ⟨Nat.le_refl _, Nat.le_refl _⟩
  | istore z0 =>
    obtain ⟨_, _, _, e2⟩ := xstI_i q; cases e2; exact ⟨Nat.le_refl _, Nat.le_refl _⟩
  | istore_n z0 =>
    obtain ⟨_, _, _, e2⟩ := xstI_i q; cases e2; exact ⟨Nat.le_refl _, Nat.le_refl _⟩
  | lstore z0 =>
    obtain ⟨_, _, _, e2⟩ := xstJ_i q; cases e2; exact ⟨Nat.le_refl _, Nat.le_refl _⟩
  | lstore_n z0 =>
    obtain ⟨_, _, _, e2⟩ := xstJ_i q; cases e2; exact ⟨Nat.le_refl _, Nat.le_refl _⟩
  | astore z0 =>
    rcases xstA_i q with ⟨_, _, _, e2⟩ | ⟨_, _, e2⟩ <;> (cases e2; exact ⟨Nat.le_refl _, Nat.le_refl _⟩)
  | astore_n z0 =>
    rcases xstA_i q with ⟨_, _, _, e2⟩ | ⟨_, _, e2⟩ <;> (cases e2; exact ⟨Nat.le_refl _, Nat.le_refl _⟩)
  | iinc z0 z1 =>
    obtain ⟨_, _, e2⟩ := xinc_i q; cases e2; exact ⟨Nat.le_refl _, Nat.le_refl _⟩
  | iadd =>
    obtain ⟨_, _, _, _, e2⟩ := xbin_i q; cases e2; exact ⟨Nat.le_refl _, Nat.le_refl _⟩
  | isub =>
    obtain ⟨_, _, _, _, e2⟩ := xbin_i q; cases e2; exact ⟨Nat.le_refl _, Nat.le_refl _⟩
  | imul =>
    obtain ⟨_, _, _, _, e2⟩ := xbin_i q; cases e2; exact ⟨Nat.le_refl _, Nat.le_refl _⟩
  | iand =>
    obtain ⟨_, _, _, _, e2⟩ := xbin_i q; cases e2; exact ⟨Nat.le_refl _, Nat.le_refl _⟩
  | ior =>
    obtain ⟨_, _, _, _, e2⟩ := xbin_i q; cases e2; exact ⟨Nat.le_refl _, Nat.le_refl _⟩
  | ixor =>
    obtain ⟨_, _, _, _, e2⟩ := xbin_i q; cases e2; exact ⟨Nat.le_refl _, Nat.le_refl _⟩
  | ishl =>
    obtain ⟨_, _, _, _, e2⟩ := xbin_i q; cases e2; exact ⟨Nat.le_refl _, Nat.le_refl _⟩
  | ishr =>
    obtain ⟨_, _, _, _, e2⟩ := xbin_i q; cases e2; exact ⟨Nat.le_refl _, Nat.le_refl _⟩
  | iushr =>
    obtain ⟨_, _, _, _, e2⟩ := xbin_i q; cases e2; exact ⟨Nat.le_refl _, Nat.le_refl _⟩
  | idiv =>
    obtain ⟨_, _, _, _, _, e2⟩ := xdiv_i q; cases e2; exact ⟨Nat.le_refl _, Nat.le_refl _⟩
  | irem =>
    obtain ⟨_, _, _, _, _, e2⟩ := xdiv_i q; cases e2; exact ⟨Nat.le_refl _, Nat.le_refl _⟩
  | ineg =>
    obtain ⟨_, _, _, e2⟩ := xun_i q; cases e2; exact ⟨Nat.le_refl _, Nat.le_refl _⟩
  | i2b =>
    obtain ⟨_, _, _, e2⟩ := xun_i q; cases e2; exact ⟨Nat.le_refl _, Nat.le_refl _⟩
  | ladd =>
    obtain ⟨_, _, _, _, e2⟩ := xbinJ_i q; cases e2; exact ⟨Nat.le_refl _, Nat.le_refl _⟩
  | lsub =>
    obtain ⟨_, _, _, _, e2⟩ := xbinJ_i q; cases e2; exact ⟨Nat.le_refl _, Nat.le_refl _⟩
  | lmul =>
    obtain ⟨_, _, _, _, e2⟩ := xbinJ_i q; cases e2; exact ⟨Nat.le_refl _, Nat.le_refl _⟩
  | ldiv =>
    obtain ⟨_, _, _, _, _, e2⟩ := xdivJ_i q; cases e2; exact ⟨Nat.le_refl _, Nat.le_refl _⟩
  | lrem =>
    obtain ⟨_, _, _, _, _, e2⟩ := xdivJ_i q; cases e2; exact ⟨Nat.le_refl _, Nat.le_refl _⟩
  | lcmp =>
    obtain ⟨_, _, _, _, e2⟩ := xcmp_i q; cases e2; exact ⟨Nat.le_refl _, Nat.le_refl _⟩
  | i2l =>
    obtain ⟨_, _, _, e2⟩ := xi2l_i q; cases e2; exact ⟨Nat.le_refl _, Nat.le_refl _⟩
  | l2i =>
    obtain ⟨_, _, _, e2⟩ := xl2i_i q; cases e2; exact ⟨Nat.le_refl _, Nat.le_refl _⟩
  | dup =>
    obtain ⟨_, _, _, _, e2⟩ := xdup_i q; cases e2; exact ⟨Nat.le_refl _, Nat.le_refl _⟩
  | dup2 =>
    obtain ⟨_, _, _, _, e2⟩ := xdup2_i q; cases e2; exact ⟨Nat.le_refl _, Nat.le_refl _⟩
  | pop =>
    obtain ⟨_, _, _, _, e2⟩ := xpop_i q; cases e2; exact ⟨Nat.le_refl _, Nat.le_refl _⟩
  | goto z0 =>
    cases q; exact gr_rf _
  | ifCond z0 z1 =>
    obtain ⟨_, _, _, e2⟩ := xif_i q; rcases e2 with ⟨_, e2⟩ | ⟨_, e2⟩ <;> (cases e2; exact gr_rf _)
  | if_icmp z0 z1 =>
    obtain ⟨_, _, _, _, e2⟩ := xcmpi_i q; rcases e2 with ⟨_, e2⟩ | ⟨_, e2⟩ <;> (cases e2; exact gr_rf _)
  | ifnull z0 =>
    rcases xnull_i q with ⟨_, _, e2⟩ | ⟨_, _, _, e2⟩ <;> (cases e2; exact ⟨Nat.le_refl _, Nat.le_refl _⟩)
  | ifnonnull z0 =>
    rcases xnonnull_i q with ⟨_, _, e2⟩ | ⟨_, _, _, e2⟩ <;> (cases e2; exact ⟨Nat.le_refl _, Nat.le_refl _⟩)
  | if_acmp z0 z1 =>
    obtain ⟨_, _, _, _, e2⟩ := xacmp_i q; rcases e2 with ⟨_, e2⟩ | ⟨_, e2⟩ <;> (cases e2; exact gr_rf _)
  | tableswitch z0 z1 z2 z3 =>
    obtain ⟨_, _, _, e2⟩ := xtab_i q; rcases e2 with ⟨_, e2⟩ | ⟨_, _, _, e2⟩ <;> (cases e2; exact gr_rf _)
  | lookupswitch z0 z1 =>
    obtain ⟨_, _, _, e2⟩ := xlook_i q; cases e2; exact ⟨Nat.le_refl _, Nat.le_refl _⟩
  | iaload =>
    rcases xiaload_i (kd := kd) q with ⟨_, _, _, _, _, e2⟩ | ⟨_, _, _, _, e2⟩ <;> (cases e2; exact ⟨Nat.le_refl _, Nat.le_refl _⟩)
  | baload =>
    obtain ⟨_, _, _, _, _, e2⟩ := xbaload_i q; cases e2; exact ⟨Nat.le_refl _, Nat.le_refl _⟩
  | laload =>
    obtain ⟨_, _, _, _, _, e2⟩ := xlaload_i q; cases e2; exact ⟨Nat.le_refl _, Nat.le_refl _⟩
  | aaload =>
    obtain ⟨_, _, _, _, _, e2⟩ := xaaload_i (kd := kd) (rp := rp) q; cases e2; exact ⟨Nat.le_refl _, Nat.le_refl _⟩
  | iastore =>
    obtain ⟨_, _, _, _, _, _, e2⟩ := xiastore_i q; cases e2; exact ⟨Nat.le_refl _, Nat.le_refl _⟩
  | bastore =>
    obtain ⟨_, _, _, _, _, _, e2⟩ := xbastore_i q; cases e2; exact ⟨Nat.le_refl _, Nat.le_refl _⟩
  | lastore =>
    obtain ⟨_, _, _, _, _, _, e2⟩ := xlastore_i q; cases e2; exact ⟨Nat.le_refl _, Nat.le_refl _⟩
  | aastore =>
    rcases xaastore_i (kd := kd) (wk := wk) q with ⟨_, _, _, _, _, _, e2⟩ | ⟨_, _, _, _, _, e2⟩ <;> (cases e2; exact ⟨Nat.le_refl _, Nat.le_refl _⟩)
  | arraylength =>
    rcases xalen_i (kd := kd) q with ⟨_, _, _, _, e2⟩ | ⟨_, _, e2⟩ <;> (cases e2; exact ⟨Nat.le_refl _, Nat.le_refl _⟩)
  | getfield z0 =>
    obtain ⟨_, _, _, _, e2⟩ := xget_i (kd := kd) (rp := rp) q; cases e2; exact ⟨Nat.le_refl _, Nat.le_refl _⟩
  | putfield z0 =>
    obtain ⟨_, _, _, _, _, _, e2, q3⟩ := xput_i (kd := kd) (wk := wk) q
    cases e2
    rcases q3 with ⟨_, _, _, rfl⟩ | ⟨_, _, _, rfl⟩ | ⟨_, _, _, rfl⟩ <;> exact ⟨Nat.le_refl _, Nat.le_refl _⟩
  | new z0 =>
    cases q; exact gr_mk _ _ _
  | newarray z0 =>
    obtain ⟨_, _, _, _, e2⟩ := xnewa_i q; cases e2; exact gr_mk _ _ _
  | anewarray z0 =>
    obtain ⟨_, _, _, _, e2⟩ := xnewa_i q; cases e2; exact gr_mk _ _ _
  | checkcast z0 =>
    obtain ⟨_, _, _, _, e2⟩ := xcast_i (kd := kd) q; cases e2; exact ⟨Nat.le_refl _, Nat.le_refl _⟩
  | invokestatic z0 =>
    rcases xinv_i (kd := kd) q with ⟨_, _, _, e2⟩ | ⟨_, q1⟩ | ⟨_, q1⟩ | ⟨_, q1⟩ | ⟨_, q1⟩ | ⟨_, q1⟩ | ⟨_, q1⟩
    · cases e2; exact gr_rf _
    · obtain ⟨_, _, _, _, _, _, _, _, e2⟩ := xcopy_i q1; cases e2; exact ⟨Nat.le_refl _, Nat.le_refl _⟩
    · obtain ⟨_, _, _, e2⟩ := xclone_i q1; cases e2; exact ⟨Nat.le_succ _, Nat.le_add_right _ _⟩
    · obtain ⟨_, _, e2⟩ := xslen_i q1; cases e2; exact gr_rf _
    · obtain ⟨_, _, _, e2⟩ := xschar_i q1; cases e2; exact gr_rf _
    · obtain ⟨_, _, _, _, _, e2⟩ := xmm_i q1; cases e2; exact gr_rf _
    · obtain ⟨_, _, _, _, _, e2⟩ := xmm_i q1; cases e2; exact gr_rf _
  | invokevirtual z0 =>
    rcases xinv_i (kd := kd) q with ⟨_, _, _, e2⟩ | ⟨_, q1⟩ | ⟨_, q1⟩ | ⟨_, q1⟩ | ⟨_, q1⟩ | ⟨_, q1⟩ | ⟨_, q1⟩
    · cases e2; exact gr_rf _
    · obtain ⟨_, _, _, _, _, _, _, _, e2⟩ := xcopy_i q1; cases e2; exact ⟨Nat.le_refl _, Nat.le_refl _⟩
    · obtain ⟨_, _, _, e2⟩ := xclone_i q1; cases e2; exact ⟨Nat.le_succ _, Nat.le_add_right _ _⟩
    · obtain ⟨_, _, e2⟩ := xslen_i q1; cases e2; exact gr_rf _
    · obtain ⟨_, _, _, e2⟩ := xschar_i q1; cases e2; exact gr_rf _
    · obtain ⟨_, _, _, _, _, e2⟩ := xmm_i q1; cases e2; exact gr_rf _
    · obtain ⟨_, _, _, _, _, e2⟩ := xmm_i q1; cases e2; exact gr_rf _
  | invokespecial z0 =>
    rcases xinv_i (kd := kd) q with ⟨_, _, _, e2⟩ | ⟨_, q1⟩ | ⟨_, q1⟩ | ⟨_, q1⟩ | ⟨_, q1⟩ | ⟨_, q1⟩ | ⟨_, q1⟩
    · cases e2; exact gr_rf _
    · obtain ⟨_, _, _, _, _, _, _, _, e2⟩ := xcopy_i q1; cases e2; exact ⟨Nat.le_refl _, Nat.le_refl _⟩
    · obtain ⟨_, _, _, e2⟩ := xclone_i q1; cases e2; exact ⟨Nat.le_succ _, Nat.le_add_right _ _⟩
    · obtain ⟨_, _, e2⟩ := xslen_i q1; cases e2; exact gr_rf _
    · obtain ⟨_, _, _, e2⟩ := xschar_i q1; cases e2; exact gr_rf _
    · obtain ⟨_, _, _, _, _, e2⟩ := xmm_i q1; cases e2; exact gr_rf _
    · obtain ⟨_, _, _, _, _, e2⟩ := xmm_i q1; cases e2; exact gr_rf _
  | ireturn =>
    have q : xireturn rt st = some (.inl (pc', ls', st', h')) := q
    unfold xireturn at q
    split at q
    · have := (cpt q).2; cases this
    · cases q
  | lreturn =>
    have q : xlreturn st = some (.inl (pc', ls', st', h')) := q
    unfold xlreturn at q
    split at q <;> cases q
  | areturn =>
    have q : xareturn st = some (.inl (pc', ls', st', h')) := q
    unfold xareturn at q
    split at q <;> cases q
  | return_ =>
    have q : xreturn st = some (.inl (pc', ls', st', h')) := q
    unfold xreturn at q
    split at q <;> cases q
  | _ => exact absurd (show (none : Option Rs) = some _ from q) (by simp)
end G1
theorem wpN_grow : ∀ (n : Nat) {μ : Bool} {d M pc : Nat} {ls st : List Value} {h : Hp} {r : Option Value} {hF : Hp}, wpN μ n d M pc ls st h (eqP r hF) → Gr h hF := by
  intro n
  induction n with
  | zero => intro μ d M pc ls st h r hF hw; exact hw.elim
  | succ n ih =>
    intro μ d M pc ls st h r hF hw
    unfold wpN at hw
    cases hr : res μ M pc ls st h with
    | none => rw [hr] at hw; exact hw.elim
    | some yy =>
      rw [hr] at hw
      rcases yy with ⟨pc', ls', st', h'⟩ | r' | ⟨M', as, pc', st'⟩
      · obtain ⟨en, -, -, q⟩ := res_i hr
        have g1 := exi_grow q
        have g2 := ih hw
        exact ⟨Nat.le_trans g1.1 g2.1, Nat.le_trans g1.2 g2.2⟩
      · obtain ⟨-, rfl⟩ := hw
        exact gr_rf _
      · cases d with
        | zero => exact hw.elim
        | succ d' =>
          obtain ⟨r1, h1, a1, b1⟩ := wpN_det n hw
          have g1 := ih b1
          have g2 := ih a1
          exact ⟨Nat.le_trans g1.1 g2.1, Nat.le_trans g1.2 g2.2⟩
section S7
variable {p : Program} {l : Launch} {e : Env} {R : Room} {s : State} {m : MethodId} {args : Array Value} {below : List Frame} {meth : Method} {c : Code} {QQ : State → Prop}
variable {n0 b L : Nat} {xs : Nat → Int32} {adK adV : Nat → Nat} {dA : Nat → ClassId} {D : va_G} {M pc : Nat} {ls st : List Value} {h h0 : Hp} {pc' : Nat} {ls' st' : List Value} {h' : Hp}
set_option maxHeartbeats 4000000 in
theorem sd_all {ins : Instr} {len a bb t pl : Nat} {v : Int} (hx : p.tables.exec = Jvm.exec) (hb : c.code = bM M) (hml : c.maxLocals = lM M) (hown : s.vm.findClass (cS (oM M)) = some m.cls) (hnm : kM M = 2 → meth.name = "<init>") (hts : ∀ w ∈ gtb, w.before args s = true) (hE : EvK n0 b L xs adK adV dA D s)
    (hz0 : s.heap.size = n0 + hz h0) (hz1 : 1 ≤ hz h0) (hRf : 1 ≤ R.frames) (hRl : 60 ≤ R.locals) (hca1 : hz h' ≤ R.cells + hz h0) (hca2 : hu h' ≤ R.slots + hu h0)
    (hd : decode (bM M) pc = .ok (ins, len)) (hoe : okE (oM M) (wM M) pc (ins, len, a, bb, t, pl, v) = true) (hck : ckE M (ins, len, a, bb, t, pl, v) ls.length = true)
    (hex : exi (hk h) (gP h) (fun _ _ => true) (ins, len, a, bb, t, pl, v) (rM M) pc ls st h = some (.inl (pc', ls', st', h'))) (k : KK p l e R s m args below meth c QQ n0 b L xs adK dA D M h0 pc' ls' st' h')
    (hstr : StrW p l e R s m args below meth c QQ n0 b L xs adK dA D M h0) : KK p l e R s m args below meth c QQ n0 b L xs adK dA D M h0 pc ls st h := by
  cases ins with
  | aconst_null => exact sd_1 hx hb hml hown hts hE hd hoe hck hex k rfl
  | iconst z0 => exact sd_1 hx hb hml hown hts hE hd hoe hck hex k rfl
  | bipush z0 => exact sd_1 hx hb hml hown hts hE hd hoe hck hex k rfl
  | sipush z0 => exact sd_1 hx hb hml hown hts hE hd hoe hck hex k rfl
  | lconst z0 => exact sd_1 hx hb hml hown hts hE hd hoe hck hex k rfl
  | ldc z0 => exact sd_1 hx hb hml hown hts hE hd hoe hck hex k rfl
  | ldc_w z0 => exact sd_1 hx hb hml hown hts hE hd hoe hck hex k rfl
  | ldc2_w z0 => exact sd_1 hx hb hml hown hts hE hd hoe hck hex k rfl
  | iload z0 => exact sd_1 hx hb hml hown hts hE hd hoe hck hex k rfl
  | iload_n z0 => exact sd_1 hx hb hml hown hts hE hd hoe hck hex k rfl
  | lload z0 => exact sd_1 hx hb hml hown hts hE hd hoe hck hex k rfl
  | lload_n z0 => exact sd_1 hx hb hml hown hts hE hd hoe hck hex k rfl
  | aload z0 => exact sd_1 hx hb hml hown hts hE hd hoe hck hex k rfl
  | aload_n z0 => exact sd_1 hx hb hml hown hts hE hd hoe hck hex k rfl
  | istore z0 => exact sd_1 hx hb hml hown hts hE hd hoe hck hex k rfl
  | istore_n z0 => exact sd_1 hx hb hml hown hts hE hd hoe hck hex k rfl
  | lstore z0 => exact sd_1 hx hb hml hown hts hE hd hoe hck hex k rfl
  | lstore_n z0 => exact sd_1 hx hb hml hown hts hE hd hoe hck hex k rfl
  | astore z0 => exact sd_1 hx hb hml hown hts hE hd hoe hck hex k rfl
  | astore_n z0 => exact sd_1 hx hb hml hown hts hE hd hoe hck hex k rfl
  | iinc z0 z1 => exact sd_1 hx hb hml hown hts hE hd hoe hck hex k rfl
  | iadd => exact sd_2 hx hb hml hown hts hE hd hoe hck hex k rfl
  | isub => exact sd_2 hx hb hml hown hts hE hd hoe hck hex k rfl
  | imul => exact sd_2 hx hb hml hown hts hE hd hoe hck hex k rfl
  | iand => exact sd_2 hx hb hml hown hts hE hd hoe hck hex k rfl
  | ior => exact sd_2 hx hb hml hown hts hE hd hoe hck hex k rfl
  | ixor => exact sd_2 hx hb hml hown hts hE hd hoe hck hex k rfl
  | ishl => exact sd_2 hx hb hml hown hts hE hd hoe hck hex k rfl
  | ishr => exact sd_2 hx hb hml hown hts hE hd hoe hck hex k rfl
  | iushr => exact sd_2 hx hb hml hown hts hE hd hoe hck hex k rfl
  | idiv => exact sd_2 hx hb hml hown hts hE hd hoe hck hex k rfl
  | irem => exact sd_2 hx hb hml hown hts hE hd hoe hck hex k rfl
  | ineg => exact sd_2 hx hb hml hown hts hE hd hoe hck hex k rfl
  | i2b => exact sd_2 hx hb hml hown hts hE hd hoe hck hex k rfl
  | ladd => exact sd_2 hx hb hml hown hts hE hd hoe hck hex k rfl
  | lsub => exact sd_2 hx hb hml hown hts hE hd hoe hck hex k rfl
  | lmul => exact sd_2 hx hb hml hown hts hE hd hoe hck hex k rfl
  | ldiv => exact sd_2 hx hb hml hown hts hE hd hoe hck hex k rfl
  | lrem => exact sd_2 hx hb hml hown hts hE hd hoe hck hex k rfl
  | lcmp => exact sd_2 hx hb hml hown hts hE hd hoe hck hex k rfl
  | i2l => exact sd_2 hx hb hml hown hts hE hd hoe hck hex k rfl
  | l2i => exact sd_2 hx hb hml hown hts hE hd hoe hck hex k rfl
  | dup => exact sd_2 hx hb hml hown hts hE hd hoe hck hex k rfl
  | dup2 => exact sd_2 hx hb hml hown hts hE hd hoe hck hex k rfl
  | pop => exact sd_2 hx hb hml hown hts hE hd hoe hck hex k rfl
  | goto z0 => exact sd_2 hx hb hml hown hts hE hd hoe hck hex k rfl
  | ifCond z0 z1 => exact sd_2 hx hb hml hown hts hE hd hoe hck hex k rfl
  | if_icmp z0 z1 => exact sd_2 hx hb hml hown hts hE hd hoe hck hex k rfl
  | ifnull z0 => exact sd_2 hx hb hml hown hts hE hd hoe hck hex k rfl
  | ifnonnull z0 => exact sd_2 hx hb hml hown hts hE hd hoe hck hex k rfl
  | if_acmp z0 z1 => exact sd_2 hx hb hml hown hts hE hd hoe hck hex k rfl
  | tableswitch z0 z1 z2 z3 => exact sd_2 hx hb hml hown hts hE hd hoe hck hex k rfl
  | lookupswitch z0 z1 => exact sd_2 hx hb hml hown hts hE hd hoe hck hex k rfl
  | iaload => exact sd_3 hx hb hml hown hts hE hd hoe hck hex k rfl
  | baload => exact sd_3 hx hb hml hown hts hE hd hoe hck hex k rfl
  | laload => exact sd_3 hx hb hml hown hts hE hd hoe hck hex k rfl
  | aaload => exact sd_3 hx hb hml hown hts hE hd hoe hck hex k rfl
  | iastore => exact sd_3 hx hb hml hown hts hE hd hoe hck hex k rfl
  | bastore => exact sd_3 hx hb hml hown hts hE hd hoe hck hex k rfl
  | lastore => exact sd_3 hx hb hml hown hts hE hd hoe hck hex k rfl
  | aastore => exact sd_3 hx hb hml hown hts hE hd hoe hck hex k rfl
  | arraylength => exact sd_3 hx hb hml hown hts hE hd hoe hck hex k rfl
  | getfield z0 => exact sd_4 hx hb hml hown hnm hts hE hd hoe hck hex k rfl
  | putfield z0 => exact sd_4 hx hb hml hown hnm hts hE hd hoe hck hex k rfl
  | new z0 => exact sd_5 hx hb hml hown hts hE hz0 hz1 hca1 hca2 hd hoe hck hex k rfl
  | newarray z0 => exact sd_5 hx hb hml hown hts hE hz0 hz1 hca1 hca2 hd hoe hck hex k rfl
  | anewarray z0 => exact sd_5 hx hb hml hown hts hE hz0 hz1 hca1 hca2 hd hoe hck hex k rfl
  | checkcast z0 => exact sd_5 hx hb hml hown hts hE hz0 hz1 hca1 hca2 hd hoe hck hex k rfl
  | invokestatic z0 => exact sd_6 hx hb hml hown hts hE hz0 hz1 hRf hRl hca1 hca2 hd hoe hck hex k hstr rfl
  | invokevirtual z0 => exact sd_6 hx hb hml hown hts hE hz0 hz1 hRf hRl hca1 hca2 hd hoe hck hex k hstr rfl
  | invokespecial z0 => exact sd_6 hx hb hml hown hts hE hz0 hz1 hRf hRl hca1 hca2 hd hoe hck hex k hstr rfl
  | ireturn =>
    have hex : xireturn (rM M) st = some (.inl (pc', ls', st', h')) := hex
    unfold xireturn at hex
    split at hex
    · have := (cpt hex).2; cases this
    · cases hex
  | lreturn =>
    have hex : xlreturn st = some (.inl (pc', ls', st', h')) := hex
    unfold xlreturn at hex
    split at hex <;> cases hex
  | areturn =>
    have hex : xareturn st = some (.inl (pc', ls', st', h')) := hex
    unfold xareturn at hex
    split at hex <;> cases hex
  | return_ =>
    have hex : xreturn st = some (.inl (pc', ls', st', h')) := hex
    unfold xreturn at hex
    split at hex <;> cases hex
  | _ => exact absurd (show (none : Option Rs) = some _ from hex) (by simp)
end S7
