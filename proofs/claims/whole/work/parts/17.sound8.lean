/-! ends and calls -/
def RetI (rt : Option FieldType) (ins : Instr) (r : Option Value) (st : List Value) : Prop :=
  (ins = .ireturn ∧ ∃ x, retOk rt x ∧ r = some (.int x) ∧ st = [.int x]) ∨ (ins = .lreturn ∧ rt = some .long ∧ ∃ x, r = some (.long x) ∧ st = [.long x]) ∨ (ins = .areturn ∧ ((∃ nn, rt = some (.object nn)) ∨ ∃ tt, rt = some (.array tt)) ∧ ∃ rq, r = some (va_rf rq) ∧ st = [va_rf rq]) ∨ (ins = .return_ ∧ rt = none ∧ r = none ∧ st = [])
theorem xinv_r {kd : Nat → Nat × Nat} {a bb t pc : Nat} {ls st : List Value} {h : Hp} {zz : (Option Value) ⊕ (Nat × List Value × Nat × List Value)} (q : xinv kd a bb t pc ls st h = some (.inr zz)) : bb ≤ 4 ∧ xcall kd a bb t pc st = some (.inr zz) := by
  unfold xinv at q
  by_cases h4 : bb ≤ 4
  · rw [if_pos h4] at q
    exact ⟨h4, q⟩
  exfalso
  rw [if_neg h4] at q
  by_cases h5 : bb = 5
  · rw [if_pos h5] at q
    split at q
    · have := (cpt q).2; cases this
    · cases q
  rw [if_neg h5] at q
  by_cases h6 : bb = 6
  · rw [if_pos h6] at q; obtain ⟨_, _, _, _, _, _, _, _, e2⟩ := xcopy_i q; cases e2
  rw [if_neg h6] at q
  by_cases h7 : bb = 7
  · rw [if_pos h7] at q; obtain ⟨_, _, _, e2⟩ := xclone_i q; cases e2
  rw [if_neg h7] at q
  by_cases h8 : bb = 8
  · rw [if_pos h8] at q; obtain ⟨_, _, e2⟩ := xslen_i q; cases e2
  rw [if_neg h8] at q
  by_cases h9 : bb = 9
  · rw [if_pos h9] at q; obtain ⟨_, _, _, e2⟩ := xschar_i q; cases e2
  rw [if_neg h9] at q
  by_cases h10 : bb = 10
  · rw [if_pos h10] at q; obtain ⟨_, _, _, _, _, e2⟩ := xmm_i q; cases e2
  rw [if_neg h10] at q
  obtain ⟨_, _, _, _, _, e2⟩ := xmm_i q
  cases e2
theorem exi_r {kd : Nat → Nat × Nat} {rp : Nat → Nat → Option Nat} {wk : Nat → Nat → Bool} {M pc : Nat} {ls st : List Value} {h : Hp} {ins : Instr} {len a bb t pl : Nat} {v : Int} {zz : (Option Value) ⊕ (Nat × List Value × Nat × List Value)} (hck : ckE M (ins, len, a, bb, t, pl, v) ls.length = true)
    (q : exi kd rp wk (ins, len, a, bb, t, pl, v) (rM M) pc ls st h = some (.inr zz)) : (∃ r, zz = .inl r ∧ RetI (rM M) ins r st ∧ len = 1) ∨ ((∃ i, (ins = .invokestatic i ∨ ins = .invokevirtual i ∨ ins = .invokespecial i)) ∧ bb ≤ 4 ∧ xcall kd a bb t pc st = some (.inr zz)) := by
  unfold ckE at hck
  simp only [Bool.and_eq_true, Bool.or_eq_true] at hck
  obtain ⟨hlen, hin, hfi⟩ := hck
  have hlen : len = ilen ins ∨ isSw ins = true := hlen.imp Nat.eq_of_beq_eq_true id
  cases ins with
  | aconst_null =>
    cases q
  | iconst z0 =>
    cases q
  | bipush z0 =>
    cases q
  | sipush z0 =>
    cases q
  | lconst z0 =>
    cases q
  | ldc z0 =>
    have q : (if bb = 1 then nxt (pc + 2) ls (.retAddr 0 :: st) h else nxt (pc + 2) ls (.int (Int32.ofInt v) :: st) h) = some (.inr zz) := q
    split at q <;> cases q
  | ldc_w z0 =>
    cases q
  | ldc2_w z0 =>
    cases q
  | iload z0 =>
    obtain ⟨_, _, e2⟩ := xldI_i q; cases e2
  | iload_n z0 =>
    obtain ⟨_, _, e2⟩ := xldI_i q; cases e2
  | lload z0 =>
    obtain ⟨_, _, e2⟩ := xldJ_i q; cases e2
  | lload_n z0 =>
    obtain ⟨_, _, e2⟩ := xldJ_i q; cases e2
  | aload z0 =>
    obtain ⟨_, _, _, e2⟩ := xldA_i q; cases e2
  | aload_n z0 =>
    obtain ⟨_, _, _, e2⟩ := xldA_i q; cases e2
  | istore z0 =>
    obtain ⟨_, _, _, e2⟩ := xstI_i q; cases e2
  | istore_n z0 =>
    obtain ⟨_, _, _, e2⟩ := xstI_i q; cases e2
  | lstore z0 =>
    obtain ⟨_, _, _, e2⟩ := xstJ_i q; cases e2
  | lstore_n z0 =>
    obtain ⟨_, _, _, e2⟩ := xstJ_i q; cases e2
  | astore z0 =>
    rcases xstA_i q with ⟨_, _, _, e2⟩ | ⟨_, _, e2⟩ <;> cases e2
  | astore_n z0 =>
    rcases xstA_i q with ⟨_, _, _, e2⟩ | ⟨_, _, e2⟩ <;> cases e2
  | iinc z0 z1 =>
    obtain ⟨_, _, e2⟩ := xinc_i q; cases e2
  | iadd =>
    obtain ⟨_, _, _, _, e2⟩ := xbin_i q; cases e2
  | isub =>
    obtain ⟨_, _, _, _, e2⟩ := xbin_i q; cases e2
  | imul =>
    obtain ⟨_, _, _, _, e2⟩ := xbin_i q; cases e2
  | iand =>
    obtain ⟨_, _, _, _, e2⟩ := xbin_i q; cases e2
  | ior =>
    obtain ⟨_, _, _, _, e2⟩ := xbin_i q; cases e2
  | ixor =>
    obtain ⟨_, _, _, _, e2⟩ := xbin_i q; cases e2
  | ishl =>
    obtain ⟨_, _, _, _, e2⟩ := xbin_i q; cases e2
  | ishr =>
    obtain ⟨_, _, _, _, e2⟩ := xbin_i q; cases e2
  | iushr =>
    obtain ⟨_, _, _, _, e2⟩ := xbin_i q; cases e2
  | idiv =>
    obtain ⟨_, _, _, _, _, e2⟩ := xdiv_i q; cases e2
  | irem =>
    obtain ⟨_, _, _, _, _, e2⟩ := xdiv_i q; cases e2
  | ineg =>
    obtain ⟨_, _, _, e2⟩ := xun_i q; cases e2
  | i2b =>
    obtain ⟨_, _, _, e2⟩ := xun_i q; cases e2
  | ladd =>
    obtain ⟨_, _, _, _, e2⟩ := xbinJ_i q; cases e2
  | lsub =>
    obtain ⟨_, _, _, _, e2⟩ := xbinJ_i q; cases e2
  | lmul =>
    obtain ⟨_, _, _, _, e2⟩ := xbinJ_i q; cases e2
  | ldiv =>
    obtain ⟨_, _, _, _, _, e2⟩ := xdivJ_i q; cases e2
  | lrem =>
    obtain ⟨_, _, _, _, _, e2⟩ := xdivJ_i q; cases e2
  | lcmp =>
    obtain ⟨_, _, _, _, e2⟩ := xcmp_i q; cases e2
  | i2l =>
    obtain ⟨_, _, _, e2⟩ := xi2l_i q; cases e2
  | l2i =>
    obtain ⟨_, _, _, e2⟩ := xl2i_i q; cases e2
  | dup =>
    obtain ⟨_, _, _, _, e2⟩ := xdup_i q; cases e2
  | dup2 =>
    obtain ⟨_, _, _, _, e2⟩ := xdup2_i q; cases e2
  | pop =>
    obtain ⟨_, _, _, _, e2⟩ := xpop_i q; cases e2
  | goto z0 =>
    cases q
  | ifCond z0 z1 =>
    obtain ⟨_, _, _, e2⟩ := xif_i q; rcases e2 with ⟨_, e2⟩ | ⟨_, e2⟩ <;> cases e2
  | if_icmp z0 z1 =>
    obtain ⟨_, _, _, _, e2⟩ := xcmpi_i q; rcases e2 with ⟨_, e2⟩ | ⟨_, e2⟩ <;> cases e2
  | ifnull z0 =>
    rcases xnull_i q with ⟨_, _, e2⟩ | ⟨_, _, _, e2⟩ <;> cases e2
  | ifnonnull z0 =>
    rcases xnonnull_i q with ⟨_, _, e2⟩ | ⟨_, _, _, e2⟩ <;> cases e2
  | if_acmp z0 z1 =>
    obtain ⟨_, _, _, _, e2⟩ := xacmp_i q; rcases e2 with ⟨_, e2⟩ | ⟨_, e2⟩ <;> cases e2
  | tableswitch z0 z1 z2 z3 =>
    obtain ⟨_, _, _, e2⟩ := xtab_i q; rcases e2 with ⟨_, e2⟩ | ⟨_, _, _, e2⟩ <;> cases e2
  | lookupswitch z0 z1 =>
    obtain ⟨_, _, _, e2⟩ := xlook_i q; cases e2
  | iaload =>
    rcases xiaload_i (kd := kd) q with ⟨_, _, _, _, _, e2⟩ | ⟨_, _, _, _, e2⟩ <;> cases e2
  | baload =>
    obtain ⟨_, _, _, _, _, e2⟩ := xbaload_i q; cases e2
  | laload =>
    obtain ⟨_, _, _, _, _, e2⟩ := xlaload_i q; cases e2
  | aaload =>
    obtain ⟨_, _, _, _, _, e2⟩ := xaaload_i (kd := kd) (rp := rp) q; cases e2
  | iastore =>
    obtain ⟨_, _, _, _, _, _, e2⟩ := xiastore_i q; cases e2
  | bastore =>
    obtain ⟨_, _, _, _, _, _, e2⟩ := xbastore_i q; cases e2
  | lastore =>
    obtain ⟨_, _, _, _, _, _, e2⟩ := xlastore_i q; cases e2
  | aastore =>
    rcases xaastore_i (kd := kd) (wk := wk) q with ⟨_, _, _, _, _, _, e2⟩ | ⟨_, _, _, _, _, e2⟩ <;> cases e2
  | arraylength =>
    rcases xalen_i (kd := kd) q with ⟨_, _, _, _, e2⟩ | ⟨_, _, e2⟩ <;> cases e2
  | getfield z0 =>
    obtain ⟨_, _, _, _, e2⟩ := xget_i (kd := kd) (rp := rp) q; cases e2
  | putfield z0 =>
    obtain ⟨_, _, _, _, _, _, e2, q3⟩ := xput_i (kd := kd) (wk := wk) q
    cases e2
  | new z0 =>
    cases q
  | newarray z0 =>
    obtain ⟨_, _, _, _, e2⟩ := xnewa_i q; cases e2
  | anewarray z0 =>
    obtain ⟨_, _, _, _, e2⟩ := xnewa_i q; cases e2
  | checkcast z0 =>
    obtain ⟨_, _, _, _, e2⟩ := xcast_i (kd := kd) q; cases e2
  | invokestatic z0 =>
    exact Or.inr ⟨⟨z0, Or.inl rfl⟩, xinv_r q⟩
  | invokevirtual z0 =>
    exact Or.inr ⟨⟨z0, Or.inr (Or.inl rfl)⟩, xinv_r q⟩
  | invokespecial z0 =>
    exact Or.inr ⟨⟨z0, Or.inr (Or.inr rfl)⟩, xinv_r q⟩
  | ireturn =>
    have q : xireturn (rM M) st = some (.inr zz) := q
    unfold xireturn at q
    split at q
    · obtain ⟨q1, q2⟩ := cpt q
      cases q2
      exact Or.inl ⟨_, rfl, Or.inl ⟨rfl, _, q1, rfl, rfl⟩, len_of hlen rfl rfl⟩
    · cases q
  | lreturn =>
    have q : xlreturn st = some (.inr zz) := q
    have hin : (match rM M with | some .long => true | _ => false) = true := hin
    have hr : rM M = some .long := by
      cases hq : rM M with
      | none => rw [hq] at hin; cases hin
      | some ty => rw [hq] at hin; cases ty <;> first | rfl | cases hin
    unfold xlreturn at q
    split at q
    · cases q
      exact Or.inl ⟨_, rfl, Or.inr (Or.inl ⟨rfl, hr, _, rfl, rfl⟩), len_of hlen rfl rfl⟩
    · cases q
  | areturn =>
    have q : xareturn st = some (.inr zz) := q
    have hin : (match rM M with | some (.object _) => true | some (.array _) => true | _ => false) = true := hin
    have hr : (∃ nn, rM M = some (.object nn)) ∨ ∃ tt, rM M = some (.array tt) := by
      cases hq : rM M with
      | none => rw [hq] at hin; cases hin
      | some ty => rw [hq] at hin; cases ty <;> first | exact Or.inl ⟨_, rfl⟩ | exact Or.inr ⟨_, rfl⟩ | cases hin
    unfold xareturn at q
    split at q
    · cases q
      exact Or.inl ⟨_, rfl, Or.inr (Or.inr (Or.inl ⟨rfl, hr, some _, rfl, rfl⟩)), len_of hlen rfl rfl⟩
    · cases q
      exact Or.inl ⟨_, rfl, Or.inr (Or.inr (Or.inl ⟨rfl, hr, none, rfl, rfl⟩)), len_of hlen rfl rfl⟩
    · cases q
  | return_ =>
    have q : xreturn st = some (.inr zz) := q
    have hin : (match rM M with | none => true | _ => false) = true := hin
    have hr : rM M = none := by
      cases hq : rM M with
      | none => rfl
      | some ty => rw [hq] at hin; cases hin
    unfold xreturn at q
    split at q
    · cases q
      exact Or.inl ⟨_, rfl, Or.inr (Or.inr (Or.inr ⟨rfl, hr, rfl, rfl⟩)), len_of hlen rfl rfl⟩
    · cases q
  | _ => exact absurd (show (none : Option Rs) = some _ from q) (by simp)
set_option maxRecDepth 100000 in
theorem init_void : QW.all (fun M => bif Nat.beq (kM M) 2 then (match rM M with | none => true | _ => false) else true) = true := by decide +kernel
/-- what holds of a state holds of a later one -/
theorem EvK.go {n0 b L : Nat} {xs : Nat → Int32} {adK adV : Nat → Nat} {dA : Nat → ClassId} {D : va_G} {s : State} {H : Heap} {locs : List Loc} (hE : EvK n0 b L xs adK adV dA D s) (hS : va_S (AA n0) s.heap H locs) {U : State} (hU : U.heap = H) (hW : s.WarmedH U.vm) : EvK n0 b L xs adK adV dA D U := by
  obtain ⟨h1, h2, ⟨h3a, h3b, h3c⟩, h4, h5, ⟨h6a, h6b⟩, h7, h8, h9, h10⟩ := hE
  have hb2 : ¬ AA n0 b := by show ¬ n0 + 1 ≤ b; omega
  refine ⟨va_K.moved hW.alike h1, fun q hq => va_Nw.warmM hW (h2 q hq), ⟨va_AO.moved hW.alike h3a, va_AO.moved hW.alike h3b, va_AO.moved hW.alike h3c⟩, va_Nw.warmC hW h4, ?_, ⟨?_, h6b⟩, h7.warm hW, ?_, ?_, ?_⟩
  · rw [hU]
    exact (h5.kept (hS.2.1 b h6a hb2)).moved hW.alike
  · rw [hU]
    exact Nat.lt_of_lt_of_le h6a hS.1
  · rw [hU]
    exact (h8.kept hS.2.1).moved hW.alike
  · rw [hU]
    exact (h9.kept hS.2.1).moved hW.alike
  · rw [hU]
    exact (h10.kept hS.2.1).moved hW.alike
abbrev QcM (n0 b L : Nat) (xs : Nat → Int32) (adK : Nat → Nat) (dA : Nat → ClassId) (D : va_G) (r1 : Option Value) (h1 : Hp) : Array Value → State → Outcome → State → Prop := fun _ stt oo tt => oo = .returned (r1.map (sh n0 b adK)) ∧ Wd n0 L xs dA D h1 tt.heap ∧ va_F (AA n0) stt tt
abbrev PcM (n0 b L : Nat) (xs : Nat → Int32) (adK adV : Nat → Nat) (dA : Nat → ClassId) (D : va_G) (as : List Value) (h : Hp) : Array Value → State → Prop := fun vv U => vv = (as.map (sh n0 b adK)).toArray ∧ Wd n0 L xs dA D h U.heap ∧ EvK n0 b L xs adK adV dA D U ∧ U.heap.size = n0 + hz h
section S8
variable {p : Program} {l : Launch} {e : Env} {R : Room} {s : State} {m : MethodId} {args : Array Value} {below : List Frame} {meth : Method} {c : Code} {QQ : State → Prop} {H : Heap} {locs : List Loc} {cells slots mc ms : Nat}
variable {n0 b L : Nat} {xs : Nat → Int32} {adK adV : Nat → Nat} {dA : Nat → ClassId} {D : va_G} {pc : Nat} {h1 : Hp} {r1 : Option Value} {LS : Array Slot} {rest st0 : List Value} {aa : Array Value}
theorem iv_run (hr : va_Run p l e R s m args below meth c H locs cells slots mc ms (F0 m pc LS st0) rest (QcM n0 b L xs adK dA D r1 h1 aa) (AA n0)) (hS : va_S (AA n0) s.heap H locs)
    (kk : ∀ (H1 : Heap) (locs1 : List Loc), Wd n0 L xs dA D h1 H1 → va_S (AA n0) s.heap H1 locs1 → W p l e R s m args below meth c H1 locs1 (cells + mc) (slots + ms) QQ (F0 m (pc + 3) LS ((r1.map (sh n0 b adK)).toList ++ rest))) : W p l e R s m args below meth c H locs cells slots QQ (F0 m pc LS st0) := by
  intro T hT X
  obtain ⟨vv, st1, tt, T', Lc, e0, X', hLc, e1, e2, ⟨hv, hw, hz, hkk⟩, stp⟩ := hr T hT X
  cases hv
  rw [e0] at hz hkk
  obtain ⟨t2, a1, b1⟩ := kk T'.heap (locs ++ Lc) (by rw [e1]; exact hw) ⟨Nat.le_trans hS.1 (by rw [e1]; exact hz), fun q g1 g2 => by rw [e1, hkk q (Nat.lt_of_lt_of_le g1 hS.1) g2]; exact hS.2.1 q g1 g2, fun q hq => by
      rcases List.mem_append.mp hq with g | g
      · exact hS.2.2 q g
      · exact hLc q g⟩ T' rfl X'
  exact ⟨t2, stp t2 a1, b1⟩
theorem pc_blind {as : List Value} {h : Hp} : FrameBlind (PcM n0 b L xs adK adV dA D as h) := fun a U g mk q => ⟨q.1, q.2.1, q.2.2.1.go (H := U.heap) va_S.rf rfl (State.WarmedH.refl U), q.2.2.2⟩
end S8
