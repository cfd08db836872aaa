/-! what is known of the cells that stand from the start may be read off their table: a run that reads the table is a run -/
def OKS (L : Nat) (xs : Nat → Int32) (h : Hp) : Prop := 121 ≤ hz h ∧ (∀ a, a < 121 → a ≠ 0 → hk h a = T0 a) ∧ hk h 0 = (99, L) ∧ (∀ a i r, st0 a i = some r → gP h a i = some r) ∧ gI h 0 = xs
theorem st0_lt {a i r : Nat} (e : st0 a i = some r) : a < 121 := by
  unfold st0 at e
  cases hb : Nat.blt a NS with
  | true => exact Nat.le_of_ble_eq_true hb
  | false => rw [hb] at e; cases e
section OK
variable {L : Nat} {xs : Nat → Int32}
theorem OKS.mk {h : Hp} (o : OKS L xs h) (k n : Nat) : OKS L xs (mkc h k n) := by
  obtain ⟨o1, o2, o3, o4, o5⟩ := o
  refine ⟨Nat.le_succ_of_le o1, fun a ha h0 => ?_, ?_, fun a i r e => ?_, ?_⟩
  · show up1 (hk h) (hz h) (k, n) a = T0 a
    unfold up1
    rw [if_neg (by omega)]
    exact o2 a ha h0
  · show up1 (hk h) (hz h) (k, n) 0 = (99, L)
    unfold up1
    rw [if_neg (by omega)]
    exact o3
  · show up1 (gP h) (hz h) (fun _ => none) a i = some r
    have := st0_lt e
    unfold up1
    rw [if_neg (by omega)]
    exact o4 a i r e
  · show up1 (gI h) (hz h) (fun _ => 0) 0 = xs
    unfold up1
    rw [if_neg (by omega)]
    exact o5
theorem OKS.sI {h : Hp} (o : OKS L xs h) {a i : Nat} {v : Int32} (ha : a ≠ 0) : OKS L xs (sI h a i v) := by
  obtain ⟨o1, o2, o3, o4, o5⟩ := o
  refine ⟨o1, o2, o3, o4, ?_⟩
  show (fun j => up2 (gI h) a i v 0 j) = xs
  rw [← o5]
  funext j
  unfold up2
  rw [if_neg (fun z => ha z.1.symm)]
theorem OKS.sA {h : Hp} (o : OKS L xs h) {a : Nat} {f : Nat → Int32} (ha : a ≠ 0) : OKS L xs (sA h a f) := by
  obtain ⟨o1, o2, o3, o4, o5⟩ := o
  refine ⟨o1, o2, o3, o4, ?_⟩
  show up1 (gI h) a f 0 = xs
  unfold up1
  rw [if_neg (fun z => ha z.symm)]
  exact o5
theorem n99 {kd : Nat → Nat × Nat} (k0 : (kd 0).1 = 99) {a k : Nat} (e : (kd a).1 = k) (hk : k ≠ 99) : a ≠ 0 := by
  intro z
  rw [z, k0] at e
  exact hk e.symm
theorem OKS.sP {h : Hp} (o : OKS L xs h) {a i : Nat} (v : Option Nat) (hw : wkm true a i = true) : OKS L xs (sP h a i v) := by
  obtain ⟨o1, o2, o3, o4, o5⟩ := o
  refine ⟨o1, o2, o3, fun b j r e => ?_, o5⟩
  show up2 (gP h) a i v b j = some r
  unfold up2
  split
  · next q =>
    obtain ⟨rfl, rfl⟩ := q
    unfold wkm at hw
    rw [e] at hw
    cases hw
  · exact o4 b j r e
theorem kdm_f (h : Hp) : kdm false h = hk h := funext fun a => rfl
theorem rpm_f (h : Hp) : rpm false h = gP h := funext fun a => funext fun i => rfl
theorem wkm_f : wkm false = fun _ _ => true := rfl
theorem OKS.rp {h : Hp} (o : OKS L xs h) : rpm true h = gP h := funext fun a => funext fun i => by
  unfold rpm
  cases e : st0 a i with
  | none => simp only [cond_true, e]
  | some r => simp only [cond_true, e]; exact (o.2.2.2.1 a i r e).symm
theorem OKS.kd {h : Hp} (o : OKS L xs h) (a : Nat) (ha : a ≠ 0) : kdm true h a = hk h a := by
  unfold kdm
  cases hb : Nat.blt a NS with
  | false => rfl
  | true => exact (o.2.1 a (Nat.le_of_ble_eq_true hb) ha).symm
theorem OKS.k1 {h : Hp} (o : OKS L xs h) (a : Nat) : (hk h a).1 = (kdm true h a).1 := by
  by_cases ha : a = 0
  · subst ha; rw [o.2.2.1]; rfl
  · rw [o.kd a ha]
theorem OKS.k2 {h : Hp} (o : OKS L xs h) (a : Nat) (hn : (kdm true h a).1 ≠ 99) : hk h a = kdm true h a := by
  by_cases ha : a = 0
  · subst ha; exact absurd rfl hn
  · exact (o.kd a ha).symm
end OK
section ST1
variable {L : Nat} {xs : Nat → Int32} {kd kd' : Nat → Nat × Nat} {rp : Nat → Nat → Option Nat} {wk : Nat → Nat → Bool} {pc : Nat} {ls st : List Value} {h : Hp} {pc' : Nat} {ls' st' : List Value} {h' : Hp}
set_option maxHeartbeats 4000000 in
theorem exi_oks (o : OKS L xs h) (k0 : (kd 0).1 = 99) {en : En} {rt : Option FieldType} (hp : ∀ i, en.1 = .putfield i → en.2.2.1 ≠ 99) (q : exi kd rp (wkm true) en rt pc ls st h = some (.inl (pc', ls', st', h'))) : OKS L xs h' := by
  obtain ⟨ins, len, a, bb, t, pl, v⟩ := en
  cases ins with
  | aconst_null =>
    cases q; exact o
  | iconst z0 =>
    cases q; exact o
  | bipush z0 =>
    cases q; exact o
  | sipush z0 =>
    cases q; exact o
  | lconst z0 =>
    cases q; exact o
  | ldc z0 =>
    have q : (if bb = 1 then nxt (pc + 2) ls (.retAddr 0 :: st) h else nxt (pc + 2) ls (.int (Int32.ofInt v) :: st) h) = some (.inl (pc', ls', st', h')) := q
    split at q <;> (cases q; exact o)
  | ldc_w z0 =>
    cases q; exact o
  | ldc2_w z0 =>
    cases q; exact o
  | iload z0 =>
    obtain ⟨_, _, e2⟩ := xldI_i q; cases e2; exact o
  | iload_n z0 =>
    obtain ⟨_, _, e2⟩ := xldI_i q; cases e2; exact o
  | lload z0 =>
    obtain ⟨_, _, e2⟩ := xldJ_i q; cases e2; exact o
  | lload_n z0 =>
    obtain ⟨_, _, e2⟩ := xldJ_i q; cases e2; exact o
  | aload z0 =>
    obtain ⟨_, _, _, e2⟩ := xldA_i q; cases e2; exact o
  | aload_n z0 =>
    obtain ⟨_, _, _, e2⟩ := xldA_i q; cases e2; exact o
  | istore z0 =>
    obtain ⟨_, _, _, e2⟩ := xstI_i q; cases e2; exact o
  | istore_n z0 =>
    obtain ⟨_, _, _, e2⟩ := xstI_i q; cases e2; exact o
  | lstore z0 =>
    obtain ⟨_, _, _, e2⟩ := xstJ_i q; cases e2; exact o
  | lstore_n z0 =>
    obtain ⟨_, _, _, e2⟩ := xstJ_i q; cases e2; exact o
  | astore z0 =>
    rcases xstA_i q with ⟨_, _, _, e2⟩ | ⟨_, _, e2⟩ <;> (cases e2; exact o)
  | astore_n z0 =>
    rcases xstA_i q with ⟨_, _, _, e2⟩ | ⟨_, _, e2⟩ <;> (cases e2; exact o)
  | iinc z0 z1 =>
    obtain ⟨_, _, e2⟩ := xinc_i q; cases e2; exact o
  | iadd =>
    obtain ⟨_, _, _, _, e2⟩ := xbin_i q; cases e2; exact o
  | isub =>
    obtain ⟨_, _, _, _, e2⟩ := xbin_i q; cases e2; exact o
  | imul =>
    obtain ⟨_, _, _, _, e2⟩ := xbin_i q; cases e2; exact o
  | iand =>
    obtain ⟨_, _, _, _, e2⟩ := xbin_i q; cases e2; exact o
  | ior =>
    obtain ⟨_, _, _, _, e2⟩ := xbin_i q; cases e2; exact o
  | ixor =>
    obtain ⟨_, _, _, _, e2⟩ := xbin_i q; cases e2; exact o
  | ishl =>
    obtain ⟨_, _, _, _, e2⟩ := xbin_i q; cases e2; exact o
  | ishr =>
    obtain ⟨_, _, _, _, e2⟩ := xbin_i q; cases e2; exact o
  | iushr =>
    obtain ⟨_, _, _, _, e2⟩ := xbin_i q; cases e2; exact o
  | idiv =>
    obtain ⟨_, _, _, _, _, e2⟩ := xdiv_i q; cases e2; exact o
  | irem =>
    obtain ⟨_, _, _, _, _, e2⟩ := xdiv_i q; cases e2; exact o
  | ineg =>
    obtain ⟨_, _, _, e2⟩ := xun_i q; cases e2; exact o
  | i2b =>
    obtain ⟨_, _, _, e2⟩ := xun_i q; cases e2; exact o
  | ladd =>
    obtain ⟨_, _, _, _, e2⟩ := xbinJ_i q; cases e2; exact o
  | lsub =>
    obtain ⟨_, _, _, _, e2⟩ := xbinJ_i q; cases e2; exact o
  | lmul =>
    obtain ⟨_, _, _, _, e2⟩ := xbinJ_i q; cases e2; exact o
  | ldiv =>
    obtain ⟨_, _, _, _, _, e2⟩ := xdivJ_i q; cases e2; exact o
  | lrem =>
    obtain ⟨_, _, _, _, _, e2⟩ := xdivJ_i q; cases e2; exact o
  | lcmp =>
    obtain ⟨_, _, _, _, e2⟩ := xcmp_i q; cases e2; exact o
  | i2l =>
    obtain ⟨_, _, _, e2⟩ := xi2l_i q; cases e2; exact o
  | l2i =>
    obtain ⟨_, _, _, e2⟩ := xl2i_i q; cases e2; exact o
  | dup =>
    obtain ⟨_, _, _, _, e2⟩ := xdup_i q; cases e2; exact o
  | dup2 =>
    obtain ⟨_, _, _, _, e2⟩ := xdup2_i q; cases e2; exact o
  | pop =>
    obtain ⟨_, _, _, _, e2⟩ := xpop_i q; cases e2; exact o
  | goto z0 =>
    cases q; exact o
  | ifCond z0 z1 =>
    obtain ⟨_, _, _, e2⟩ := xif_i q; rcases e2 with ⟨_, e2⟩ | ⟨_, e2⟩ <;> (cases e2; exact o)
  | if_icmp z0 z1 =>
    obtain ⟨_, _, _, _, e2⟩ := xcmpi_i q; rcases e2 with ⟨_, e2⟩ | ⟨_, e2⟩ <;> (cases e2; exact o)
  | ifnull z0 =>
    rcases xnull_i q with ⟨_, _, e2⟩ | ⟨_, _, _, e2⟩ <;> (cases e2; exact o)
  | ifnonnull z0 =>
    rcases xnonnull_i q with ⟨_, _, e2⟩ | ⟨_, _, _, e2⟩ <;> (cases e2; exact o)
  | if_acmp z0 z1 =>
    obtain ⟨_, _, _, _, e2⟩ := xacmp_i q; rcases e2 with ⟨_, e2⟩ | ⟨_, e2⟩ <;> (cases e2; exact o)
  | tableswitch z0 z1 z2 z3 =>
    obtain ⟨_, _, _, e2⟩ := xtab_i q; rcases e2 with ⟨_, e2⟩ | ⟨_, _, _, e2⟩ <;> (cases e2; exact o)
  | lookupswitch z0 z1 =>
    obtain ⟨_, _, _, e2⟩ := xlook_i q; cases e2; exact o
  | iaload =>
    rcases xiaload_i (kd := kd) q with ⟨_, _, _, _, _, e2⟩ | ⟨_, _, _, _, e2⟩ <;> (cases e2; exact o)
  | baload =>
    obtain ⟨_, _, _, _, _, e2⟩ := xbaload_i q; cases e2; exact o
  | laload =>
    obtain ⟨_, _, _, _, _, e2⟩ := xlaload_i q; cases e2; exact o
  | aaload =>
    obtain ⟨_, _, _, _, _, e2⟩ := xaaload_i (kd := kd) (rp := rp) q; cases e2; exact o
  | iastore =>
    obtain ⟨_, _, _, _, _, hc, e2⟩ := xiastore_i q; cases e2; exact o.sI (n99 k0 hc.1 (by decide))
  | bastore =>
    obtain ⟨_, _, _, _, _, hc, e2⟩ := xbastore_i q; cases e2; exact o.sI (by rcases hc.1 with w | w <;> exact n99 k0 w (by decide))
  | lastore =>
    obtain ⟨_, _, _, _, _, _, e2⟩ := xlastore_i q; cases e2; exact o
  | aastore =>
    rcases xaastore_i (kd := kd) (wk := wkm true) q with ⟨_, _, _, _, _, hw, e2⟩ | ⟨_, _, _, _, hw, e2⟩
    · cases e2; exact o.sP _ hw.2.2.2
    · cases e2; exact o.sP _ hw.2.2
  | arraylength =>
    rcases xalen_i (kd := kd) q with ⟨_, _, _, _, e2⟩ | ⟨_, _, e2⟩ <;> (cases e2; exact o)
  | getfield z0 =>
    obtain ⟨_, _, _, _, e2⟩ := xget_i (kd := kd) (rp := rp) q; cases e2; exact o
  | putfield z0 =>
    obtain ⟨_, _, _, _, _, hc, e2, q3⟩ := xput_i (kd := kd) (wk := wkm true) q
    cases e2
    rcases q3 with ⟨_, _, _, rfl⟩ | ⟨_, _, _, rfl⟩ | ⟨_, _, hw, rfl⟩
    · exact o.sI (n99 k0 hc (hp _ rfl))
    · exact o
    · exact o.sP _ hw.2
  | new z0 =>
    cases q; exact o.mk _ _
  | newarray z0 =>
    obtain ⟨_, _, _, _, e2⟩ := xnewa_i q; cases e2; exact o.mk _ _
  | anewarray z0 =>
    obtain ⟨_, _, _, _, e2⟩ := xnewa_i q; cases e2; exact o.mk _ _
  | checkcast z0 =>
    obtain ⟨_, _, _, _, e2⟩ := xcast_i (kd := kd) q; cases e2; exact o
  | invokestatic z0 =>
    rcases xinv_i (kd := kd) q with ⟨_, _, _, e2⟩ | ⟨_, q1⟩ | ⟨_, q1⟩ | ⟨_, q1⟩ | ⟨_, q1⟩ | ⟨_, q1⟩ | ⟨_, q1⟩
    · cases e2; exact o
    · obtain ⟨_, _, _, _, _, _, _, hc, e2⟩ := xcopy_i q1; cases e2; exact o.sA (n99 k0 hc.1.1 (by decide))
    · obtain ⟨_, _, _, e2⟩ := xclone_i q1; cases e2; exact (o.mk _ _).sA (by have := o.1; omega)
    · obtain ⟨_, _, e2⟩ := xslen_i q1; cases e2; exact o
    · obtain ⟨_, _, _, e2⟩ := xschar_i q1; cases e2; exact o
    · obtain ⟨_, _, _, _, _, e2⟩ := xmm_i q1; cases e2; exact o
    · obtain ⟨_, _, _, _, _, e2⟩ := xmm_i q1; cases e2; exact o
  | invokevirtual z0 =>
    rcases xinv_i (kd := kd) q with ⟨_, _, _, e2⟩ | ⟨_, q1⟩ | ⟨_, q1⟩ | ⟨_, q1⟩ | ⟨_, q1⟩ | ⟨_, q1⟩ | ⟨_, q1⟩
    · cases e2; exact o
    · obtain ⟨_, _, _, _, _, _, _, hc, e2⟩ := xcopy_i q1; cases e2; exact o.sA (n99 k0 hc.1.1 (by decide))
    · obtain ⟨_, _, _, e2⟩ := xclone_i q1; cases e2; exact (o.mk _ _).sA (by have := o.1; omega)
    · obtain ⟨_, _, e2⟩ := xslen_i q1; cases e2; exact o
    · obtain ⟨_, _, _, e2⟩ := xschar_i q1; cases e2; exact o
    · obtain ⟨_, _, _, _, _, e2⟩ := xmm_i q1; cases e2; exact o
    · obtain ⟨_, _, _, _, _, e2⟩ := xmm_i q1; cases e2; exact o
  | invokespecial z0 =>
    rcases xinv_i (kd := kd) q with ⟨_, _, _, e2⟩ | ⟨_, q1⟩ | ⟨_, q1⟩ | ⟨_, q1⟩ | ⟨_, q1⟩ | ⟨_, q1⟩ | ⟨_, q1⟩
    · cases e2; exact o
    · obtain ⟨_, _, _, _, _, _, _, hc, e2⟩ := xcopy_i q1; cases e2; exact o.sA (n99 k0 hc.1.1 (by decide))
    · obtain ⟨_, _, _, e2⟩ := xclone_i q1; cases e2; exact (o.mk _ _).sA (by have := o.1; omega)
    · obtain ⟨_, _, e2⟩ := xslen_i q1; cases e2; exact o
    · obtain ⟨_, _, _, e2⟩ := xschar_i q1; cases e2; exact o
    · obtain ⟨_, _, _, _, _, e2⟩ := xmm_i q1; cases e2; exact o
    · obtain ⟨_, _, _, _, _, e2⟩ := xmm_i q1; cases e2; exact o
  | ireturn =>
    have q : xireturn rt st = some (.inl (pc', ls', st', h')) := q
    unfold xireturn at q
    split at q
    · have := (cpt q).2; cases this
    · cases q
  | lreturn =>
    have q : xlreturn st = some (.inl (pc', ls', st', h')) := q
    unfold xlreturn at q
    split at q <;> cases q
  | areturn =>
    have q : xareturn st = some (.inl (pc', ls', st', h')) := q
    unfold xareturn at q
    split at q <;> cases q
  | return_ =>
    have q : xreturn st = some (.inl (pc', ls', st', h')) := q
    unfold xreturn at q
    split at q <;> cases q
  | _ => exact absurd (show (none : Option Rs) = some _ from q) (by simp)
section AG
variable {y : Rs}
theorem ag_iaload (k1 : ∀ a, (kd' a).1 = (kd a).1) (k2 : ∀ a, (kd a).1 ≠ 99 → kd' a = kd a) (q : xiaload kd pc ls st h = some y) : xiaload kd' pc ls st h = some y := by
  unfold xiaload at q ⊢
  split at q
  · have c := (cpt q).1
    rw [k2 _ (by rw [c.1]; decide)]
    exact q
  · exact q
  · cases q
theorem ag_baload (k1 : ∀ a, (kd' a).1 = (kd a).1) (k2 : ∀ a, (kd a).1 ≠ 99 → kd' a = kd a) (q : xbaload kd pc ls st h = some y) : xbaload kd' pc ls st h = some y := by
  unfold xbaload at q ⊢
  split at q
  · have c := (cpt q).1
    rw [k2 _ (by have := c.1; omega)]
    exact q
  · cases q
theorem ag_laload (k1 : ∀ a, (kd' a).1 = (kd a).1) (k2 : ∀ a, (kd a).1 ≠ 99 → kd' a = kd a) (q : xlaload kd pc ls st h = some y) : xlaload kd' pc ls st h = some y := by
  unfold xlaload at q ⊢
  split at q
  · have c := (cpt q).1
    rw [k2 _ (by have := c.1; omega)]
    exact q
  · cases q
theorem ag_aaload (k1 : ∀ a, (kd' a).1 = (kd a).1) (k2 : ∀ a, (kd a).1 ≠ 99 → kd' a = kd a) (q : xaaload kd rp pc ls st h = some y) : xaaload kd' rp pc ls st h = some y := by
  unfold xaaload at q ⊢
  split at q
  · have c := (cpt q).1
    rw [k2 _ (by have := c.1; omega)]
    exact q
  · cases q
theorem ag_iastore (k1 : ∀ a, (kd' a).1 = (kd a).1) (k2 : ∀ a, (kd a).1 ≠ 99 → kd' a = kd a) (q : xiastore kd pc ls st h = some y) : xiastore kd' pc ls st h = some y := by
  unfold xiastore at q ⊢
  split at q
  · have c := (cpt q).1
    rw [k2 _ (by have := c.1; omega)]
    exact q
  · cases q
theorem ag_bastore (k1 : ∀ a, (kd' a).1 = (kd a).1) (k2 : ∀ a, (kd a).1 ≠ 99 → kd' a = kd a) (q : xbastore kd pc ls st h = some y) : xbastore kd' pc ls st h = some y := by
  unfold xbastore at q ⊢
  split at q
  · have c := (cpt q).1
    rw [k2 _ (by have := c.1; omega)]
    exact q
  · cases q
theorem ag_lastore (k1 : ∀ a, (kd' a).1 = (kd a).1) (k2 : ∀ a, (kd a).1 ≠ 99 → kd' a = kd a) (q : xlastore kd pc ls st h = some y) : xlastore kd' pc ls st h = some y := by
  unfold xlastore at q ⊢
  split at q
  · have c := (cpt q).1
    rw [k2 _ (by have := c.1; omega)]
    exact q
  · cases q
theorem ag_aastore (k1 : ∀ a, (kd' a).1 = (kd a).1) (k2 : ∀ a, (kd a).1 ≠ 99 → kd' a = kd a) (q : xaastore kd wk pc ls st h = some y) : xaastore kd' (fun _ _ => true) pc ls st h = some y := by
  unfold xaastore at q ⊢
  split at q
  · obtain ⟨c, e⟩ := cpt q
    rw [k2 _ (by have := c.1; omega), k1, pif_t ⟨c.1, c.2.1, c.2.2.1, rfl⟩, ← e]
  · obtain ⟨c, e⟩ := cpt q
    rw [k2 _ (by have := c.1; omega), pif_t ⟨c.1, c.2.1, rfl⟩, ← e]
  · cases q
theorem ag_alen (k1 : ∀ a, (kd' a).1 = (kd a).1) (k2 : ∀ a, (kd a).1 ≠ 99 → kd' a = kd a) (q : xalen kd pc ls st h = some y) : xalen kd' pc ls st h = some y := by
  unfold xalen at q ⊢
  split at q
  · have c := (cpt q).1
    rw [k2 _ (by have := c.1; omega)]
    exact q
  · exact q
  · cases q
theorem ag_get (k1 : ∀ a, (kd' a).1 = (kd a).1) (k2 : ∀ a, (kd a).1 ≠ 99 → kd' a = kd a) {c k t : Nat} (q : xget kd rp c k t pc ls st h = some y) : xget kd' rp c k t pc ls st h = some y := by
  unfold xget at q ⊢
  split at q
  · skip
    rw [k1]
    exact q
  · cases q
theorem ag_put (k1 : ∀ a, (kd' a).1 = (kd a).1) (k2 : ∀ a, (kd a).1 ≠ 99 → kd' a = kd a) {c k t : Nat} (q : xput kd wk c k t pc ls st h = some y) : xput kd' (fun _ _ => true) c k t pc ls st h = some y := by
  unfold xput at q ⊢
  split at q
  · skip
    rw [k1]
    exact q
  · skip
    rw [k1]
    exact q
  · obtain ⟨c, e⟩ := cpt q
    rw [k1, pif_t ⟨c.1, c.2.1, rfl⟩, ← e]
  · obtain ⟨c, e⟩ := cpt q
    rw [k1, pif_t ⟨c.1, c.2.1, rfl⟩, ← e]
  · cases q
theorem ag_copy (k1 : ∀ a, (kd' a).1 = (kd a).1) (k2 : ∀ a, (kd a).1 ≠ 99 → kd' a = kd a) (q : xcopy kd pc ls st h = some y) : xcopy kd' pc ls st h = some y := by
  unfold xcopy at q ⊢
  split at q
  · have c := (cpt q).1
    rw [k2 _ (by have := c.1.1; omega), k2 _ (by have := c.1.2; omega)]
    exact q
  · cases q
theorem ag_clone (k1 : ∀ a, (kd' a).1 = (kd a).1) (k2 : ∀ a, (kd a).1 ≠ 99 → kd' a = kd a) (q : xclone kd pc ls st h = some y) : xclone kd' pc ls st h = some y := by
  unfold xclone at q ⊢
  split at q
  · have c := (cpt q).1
    rw [k2 _ (by have := c.1; omega)]
    exact q
  · cases q
theorem ag_cast (k1 : ∀ a, (kd' a).1 = (kd a).1) (k2 : ∀ a, (kd a).1 ≠ 99 → kd' a = kd a) (q : xcast kd pc ls st h = some y) : xcast kd' pc ls st h = some y := by
  unfold xcast at q ⊢
  split at q
  · skip
    rw [k1]
    exact q
  · cases q
theorem ag_call (k1 : ∀ a, (kd' a).1 = (kd a).1) (k2 : ∀ a, (kd a).1 ≠ 99 → kd' a = kd a) {a b t : Nat} (q : xcall kd a b t pc st = some y) : xcall kd' a b t pc st = some y := by
  unfold xcall at q ⊢
  obtain ⟨c, e⟩ := cpt q
  have hx : b = 2 → ∃ x, (st.take t).reverse.head? = some (.ref x) ∧ (kd' x).1 = oM a := fun hb => by
    obtain ⟨x, c1, c2⟩ := c.2.2.1 hb
    exact ⟨x, c1, by rw [k1]; exact c2⟩
  rw [pif_t ⟨c.1, c.2.1, hx, c.2.2.2⟩, ← e]
theorem ag_inv (k1 : ∀ a, (kd' a).1 = (kd a).1) (k2 : ∀ a, (kd a).1 ≠ 99 → kd' a = kd a) {a b t : Nat} (q : xinv kd a b t pc ls st h = some y) : xinv kd' a b t pc ls st h = some y := by
  unfold xinv at q ⊢
  by_cases h4 : b ≤ 4
  · rw [if_pos h4] at q ⊢; exact ag_call k1 k2 q
  rw [if_neg h4] at q ⊢
  by_cases h5 : b = 5
  · rw [if_pos h5] at q ⊢; exact q
  rw [if_neg h5] at q ⊢
  by_cases h6 : b = 6
  · rw [if_pos h6] at q ⊢; exact ag_copy k1 k2 q
  rw [if_neg h6] at q ⊢
  by_cases h7 : b = 7
  · rw [if_pos h7] at q ⊢; exact ag_clone k1 k2 q
  rw [if_neg h7] at q ⊢
  exact q
set_option maxHeartbeats 4000000 in
theorem exi_ag (k1 : ∀ a, (kd' a).1 = (kd a).1) (k2 : ∀ a, (kd a).1 ≠ 99 → kd' a = kd a) {en : En} {rt : Option FieldType} (q : exi kd rp wk en rt pc ls st h = some y) : exi kd' rp (fun _ _ => true) en rt pc ls st h = some y := by
  obtain ⟨ins, len, a, bb, t, pl, v⟩ := en
  cases ins with
  | iaload => exact ag_iaload k1 k2 q
  | baload => exact ag_baload k1 k2 q
  | laload => exact ag_laload k1 k2 q
  | aaload => exact ag_aaload k1 k2 q
  | iastore => exact ag_iastore k1 k2 q
  | bastore => exact ag_bastore k1 k2 q
  | lastore => exact ag_lastore k1 k2 q
  | aastore => exact ag_aastore k1 k2 q
  | arraylength => exact ag_alen k1 k2 q
  | getfield _ => exact ag_get k1 k2 q
  | putfield _ => exact ag_put k1 k2 q
  | checkcast _ => exact ag_cast k1 k2 q
  | invokestatic _ => exact ag_inv k1 k2 q
  | invokevirtual _ => exact ag_inv k1 k2 q
  | invokespecial _ => exact ag_inv k1 k2 q
  | _ => exact q
end AG
end ST1
set_option maxRecDepth 100000 in
theorem FW_99 : FW.all (fun q => Nat.blt q.2.2.1 99) = true := by decide +kernel
section RST
variable {L : Nat} {xs : Nat → Int32}
theorem res_st {M pc : Nat} {ls st : List Value} {h : Hp} {yy : Rs} (o : OKS L xs h) (q : res true M pc ls st h = some yy) : res false M pc ls st h = some yy ∧ ∀ pc' ls' st' h', yy = .inl (pc', ls', st', h') → OKS L xs h' := by
  obtain ⟨en, e1, e2, e3⟩ := res_i q
  constructor
  · unfold res
    rw [e1]
    show (bif ckE M en ls.length then exi (kdm false h) (rpm false h) (wkm false) en (rM M) pc ls st h else none) = some yy
    rw [e2, kdm_f, rpm_f, wkm_f]
    rw [o.rp] at e3
    exact exi_ag o.k1 o.k2 e3
  · rintro pc' ls' st' h' rfl
    refine exi_oks o rfl (fun i hi => ?_) e3
    have hoe := (prg_ok e1).2.2
    obtain ⟨ins, len, a, bb, t, pl, v⟩ := en
    obtain rfl : ins = .putfield i := hi
    have hoe : (FW.contains (oM M, i, a, bb) && Nat.beq (tcd (fy a bb)) t) = true := hoe
    rw [Bool.and_eq_true] at hoe
    have := List.all_eq_true.mp FW_99 _ (List.contains_iff_mem.mp hoe.1)
    exact Nat.ne_of_lt (Nat.le_of_ble_eq_true this)
theorem wpN_st : ∀ (n : Nat) {d M pc : Nat} {ls st : List Value} {h : Hp} {Q : Po}, OKS L xs h → wpN true n d M pc ls st h Q → wpN false n d M pc ls st h (fun r h' => Q r h' ∧ OKS L xs h') := by
  intro n
  induction n with
  | zero => intro d M pc ls st h Q _ hw; exact hw.elim
  | succ n ih =>
    intro d M pc ls st h Q o hw
    unfold wpN at hw ⊢
    cases hr : res true M pc ls st h with
    | none => rw [hr] at hw; exact hw.elim
    | some x =>
      rw [hr] at hw
      obtain ⟨hf, ho⟩ := res_st o hr
      rw [hf]
      rcases x with ⟨pc', ls', st', h'⟩ | r | ⟨M', as, pc', st'⟩
      · exact ih (ho _ _ _ _ rfl) hw
      · exact ⟨hw, o⟩
      · cases d with
        | zero => exact hw
        | succ d' => exact wpN_mono n (fun r h' q => ih q.2 q.1) (ih o hw)
theorem wp_st {d M pc : Nat} {ls st : List Value} {h : Hp} {Q : Po} (o : OKS L xs h) (w : wp true d M pc ls st h Q) : wp false d M pc ls st h (fun r h' => Q r h' ∧ OKS L xs h') := ⟨_, wpN_st _ o w.choose_spec⟩
/-- a call known by the table is known -/
theorem st_call {D M : Nat} {as : List Value} {h h1 : Hp} {r : Option Value} (o : OKS L xs h) (e : ∀ F : Po, cwp true D M as h F = F r h1) : (∀ F : Po, cwp false D M as h F = F r h1) ∧ OKS L xs h1 := by
  have a : cwp true D M as h (eqP r h1) := by rw [e]; exact ⟨rfl, rfl⟩
  have b := wp_st o a
  constructor
  · intro F
    exact cwp_eq (wp_mono (fun r h z => z.1) b) F
  · obtain ⟨r2, h2, ⟨⟨e1, e2⟩, o2⟩, -⟩ := wp_det b
    rw [← e2]
    exact o2
end RST
