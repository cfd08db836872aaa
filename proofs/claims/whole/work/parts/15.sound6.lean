/-! the calls that are one step here: Object's constructor, arraycopy, clone, max, min, a constant text's length and signs -/
theorem xcall_no {kd : Nat → Nat × Nat} {a bb t pc : Nat} {st : List Value} {yy : Nat × List Value × List Value × Hp} (q : xcall kd a bb t pc st = some (.inl yy)) : False := by
  unfold xcall at q
  have := (cpt q).2
  cases this
theorem xinv_i {kd : Nat → Nat × Nat} {a bb t pc : Nat} {ls st : List Value} {h : Hp} {yy : Nat × List Value × List Value × Hp} (q : xinv kd a bb t pc ls st h = some (.inl yy)) : (bb = 5 ∧ ∃ x, st = [.ref x] ∧ yy = (pc + 3, ls, [], h)) ∨ (bb = 6 ∧ xcopy kd pc ls st h = some (.inl yy)) ∨ (bb = 7 ∧ xclone kd pc ls st h = some (.inl yy)) ∨ (bb = 8 ∧ xslen pc ls st h = some (.inl yy)) ∨ (bb = 9 ∧ xschar pc ls st h = some (.inl yy)) ∨ (bb = 10 ∧ xmm (fun x y => if x < y then y else x) pc ls st h = some (.inl yy)) ∨ (10 < bb ∧ xmm (fun x y => if y < x then y else x) pc ls st h = some (.inl yy)) := by
  unfold xinv at q
  by_cases h4 : bb ≤ 4
  · rw [if_pos h4] at q
    exact (xcall_no q).elim
  rw [if_neg h4] at q
  by_cases h5 : bb = 5
  · rw [if_pos h5] at q
    left
    refine ⟨h5, ?_⟩
    split at q
    · obtain ⟨q1, q2⟩ := cpt q
      subst q1
      cases q2
      exact ⟨_, rfl, rfl⟩
    · cases q
  rw [if_neg h5] at q
  by_cases h6 : bb = 6
  · rw [if_pos h6] at q; exact Or.inr (Or.inl ⟨h6, q⟩)
  rw [if_neg h6] at q
  by_cases h7 : bb = 7
  · rw [if_pos h7] at q; exact Or.inr (Or.inr (Or.inl ⟨h7, q⟩))
  rw [if_neg h7] at q
  by_cases h8 : bb = 8
  · rw [if_pos h8] at q; exact Or.inr (Or.inr (Or.inr (Or.inl ⟨h8, q⟩)))
  rw [if_neg h8] at q
  by_cases h9 : bb = 9
  · rw [if_pos h9] at q; exact Or.inr (Or.inr (Or.inr (Or.inr (Or.inl ⟨h9, q⟩))))
  rw [if_neg h9] at q
  by_cases h10 : bb = 10
  · rw [if_pos h10] at q; exact Or.inr (Or.inr (Or.inr (Or.inr (Or.inr (Or.inl ⟨h10, q⟩)))))
  rw [if_neg h10] at q
  exact Or.inr (Or.inr (Or.inr (Or.inr (Or.inr (Or.inr ⟨by omega, q⟩)))))
section S6
variable {p : Program} {l : Launch} {e : Env} {R : Room} {s : State} {m : MethodId} {args : Array Value} {below : List Frame} {meth : Method} {c : Code} {QQ : State → Prop}
variable {n0 b L : Nat} {xs : Nat → Int32} {adK adV : Nat → Nat} {dA : Nat → ClassId} {D : va_G} {M pc : Nat} {ls st : List Value} {h h0 : Hp} {pc' : Nat} {ls' st' : List Value} {h' : Hp}
/-- the length and the signs of the constant text (a call of java/lang/String's own code): what the walk asks of them -/
def StrW (p : Program) (l : Launch) (e : Env) (R : Room) (s : State) (m : MethodId) (args : Array Value) (below : List Frame) (meth : Method) (c : Code) (QQ : State → Prop) (n0 b L : Nat) (xs : Nat → Int32) (adK : Nat → Nat) (dA : Nat → ClassId) (D : va_G) (M : Nat) (h0 : Hp) : Prop :=
  ∀ (pc : Nat) (ls : List Value) (h : Hp), oM M = 6 → hz h ≤ R.cells + hz h0 → hu h ≤ R.slots + hu h0 →
    (decode (bM M) pc = .ok (.invokevirtual 91, 3) → ∀ x : Int32, KK p l e R s m args below meth c QQ n0 b L xs adK dA D M h0 (pc + 3) ls [.int 103, .int x] h → KK p l e R s m args below meth c QQ n0 b L xs adK dA D M h0 pc ls [.retAddr 0, .int x] h) ∧
    (decode (bM M) pc = .ok (.invokevirtual 95, 3) → ∀ x : Int32, vp_in x 103 → KK p l e R s m args below meth c QQ n0 b L xs adK dA D M h0 (pc + 3) ls [.int (nms x.toNatClampNeg)] h → KK p l e R s m args below meth c QQ n0 b L xs adK dA D M h0 pc ls [.int x, .retAddr 0] h)
set_option maxHeartbeats 4000000 in
set_option maxRecDepth 100000 in
theorem sd_6 {ins : Instr} {len a bb t pl : Nat} {v : Int} (hx : p.tables.exec = Jvm.exec) (hb : c.code = bM M) (hml : c.maxLocals = lM M) (hown : s.vm.findClass (cS (oM M)) = some m.cls) (hts : ∀ w ∈ gtb, w.before args s = true) (hE : EvK n0 b L xs adK adV dA D s)
    (hz0 : s.heap.size = n0 + hz h0) (hz1 : 1 ≤ hz h0) (hRf : 1 ≤ R.frames) (hRl : 60 ≤ R.locals) (hca1 : hz h' ≤ R.cells + hz h0) (hca2 : hu h' ≤ R.slots + hu h0)
    (hd : decode (bM M) pc = .ok (ins, len)) (hoe : okE (oM M) (wM M) pc (ins, len, a, bb, t, pl, v) = true) (hck : ckE M (ins, len, a, bb, t, pl, v) ls.length = true)
    (hex : exi (hk h) (gP h) (fun _ _ => true) (ins, len, a, bb, t, pl, v) (rM M) pc ls st h = some (.inl (pc', ls', st', h'))) (k : KK p l e R s m args below meth c QQ n0 b L xs adK dA D M h0 pc' ls' st' h')
    (hstr : StrW p l e R s m args below meth c QQ n0 b L xs adK dA D M h0)
    (hkind : (match ins with | .invokestatic _ | .invokevirtual _ | .invokespecial _ => true | _ => false) = true) : KK p l e R s m args below meth c QQ n0 b L xs adK dA D M h0 pc ls st h := by
  unfold ckE at hck
  simp only [Bool.and_eq_true, Bool.or_eq_true] at hck
  obtain ⟨hlen, hin, hfi⟩ := hck
  have hlen : len = ilen ins ∨ isSw ins = true := hlen.imp Nat.eq_of_beq_eq_true id
  have hK := hE.1
  have hA : ∀ q, s.heap.size ≤ q → AA n0 q := fun q hq => by show n0 + 1 ≤ q; omega
  cases ins with
  | invokespecial i =>
    intro LS H locs cells slots hl hW hS hc hs
    obtain rfl := len_of hlen rfl rfl
    simp only [okE, Bool.or_eq_true, Bool.and_eq_true] at hoe
    rcases xinv_i hex with ⟨q0, x, rfl, e2⟩ | ⟨q0, -⟩ | ⟨q0, -⟩ | ⟨q0, -⟩ | ⟨q0, -⟩ | ⟨q0, -⟩ | ⟨q0, -⟩
    · subst q0
      simp only [Prod.mk.injEq] at e2
      obtain ⟨rfl, rfl, rfl, rfl⟩ := e2
      rcases hoe with (⟨g, -⟩ | ⟨g, -⟩) | ⟨-, g2⟩
      · cases g
      · cases g
      · exact W.objInit hx hb hown (hts _ (gtb_in (OW_in (cnt2 g2)) rfl)) (hts _ (gtb_in w_oi1 rfl)) (hts _ (gtb_in w_oi2 rfl)) rfl (by rw [hml]; exact hl.1.1) rfl hd hRf (by show 2 * 0 + 0 + 12 ≤ _; omega) (k LS H locs cells slots hl hW hS hc hs)
    all_goals (exfalso; rcases hoe with (⟨g, -⟩ | ⟨g, -⟩) | ⟨g, -⟩ <;> (have := Nat.eq_of_beq_eq_true g; omega))
  | invokestatic i =>
    intro LS H locs cells slots hl hW hS hc hs
    obtain rfl := len_of hlen rfl rfl
    obtain ⟨w, hL, hxs, hP⟩ := id hW
    have hD := wo_D n0 dA h
    simp only [okE, Bool.or_eq_true, Bool.and_eq_true] at hoe
    rcases xinv_i hex with ⟨q0, -⟩ | ⟨q0, q⟩ | ⟨q0, -⟩ | ⟨q0, -⟩ | ⟨q0, -⟩ | ⟨q0, q⟩ | ⟨q0, q⟩
    · exfalso; rcases hoe with (((⟨g, -⟩ | ⟨g, -⟩) | ⟨g, -⟩) | ⟨g, -⟩) | ⟨g, -⟩ <;> (have := Nat.eq_of_beq_eq_true g; omega)
    · have haw : AW.contains (oM M, i) = true := by
        rcases hoe with (((⟨g, -⟩ | ⟨g, -⟩) | ⟨g, g2⟩) | ⟨g, -⟩) | ⟨g, -⟩
        · have := Nat.eq_of_beq_eq_true g; omega
        · have := Nat.eq_of_beq_eq_true g; omega
        · exact g2
        · have := Nat.eq_of_beq_eq_true g; omega
        · have := Nat.eq_of_beq_eq_true g; omega
      obtain ⟨nn, dp, x, sp, x0, rr, rfl, ⟨⟨q1, q2⟩, ⟨g1, g2, g3⟩, g4, g5, hrr⟩, e2⟩ := xcopy_i q
      subst hrr
      simp only [Sum.inl.injEq, Prod.mk.injEq] at e2
      obtain ⟨rfl, rfl, rfl, rfl⟩ := e2
      obtain ⟨h1, h2⟩ := w.in q1 (by decide)
      obtain ⟨h3, h4⟩ := w.in q2 (by decide)
      have ha := wo_at (n0 := n0) (dA := dA) h1 h2
      rw [ce_int q1 (Or.inl rfl)] at ha
      have ha0 := wo_at (n0 := n0) (dA := dA) h3 h4
      rw [ce_int q2 (Or.inl rfl)] at ha0
      have hnf : nativeFrameWords "java/lang/System" "arraycopy" 5 ≤ 40 := by decide
      refine va_copyi (rest := []) hx hb (by rw [hml]; exact hl.1.1.symm) hown (hts _ (gtb_in (AW_in (cnt2 haw)) rfl)) (hts _ (gtb_in w_ac1 rfl)) (hts _ (gtb_in w_ac2 rfl)) (hts _ (gtb_in (ZW_in (q := 17) (cnt ((Bool.and_eq_true _ _).mp ZW_j).2)) rfl)) hK hP hD hS (x0 - 1) (x - 1) 0 0 ha0 ha rfl rfl rfl g1 g2 g3 g4 g5 (fun _ _ => rfl) hRf (by show 0 + (_ + 11) ≤ _; omega) hd (fun H1 locs1 hP1 _ hS1 => k LS H1 locs1 cells slots hl (Wd_up w rfl rfl h1 h2 hL ?_ (fun j hj => ce_cong rfl ?_ rfl rfl) ?_ hP1) hS1 hc hs)
      · rw [gI_sA, if_neg (by omega)]; exact hxs
      · rw [gI_sA, if_neg hj]
      · rw [ce_int (h := sA h x _) q1 (Or.inl rfl), gI_sA, if_pos rfl]; rfl
    · exfalso; rcases hoe with (((⟨g, -⟩ | ⟨g, -⟩) | ⟨g, -⟩) | ⟨g, -⟩) | ⟨g, -⟩ <;> (have := Nat.eq_of_beq_eq_true g; omega)
    · exfalso; rcases hoe with (((⟨g, -⟩ | ⟨g, -⟩) | ⟨g, -⟩) | ⟨g, -⟩) | ⟨g, -⟩ <;> (have := Nat.eq_of_beq_eq_true g; omega)
    · exfalso; rcases hoe with (((⟨g, -⟩ | ⟨g, -⟩) | ⟨g, -⟩) | ⟨g, -⟩) | ⟨g, -⟩ <;> (have := Nat.eq_of_beq_eq_true g; omega)
    · have haw : XW.contains (oM M, i) = true := by
        rcases hoe with (((⟨g, -⟩ | ⟨g, -⟩) | ⟨g, -⟩) | ⟨g, g2⟩) | ⟨g, -⟩
        · have := Nat.eq_of_beq_eq_true g; omega
        · have := Nat.eq_of_beq_eq_true g; omega
        · have := Nat.eq_of_beq_eq_true g; omega
        · exact g2
        · have := Nat.eq_of_beq_eq_true g; omega
      obtain ⟨x, y, rr, rfl, hcat, e2⟩ := xmm_i q
      simp only [Sum.inl.injEq, Prod.mk.injEq] at e2
      obtain ⟨rfl, rfl, rfl, rfl⟩ := e2
      exact va_mmax hx hb (by rw [hml]; exact hl.1.1.symm) hown (hts _ (gtb_in (XW_in (cnt2 haw)) rfl)) (hts _ (gtb_in w_mx1 rfl)) (hts _ (gtb_in (ZW_in (q := 14) (cnt ((Bool.and_eq_true _ _).mp ZW_j).1)) rfl)) (hts _ (gtb_in w_mx2 rfl)) hRf (by rw [sum_sh]; omega) (by omega) (by omega) hd (k LS H locs cells slots hl hW hS hc hs)
    · have haw : YW.contains (oM M, i) = true := by
        rcases hoe with (((⟨g, -⟩ | ⟨g, -⟩) | ⟨g, -⟩) | ⟨g, -⟩) | ⟨g, g2⟩
        · have := Nat.eq_of_beq_eq_true g; omega
        · have := Nat.eq_of_beq_eq_true g; omega
        · have := Nat.eq_of_beq_eq_true g; omega
        · have := Nat.eq_of_beq_eq_true g; omega
        · exact g2
      obtain ⟨x, y, rr, rfl, hcat, e2⟩ := xmm_i q
      simp only [Sum.inl.injEq, Prod.mk.injEq] at e2
      obtain ⟨rfl, rfl, rfl, rfl⟩ := e2
      exact va_mmin hx hb (by rw [hml]; exact hl.1.1.symm) hown (hts _ (gtb_in (YW_in (cnt2 haw)) rfl)) (hts _ (gtb_in w_mn1 rfl)) (hts _ (gtb_in (ZW_in (q := 14) (cnt ((Bool.and_eq_true _ _).mp ZW_j).1)) rfl)) (hts _ (gtb_in w_mn2 rfl)) hRf (by rw [sum_sh]; omega) (by omega) (by omega) hd (k LS H locs cells slots hl hW hS hc hs)
  | invokevirtual i =>
    obtain rfl := len_of hlen rfl rfl
    simp only [okE, Bool.or_eq_true, Bool.and_eq_true] at hoe
    rcases xinv_i hex with ⟨q0, -⟩ | ⟨q0, -⟩ | ⟨q0, q⟩ | ⟨q0, q⟩ | ⟨q0, q⟩ | ⟨q0, -⟩ | ⟨q0, -⟩
    · exfalso; rcases hoe with (⟨g, -⟩ | ⟨g, -⟩) | ⟨g | g, -⟩ <;> (have := Nat.eq_of_beq_eq_true g; omega)
    · exfalso; rcases hoe with (⟨g, -⟩ | ⟨g, -⟩) | ⟨g | g, -⟩ <;> (have := Nat.eq_of_beq_eq_true g; omega)
    · intro LS H locs cells slots hl hW hS hc hs
      obtain ⟨w, hL, hxs, hP⟩ := id hW
      have hD := wo_D n0 dA h
      have hoi : oM M = 16 ∧ i = 316 := by
        rcases hoe with (⟨g, -⟩ | ⟨-, g1, g2⟩) | ⟨g | g, -⟩
        · have := Nat.eq_of_beq_eq_true g; omega
        · exact ⟨Nat.eq_of_beq_eq_true g1, Nat.eq_of_beq_eq_true g2⟩
        · have := Nat.eq_of_beq_eq_true g; omega
        · have := Nat.eq_of_beq_eq_true g; omega
      obtain ⟨ho, rfl⟩ := hoi
      obtain ⟨x, rfl, q1, e2⟩ := xclone_i q
      simp only [Sum.inl.injEq, Prod.mk.injEq] at e2
      obtain ⟨rfl, rfl, rfl, rfl⟩ := e2
      have hca1 : hz h + 1 ≤ R.cells + hz h0 := hca1
      have hca2 : hu h + (hk h x).2 ≤ R.slots + hu h0 := hca2
      obtain ⟨h1, h2⟩ := w.in q1 (by decide)
      have ha := wo_at (n0 := n0) (dA := dA) h1 h2
      rw [ce_int q1 (Or.inl rfl)] at ha
      have hown2 : s.vm.findClass (cS 16) = some m.cls := by rw [← ho]; exact hown
      refine va_clone (rest := []) (ad := "[I") hx hb (by rw [hml]; exact hl.1.1.symm) hown2 (hts _ (gtb_in w_cl1 rfl)) (hts _ (gtb_in w_cl2 rfl)) (hts _ (gtb_in w_cl3 rfl)) (hts _ (gtb_in w_cl4 rfl)) (hts _ (gtb_in w_cl5 rfl)) hE.2.2.2.1 hK hP hD hS hA (x - 1) 0 ha rfl (arr_int s dA hK) (fun j vv hv => ?_) hRf (by show 0 + 14 ≤ _; omega) (by omega) (by show slots + (hk h x).2 ≤ _; omega) hd (fun q H1 _ hP1 hD1 hS1 => ?_)
      · have hv : (arrV (dA 20) (hk h x).2 (fun j => .int (gI h x j))).slots[j]? = some vv := hv
        have hj := (Array.getElem?_eq_some_iff.mp hv).1
        rw [arrV_size] at hj
        rw [arrV_read _ _ hj] at hv
        cases hv
        rfl
      · intro T hT X
        have hq := new_q hz0 hT X hc w hP1 hD1
        subst hq
        exact k LS H1 locs (cells + 1) (slots + (hk h x).2) hl (Wd_cl w hL hxs hP1) hS1 (by show cells + 1 + hz h0 = hz h + 1; omega) (by show slots + (hk h x).2 + hu h0 = hu h + (hk h x).2; omega) T hT X
    · have ho : oM M = 6 := by
        rcases hoe with (⟨g, -⟩ | ⟨g, -⟩) | ⟨-, g⟩
        · have := Nat.eq_of_beq_eq_true g; omega
        · have := Nat.eq_of_beq_eq_true g; omega
        · exact Nat.eq_of_beq_eq_true g
      obtain ⟨x, rfl, e2⟩ := xslen_i q
      simp only [Sum.inl.injEq, Prod.mk.injEq] at e2
      obtain ⟨rfl, rfl, rfl, rfl⟩ := e2
      have hfi : ((!(Nat.beq bb 8) || Nat.beq i 91) && (!(Nat.beq bb 9) || Nat.beq i 95)) = true := hfi
      subst q0
      have hi := Nat.eq_of_beq_eq_true ((Bool.and_eq_true _ _).mp hfi).1
      subst hi
      exact (hstr pc _ _ ho hca1 hca2).1 hd x k
    · have ho : oM M = 6 := by
        rcases hoe with (⟨g, -⟩ | ⟨g, -⟩) | ⟨-, g⟩
        · have := Nat.eq_of_beq_eq_true g; omega
        · have := Nat.eq_of_beq_eq_true g; omega
        · exact Nat.eq_of_beq_eq_true g
      obtain ⟨x, rfl, q1, e2⟩ := xschar_i q
      simp only [Sum.inl.injEq, Prod.mk.injEq] at e2
      obtain ⟨rfl, rfl, rfl, rfl⟩ := e2
      have hfi : ((!(Nat.beq bb 8) || Nat.beq i 91) && (!(Nat.beq bb 9) || Nat.beq i 95)) = true := hfi
      subst q0
      have hi := Nat.eq_of_beq_eq_true ((Bool.and_eq_true _ _).mp hfi).2
      subst hi
      exact (hstr pc _ _ ho hca1 hca2).2 hd x q1 k
    · exfalso; rcases hoe with (⟨g, -⟩ | ⟨g, -⟩) | ⟨g | g, -⟩ <;> (have := Nat.eq_of_beq_eq_true g; omega)
    · exfalso; rcases hoe with (⟨g, -⟩ | ⟨g, -⟩) | ⟨g | g, -⟩ <;> (have := Nat.eq_of_beq_eq_true g; omega)
  | _ => cases hkind
end S6
