/-! the law: call by call both answer alike -/
abbrev lwL (i : Int32) : List Value := [.retAddr 1, .ref 1, .ref 101, .int i]
theorem lg_z (r : Int64) : lg_cmp r r = nI 0 := by
  unfold lg_cmp
  rw [if_neg (Int64.lt_irrefl), if_pos rfl]
  rfl
section LW
variable {n d L : Nat} {xs : Nat → Int32} {h : Hp} {i : Int32} {Q : Po}
theorem lw_0 (z : Inv n h) (o : OKS L xs h) (v : ∀ j, j ≤ 5 → vp_in (i + nI j) L) (k : ∀ h2, Inv (n + 1) h2 → OKS L xs h2 → wp false (d + 900 + 1) 266 1545 (lwL i) [] h2 Q) : wp false (d + 900 + 1) 266 200 (lwL i) [] h Q := by
  obtain ⟨r, h1, h2, e1, e2, z2⟩ := p_flight z (xs (i + nI 1).toNatClampNeg) (xs (i + nI 2).toNatClampNeg) (xs (i + nI 3).toNatClampNeg) d
  obtain ⟨f1, o1⟩ := st_call o e1
  obtain ⟨f2, o2⟩ := st_call o1 e2
  have kk := k h2 z2 o2
  have a1 : (hk h 1).1 = 11 := by rw [o.2.1 1 (by omega) (by omega)]; rfl
  have a2 : (hk h1 101).1 = 12 := by rw [o1.2.1 101 (by omega) (by omega)]; rfl
  have w := o.2.2.1
  have w1 := o1.2.2.1
  have g := o.2.2.2.2
  have g1 := o1.2.2.2.2
  have v1 := v 1 (by omega)
  have v2 := v 2 (by omega)
  have v3 := v 3 (by omega)
  simp only [r266_200, r266_200n, r266_200t, r266_201, r266_201t, r266_202, r266_203, r266_204, r266_205, r266_205t, r266_206, r266_206t, r266_207, r266_208, r266_209, r266_210, r266_210t, r266_211, r266_211t, r266_212, r266_213, r266_214, r266_215, r266_215t, r266_216, r266_219, r266_219n, r266_219t, r266_220, r266_220t, r266_221, r266_222, r266_223, r266_224, r266_224t, r266_225, r266_225t, r266_226, r266_227, r266_228, r266_229, r266_229t, r266_230, r266_230t, r266_231, r266_232, r266_233, r266_234, r266_234t, r266_235, r266_238, kdm_f, a1, a2, w, w1, g, g1, v1, v2, v3, f1, f2, Option.toList_some, List.cons_append, List.nil_append, true_and, eq_self, ↓reduceIte]
  exact kk
theorem lw_1 (z : Inv n h) (o : OKS L xs h) (v : ∀ j, j ≤ 5 → vp_in (i + nI j) L) (k : ∀ h2, Inv (n + 1) h2 → OKS L xs h2 → wp false (d + 900 + 1) 266 1545 (lwL i) [] h2 Q) : wp false (d + 900 + 1) 266 243 (lwL i) [] h Q := by
  obtain ⟨r, h1, h2, e1, e2, z2⟩ := p_ring z (xs (i + nI 1).toNatClampNeg) (xs (i + nI 2).toNatClampNeg) (xs (i + nI 3).toNatClampNeg) d
  obtain ⟨f1, o1⟩ := st_call o e1
  obtain ⟨f2, o2⟩ := st_call o1 e2
  have kk := k h2 z2 o2
  have a1 : (hk h 1).1 = 11 := by rw [o.2.1 1 (by omega) (by omega)]; rfl
  have a2 : (hk h1 101).1 = 12 := by rw [o1.2.1 101 (by omega) (by omega)]; rfl
  have w := o.2.2.1
  have w1 := o1.2.2.1
  have g := o.2.2.2.2
  have g1 := o1.2.2.2.2
  have v1 := v 1 (by omega)
  have v2 := v 2 (by omega)
  have v3 := v 3 (by omega)
  simp only [r266_243, r266_243n, r266_243t, r266_244, r266_244t, r266_245, r266_246, r266_247, r266_248, r266_248t, r266_249, r266_249t, r266_250, r266_251, r266_252, r266_253, r266_253t, r266_254, r266_254t, r266_255, r266_256, r266_257, r266_258, r266_258t, r266_259, r266_262, r266_262n, r266_262t, r266_263, r266_263t, r266_264, r266_265, r266_266, r266_267, r266_267t, r266_268, r266_268t, r266_269, r266_270, r266_271, r266_272, r266_272t, r266_273, r266_273t, r266_274, r266_275, r266_276, r266_277, r266_277t, r266_278, r266_281, kdm_f, a1, a2, w, w1, g, g1, v1, v2, v3, f1, f2, Option.toList_some, List.cons_append, List.nil_append, true_and, eq_self, ↓reduceIte]
  exact kk
theorem lw_2 (z : Inv n h) (o : OKS L xs h) (v : ∀ j, j ≤ 5 → vp_in (i + nI j) L) (k : ∀ h2, Inv (n + 1) h2 → OKS L xs h2 → wp false (d + 900 + 1) 266 1545 (lwL i) [] h2 Q) : wp false (d + 900 + 1) 266 286 (lwL i) [] h Q := by
  obtain ⟨r, h1, h2, e1, e2, z2⟩ := p_of z (xs (i + nI 1).toNatClampNeg) (xs (i + nI 2).toNatClampNeg) d
  obtain ⟨f1, o1⟩ := st_call o e1
  obtain ⟨f2, o2⟩ := st_call o1 e2
  have kk := k h2 z2 o2
  have a1 : (hk h 1).1 = 11 := by rw [o.2.1 1 (by omega) (by omega)]; rfl
  have a2 : (hk h1 101).1 = 12 := by rw [o1.2.1 101 (by omega) (by omega)]; rfl
  have w := o.2.2.1
  have w1 := o1.2.2.1
  have g := o.2.2.2.2
  have g1 := o1.2.2.2.2
  have v1 := v 1 (by omega)
  have v2 := v 2 (by omega)
  simp only [r266_286, r266_286n, r266_286t, r266_287, r266_287t, r266_288, r266_289, r266_290, r266_291, r266_291t, r266_292, r266_292t, r266_293, r266_294, r266_295, r266_296, r266_296t, r266_297, r266_300, r266_300n, r266_300t, r266_301, r266_301t, r266_302, r266_303, r266_304, r266_305, r266_305t, r266_306, r266_306t, r266_307, r266_308, r266_309, r266_310, r266_310t, r266_311, r266_314, kdm_f, a1, a2, w, w1, g, g1, v1, v2, f1, f2, Option.toList_some, List.cons_append, List.nil_append, true_and, eq_self, ↓reduceIte]
  exact kk
theorem lw_3 (z : Inv n h) (o : OKS L xs h) (v : ∀ j, j ≤ 5 → vp_in (i + nI j) L) (k : ∀ h2, Inv (n + 1) h2 → OKS L xs h2 → wp false (d + 900 + 1) 266 1545 (lwL i) [] h2 Q) : wp false (d + 900 + 1) 266 319 (lwL i) [] h Q := by
  obtain ⟨r, h1, h2, e1, e2, z2⟩ := p_terms z (xs (i + nI 1).toNatClampNeg) (xs (i + nI 2).toNatClampNeg) d
  obtain ⟨f1, o1⟩ := st_call o e1
  obtain ⟨f2, o2⟩ := st_call o1 e2
  have kk := k h2 z2 o2
  have a1 : (hk h 1).1 = 11 := by rw [o.2.1 1 (by omega) (by omega)]; rfl
  have a2 : (hk h1 101).1 = 12 := by rw [o1.2.1 101 (by omega) (by omega)]; rfl
  have w := o.2.2.1
  have w1 := o1.2.2.1
  have g := o.2.2.2.2
  have g1 := o1.2.2.2.2
  have v1 := v 1 (by omega)
  have v2 := v 2 (by omega)
  simp only [r266_319, r266_319n, r266_319t, r266_320, r266_320t, r266_321, r266_322, r266_323, r266_324, r266_324t, r266_325, r266_325t, r266_326, r266_327, r266_328, r266_329, r266_329t, r266_330, r266_333, r266_333n, r266_333t, r266_334, r266_334t, r266_335, r266_336, r266_337, r266_338, r266_338t, r266_339, r266_339t, r266_340, r266_341, r266_342, r266_343, r266_343t, r266_344, r266_347, kdm_f, a1, a2, w, w1, g, g1, v1, v2, f1, f2, Option.toList_some, List.cons_append, List.nil_append, true_and, eq_self, ↓reduceIte]
  exact kk
theorem lw_4 (z : Inv n h) (o : OKS L xs h) (v : ∀ j, j ≤ 5 → vp_in (i + nI j) L) (k : ∀ h2, Inv (n + 1) h2 → OKS L xs h2 → wp false (d + 900 + 1) 266 1545 (lwL i) [] h2 Q) : wp false (d + 900 + 1) 266 352 (lwL i) [] h Q := by
  obtain ⟨r, h1, h2, e1, e2, z2⟩ := p_feed z (xs (i + nI 1).toNatClampNeg) (xs (i + nI 2).toNatClampNeg) (xs (i + nI 3).toNatClampNeg) (xs (i + nI 4).toNatClampNeg) (xs (i + nI 5).toNatClampNeg) d
  obtain ⟨f1, o1⟩ := st_call o e1
  obtain ⟨f2, o2⟩ := st_call o1 e2
  have kk := k h2 z2 o2
  have a1 : (hk h 1).1 = 11 := by rw [o.2.1 1 (by omega) (by omega)]; rfl
  have a2 : (hk h1 101).1 = 12 := by rw [o1.2.1 101 (by omega) (by omega)]; rfl
  have w := o.2.2.1
  have w1 := o1.2.2.1
  have g := o.2.2.2.2
  have g1 := o1.2.2.2.2
  have v1 := v 1 (by omega)
  have v2 := v 2 (by omega)
  have v3 := v 3 (by omega)
  have v4 := v 4 (by omega)
  have v5 := v 5 (by omega)
  simp only [r266_352, r266_352n, r266_352t, r266_353, r266_353t, r266_354, r266_355, r266_356, r266_357, r266_357t, r266_358, r266_358t, r266_359, r266_360, r266_361, r266_362, r266_362t, r266_363, r266_363t, r266_364, r266_365, r266_366, r266_367, r266_367t, r266_368, r266_368t, r266_369, r266_370, r266_371, r266_372, r266_372t, r266_373, r266_373t, r266_374, r266_375, r266_376, r266_377, r266_377t, r266_378, r266_381, r266_381n, r266_381t, r266_382, r266_382t, r266_383, r266_384, r266_385, r266_386, r266_386t, r266_387, r266_387t, r266_388, r266_389, r266_390, r266_391, r266_391t, r266_392, r266_392t, r266_393, r266_394, r266_395, r266_396, r266_396t, r266_397, r266_397t, r266_398, r266_399, r266_400, r266_401, r266_401t, r266_402, r266_402t, r266_403, r266_404, r266_405, r266_406, r266_406t, r266_407, r266_410, kdm_f, a1, a2, w, w1, g, g1, v1, v2, v3, v4, v5, f1, f2, Option.toList_some, List.cons_append, List.nil_append, true_and, eq_self, ↓reduceIte]
  exact kk
theorem lw_5 (z : Inv n h) (o : OKS L xs h) (v : ∀ j, j ≤ 5 → vp_in (i + nI j) L) (k : ∀ h2, Inv (n + 1) h2 → OKS L xs h2 → wp false (d + 900 + 1) 266 1545 (lwL i) [] h2 Q) : wp false (d + 900 + 1) 266 415 (lwL i) [] h Q := by
  obtain ⟨r, h1, h2, e1, e2, z2⟩ := p_end z (xs (i + nI 1).toNatClampNeg) d
  obtain ⟨f1, o1⟩ := st_call o e1
  obtain ⟨f2, o2⟩ := st_call o1 e2
  have kk := k h2 z2 o2
  have a1 : (hk h 1).1 = 11 := by rw [o.2.1 1 (by omega) (by omega)]; rfl
  have a2 : (hk h1 101).1 = 12 := by rw [o1.2.1 101 (by omega) (by omega)]; rfl
  have w := o.2.2.1
  have w1 := o1.2.2.1
  have g := o.2.2.2.2
  have g1 := o1.2.2.2.2
  have v1 := v 1 (by omega)
  simp only [r266_415, r266_415n, r266_415t, r266_416, r266_416t, r266_417, r266_418, r266_419, r266_420, r266_420t, r266_421, r266_424, r266_424n, r266_424t, r266_425, r266_425t, r266_426, r266_427, r266_428, r266_429, r266_429t, r266_430, r266_433, kdm_f, a1, a2, w, w1, g, g1, v1, f1, f2, Option.toList_some, List.cons_append, List.nil_append, true_and, eq_self, ↓reduceIte]
  exact kk
theorem lw_6 (z : Inv n h) (o : OKS L xs h) (v : ∀ j, j ≤ 5 → vp_in (i + nI j) L) (k : ∀ h2, Inv (n + 1) h2 → OKS L xs h2 → wp false (d + 900 + 1) 266 1545 (lwL i) [] h2 Q) : wp false (d + 900 + 1) 266 438 (lwL i) [] h Q := by
  obtain ⟨r, h1, h2, e1, e2, z2⟩ := p_row z (xs (i + nI 1).toNatClampNeg) (xs (i + nI 2).toNatClampNeg) d
  obtain ⟨f1, o1⟩ := st_call o e1
  obtain ⟨f2, o2⟩ := st_call o1 e2
  have kk := k h2 z2 o2
  have a1 : (hk h 1).1 = 11 := by rw [o.2.1 1 (by omega) (by omega)]; rfl
  have a2 : (hk h1 101).1 = 12 := by rw [o1.2.1 101 (by omega) (by omega)]; rfl
  have w := o.2.2.1
  have w1 := o1.2.2.1
  have g := o.2.2.2.2
  have g1 := o1.2.2.2.2
  have v1 := v 1 (by omega)
  have v2 := v 2 (by omega)
  simp only [r266_438, r266_438n, r266_438t, r266_439, r266_439t, r266_440, r266_441, r266_442, r266_443, r266_443t, r266_444, r266_444t, r266_445, r266_446, r266_447, r266_448, r266_448t, r266_449, r266_452, r266_452n, r266_452t, r266_453, r266_453t, r266_454, r266_455, r266_456, r266_457, r266_457t, r266_458, r266_458t, r266_459, r266_460, r266_461, r266_462, r266_462t, r266_463, r266_466, kdm_f, a1, a2, w, w1, g, g1, v1, v2, f1, f2, Option.toList_some, List.cons_append, List.nil_append, true_and, eq_self, ↓reduceIte]
  exact kk
theorem lw_7 (z : Inv n h) (o : OKS L xs h) (v : ∀ j, j ≤ 5 → vp_in (i + nI j) L) (k : ∀ h2, Inv (n + 1) h2 → OKS L xs h2 → wp false (d + 900 + 1) 266 1545 (lwL i) [] h2 Q) : wp false (d + 900 + 1) 266 471 (lwL i) [] h Q := by
  obtain ⟨r, h1, h2, e1, e2, z2⟩ := p_text z  d
  obtain ⟨f1, o1⟩ := st_call o e1
  obtain ⟨f2, o2⟩ := st_call o1 e2
  have kk := k h2 z2 o2
  have a1 : (hk h 1).1 = 11 := by rw [o.2.1 1 (by omega) (by omega)]; rfl
  have a2 : (hk h1 101).1 = 12 := by rw [o1.2.1 101 (by omega) (by omega)]; rfl
  have w := o.2.2.1
  have w1 := o1.2.2.1
  have g := o.2.2.2.2
  have g1 := o1.2.2.2.2
  simp only [r266_471, r266_471n, r266_471t, r266_472, r266_475, r266_475n, r266_475t, r266_476, r266_479, kdm_f, a1, a2, w, w1, g, g1, f1, f2, Option.toList_some, List.cons_append, List.nil_append, true_and, eq_self, ↓reduceIte]
  exact kk
theorem lw_8 (z : Inv n h) (o : OKS L xs h) (v : ∀ j, j ≤ 5 → vp_in (i + nI j) L) (k : ∀ h2, Inv (n + 1) h2 → OKS L xs h2 → wp false (d + 900 + 1) 266 1545 (lwL i) [] h2 Q) : wp false (d + 900 + 1) 266 484 (lwL i) [] h Q := by
  obtain ⟨r, h1, h2, e1, e2, z2⟩ := p_fault z  d
  obtain ⟨f1, o1⟩ := st_call o e1
  obtain ⟨f2, o2⟩ := st_call o1 e2
  have kk := k h2 z2 o2
  have a1 : (hk h 1).1 = 11 := by rw [o.2.1 1 (by omega) (by omega)]; rfl
  have a2 : (hk h1 101).1 = 12 := by rw [o1.2.1 101 (by omega) (by omega)]; rfl
  have w := o.2.2.1
  have w1 := o1.2.2.1
  have g := o.2.2.2.2
  have g1 := o1.2.2.2.2
  simp only [r266_484, r266_484n, r266_484t, r266_485, r266_488, r266_488n, r266_488t, r266_489, r266_492, kdm_f, a1, a2, w, w1, g, g1, f1, f2, Option.toList_some, List.cons_append, List.nil_append, true_and, eq_self, ↓reduceIte]
  exact kk
theorem lw_9 (z : Inv n h) (o : OKS L xs h) (v : ∀ j, j ≤ 5 → vp_in (i + nI j) L) (k : ∀ h2, Inv (n + 1) h2 → OKS L xs h2 → wp false (d + 900 + 1) 266 1545 (lwL i) [] h2 Q) : wp false (d + 900 + 1) 266 497 (lwL i) [] h Q := by
  obtain ⟨r, h1, h2, e1, e2, z2⟩ := p_odds z (xs (i + nI 1).toNatClampNeg) (xs (i + nI 2).toNatClampNeg) (xs (i + nI 3).toNatClampNeg) (xs (i + nI 4).toNatClampNeg) d
  obtain ⟨f1, o1⟩ := st_call o e1
  obtain ⟨f2, o2⟩ := st_call o1 e2
  have kk := k h2 z2 o2
  have a1 : (hk h 1).1 = 11 := by rw [o.2.1 1 (by omega) (by omega)]; rfl
  have a2 : (hk h1 101).1 = 12 := by rw [o1.2.1 101 (by omega) (by omega)]; rfl
  have w := o.2.2.1
  have w1 := o1.2.2.1
  have g := o.2.2.2.2
  have g1 := o1.2.2.2.2
  have v1 := v 1 (by omega)
  have v2 := v 2 (by omega)
  have v3 := v 3 (by omega)
  have v4 := v 4 (by omega)
  simp only [r266_497, r266_497n, r266_497t, r266_498, r266_498t, r266_499, r266_500, r266_501, r266_502, r266_502t, r266_503, r266_503t, r266_504, r266_505, r266_506, r266_507, r266_507t, r266_508, r266_508t, r266_509, r266_510, r266_511, r266_512, r266_512t, r266_513, r266_513t, r266_514, r266_515, r266_516, r266_517, r266_517t, r266_518, r266_521, r266_521n, r266_521t, r266_522, r266_522t, r266_523, r266_524, r266_525, r266_526, r266_526t, r266_527, r266_527t, r266_528, r266_529, r266_530, r266_531, r266_531t, r266_532, r266_532t, r266_533, r266_534, r266_535, r266_536, r266_536t, r266_537, r266_537t, r266_538, r266_539, r266_540, r266_541, r266_541t, r266_542, r266_545, kdm_f, a1, a2, w, w1, g, g1, v1, v2, v3, v4, f1, f2, Option.toList_some, List.cons_append, List.nil_append, true_and, eq_self, ↓reduceIte]
  exact kk
theorem lw_10 (z : Inv n h) (o : OKS L xs h) (v : ∀ j, j ≤ 5 → vp_in (i + nI j) L) (k : ∀ h2, Inv (n + 1) h2 → OKS L xs h2 → wp false (d + 900 + 1) 266 1545 (lwL i) [] h2 Q) : wp false (d + 900 + 1) 266 550 (lwL i) [] h Q := by
  obtain ⟨r, h1, h2, e1, e2, z2⟩ := p_times z (xs (i + nI 1).toNatClampNeg) (xs (i + nI 2).toNatClampNeg) (xs (i + nI 3).toNatClampNeg) d
  obtain ⟨f1, o1⟩ := st_call o e1
  obtain ⟨f2, o2⟩ := st_call o1 e2
  have kk := k h2 z2 o2
  have a1 : (hk h 1).1 = 11 := by rw [o.2.1 1 (by omega) (by omega)]; rfl
  have a2 : (hk h1 101).1 = 12 := by rw [o1.2.1 101 (by omega) (by omega)]; rfl
  have w := o.2.2.1
  have w1 := o1.2.2.1
  have g := o.2.2.2.2
  have g1 := o1.2.2.2.2
  have v1 := v 1 (by omega)
  have v2 := v 2 (by omega)
  have v3 := v 3 (by omega)
  simp only [r266_550, r266_550n, r266_550t, r266_551, r266_551t, r266_552, r266_553, r266_554, r266_555, r266_555t, r266_556, r266_556t, r266_557, r266_558, r266_559, r266_560, r266_560t, r266_561, r266_561t, r266_562, r266_563, r266_564, r266_565, r266_565t, r266_566, r266_569, r266_569n, r266_569t, r266_570, r266_570t, r266_571, r266_572, r266_573, r266_574, r266_574t, r266_575, r266_575t, r266_576, r266_577, r266_578, r266_579, r266_579t, r266_580, r266_580t, r266_581, r266_582, r266_583, r266_584, r266_584t, r266_585, r266_588, kdm_f, a1, a2, w, w1, g, g1, v1, v2, v3, f1, f2, Option.toList_some, List.cons_append, List.nil_append, true_and, eq_self, ↓reduceIte]
  exact kk
theorem lw_11 (z : Inv n h) (o : OKS L xs h) (v : ∀ j, j ≤ 5 → vp_in (i + nI j) L) (k : ∀ h2, Inv (n + 1) h2 → OKS L xs h2 → wp false (d + 900 + 1) 266 1545 (lwL i) [] h2 Q) : wp false (d + 900 + 1) 266 593 (lwL i) [] h Q := by
  obtain ⟨r, h1, h2, e1, e2, z2⟩ := p_likely z (xs (i + nI 1).toNatClampNeg) d
  obtain ⟨f1, o1⟩ := st_call o e1
  obtain ⟨f2, o2⟩ := st_call o1 e2
  have kk := k h2 z2 o2
  have a1 : (hk h 1).1 = 11 := by rw [o.2.1 1 (by omega) (by omega)]; rfl
  have a2 : (hk h1 101).1 = 12 := by rw [o1.2.1 101 (by omega) (by omega)]; rfl
  have w := o.2.2.1
  have w1 := o1.2.2.1
  have g := o.2.2.2.2
  have g1 := o1.2.2.2.2
  have v1 := v 1 (by omega)
  simp only [r266_593, r266_593n, r266_593t, r266_594, r266_594t, r266_595, r266_596, r266_597, r266_598, r266_598t, r266_599, r266_602, r266_602n, r266_602t, r266_603, r266_603t, r266_604, r266_605, r266_606, r266_607, r266_607t, r266_608, r266_611, kdm_f, a1, a2, w, w1, g, g1, v1, f1, f2, Option.toList_some, List.cons_append, List.nil_append, true_and, eq_self, ↓reduceIte]
  exact kk
theorem lw_12 (z : Inv n h) (o : OKS L xs h) (v : ∀ j, j ≤ 5 → vp_in (i + nI j) L) (k : ∀ h2, Inv (n + 1) h2 → OKS L xs h2 → wp false (d + 900 + 1) 266 1545 (lwL i) [] h2 Q) : wp false (d + 900 + 1) 266 616 (lwL i) [] h Q := by
  obtain ⟨r, h1, h2, e1, e2, z2⟩ := p_cold z (xs (i + nI 1).toNatClampNeg) (xs (i + nI 2).toNatClampNeg) (xs (i + nI 3).toNatClampNeg) (xs (i + nI 4).toNatClampNeg) (xs (i + nI 5).toNatClampNeg) d
  obtain ⟨f1, o1⟩ := st_call o e1
  obtain ⟨f2, o2⟩ := st_call o1 e2
  have kk := k h2 z2 o2
  have a1 : (hk h 1).1 = 11 := by rw [o.2.1 1 (by omega) (by omega)]; rfl
  have a2 : (hk h1 101).1 = 12 := by rw [o1.2.1 101 (by omega) (by omega)]; rfl
  have w := o.2.2.1
  have w1 := o1.2.2.1
  have g := o.2.2.2.2
  have g1 := o1.2.2.2.2
  have v1 := v 1 (by omega)
  have v2 := v 2 (by omega)
  have v3 := v 3 (by omega)
  have v4 := v 4 (by omega)
  have v5 := v 5 (by omega)
  simp only [r266_616, r266_616n, r266_616t, r266_617, r266_617t, r266_618, r266_619, r266_620, r266_621, r266_621t, r266_622, r266_622t, r266_623, r266_624, r266_625, r266_626, r266_626t, r266_627, r266_627t, r266_628, r266_629, r266_630, r266_631, r266_631t, r266_632, r266_632t, r266_633, r266_634, r266_635, r266_636, r266_636t, r266_637, r266_637t, r266_638, r266_639, r266_640, r266_641, r266_641t, r266_642, r266_645, r266_645n, r266_645t, r266_646, r266_646t, r266_647, r266_648, r266_649, r266_650, r266_650t, r266_651, r266_651t, r266_652, r266_653, r266_654, r266_655, r266_655t, r266_656, r266_656t, r266_657, r266_658, r266_659, r266_660, r266_660t, r266_661, r266_661t, r266_662, r266_663, r266_664, r266_665, r266_665t, r266_666, r266_666t, r266_667, r266_668, r266_669, r266_670, r266_670t, r266_671, r266_674, r266_675, kdm_f, a1, a2, w, w1, g, g1, v1, v2, v3, v4, v5, f1, f2, Option.toList_some, List.cons_append, List.nil_append, true_and, eq_self, ↓reduceIte, lg_z]
  exact kk
theorem lw_13 (z : Inv n h) (o : OKS L xs h) (v : ∀ j, j ≤ 5 → vp_in (i + nI j) L) (k : ∀ h2, Inv (n + 1) h2 → OKS L xs h2 → wp false (d + 900 + 1) 266 1545 (lwL i) [] h2 Q) : wp false (d + 900 + 1) 266 680 (lwL i) [] h Q := by
  obtain ⟨r, h1, h2, e1, e2, z2⟩ := p_says z (xs (i + nI 1).toNatClampNeg) (xs (i + nI 2).toNatClampNeg) d
  obtain ⟨f1, o1⟩ := st_call o e1
  obtain ⟨f2, o2⟩ := st_call o1 e2
  have kk := k h2 z2 o2
  have a1 : (hk h 1).1 = 11 := by rw [o.2.1 1 (by omega) (by omega)]; rfl
  have a2 : (hk h1 101).1 = 12 := by rw [o1.2.1 101 (by omega) (by omega)]; rfl
  have w := o.2.2.1
  have w1 := o1.2.2.1
  have g := o.2.2.2.2
  have g1 := o1.2.2.2.2
  have v1 := v 1 (by omega)
  have v2 := v 2 (by omega)
  simp only [r266_680, r266_680n, r266_680t, r266_681, r266_681t, r266_682, r266_683, r266_684, r266_685, r266_685t, r266_686, r266_686t, r266_687, r266_688, r266_689, r266_690, r266_690t, r266_691, r266_694, r266_694n, r266_694t, r266_695, r266_695t, r266_696, r266_697, r266_698, r266_699, r266_699t, r266_700, r266_700t, r266_701, r266_702, r266_703, r266_704, r266_704t, r266_705, r266_708, kdm_f, a1, a2, w, w1, g, g1, v1, v2, f1, f2, Option.toList_some, List.cons_append, List.nil_append, true_and, eq_self, ↓reduceIte]
  exact kk
theorem lw_14 (z : Inv n h) (o : OKS L xs h) (v : ∀ j, j ≤ 5 → vp_in (i + nI j) L) (k : ∀ h2, Inv (n + 1) h2 → OKS L xs h2 → wp false (d + 900 + 1) 266 1545 (lwL i) [] h2 Q) : wp false (d + 900 + 1) 266 713 (lwL i) [] h Q := by
  obtain ⟨r, h1, h2, e1, e2, z2⟩ := p_point z (xs (i + nI 1).toNatClampNeg) (xs (i + nI 2).toNatClampNeg) d
  obtain ⟨f1, o1⟩ := st_call o e1
  obtain ⟨f2, o2⟩ := st_call o1 e2
  have kk := k h2 z2 o2
  have a1 : (hk h 1).1 = 11 := by rw [o.2.1 1 (by omega) (by omega)]; rfl
  have a2 : (hk h1 101).1 = 12 := by rw [o1.2.1 101 (by omega) (by omega)]; rfl
  have w := o.2.2.1
  have w1 := o1.2.2.1
  have g := o.2.2.2.2
  have g1 := o1.2.2.2.2
  have v1 := v 1 (by omega)
  have v2 := v 2 (by omega)
  simp only [r266_713, r266_713n, r266_713t, r266_714, r266_714t, r266_715, r266_716, r266_717, r266_718, r266_718t, r266_719, r266_719t, r266_720, r266_721, r266_722, r266_723, r266_723t, r266_724, r266_727, r266_727n, r266_727t, r266_728, r266_728t, r266_729, r266_730, r266_731, r266_732, r266_732t, r266_733, r266_733t, r266_734, r266_735, r266_736, r266_737, r266_737t, r266_738, r266_741, kdm_f, a1, a2, w, w1, g, g1, v1, v2, f1, f2, Option.toList_some, List.cons_append, List.nil_append, true_and, eq_self, ↓reduceIte]
  exact kk
theorem lw_15 (z : Inv n h) (o : OKS L xs h) (v : ∀ j, j ≤ 5 → vp_in (i + nI j) L) (k : ∀ h2, Inv (n + 1) h2 → OKS L xs h2 → wp false (d + 900 + 1) 266 1545 (lwL i) [] h2 Q) : wp false (d + 900 + 1) 266 746 (lwL i) [] h Q := by
  obtain ⟨r, h1, h2, e1, e2, z2⟩ := p_tenths z (xs (i + nI 1).toNatClampNeg) (xs (i + nI 2).toNatClampNeg) d
  obtain ⟨f1, o1⟩ := st_call o e1
  obtain ⟨f2, o2⟩ := st_call o1 e2
  have kk := k h2 z2 o2
  have a1 : (hk h 1).1 = 11 := by rw [o.2.1 1 (by omega) (by omega)]; rfl
  have a2 : (hk h1 101).1 = 12 := by rw [o1.2.1 101 (by omega) (by omega)]; rfl
  have w := o.2.2.1
  have w1 := o1.2.2.1
  have g := o.2.2.2.2
  have g1 := o1.2.2.2.2
  have v1 := v 1 (by omega)
  have v2 := v 2 (by omega)
  simp only [r266_746, r266_746n, r266_746t, r266_747, r266_747t, r266_748, r266_749, r266_750, r266_751, r266_751t, r266_752, r266_752t, r266_753, r266_754, r266_755, r266_756, r266_756t, r266_757, r266_760, r266_760n, r266_760t, r266_761, r266_761t, r266_762, r266_763, r266_764, r266_765, r266_765t, r266_766, r266_766t, r266_767, r266_768, r266_769, r266_770, r266_770t, r266_771, r266_774, kdm_f, a1, a2, w, w1, g, g1, v1, v2, f1, f2, Option.toList_some, List.cons_append, List.nil_append, true_and, eq_self, ↓reduceIte]
  exact kk
theorem lw_16 (z : Inv n h) (o : OKS L xs h) (v : ∀ j, j ≤ 5 → vp_in (i + nI j) L) (k : ∀ h2, Inv (n + 1) h2 → OKS L xs h2 → wp false (d + 900 + 1) 266 1545 (lwL i) [] h2 Q) : wp false (d + 900 + 1) 266 779 (lwL i) [] h Q := by
  obtain ⟨r, h1, h2, e1, e2, z2⟩ := p_late z (xs (i + nI 1).toNatClampNeg) d
  obtain ⟨f1, o1⟩ := st_call o e1
  obtain ⟨f2, o2⟩ := st_call o1 e2
  have kk := k h2 z2 o2
  have a1 : (hk h 1).1 = 11 := by rw [o.2.1 1 (by omega) (by omega)]; rfl
  have a2 : (hk h1 101).1 = 12 := by rw [o1.2.1 101 (by omega) (by omega)]; rfl
  have w := o.2.2.1
  have w1 := o1.2.2.1
  have g := o.2.2.2.2
  have g1 := o1.2.2.2.2
  have v1 := v 1 (by omega)
  simp only [r266_779, r266_779n, r266_779t, r266_780, r266_780t, r266_781, r266_782, r266_783, r266_784, r266_784t, r266_785, r266_788, r266_788n, r266_788t, r266_789, r266_789t, r266_790, r266_791, r266_792, r266_793, r266_793t, r266_794, r266_797, kdm_f, a1, a2, w, w1, g, g1, v1, f1, f2, Option.toList_some, List.cons_append, List.nil_append, true_and, eq_self, ↓reduceIte]
  exact kk
theorem lw_17 (z : Inv n h) (o : OKS L xs h) (v : ∀ j, j ≤ 5 → vp_in (i + nI j) L) (k : ∀ h2, Inv (n + 1) h2 → OKS L xs h2 → wp false (d + 900 + 1) 266 1545 (lwL i) [] h2 Q) : wp false (d + 900 + 1) 266 802 (lwL i) [] h Q := by
  obtain ⟨r, h1, h2, e1, e2, z2⟩ := p_beyond z (xs (i + nI 1).toNatClampNeg) d
  obtain ⟨f1, o1⟩ := st_call o e1
  obtain ⟨f2, o2⟩ := st_call o1 e2
  have kk := k h2 z2 o2
  have a1 : (hk h 1).1 = 11 := by rw [o.2.1 1 (by omega) (by omega)]; rfl
  have a2 : (hk h1 101).1 = 12 := by rw [o1.2.1 101 (by omega) (by omega)]; rfl
  have w := o.2.2.1
  have w1 := o1.2.2.1
  have g := o.2.2.2.2
  have g1 := o1.2.2.2.2
  have v1 := v 1 (by omega)
  simp only [r266_802, r266_802n, r266_802t, r266_803, r266_803t, r266_804, r266_805, r266_806, r266_807, r266_807t, r266_808, r266_811, r266_811n, r266_811t, r266_812, r266_812t, r266_813, r266_814, r266_815, r266_816, r266_816t, r266_817, r266_820, kdm_f, a1, a2, w, w1, g, g1, v1, f1, f2, Option.toList_some, List.cons_append, List.nil_append, true_and, eq_self, ↓reduceIte]
  exact kk
theorem lw_18 (z : Inv n h) (o : OKS L xs h) (v : ∀ j, j ≤ 5 → vp_in (i + nI j) L) (k : ∀ h2, Inv (n + 1) h2 → OKS L xs h2 → wp false (d + 900 + 1) 266 1545 (lwL i) [] h2 Q) : wp false (d + 900 + 1) 266 825 (lwL i) [] h Q := by
  obtain ⟨r, h1, h2, e1, e2, z2⟩ := p_held z (xs (i + nI 1).toNatClampNeg) d
  obtain ⟨f1, o1⟩ := st_call o e1
  obtain ⟨f2, o2⟩ := st_call o1 e2
  have kk := k h2 z2 o2
  have a1 : (hk h 1).1 = 11 := by rw [o.2.1 1 (by omega) (by omega)]; rfl
  have a2 : (hk h1 101).1 = 12 := by rw [o1.2.1 101 (by omega) (by omega)]; rfl
  have w := o.2.2.1
  have w1 := o1.2.2.1
  have g := o.2.2.2.2
  have g1 := o1.2.2.2.2
  have v1 := v 1 (by omega)
  simp only [r266_825, r266_825n, r266_825t, r266_826, r266_826t, r266_827, r266_828, r266_829, r266_830, r266_830t, r266_831, r266_834, r266_834n, r266_834t, r266_835, r266_835t, r266_836, r266_837, r266_838, r266_839, r266_839t, r266_840, r266_843, kdm_f, a1, a2, w, w1, g, g1, v1, f1, f2, Option.toList_some, List.cons_append, List.nil_append, true_and, eq_self, ↓reduceIte]
  exact kk
theorem lw_19 (z : Inv n h) (o : OKS L xs h) (v : ∀ j, j ≤ 5 → vp_in (i + nI j) L) (k : ∀ h2, Inv (n + 1) h2 → OKS L xs h2 → wp false (d + 900 + 1) 266 1545 (lwL i) [] h2 Q) : wp false (d + 900 + 1) 266 848 (lwL i) [] h Q := by
  obtain ⟨r, h1, h2, e1, e2, z2⟩ := p_line z (xs (i + nI 1).toNatClampNeg) d
  obtain ⟨f1, o1⟩ := st_call o e1
  obtain ⟨f2, o2⟩ := st_call o1 e2
  have kk := k h2 z2 o2
  have a1 : (hk h 1).1 = 11 := by rw [o.2.1 1 (by omega) (by omega)]; rfl
  have a2 : (hk h1 101).1 = 12 := by rw [o1.2.1 101 (by omega) (by omega)]; rfl
  have w := o.2.2.1
  have w1 := o1.2.2.1
  have g := o.2.2.2.2
  have g1 := o1.2.2.2.2
  have v1 := v 1 (by omega)
  simp only [r266_848, r266_848n, r266_848t, r266_849, r266_849t, r266_850, r266_851, r266_852, r266_853, r266_853t, r266_854, r266_857, r266_857n, r266_857t, r266_858, r266_858t, r266_859, r266_860, r266_861, r266_862, r266_862t, r266_863, r266_866, kdm_f, a1, a2, w, w1, g, g1, v1, f1, f2, Option.toList_some, List.cons_append, List.nil_append, true_and, eq_self, ↓reduceIte]
  exact kk
theorem lw_20 (z : Inv n h) (o : OKS L xs h) (v : ∀ j, j ≤ 5 → vp_in (i + nI j) L) (k : ∀ h2, Inv (n + 1) h2 → OKS L xs h2 → wp false (d + 900 + 1) 266 1545 (lwL i) [] h2 Q) : wp false (d + 900 + 1) 266 871 (lwL i) [] h Q := by
  obtain ⟨r, h1, h2, e1, e2, z2⟩ := p_slip z (xs (i + nI 1).toNatClampNeg) d
  obtain ⟨f1, o1⟩ := st_call o e1
  obtain ⟨f2, o2⟩ := st_call o1 e2
  have kk := k h2 z2 o2
  have a1 : (hk h 1).1 = 11 := by rw [o.2.1 1 (by omega) (by omega)]; rfl
  have a2 : (hk h1 101).1 = 12 := by rw [o1.2.1 101 (by omega) (by omega)]; rfl
  have w := o.2.2.1
  have w1 := o1.2.2.1
  have g := o.2.2.2.2
  have g1 := o1.2.2.2.2
  have v1 := v 1 (by omega)
  simp only [r266_871, r266_871n, r266_871t, r266_872, r266_872t, r266_873, r266_874, r266_875, r266_876, r266_876t, r266_877, r266_880, r266_880n, r266_880t, r266_881, r266_881t, r266_882, r266_883, r266_884, r266_885, r266_885t, r266_886, r266_889, kdm_f, a1, a2, w, w1, g, g1, v1, f1, f2, Option.toList_some, List.cons_append, List.nil_append, true_and, eq_self, ↓reduceIte]
  exact kk
theorem lw_21 (z : Inv n h) (o : OKS L xs h) (v : ∀ j, j ≤ 5 → vp_in (i + nI j) L) (k : ∀ h2, Inv (n + 1) h2 → OKS L xs h2 → wp false (d + 900 + 1) 266 1545 (lwL i) [] h2 Q) : wp false (d + 900 + 1) 266 894 (lwL i) [] h Q := by
  obtain ⟨r, h1, h2, e1, e2, z2⟩ := p_picture z (xs (i + nI 1).toNatClampNeg) (xs (i + nI 2).toNatClampNeg) (xs (i + nI 3).toNatClampNeg) d
  obtain ⟨f1, o1⟩ := st_call o e1
  obtain ⟨f2, o2⟩ := st_call o1 e2
  have kk := k h2 z2 o2
  have a1 : (hk h 1).1 = 11 := by rw [o.2.1 1 (by omega) (by omega)]; rfl
  have a2 : (hk h1 101).1 = 12 := by rw [o1.2.1 101 (by omega) (by omega)]; rfl
  have w := o.2.2.1
  have w1 := o1.2.2.1
  have g := o.2.2.2.2
  have g1 := o1.2.2.2.2
  have v1 := v 1 (by omega)
  have v2 := v 2 (by omega)
  have v3 := v 3 (by omega)
  simp only [r266_894, r266_894n, r266_894t, r266_895, r266_895t, r266_896, r266_897, r266_898, r266_899, r266_899t, r266_900, r266_900t, r266_901, r266_902, r266_903, r266_904, r266_904t, r266_905, r266_905t, r266_906, r266_907, r266_908, r266_909, r266_909t, r266_910, r266_913, r266_913n, r266_913t, r266_914, r266_914t, r266_915, r266_916, r266_917, r266_918, r266_918t, r266_919, r266_919t, r266_920, r266_921, r266_922, r266_923, r266_923t, r266_924, r266_924t, r266_925, r266_926, r266_927, r266_928, r266_928t, r266_929, r266_932, kdm_f, a1, a2, w, w1, g, g1, v1, v2, v3, f1, f2, Option.toList_some, List.cons_append, List.nil_append, true_and, eq_self, ↓reduceIte]
  exact kk
theorem lw_22 (z : Inv n h) (o : OKS L xs h) (v : ∀ j, j ≤ 5 → vp_in (i + nI j) L) (k : ∀ h2, Inv (n + 1) h2 → OKS L xs h2 → wp false (d + 900 + 1) 266 1545 (lwL i) [] h2 Q) : wp false (d + 900 + 1) 266 937 (lwL i) [] h Q := by
  obtain ⟨r, h1, h2, e1, e2, z2⟩ := p_seen z (xs (i + nI 1).toNatClampNeg) (xs (i + nI 2).toNatClampNeg) (xs (i + nI 3).toNatClampNeg) d
  obtain ⟨f1, o1⟩ := st_call o e1
  obtain ⟨f2, o2⟩ := st_call o1 e2
  have kk := k h2 z2 o2
  have a1 : (hk h 1).1 = 11 := by rw [o.2.1 1 (by omega) (by omega)]; rfl
  have a2 : (hk h1 101).1 = 12 := by rw [o1.2.1 101 (by omega) (by omega)]; rfl
  have w := o.2.2.1
  have w1 := o1.2.2.1
  have g := o.2.2.2.2
  have g1 := o1.2.2.2.2
  have v1 := v 1 (by omega)
  have v2 := v 2 (by omega)
  have v3 := v 3 (by omega)
  simp only [r266_937, r266_937n, r266_937t, r266_938, r266_938t, r266_939, r266_940, r266_941, r266_942, r266_942t, r266_943, r266_943t, r266_944, r266_945, r266_946, r266_947, r266_947t, r266_948, r266_948t, r266_949, r266_950, r266_951, r266_952, r266_952t, r266_953, r266_956, r266_956n, r266_956t, r266_957, r266_957t, r266_958, r266_959, r266_960, r266_961, r266_961t, r266_962, r266_962t, r266_963, r266_964, r266_965, r266_966, r266_966t, r266_967, r266_967t, r266_968, r266_969, r266_970, r266_971, r266_971t, r266_972, r266_975, kdm_f, a1, a2, w, w1, g, g1, v1, v2, v3, f1, f2, Option.toList_some, List.cons_append, List.nil_append, true_and, eq_self, ↓reduceIte]
  exact kk
theorem lw_23 (z : Inv n h) (o : OKS L xs h) (v : ∀ j, j ≤ 5 → vp_in (i + nI j) L) (k : ∀ h2, Inv (n + 1) h2 → OKS L xs h2 → wp false (d + 900 + 1) 266 1545 (lwL i) [] h2 Q) : wp false (d + 900 + 1) 266 980 (lwL i) [] h Q := by
  obtain ⟨r, h1, h2, e1, e2, z2⟩ := p_best z (xs (i + nI 1).toNatClampNeg) d
  obtain ⟨f1, o1⟩ := st_call o e1
  obtain ⟨f2, o2⟩ := st_call o1 e2
  have kk := k h2 z2 o2
  have a1 : (hk h 1).1 = 11 := by rw [o.2.1 1 (by omega) (by omega)]; rfl
  have a2 : (hk h1 101).1 = 12 := by rw [o1.2.1 101 (by omega) (by omega)]; rfl
  have w := o.2.2.1
  have w1 := o1.2.2.1
  have g := o.2.2.2.2
  have g1 := o1.2.2.2.2
  have v1 := v 1 (by omega)
  simp only [r266_980, r266_980n, r266_980t, r266_981, r266_981t, r266_982, r266_983, r266_984, r266_985, r266_985t, r266_986, r266_989, r266_989n, r266_989t, r266_990, r266_990t, r266_991, r266_992, r266_993, r266_994, r266_994t, r266_995, r266_998, kdm_f, a1, a2, w, w1, g, g1, v1, f1, f2, Option.toList_some, List.cons_append, List.nil_append, true_and, eq_self, ↓reduceIte]
  exact kk
theorem lw_24 (z : Inv n h) (o : OKS L xs h) (v : ∀ j, j ≤ 5 → vp_in (i + nI j) L) (k : ∀ h2, Inv (n + 1) h2 → OKS L xs h2 → wp false (d + 900 + 1) 266 1545 (lwL i) [] h2 Q) : wp false (d + 900 + 1) 266 1003 (lwL i) [] h Q := by
  obtain ⟨r, h1, h2, e1, e2, z2⟩ := p_talker z (xs (i + nI 1).toNatClampNeg) (xs (i + nI 2).toNatClampNeg) (xs (i + nI 3).toNatClampNeg) (xs (i + nI 4).toNatClampNeg) (xs (i + nI 5).toNatClampNeg) d
  obtain ⟨f1, o1⟩ := st_call o e1
  obtain ⟨f2, o2⟩ := st_call o1 e2
  have kk := k h2 z2 o2
  have a1 : (hk h 1).1 = 11 := by rw [o.2.1 1 (by omega) (by omega)]; rfl
  have a2 : (hk h1 101).1 = 12 := by rw [o1.2.1 101 (by omega) (by omega)]; rfl
  have w := o.2.2.1
  have w1 := o1.2.2.1
  have g := o.2.2.2.2
  have g1 := o1.2.2.2.2
  have v1 := v 1 (by omega)
  have v2 := v 2 (by omega)
  have v3 := v 3 (by omega)
  have v4 := v 4 (by omega)
  have v5 := v 5 (by omega)
  simp only [r266_1003, r266_1003n, r266_1003t, r266_1004, r266_1004t, r266_1005, r266_1006, r266_1007, r266_1008, r266_1008t, r266_1009, r266_1009t, r266_1010, r266_1011, r266_1012, r266_1013, r266_1013t, r266_1014, r266_1014t, r266_1015, r266_1016, r266_1017, r266_1018, r266_1018t, r266_1019, r266_1019t, r266_1020, r266_1021, r266_1022, r266_1023, r266_1023t, r266_1024, r266_1024t, r266_1025, r266_1026, r266_1027, r266_1028, r266_1028t, r266_1029, r266_1032, r266_1032n, r266_1032t, r266_1033, r266_1033t, r266_1034, r266_1035, r266_1036, r266_1037, r266_1037t, r266_1038, r266_1038t, r266_1039, r266_1040, r266_1041, r266_1042, r266_1042t, r266_1043, r266_1043t, r266_1044, r266_1045, r266_1046, r266_1047, r266_1047t, r266_1048, r266_1048t, r266_1049, r266_1050, r266_1051, r266_1052, r266_1052t, r266_1053, r266_1053t, r266_1054, r266_1055, r266_1056, r266_1057, r266_1057t, r266_1058, r266_1061, kdm_f, a1, a2, w, w1, g, g1, v1, v2, v3, v4, v5, f1, f2, Option.toList_some, List.cons_append, List.nil_append, true_and, eq_self, ↓reduceIte]
  exact kk
theorem lw_25 (z : Inv n h) (o : OKS L xs h) (v : ∀ j, j ≤ 5 → vp_in (i + nI j) L) (k : ∀ h2, Inv (n + 1) h2 → OKS L xs h2 → wp false (d + 900 + 1) 266 1545 (lwL i) [] h2 Q) : wp false (d + 900 + 1) 266 1066 (lwL i) [] h Q := by
  obtain ⟨r, h1, h2, e1, e2, z2⟩ := p_sheet z (xs (i + nI 1).toNatClampNeg) (xs (i + nI 2).toNatClampNeg) (xs (i + nI 3).toNatClampNeg) (xs (i + nI 4).toNatClampNeg) (xs (i + nI 5).toNatClampNeg) d
  obtain ⟨f1, o1⟩ := st_call o e1
  obtain ⟨f2, o2⟩ := st_call o1 e2
  have kk := k h2 z2 o2
  have a1 : (hk h 1).1 = 11 := by rw [o.2.1 1 (by omega) (by omega)]; rfl
  have a2 : (hk h1 101).1 = 12 := by rw [o1.2.1 101 (by omega) (by omega)]; rfl
  have w := o.2.2.1
  have w1 := o1.2.2.1
  have g := o.2.2.2.2
  have g1 := o1.2.2.2.2
  have v1 := v 1 (by omega)
  have v2 := v 2 (by omega)
  have v3 := v 3 (by omega)
  have v4 := v 4 (by omega)
  have v5 := v 5 (by omega)
  simp only [r266_1066, r266_1066n, r266_1066t, r266_1067, r266_1067t, r266_1068, r266_1069, r266_1070, r266_1071, r266_1071t, r266_1072, r266_1072t, r266_1073, r266_1074, r266_1075, r266_1076, r266_1076t, r266_1077, r266_1077t, r266_1078, r266_1079, r266_1080, r266_1081, r266_1081t, r266_1082, r266_1082t, r266_1083, r266_1084, r266_1085, r266_1086, r266_1086t, r266_1087, r266_1087t, r266_1088, r266_1089, r266_1090, r266_1091, r266_1091t, r266_1092, r266_1095, r266_1095n, r266_1095t, r266_1096, r266_1096t, r266_1097, r266_1098, r266_1099, r266_1100, r266_1100t, r266_1101, r266_1101t, r266_1102, r266_1103, r266_1104, r266_1105, r266_1105t, r266_1106, r266_1106t, r266_1107, r266_1108, r266_1109, r266_1110, r266_1110t, r266_1111, r266_1111t, r266_1112, r266_1113, r266_1114, r266_1115, r266_1115t, r266_1116, r266_1116t, r266_1117, r266_1118, r266_1119, r266_1120, r266_1120t, r266_1121, r266_1124, kdm_f, a1, a2, w, w1, g, g1, v1, v2, v3, v4, v5, f1, f2, Option.toList_some, List.cons_append, List.nil_append, true_and, eq_self, ↓reduceIte]
  exact kk
theorem lw_26 (z : Inv n h) (o : OKS L xs h) (v : ∀ j, j ≤ 5 → vp_in (i + nI j) L) (k : ∀ h2, Inv (n + 1) h2 → OKS L xs h2 → wp false (d + 900 + 1) 266 1545 (lwL i) [] h2 Q) : wp false (d + 900 + 1) 266 1129 (lwL i) [] h Q := by
  obtain ⟨r, h1, h2, e1, e2, z2⟩ := p_send z (xs (i + nI 1).toNatClampNeg) (xs (i + nI 2).toNatClampNeg) d
  obtain ⟨f1, o1⟩ := st_call o e1
  obtain ⟨f2, o2⟩ := st_call o1 e2
  have kk := k h2 z2 o2
  have a1 : (hk h 1).1 = 11 := by rw [o.2.1 1 (by omega) (by omega)]; rfl
  have a2 : (hk h1 101).1 = 12 := by rw [o1.2.1 101 (by omega) (by omega)]; rfl
  have w := o.2.2.1
  have w1 := o1.2.2.1
  have g := o.2.2.2.2
  have g1 := o1.2.2.2.2
  have v1 := v 1 (by omega)
  have v2 := v 2 (by omega)
  simp only [r266_1129, r266_1129n, r266_1129t, r266_1130, r266_1130t, r266_1131, r266_1132, r266_1133, r266_1134, r266_1134t, r266_1135, r266_1135t, r266_1136, r266_1137, r266_1138, r266_1139, r266_1139t, r266_1140, r266_1143, r266_1143n, r266_1143t, r266_1144, r266_1144t, r266_1145, r266_1146, r266_1147, r266_1148, r266_1148t, r266_1149, r266_1149t, r266_1150, r266_1151, r266_1152, r266_1153, r266_1153t, r266_1154, r266_1157, kdm_f, a1, a2, w, w1, g, g1, v1, v2, f1, f2, Option.toList_some, List.cons_append, List.nil_append, true_and, eq_self, ↓reduceIte]
  exact kk
theorem lw_27 (z : Inv n h) (o : OKS L xs h) (v : ∀ j, j ≤ 5 → vp_in (i + nI j) L) (k : ∀ h2, Inv (n + 1) h2 → OKS L xs h2 → wp false (d + 900 + 1) 266 1545 (lwL i) [] h2 Q) : wp false (d + 900 + 1) 266 1162 (lwL i) [] h Q := by
  obtain ⟨r, h1, h2, e1, e2, z2⟩ := p_talk z (xs (i + nI 1).toNatClampNeg) (xs (i + nI 2).toNatClampNeg) (xs (i + nI 3).toNatClampNeg) d
  obtain ⟨f1, o1⟩ := st_call o e1
  obtain ⟨f2, o2⟩ := st_call o1 e2
  have kk := k h2 z2 o2
  have a1 : (hk h 1).1 = 11 := by rw [o.2.1 1 (by omega) (by omega)]; rfl
  have a2 : (hk h1 101).1 = 12 := by rw [o1.2.1 101 (by omega) (by omega)]; rfl
  have w := o.2.2.1
  have w1 := o1.2.2.1
  have g := o.2.2.2.2
  have g1 := o1.2.2.2.2
  have v1 := v 1 (by omega)
  have v2 := v 2 (by omega)
  have v3 := v 3 (by omega)
  simp only [r266_1162, r266_1162n, r266_1162t, r266_1163, r266_1163t, r266_1164, r266_1165, r266_1166, r266_1167, r266_1167t, r266_1168, r266_1168t, r266_1169, r266_1170, r266_1171, r266_1172, r266_1172t, r266_1173, r266_1173t, r266_1174, r266_1175, r266_1176, r266_1177, r266_1177t, r266_1178, r266_1181, r266_1181n, r266_1181t, r266_1182, r266_1182t, r266_1183, r266_1184, r266_1185, r266_1186, r266_1186t, r266_1187, r266_1187t, r266_1188, r266_1189, r266_1190, r266_1191, r266_1191t, r266_1192, r266_1192t, r266_1193, r266_1194, r266_1195, r266_1196, r266_1196t, r266_1197, r266_1200, kdm_f, a1, a2, w, w1, g, g1, v1, v2, v3, f1, f2, Option.toList_some, List.cons_append, List.nil_append, true_and, eq_self, ↓reduceIte]
  exact kk
theorem lw_28 (z : Inv n h) (o : OKS L xs h) (v : ∀ j, j ≤ 5 → vp_in (i + nI j) L) (k : ∀ h2, Inv (n + 1) h2 → OKS L xs h2 → wp false (d + 900 + 1) 266 1545 (lwL i) [] h2 Q) : wp false (d + 900 + 1) 266 1205 (lwL i) [] h Q := by
  obtain ⟨r, h1, h2, e1, e2, z2⟩ := p_talked z (xs (i + nI 1).toNatClampNeg) (xs (i + nI 2).toNatClampNeg) (xs (i + nI 3).toNatClampNeg) (xs (i + nI 4).toNatClampNeg) d
  obtain ⟨f1, o1⟩ := st_call o e1
  obtain ⟨f2, o2⟩ := st_call o1 e2
  have kk := k h2 z2 o2
  have a1 : (hk h 1).1 = 11 := by rw [o.2.1 1 (by omega) (by omega)]; rfl
  have a2 : (hk h1 101).1 = 12 := by rw [o1.2.1 101 (by omega) (by omega)]; rfl
  have w := o.2.2.1
  have w1 := o1.2.2.1
  have g := o.2.2.2.2
  have g1 := o1.2.2.2.2
  have v1 := v 1 (by omega)
  have v2 := v 2 (by omega)
  have v3 := v 3 (by omega)
  have v4 := v 4 (by omega)
  simp only [r266_1205, r266_1205n, r266_1205t, r266_1206, r266_1206t, r266_1207, r266_1208, r266_1209, r266_1210, r266_1210t, r266_1211, r266_1211t, r266_1212, r266_1213, r266_1214, r266_1215, r266_1215t, r266_1216, r266_1216t, r266_1217, r266_1218, r266_1219, r266_1220, r266_1220t, r266_1221, r266_1221t, r266_1222, r266_1223, r266_1224, r266_1225, r266_1225t, r266_1226, r266_1229, r266_1229n, r266_1229t, r266_1230, r266_1230t, r266_1231, r266_1232, r266_1233, r266_1234, r266_1234t, r266_1235, r266_1235t, r266_1236, r266_1237, r266_1238, r266_1239, r266_1239t, r266_1240, r266_1240t, r266_1241, r266_1242, r266_1243, r266_1244, r266_1244t, r266_1245, r266_1245t, r266_1246, r266_1247, r266_1248, r266_1249, r266_1249t, r266_1250, r266_1253, kdm_f, a1, a2, w, w1, g, g1, v1, v2, v3, v4, f1, f2, Option.toList_some, List.cons_append, List.nil_append, true_and, eq_self, ↓reduceIte]
  exact kk
theorem lw_29 (z : Inv n h) (o : OKS L xs h) (v : ∀ j, j ≤ 5 → vp_in (i + nI j) L) (k : ∀ h2, Inv (n + 1) h2 → OKS L xs h2 → wp false (d + 900 + 1) 266 1545 (lwL i) [] h2 Q) : wp false (d + 900 + 1) 266 1258 (lwL i) [] h Q := by
  obtain ⟨r, h1, h2, e1, e2, z2⟩ := p_least z (xs (i + nI 1).toNatClampNeg) (xs (i + nI 2).toNatClampNeg) d
  obtain ⟨f1, o1⟩ := st_call o e1
  obtain ⟨f2, o2⟩ := st_call o1 e2
  have kk := k h2 z2 o2
  have a1 : (hk h 1).1 = 11 := by rw [o.2.1 1 (by omega) (by omega)]; rfl
  have a2 : (hk h1 101).1 = 12 := by rw [o1.2.1 101 (by omega) (by omega)]; rfl
  have w := o.2.2.1
  have w1 := o1.2.2.1
  have g := o.2.2.2.2
  have g1 := o1.2.2.2.2
  have v1 := v 1 (by omega)
  have v2 := v 2 (by omega)
  simp only [r266_1258, r266_1258n, r266_1258t, r266_1259, r266_1259t, r266_1260, r266_1261, r266_1262, r266_1263, r266_1263t, r266_1264, r266_1264t, r266_1265, r266_1266, r266_1267, r266_1268, r266_1268t, r266_1269, r266_1272, r266_1272n, r266_1272t, r266_1273, r266_1273t, r266_1274, r266_1275, r266_1276, r266_1277, r266_1277t, r266_1278, r266_1278t, r266_1279, r266_1280, r266_1281, r266_1282, r266_1282t, r266_1283, r266_1286, kdm_f, a1, a2, w, w1, g, g1, v1, v2, f1, f2, Option.toList_some, List.cons_append, List.nil_append, true_and, eq_self, ↓reduceIte]
  exact kk
theorem lw_30 (z : Inv n h) (o : OKS L xs h) (v : ∀ j, j ≤ 5 → vp_in (i + nI j) L) (k : ∀ h2, Inv (n + 1) h2 → OKS L xs h2 → wp false (d + 900 + 1) 266 1545 (lwL i) [] h2 Q) : wp false (d + 900 + 1) 266 1291 (lwL i) [] h Q := by
  obtain ⟨r, h1, h2, e1, e2, z2⟩ := p_more z (xs (i + nI 1).toNatClampNeg) (xs (i + nI 2).toNatClampNeg) (xs (i + nI 3).toNatClampNeg) d
  obtain ⟨f1, o1⟩ := st_call o e1
  obtain ⟨f2, o2⟩ := st_call o1 e2
  have kk := k h2 z2 o2
  have a1 : (hk h 1).1 = 11 := by rw [o.2.1 1 (by omega) (by omega)]; rfl
  have a2 : (hk h1 101).1 = 12 := by rw [o1.2.1 101 (by omega) (by omega)]; rfl
  have w := o.2.2.1
  have w1 := o1.2.2.1
  have g := o.2.2.2.2
  have g1 := o1.2.2.2.2
  have v1 := v 1 (by omega)
  have v2 := v 2 (by omega)
  have v3 := v 3 (by omega)
  simp only [r266_1291, r266_1291n, r266_1291t, r266_1292, r266_1292t, r266_1293, r266_1294, r266_1295, r266_1296, r266_1296t, r266_1297, r266_1297t, r266_1298, r266_1299, r266_1300, r266_1301, r266_1301t, r266_1302, r266_1302t, r266_1303, r266_1304, r266_1305, r266_1306, r266_1306t, r266_1307, r266_1310, r266_1310n, r266_1310t, r266_1311, r266_1311t, r266_1312, r266_1313, r266_1314, r266_1315, r266_1315t, r266_1316, r266_1316t, r266_1317, r266_1318, r266_1319, r266_1320, r266_1320t, r266_1321, r266_1321t, r266_1322, r266_1323, r266_1324, r266_1325, r266_1325t, r266_1326, r266_1329, kdm_f, a1, a2, w, w1, g, g1, v1, v2, v3, f1, f2, Option.toList_some, List.cons_append, List.nil_append, true_and, eq_self, ↓reduceIte]
  exact kk
theorem lw_31 (z : Inv n h) (o : OKS L xs h) (v : ∀ j, j ≤ 5 → vp_in (i + nI j) L) (k : ∀ h2, Inv (n + 1) h2 → OKS L xs h2 → wp false (d + 900 + 1) 266 1545 (lwL i) [] h2 Q) : wp false (d + 900 + 1) 266 1334 (lwL i) [] h Q := by
  obtain ⟨r, h1, h2, e1, e2, z2⟩ := p_parts z (xs (i + nI 1).toNatClampNeg) (xs (i + nI 2).toNatClampNeg) (xs (i + nI 3).toNatClampNeg) d
  obtain ⟨f1, o1⟩ := st_call o e1
  obtain ⟨f2, o2⟩ := st_call o1 e2
  have kk := k h2 z2 o2
  have a1 : (hk h 1).1 = 11 := by rw [o.2.1 1 (by omega) (by omega)]; rfl
  have a2 : (hk h1 101).1 = 12 := by rw [o1.2.1 101 (by omega) (by omega)]; rfl
  have w := o.2.2.1
  have w1 := o1.2.2.1
  have g := o.2.2.2.2
  have g1 := o1.2.2.2.2
  have v1 := v 1 (by omega)
  have v2 := v 2 (by omega)
  have v3 := v 3 (by omega)
  simp only [r266_1334, r266_1334n, r266_1334t, r266_1335, r266_1335t, r266_1336, r266_1337, r266_1338, r266_1339, r266_1339t, r266_1340, r266_1340t, r266_1341, r266_1342, r266_1343, r266_1344, r266_1344t, r266_1345, r266_1345t, r266_1346, r266_1347, r266_1348, r266_1349, r266_1349t, r266_1350, r266_1353, r266_1353n, r266_1353t, r266_1354, r266_1354t, r266_1355, r266_1356, r266_1357, r266_1358, r266_1358t, r266_1359, r266_1359t, r266_1360, r266_1361, r266_1362, r266_1363, r266_1363t, r266_1364, r266_1364t, r266_1365, r266_1366, r266_1367, r266_1368, r266_1368t, r266_1369, r266_1372, kdm_f, a1, a2, w, w1, g, g1, v1, v2, v3, f1, f2, Option.toList_some, List.cons_append, List.nil_append, true_and, eq_self, ↓reduceIte]
  exact kk
theorem lw_32 (z : Inv n h) (o : OKS L xs h) (v : ∀ j, j ≤ 5 → vp_in (i + nI j) L) (k : ∀ h2, Inv (n + 1) h2 → OKS L xs h2 → wp false (d + 900 + 1) 266 1545 (lwL i) [] h2 Q) : wp false (d + 900 + 1) 266 1377 (lwL i) [] h Q := by
  obtain ⟨r, h1, h2, e1, e2, z2⟩ := p_ask z (xs (i + nI 1).toNatClampNeg) (xs (i + nI 2).toNatClampNeg) d
  obtain ⟨f1, o1⟩ := st_call o e1
  obtain ⟨f2, o2⟩ := st_call o1 e2
  have kk := k h2 z2 o2
  have a1 : (hk h 1).1 = 11 := by rw [o.2.1 1 (by omega) (by omega)]; rfl
  have a2 : (hk h1 101).1 = 12 := by rw [o1.2.1 101 (by omega) (by omega)]; rfl
  have w := o.2.2.1
  have w1 := o1.2.2.1
  have g := o.2.2.2.2
  have g1 := o1.2.2.2.2
  have v1 := v 1 (by omega)
  have v2 := v 2 (by omega)
  simp only [r266_1377, r266_1377n, r266_1377t, r266_1378, r266_1378t, r266_1379, r266_1380, r266_1381, r266_1382, r266_1382t, r266_1383, r266_1383t, r266_1384, r266_1385, r266_1386, r266_1387, r266_1387t, r266_1388, r266_1391, r266_1391n, r266_1391t, r266_1392, r266_1392t, r266_1393, r266_1394, r266_1395, r266_1396, r266_1396t, r266_1397, r266_1397t, r266_1398, r266_1399, r266_1400, r266_1401, r266_1401t, r266_1402, r266_1405, kdm_f, a1, a2, w, w1, g, g1, v1, v2, f1, f2, Option.toList_some, List.cons_append, List.nil_append, true_and, eq_self, ↓reduceIte]
  exact kk
theorem lw_33 (z : Inv n h) (o : OKS L xs h) (v : ∀ j, j ≤ 5 → vp_in (i + nI j) L) (k : ∀ h2, Inv (n + 1) h2 → OKS L xs h2 → wp false (d + 900 + 1) 266 1545 (lwL i) [] h2 Q) : wp false (d + 900 + 1) 266 1410 (lwL i) [] h Q := by
  obtain ⟨r, h1, h2, e1, e2, z2⟩ := p_worlds z (xs (i + nI 1).toNatClampNeg) (xs (i + nI 2).toNatClampNeg) (xs (i + nI 3).toNatClampNeg) (xs (i + nI 4).toNatClampNeg) d
  obtain ⟨f1, o1⟩ := st_call o e1
  obtain ⟨f2, o2⟩ := st_call o1 e2
  have kk := k h2 z2 o2
  have a1 : (hk h 1).1 = 11 := by rw [o.2.1 1 (by omega) (by omega)]; rfl
  have a2 : (hk h1 101).1 = 12 := by rw [o1.2.1 101 (by omega) (by omega)]; rfl
  have w := o.2.2.1
  have w1 := o1.2.2.1
  have g := o.2.2.2.2
  have g1 := o1.2.2.2.2
  have v1 := v 1 (by omega)
  have v2 := v 2 (by omega)
  have v3 := v 3 (by omega)
  have v4 := v 4 (by omega)
  simp only [r266_1410, r266_1410n, r266_1410t, r266_1411, r266_1411t, r266_1412, r266_1413, r266_1414, r266_1415, r266_1415t, r266_1416, r266_1416t, r266_1417, r266_1418, r266_1419, r266_1420, r266_1420t, r266_1421, r266_1421t, r266_1422, r266_1423, r266_1424, r266_1425, r266_1425t, r266_1426, r266_1426t, r266_1427, r266_1428, r266_1429, r266_1430, r266_1430t, r266_1431, r266_1434, r266_1434n, r266_1434t, r266_1435, r266_1435t, r266_1436, r266_1437, r266_1438, r266_1439, r266_1439t, r266_1440, r266_1440t, r266_1441, r266_1442, r266_1443, r266_1444, r266_1444t, r266_1445, r266_1445t, r266_1446, r266_1447, r266_1448, r266_1449, r266_1449t, r266_1450, r266_1450t, r266_1451, r266_1452, r266_1453, r266_1454, r266_1454t, r266_1455, r266_1458, kdm_f, a1, a2, w, w1, g, g1, v1, v2, v3, v4, f1, f2, Option.toList_some, List.cons_append, List.nil_append, true_and, eq_self, ↓reduceIte]
  exact kk
theorem lw_34 (z : Inv n h) (o : OKS L xs h) (v : ∀ j, j ≤ 5 → vp_in (i + nI j) L) (k : ∀ h2, Inv (n + 1) h2 → OKS L xs h2 → wp false (d + 900 + 1) 266 1545 (lwL i) [] h2 Q) : wp false (d + 900 + 1) 266 1463 (lwL i) [] h Q := by
  obtain ⟨r, h1, h2, e1, e2, z2⟩ := p_image z (xs (i + nI 1).toNatClampNeg) d
  obtain ⟨f1, o1⟩ := st_call o e1
  obtain ⟨f2, o2⟩ := st_call o1 e2
  have kk := k h2 z2 o2
  have a1 : (hk h 1).1 = 11 := by rw [o.2.1 1 (by omega) (by omega)]; rfl
  have a2 : (hk h1 101).1 = 12 := by rw [o1.2.1 101 (by omega) (by omega)]; rfl
  have w := o.2.2.1
  have w1 := o1.2.2.1
  have g := o.2.2.2.2
  have g1 := o1.2.2.2.2
  have v1 := v 1 (by omega)
  simp only [r266_1463, r266_1463n, r266_1463t, r266_1464, r266_1464t, r266_1465, r266_1466, r266_1467, r266_1468, r266_1468t, r266_1469, r266_1472, r266_1472n, r266_1472t, r266_1473, r266_1473t, r266_1474, r266_1475, r266_1476, r266_1477, r266_1477t, r266_1478, r266_1481, kdm_f, a1, a2, w, w1, g, g1, v1, f1, f2, Option.toList_some, List.cons_append, List.nil_append, true_and, eq_self, ↓reduceIte]
  exact kk
theorem lw_35 (z : Inv n h) (o : OKS L xs h) (v : ∀ j, j ≤ 5 → vp_in (i + nI j) L) (k : ∀ h2, Inv (n + 1) h2 → OKS L xs h2 → wp false (d + 900 + 1) 266 1545 (lwL i) [] h2 Q) : wp false (d + 900 + 1) 266 1486 (lwL i) [] h Q := by
  obtain ⟨r, h1, h2, e1, e2, z2⟩ := p_back z (xs (i + nI 1).toNatClampNeg) d
  obtain ⟨f1, o1⟩ := st_call o e1
  obtain ⟨f2, o2⟩ := st_call o1 e2
  have kk := k h2 z2 o2
  have a1 : (hk h 1).1 = 11 := by rw [o.2.1 1 (by omega) (by omega)]; rfl
  have a2 : (hk h1 101).1 = 12 := by rw [o1.2.1 101 (by omega) (by omega)]; rfl
  have w := o.2.2.1
  have w1 := o1.2.2.1
  have g := o.2.2.2.2
  have g1 := o1.2.2.2.2
  have v1 := v 1 (by omega)
  simp only [r266_1486, r266_1486n, r266_1486t, r266_1487, r266_1487t, r266_1488, r266_1489, r266_1490, r266_1491, r266_1491t, r266_1492, r266_1495, r266_1495n, r266_1495t, r266_1496, r266_1496t, r266_1497, r266_1498, r266_1499, r266_1500, r266_1500t, r266_1501, r266_1504, kdm_f, a1, a2, w, w1, g, g1, v1, f1, f2, Option.toList_some, List.cons_append, List.nil_append, true_and, eq_self, ↓reduceIte]
  exact kk
theorem lw_36 (z : Inv n h) (o : OKS L xs h) (v : ∀ j, j ≤ 5 → vp_in (i + nI j) L) (k : ∀ h2, Inv (n + 1) h2 → OKS L xs h2 → wp false (d + 900 + 1) 266 1545 (lwL i) [] h2 Q) : wp false (d + 900 + 1) 266 1509 (lwL i) [] h Q := by
  obtain ⟨r, h1, h2, e1, e2, z2⟩ := p_count z (xs (i + nI 1).toNatClampNeg) d
  obtain ⟨f1, o1⟩ := st_call o e1
  obtain ⟨f2, o2⟩ := st_call o1 e2
  have kk := k h2 z2 o2
  have a1 : (hk h 1).1 = 11 := by rw [o.2.1 1 (by omega) (by omega)]; rfl
  have a2 : (hk h1 101).1 = 12 := by rw [o1.2.1 101 (by omega) (by omega)]; rfl
  have w := o.2.2.1
  have w1 := o1.2.2.1
  have g := o.2.2.2.2
  have g1 := o1.2.2.2.2
  have v1 := v 1 (by omega)
  simp only [r266_1509, r266_1509n, r266_1509t, r266_1510, r266_1510t, r266_1511, r266_1512, r266_1513, r266_1514, r266_1514t, r266_1515, r266_1518, r266_1518n, r266_1518t, r266_1519, r266_1519t, r266_1520, r266_1521, r266_1522, r266_1523, r266_1523t, r266_1524, r266_1527, kdm_f, a1, a2, w, w1, g, g1, v1, f1, f2, Option.toList_some, List.cons_append, List.nil_append, true_and, eq_self, ↓reduceIte]
  exact kk
theorem lw_37 (z : Inv n h) (o : OKS L xs h) (v : ∀ j, j ≤ 5 → vp_in (i + nI j) L) (k : ∀ h2, Inv (n + 1) h2 → OKS L xs h2 → wp false (d + 900 + 1) 266 1545 (lwL i) [] h2 Q) : wp false (d + 900 + 1) 266 1532 (lwL i) [] h Q := by
  obtain ⟨r, h1, h2, e1, e2, z2⟩ := p_status z  d
  obtain ⟨f1, o1⟩ := st_call o e1
  obtain ⟨f2, o2⟩ := st_call o1 e2
  have kk := k h2 z2 o2
  have a1 : (hk h 1).1 = 11 := by rw [o.2.1 1 (by omega) (by omega)]; rfl
  have a2 : (hk h1 101).1 = 12 := by rw [o1.2.1 101 (by omega) (by omega)]; rfl
  have w := o.2.2.1
  have w1 := o1.2.2.1
  have g := o.2.2.2.2
  have g1 := o1.2.2.2.2
  simp only [r266_1532, r266_1532n, r266_1532t, r266_1533, r266_1536, r266_1536n, r266_1536t, r266_1537, r266_1540, kdm_f, a1, a2, w, w1, g, g1, f1, f2, Option.toList_some, List.cons_append, List.nil_append, true_and, eq_self, ↓reduceIte]
  exact kk
end LW
