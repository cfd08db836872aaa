set_option maxRecDepth 20000 in
theorem r266_0 (μ : Bool) (d : Nat) (l0 : Value) (l1 : Value) (l2 : Value) (l3 : Value) (st : List Value) (h : Hp) (Q : Po) : wp μ d 266 0 [l0, l1, l2, l3] st h Q = wp μ d 266 3 [l0, l1, l2, l3] (.ref (hz h) :: st) (mkc h 11 12) Q := wp_nx rfl
set_option maxRecDepth 20000 in
theorem r266_3 (μ : Bool) (d : Nat) (l0 : Value) (l1 : Value) (l2 : Value) (l3 : Value) (y0 : Nat) (st : List Value) (h : Hp) (Q : Po) : wp μ d 266 3 [l0, l1, l2, l3] (.ref y0 :: st) h Q = wp μ d 266 4 [l0, l1, l2, l3] (.ref y0 :: .ref y0 :: st) h Q := wp_nx rfl
set_option maxRecDepth 20000 in
theorem r266_4 (μ : Bool) (d : Nat) (l0 : Value) (l1 : Value) (l2 : Value) (l3 : Value) (y0 : Nat) (y1 : Nat) (h : Hp) (Q : Po) : wp μ (d + 1) 266 4 [l0, l1, l2, l3] [.ref y0, .ref y1] h Q = cwp μ d 86 [.ref y0] h (fun r h' => wp μ (d + 1) 266 7 [l0, l1, l2, l3] (r.toList ++ [.ref y1]) h' Q) := wp_kl rfl ⟨Nat.le_of_ble_eq_true rfl, ⟨Nat.le_of_ble_eq_true rfl, rfl, Nat.le_of_ble_eq_true rfl⟩, fun q => absurd q (by decide), fun _ => ⟨_, rfl⟩⟩
set_option maxRecDepth 20000 in
theorem r266_7 (μ : Bool) (d : Nat) (l0 : Value) (l1 : Value) (l2 : Value) (l3 : Value) (x : Nat) (st : List Value) (h : Hp) (Q : Po) : wp μ d 266 7 [l0, l1, l2, l3] (.ref x :: st) h Q = wp μ d 266 8 [l0, .ref x, l2, l3] st h Q := wp_nx rfl
set_option maxRecDepth 20000 in
theorem r266_7n (μ : Bool) (d : Nat) (l0 : Value) (l1 : Value) (l2 : Value) (l3 : Value) (st : List Value) (h : Hp) (Q : Po) : wp μ d 266 7 [l0, l1, l2, l3] (.null :: st) h Q = wp μ d 266 8 [l0, .null, l2, l3] st h Q := wp_nx rfl
set_option maxRecDepth 20000 in
theorem r266_8 (μ : Bool) (d : Nat) (l0 : Value) (l1 : Value) (l2 : Value) (l3 : Value) (st : List Value) (h : Hp) (Q : Po) : wp μ d 266 8 [l0, l1, l2, l3] st h Q = wp μ d 266 11 [l0, l1, l2, l3] (.ref (hz h) :: st) (mkc h 12 35) Q := wp_nx rfl
set_option maxRecDepth 20000 in
theorem r266_11 (μ : Bool) (d : Nat) (l0 : Value) (l1 : Value) (l2 : Value) (l3 : Value) (y0 : Nat) (st : List Value) (h : Hp) (Q : Po) : wp μ d 266 11 [l0, l1, l2, l3] (.ref y0 :: st) h Q = wp μ d 266 12 [l0, l1, l2, l3] (.ref y0 :: .ref y0 :: st) h Q := wp_nx rfl
set_option maxRecDepth 20000 in
theorem r266_12 (μ : Bool) (d : Nat) (l0 : Value) (l1 : Value) (l2 : Value) (l3 : Value) (y0 : Nat) (y1 : Nat) (h : Hp) (Q : Po) : wp μ (d + 1) 266 12 [l0, l1, l2, l3] [.ref y0, .ref y1] h Q = cwp μ d 146 [.ref y0] h (fun r h' => wp μ (d + 1) 266 15 [l0, l1, l2, l3] (r.toList ++ [.ref y1]) h' Q) := wp_kl rfl ⟨Nat.le_of_ble_eq_true rfl, ⟨Nat.le_of_ble_eq_true rfl, rfl, Nat.le_of_ble_eq_true rfl⟩, fun q => absurd q (by decide), fun _ => ⟨_, rfl⟩⟩
set_option maxRecDepth 20000 in
theorem r266_15 (μ : Bool) (d : Nat) (l0 : Value) (l1 : Value) (l2 : Value) (l3 : Value) (x : Nat) (st : List Value) (h : Hp) (Q : Po) : wp μ d 266 15 [l0, l1, l2, l3] (.ref x :: st) h Q = wp μ d 266 16 [l0, l1, .ref x, l3] st h Q := wp_nx rfl
set_option maxRecDepth 20000 in
theorem r266_15n (μ : Bool) (d : Nat) (l0 : Value) (l1 : Value) (l2 : Value) (l3 : Value) (st : List Value) (h : Hp) (Q : Po) : wp μ d 266 15 [l0, l1, l2, l3] (.null :: st) h Q = wp μ d 266 16 [l0, l1, .null, l3] st h Q := wp_nx rfl
set_option maxRecDepth 20000 in
theorem r266_16 (μ : Bool) (d : Nat) (l0 : Value) (l1 : Value) (l2 : Value) (l3 : Value) (st : List Value) (h : Hp) (Q : Po) : wp μ d 266 16 [l0, l1, l2, l3] st h Q = wp μ d 266 17 [l0, l1, l2, l3] (.int (nI 0) :: st) h Q := (wp_nx rfl).trans (congrArg (fun z => wp μ d 266 17 [l0, l1, l2, l3] (.int z :: st) h Q) (show Int32.ofInt (0) = (nI 0) by decide))
set_option maxRecDepth 20000 in
theorem r266_17 (μ : Bool) (d : Nat) (l0 : Value) (l1 : Value) (l2 : Value) (l3 : Value) (x : Int32) (st : List Value) (h : Hp) (Q : Po) : wp μ d 266 17 [l0, l1, l2, l3] (.int x :: st) h Q = wp μ d 266 18 [l0, l1, l2, .int x] st h Q := wp_nx rfl
set_option maxRecDepth 20000 in
theorem r266_18 (μ : Bool) (d : Nat) (l0 : Value) (l1 : Value) (l2 : Value) (x : Int32) (st : List Value) (h : Hp) (Q : Po) : wp μ d 266 18 [l0, l1, l2, .int x] st h Q = wp μ d 266 19 [l0, l1, l2, .int x] (.int x :: st) h Q := wp_nx rfl
set_option maxRecDepth 20000 in
theorem r266_19 (μ : Bool) (d : Nat) (l1 : Value) (l2 : Value) (l3 : Value) (x : Nat) (st : List Value) (h : Hp) (Q : Po) : wp μ d 266 19 [.ref x, l1, l2, l3] st h Q = wp μ d 266 20 [.ref x, l1, l2, l3] (.ref x :: st) h Q := wp_nx rfl
set_option maxRecDepth 20000 in
theorem r266_19t (μ : Bool) (d : Nat) (l1 : Value) (l2 : Value) (l3 : Value) (x : Nat) (st : List Value) (h : Hp) (Q : Po) : wp μ d 266 19 [.retAddr x, l1, l2, l3] st h Q = wp μ d 266 20 [.retAddr x, l1, l2, l3] (.retAddr x :: st) h Q := wp_nx rfl
set_option maxRecDepth 20000 in
theorem r266_20 (μ : Bool) (d : Nat) (l0 : Value) (l1 : Value) (l2 : Value) (l3 : Value) (y0 : Nat) (st : List Value) (h : Hp) (Q : Po) : wp μ d 266 20 [l0, l1, l2, l3] (.ref y0 :: st) h Q = ((20 ≤ (kdm μ h y0).1 ∧ (kdm μ h y0).1 ≤ 26) ∧ wp μ d 266 21 [l0, l1, l2, l3] (.int (nI (kdm μ h y0).2) :: st) h Q) := wp_ck _ rfl
set_option maxRecDepth 20000 in
theorem r266_20t (μ : Bool) (d : Nat) (l0 : Value) (l1 : Value) (l2 : Value) (l3 : Value) (st : List Value) (h : Hp) (Q : Po) : wp μ d 266 20 [l0, l1, l2, l3] (.retAddr 1 :: st) h Q = wp μ d 266 21 [l0, l1, l2, l3] (.int (nI (hk h 0).2) :: st) h Q := wp_nx rfl
set_option maxRecDepth 20000 in
theorem r266_21 (μ : Bool) (d : Nat) (l0 : Value) (l1 : Value) (l2 : Value) (l3 : Value) (st : List Value) (h : Hp) (Q : Po) : wp μ d 266 21 [l0, l1, l2, l3] st h Q = wp μ d 266 23 [l0, l1, l2, l3] (.int (nI 6) :: st) h Q := (wp_nx rfl).trans (congrArg (fun z => wp μ d 266 23 [l0, l1, l2, l3] (.int z :: st) h Q) (show (Int8.ofInt (6)).toInt32 = (nI 6) by decide))
set_option maxRecDepth 20000 in
theorem r266_23 (μ : Bool) (d : Nat) (l0 : Value) (l1 : Value) (l2 : Value) (l3 : Value) (y0 y1 : Int32) (st : List Value) (h : Hp) (Q : Po) : wp μ d 266 23 [l0, l1, l2, l3] (.int y0 :: .int y1 :: st) h Q = wp μ d 266 24 [l0, l1, l2, l3] (.int (y1 - y0) :: st) h Q := wp_nx rfl
set_option maxRecDepth 20000 in
theorem r266_24 (μ : Bool) (d : Nat) (l0 : Value) (l1 : Value) (l2 : Value) (l3 : Value) (y0 y1 : Int32) (st : List Value) (h : Hp) (Q : Po) : wp μ d 266 24 [l0, l1, l2, l3] (.int y0 :: .int y1 :: st) h Q = if y0 < y1 then wp μ d 266 1551 [l0, l1, l2, l3] st h Q else wp μ d 266 27 [l0, l1, l2, l3] st h Q := wp_br (y0 < y1) rfl
set_option maxRecDepth 20000 in
theorem r266_27 (μ : Bool) (d : Nat) (l1 : Value) (l2 : Value) (l3 : Value) (x : Nat) (st : List Value) (h : Hp) (Q : Po) : wp μ d 266 27 [.ref x, l1, l2, l3] st h Q = wp μ d 266 28 [.ref x, l1, l2, l3] (.ref x :: st) h Q := wp_nx rfl
set_option maxRecDepth 20000 in
theorem r266_27t (μ : Bool) (d : Nat) (l1 : Value) (l2 : Value) (l3 : Value) (x : Nat) (st : List Value) (h : Hp) (Q : Po) : wp μ d 266 27 [.retAddr x, l1, l2, l3] st h Q = wp μ d 266 28 [.retAddr x, l1, l2, l3] (.retAddr x :: st) h Q := wp_nx rfl
set_option maxRecDepth 20000 in
theorem r266_28 (μ : Bool) (d : Nat) (l0 : Value) (l1 : Value) (l2 : Value) (x : Int32) (st : List Value) (h : Hp) (Q : Po) : wp μ d 266 28 [l0, l1, l2, .int x] st h Q = wp μ d 266 29 [l0, l1, l2, .int x] (.int x :: st) h Q := wp_nx rfl
set_option maxRecDepth 20000 in
theorem r266_29 (μ : Bool) (d : Nat) (l0 : Value) (l1 : Value) (l2 : Value) (l3 : Value) (y0 : Int32) (y1 : Nat) (st : List Value) (h : Hp) (Q : Po) : wp μ d 266 29 [l0, l1, l2, l3] (.int y0 :: .ref y1 :: st) h Q = (((kdm μ h y1).1 = 20 ∧ vp_in y0 (kdm μ h y1).2) ∧ wp μ d 266 30 [l0, l1, l2, l3] (.int (gI h y1 y0.toNatClampNeg) :: st) h Q) := wp_ck _ rfl
set_option maxRecDepth 20000 in
theorem r266_29t (μ : Bool) (d : Nat) (l0 : Value) (l1 : Value) (l2 : Value) (l3 : Value) (y0 : Int32) (st : List Value) (h : Hp) (Q : Po) : wp μ d 266 29 [l0, l1, l2, l3] (.int y0 :: .retAddr 1 :: st) h Q = (vp_in y0 (hk h 0).2 ∧ wp μ d 266 30 [l0, l1, l2, l3] (.int (gI h 0 y0.toNatClampNeg) :: st) h Q) := wp_ck _ rfl
set_option maxRecDepth 20000 in
theorem r266_30 (μ : Bool) (d : Nat) (l0 : Value) (l1 : Value) (l2 : Value) (l3 : Value) (st : List Value) (h : Hp) (Q : Po) : wp μ d 266 30 [l0, l1, l2, l3] st h Q = wp μ d 266 32 [l0, l1, l2, l3] (.int (nI 63) :: st) h Q := (wp_nx rfl).trans (congrArg (fun z => wp μ d 266 32 [l0, l1, l2, l3] (.int z :: st) h Q) (show (Int8.ofInt (63)).toInt32 = (nI 63) by decide))
set_option maxRecDepth 20000 in
theorem r266_32 (μ : Bool) (d : Nat) (l0 : Value) (l1 : Value) (l2 : Value) (l3 : Value) (y0 y1 : Int32) (st : List Value) (h : Hp) (Q : Po) : wp μ d 266 32 [l0, l1, l2, l3] (.int y0 :: .int y1 :: st) h Q = wp μ d 266 33 [l0, l1, l2, l3] (.int (y1 &&& y0) :: st) h Q := wp_nx rfl
set_option maxRecDepth 20000 in
theorem r266_33c0 (μ : Bool) (d : Nat) (l0 : Value) (l1 : Value) (l2 : Value) (l3 : Value) (st : List Value) (h : Hp) (Q : Po) : wp μ d 266 33 [l0, l1, l2, l3] (.int (nI 0) :: st) h Q = wp μ d 266 200 [l0, l1, l2, l3] st h Q := wp_tI (by decide) rfl rfl
set_option maxRecDepth 20000 in
theorem r266_33c1 (μ : Bool) (d : Nat) (l0 : Value) (l1 : Value) (l2 : Value) (l3 : Value) (st : List Value) (h : Hp) (Q : Po) : wp μ d 266 33 [l0, l1, l2, l3] (.int (nI 1) :: st) h Q = wp μ d 266 243 [l0, l1, l2, l3] st h Q := wp_tI (by decide) rfl rfl
set_option maxRecDepth 20000 in
theorem r266_33c2 (μ : Bool) (d : Nat) (l0 : Value) (l1 : Value) (l2 : Value) (l3 : Value) (st : List Value) (h : Hp) (Q : Po) : wp μ d 266 33 [l0, l1, l2, l3] (.int (nI 2) :: st) h Q = wp μ d 266 286 [l0, l1, l2, l3] st h Q := wp_tI (by decide) rfl rfl
set_option maxRecDepth 20000 in
theorem r266_33c3 (μ : Bool) (d : Nat) (l0 : Value) (l1 : Value) (l2 : Value) (l3 : Value) (st : List Value) (h : Hp) (Q : Po) : wp μ d 266 33 [l0, l1, l2, l3] (.int (nI 3) :: st) h Q = wp μ d 266 319 [l0, l1, l2, l3] st h Q := wp_tI (by decide) rfl rfl
set_option maxRecDepth 20000 in
theorem r266_33c4 (μ : Bool) (d : Nat) (l0 : Value) (l1 : Value) (l2 : Value) (l3 : Value) (st : List Value) (h : Hp) (Q : Po) : wp μ d 266 33 [l0, l1, l2, l3] (.int (nI 4) :: st) h Q = wp μ d 266 352 [l0, l1, l2, l3] st h Q := wp_tI (by decide) rfl rfl
set_option maxRecDepth 20000 in
theorem r266_33c5 (μ : Bool) (d : Nat) (l0 : Value) (l1 : Value) (l2 : Value) (l3 : Value) (st : List Value) (h : Hp) (Q : Po) : wp μ d 266 33 [l0, l1, l2, l3] (.int (nI 5) :: st) h Q = wp μ d 266 415 [l0, l1, l2, l3] st h Q := wp_tI (by decide) rfl rfl
set_option maxRecDepth 20000 in
theorem r266_33c6 (μ : Bool) (d : Nat) (l0 : Value) (l1 : Value) (l2 : Value) (l3 : Value) (st : List Value) (h : Hp) (Q : Po) : wp μ d 266 33 [l0, l1, l2, l3] (.int (nI 6) :: st) h Q = wp μ d 266 438 [l0, l1, l2, l3] st h Q := wp_tI (by decide) rfl rfl
set_option maxRecDepth 20000 in
theorem r266_33c7 (μ : Bool) (d : Nat) (l0 : Value) (l1 : Value) (l2 : Value) (l3 : Value) (st : List Value) (h : Hp) (Q : Po) : wp μ d 266 33 [l0, l1, l2, l3] (.int (nI 7) :: st) h Q = wp μ d 266 471 [l0, l1, l2, l3] st h Q := wp_tI (by decide) rfl rfl
set_option maxRecDepth 20000 in
theorem r266_33c8 (μ : Bool) (d : Nat) (l0 : Value) (l1 : Value) (l2 : Value) (l3 : Value) (st : List Value) (h : Hp) (Q : Po) : wp μ d 266 33 [l0, l1, l2, l3] (.int (nI 8) :: st) h Q = wp μ d 266 484 [l0, l1, l2, l3] st h Q := wp_tI (by decide) rfl rfl
set_option maxRecDepth 20000 in
theorem r266_33c9 (μ : Bool) (d : Nat) (l0 : Value) (l1 : Value) (l2 : Value) (l3 : Value) (st : List Value) (h : Hp) (Q : Po) : wp μ d 266 33 [l0, l1, l2, l3] (.int (nI 9) :: st) h Q = wp μ d 266 497 [l0, l1, l2, l3] st h Q := wp_tI (by decide) rfl rfl
set_option maxRecDepth 20000 in
theorem r266_33c10 (μ : Bool) (d : Nat) (l0 : Value) (l1 : Value) (l2 : Value) (l3 : Value) (st : List Value) (h : Hp) (Q : Po) : wp μ d 266 33 [l0, l1, l2, l3] (.int (nI 10) :: st) h Q = wp μ d 266 550 [l0, l1, l2, l3] st h Q := wp_tI (by decide) rfl rfl
set_option maxRecDepth 20000 in
theorem r266_33c11 (μ : Bool) (d : Nat) (l0 : Value) (l1 : Value) (l2 : Value) (l3 : Value) (st : List Value) (h : Hp) (Q : Po) : wp μ d 266 33 [l0, l1, l2, l3] (.int (nI 11) :: st) h Q = wp μ d 266 593 [l0, l1, l2, l3] st h Q := wp_tI (by decide) rfl rfl
set_option maxRecDepth 20000 in
theorem r266_33c12 (μ : Bool) (d : Nat) (l0 : Value) (l1 : Value) (l2 : Value) (l3 : Value) (st : List Value) (h : Hp) (Q : Po) : wp μ d 266 33 [l0, l1, l2, l3] (.int (nI 12) :: st) h Q = wp μ d 266 616 [l0, l1, l2, l3] st h Q := wp_tI (by decide) rfl rfl
set_option maxRecDepth 20000 in
theorem r266_33c13 (μ : Bool) (d : Nat) (l0 : Value) (l1 : Value) (l2 : Value) (l3 : Value) (st : List Value) (h : Hp) (Q : Po) : wp μ d 266 33 [l0, l1, l2, l3] (.int (nI 13) :: st) h Q = wp μ d 266 680 [l0, l1, l2, l3] st h Q := wp_tI (by decide) rfl rfl
set_option maxRecDepth 20000 in
theorem r266_33c14 (μ : Bool) (d : Nat) (l0 : Value) (l1 : Value) (l2 : Value) (l3 : Value) (st : List Value) (h : Hp) (Q : Po) : wp μ d 266 33 [l0, l1, l2, l3] (.int (nI 14) :: st) h Q = wp μ d 266 713 [l0, l1, l2, l3] st h Q := wp_tI (by decide) rfl rfl
set_option maxRecDepth 20000 in
theorem r266_33c15 (μ : Bool) (d : Nat) (l0 : Value) (l1 : Value) (l2 : Value) (l3 : Value) (st : List Value) (h : Hp) (Q : Po) : wp μ d 266 33 [l0, l1, l2, l3] (.int (nI 15) :: st) h Q = wp μ d 266 746 [l0, l1, l2, l3] st h Q := wp_tI (by decide) rfl rfl
set_option maxRecDepth 20000 in
theorem r266_33c16 (μ : Bool) (d : Nat) (l0 : Value) (l1 : Value) (l2 : Value) (l3 : Value) (st : List Value) (h : Hp) (Q : Po) : wp μ d 266 33 [l0, l1, l2, l3] (.int (nI 16) :: st) h Q = wp μ d 266 779 [l0, l1, l2, l3] st h Q := wp_tI (by decide) rfl rfl
set_option maxRecDepth 20000 in
theorem r266_33c17 (μ : Bool) (d : Nat) (l0 : Value) (l1 : Value) (l2 : Value) (l3 : Value) (st : List Value) (h : Hp) (Q : Po) : wp μ d 266 33 [l0, l1, l2, l3] (.int (nI 17) :: st) h Q = wp μ d 266 802 [l0, l1, l2, l3] st h Q := wp_tI (by decide) rfl rfl
set_option maxRecDepth 20000 in
theorem r266_33c18 (μ : Bool) (d : Nat) (l0 : Value) (l1 : Value) (l2 : Value) (l3 : Value) (st : List Value) (h : Hp) (Q : Po) : wp μ d 266 33 [l0, l1, l2, l3] (.int (nI 18) :: st) h Q = wp μ d 266 825 [l0, l1, l2, l3] st h Q := wp_tI (by decide) rfl rfl
set_option maxRecDepth 20000 in
theorem r266_33c19 (μ : Bool) (d : Nat) (l0 : Value) (l1 : Value) (l2 : Value) (l3 : Value) (st : List Value) (h : Hp) (Q : Po) : wp μ d 266 33 [l0, l1, l2, l3] (.int (nI 19) :: st) h Q = wp μ d 266 848 [l0, l1, l2, l3] st h Q := wp_tI (by decide) rfl rfl
set_option maxRecDepth 20000 in
theorem r266_33c20 (μ : Bool) (d : Nat) (l0 : Value) (l1 : Value) (l2 : Value) (l3 : Value) (st : List Value) (h : Hp) (Q : Po) : wp μ d 266 33 [l0, l1, l2, l3] (.int (nI 20) :: st) h Q = wp μ d 266 871 [l0, l1, l2, l3] st h Q := wp_tI (by decide) rfl rfl
set_option maxRecDepth 20000 in
theorem r266_33c21 (μ : Bool) (d : Nat) (l0 : Value) (l1 : Value) (l2 : Value) (l3 : Value) (st : List Value) (h : Hp) (Q : Po) : wp μ d 266 33 [l0, l1, l2, l3] (.int (nI 21) :: st) h Q = wp μ d 266 894 [l0, l1, l2, l3] st h Q := wp_tI (by decide) rfl rfl
set_option maxRecDepth 20000 in
theorem r266_33c22 (μ : Bool) (d : Nat) (l0 : Value) (l1 : Value) (l2 : Value) (l3 : Value) (st : List Value) (h : Hp) (Q : Po) : wp μ d 266 33 [l0, l1, l2, l3] (.int (nI 22) :: st) h Q = wp μ d 266 937 [l0, l1, l2, l3] st h Q := wp_tI (by decide) rfl rfl
set_option maxRecDepth 20000 in
theorem r266_33c23 (μ : Bool) (d : Nat) (l0 : Value) (l1 : Value) (l2 : Value) (l3 : Value) (st : List Value) (h : Hp) (Q : Po) : wp μ d 266 33 [l0, l1, l2, l3] (.int (nI 23) :: st) h Q = wp μ d 266 980 [l0, l1, l2, l3] st h Q := wp_tI (by decide) rfl rfl
set_option maxRecDepth 20000 in
theorem r266_33c24 (μ : Bool) (d : Nat) (l0 : Value) (l1 : Value) (l2 : Value) (l3 : Value) (st : List Value) (h : Hp) (Q : Po) : wp μ d 266 33 [l0, l1, l2, l3] (.int (nI 24) :: st) h Q = wp μ d 266 1003 [l0, l1, l2, l3] st h Q := wp_tI (by decide) rfl rfl
set_option maxRecDepth 20000 in
theorem r266_33c25 (μ : Bool) (d : Nat) (l0 : Value) (l1 : Value) (l2 : Value) (l3 : Value) (st : List Value) (h : Hp) (Q : Po) : wp μ d 266 33 [l0, l1, l2, l3] (.int (nI 25) :: st) h Q = wp μ d 266 1066 [l0, l1, l2, l3] st h Q := wp_tI (by decide) rfl rfl
set_option maxRecDepth 20000 in
theorem r266_33c26 (μ : Bool) (d : Nat) (l0 : Value) (l1 : Value) (l2 : Value) (l3 : Value) (st : List Value) (h : Hp) (Q : Po) : wp μ d 266 33 [l0, l1, l2, l3] (.int (nI 26) :: st) h Q = wp μ d 266 1129 [l0, l1, l2, l3] st h Q := wp_tI (by decide) rfl rfl
set_option maxRecDepth 20000 in
theorem r266_33c27 (μ : Bool) (d : Nat) (l0 : Value) (l1 : Value) (l2 : Value) (l3 : Value) (st : List Value) (h : Hp) (Q : Po) : wp μ d 266 33 [l0, l1, l2, l3] (.int (nI 27) :: st) h Q = wp μ d 266 1162 [l0, l1, l2, l3] st h Q := wp_tI (by decide) rfl rfl
set_option maxRecDepth 20000 in
theorem r266_33c28 (μ : Bool) (d : Nat) (l0 : Value) (l1 : Value) (l2 : Value) (l3 : Value) (st : List Value) (h : Hp) (Q : Po) : wp μ d 266 33 [l0, l1, l2, l3] (.int (nI 28) :: st) h Q = wp μ d 266 1205 [l0, l1, l2, l3] st h Q := wp_tI (by decide) rfl rfl
set_option maxRecDepth 20000 in
theorem r266_33c29 (μ : Bool) (d : Nat) (l0 : Value) (l1 : Value) (l2 : Value) (l3 : Value) (st : List Value) (h : Hp) (Q : Po) : wp μ d 266 33 [l0, l1, l2, l3] (.int (nI 29) :: st) h Q = wp μ d 266 1258 [l0, l1, l2, l3] st h Q := wp_tI (by decide) rfl rfl
set_option maxRecDepth 20000 in
theorem r266_33c30 (μ : Bool) (d : Nat) (l0 : Value) (l1 : Value) (l2 : Value) (l3 : Value) (st : List Value) (h : Hp) (Q : Po) : wp μ d 266 33 [l0, l1, l2, l3] (.int (nI 30) :: st) h Q = wp μ d 266 1291 [l0, l1, l2, l3] st h Q := wp_tI (by decide) rfl rfl
set_option maxRecDepth 20000 in
theorem r266_33c31 (μ : Bool) (d : Nat) (l0 : Value) (l1 : Value) (l2 : Value) (l3 : Value) (st : List Value) (h : Hp) (Q : Po) : wp μ d 266 33 [l0, l1, l2, l3] (.int (nI 31) :: st) h Q = wp μ d 266 1334 [l0, l1, l2, l3] st h Q := wp_tI (by decide) rfl rfl
set_option maxRecDepth 20000 in
theorem r266_33c32 (μ : Bool) (d : Nat) (l0 : Value) (l1 : Value) (l2 : Value) (l3 : Value) (st : List Value) (h : Hp) (Q : Po) : wp μ d 266 33 [l0, l1, l2, l3] (.int (nI 32) :: st) h Q = wp μ d 266 1377 [l0, l1, l2, l3] st h Q := wp_tI (by decide) rfl rfl
set_option maxRecDepth 20000 in
theorem r266_33c33 (μ : Bool) (d : Nat) (l0 : Value) (l1 : Value) (l2 : Value) (l3 : Value) (st : List Value) (h : Hp) (Q : Po) : wp μ d 266 33 [l0, l1, l2, l3] (.int (nI 33) :: st) h Q = wp μ d 266 1410 [l0, l1, l2, l3] st h Q := wp_tI (by decide) rfl rfl
set_option maxRecDepth 20000 in
theorem r266_33c34 (μ : Bool) (d : Nat) (l0 : Value) (l1 : Value) (l2 : Value) (l3 : Value) (st : List Value) (h : Hp) (Q : Po) : wp μ d 266 33 [l0, l1, l2, l3] (.int (nI 34) :: st) h Q = wp μ d 266 1463 [l0, l1, l2, l3] st h Q := wp_tI (by decide) rfl rfl
set_option maxRecDepth 20000 in
theorem r266_33c35 (μ : Bool) (d : Nat) (l0 : Value) (l1 : Value) (l2 : Value) (l3 : Value) (st : List Value) (h : Hp) (Q : Po) : wp μ d 266 33 [l0, l1, l2, l3] (.int (nI 35) :: st) h Q = wp μ d 266 1486 [l0, l1, l2, l3] st h Q := wp_tI (by decide) rfl rfl
set_option maxRecDepth 20000 in
theorem r266_33c36 (μ : Bool) (d : Nat) (l0 : Value) (l1 : Value) (l2 : Value) (l3 : Value) (st : List Value) (h : Hp) (Q : Po) : wp μ d 266 33 [l0, l1, l2, l3] (.int (nI 36) :: st) h Q = wp μ d 266 1509 [l0, l1, l2, l3] st h Q := wp_tI (by decide) rfl rfl
set_option maxRecDepth 20000 in
theorem r266_33c37 (μ : Bool) (d : Nat) (l0 : Value) (l1 : Value) (l2 : Value) (l3 : Value) (st : List Value) (h : Hp) (Q : Po) : wp μ d 266 33 [l0, l1, l2, l3] (.int (nI 37) :: st) h Q = wp μ d 266 1532 [l0, l1, l2, l3] st h Q := wp_tI (by decide) rfl rfl
set_option maxRecDepth 20000 in
theorem r266_33 (μ : Bool) (d : Nat) (l0 : Value) (l1 : Value) (l2 : Value) (l3 : Value) (y0 : Int32) (st : List Value) (h : Hp) (Q : Po) (hy : y0.toInt < 0 ∨ 37 < y0.toInt) : wp μ d 266 33 [l0, l1, l2, l3] (.int y0 :: st) h Q = wp μ d 266 1545 [l0, l1, l2, l3] st h Q := wp_tO hy rfl rfl
set_option maxRecDepth 20000 in
theorem r266_200 (μ : Bool) (d : Nat) (l0 : Value) (l2 : Value) (l3 : Value) (x : Nat) (st : List Value) (h : Hp) (Q : Po) : wp μ d 266 200 [l0, .ref x, l2, l3] st h Q = wp μ d 266 201 [l0, .ref x, l2, l3] (.ref x :: st) h Q := wp_nx rfl
set_option maxRecDepth 20000 in
theorem r266_200n (μ : Bool) (d : Nat) (l0 : Value) (l2 : Value) (l3 : Value) (st : List Value) (h : Hp) (Q : Po) : wp μ d 266 200 [l0, .null, l2, l3] st h Q = wp μ d 266 201 [l0, .null, l2, l3] (.null :: st) h Q := wp_nx rfl
set_option maxRecDepth 20000 in
theorem r266_200t (μ : Bool) (d : Nat) (l0 : Value) (l2 : Value) (l3 : Value) (x : Nat) (st : List Value) (h : Hp) (Q : Po) : wp μ d 266 200 [l0, .retAddr x, l2, l3] st h Q = wp μ d 266 201 [l0, .retAddr x, l2, l3] (.retAddr x :: st) h Q := wp_nx rfl
set_option maxRecDepth 20000 in
theorem r266_201 (μ : Bool) (d : Nat) (l1 : Value) (l2 : Value) (l3 : Value) (x : Nat) (st : List Value) (h : Hp) (Q : Po) : wp μ d 266 201 [.ref x, l1, l2, l3] st h Q = wp μ d 266 202 [.ref x, l1, l2, l3] (.ref x :: st) h Q := wp_nx rfl
set_option maxRecDepth 20000 in
theorem r266_201t (μ : Bool) (d : Nat) (l1 : Value) (l2 : Value) (l3 : Value) (x : Nat) (st : List Value) (h : Hp) (Q : Po) : wp μ d 266 201 [.retAddr x, l1, l2, l3] st h Q = wp μ d 266 202 [.retAddr x, l1, l2, l3] (.retAddr x :: st) h Q := wp_nx rfl
set_option maxRecDepth 20000 in
theorem r266_202 (μ : Bool) (d : Nat) (l0 : Value) (l1 : Value) (l2 : Value) (x : Int32) (st : List Value) (h : Hp) (Q : Po) : wp μ d 266 202 [l0, l1, l2, .int x] st h Q = wp μ d 266 203 [l0, l1, l2, .int x] (.int x :: st) h Q := wp_nx rfl
set_option maxRecDepth 20000 in
theorem r266_203 (μ : Bool) (d : Nat) (l0 : Value) (l1 : Value) (l2 : Value) (l3 : Value) (st : List Value) (h : Hp) (Q : Po) : wp μ d 266 203 [l0, l1, l2, l3] st h Q = wp μ d 266 204 [l0, l1, l2, l3] (.int (nI 1) :: st) h Q := (wp_nx rfl).trans (congrArg (fun z => wp μ d 266 204 [l0, l1, l2, l3] (.int z :: st) h Q) (show Int32.ofInt (1) = (nI 1) by decide))
set_option maxRecDepth 20000 in
theorem r266_204 (μ : Bool) (d : Nat) (l0 : Value) (l1 : Value) (l2 : Value) (l3 : Value) (y0 y1 : Int32) (st : List Value) (h : Hp) (Q : Po) : wp μ d 266 204 [l0, l1, l2, l3] (.int y0 :: .int y1 :: st) h Q = wp μ d 266 205 [l0, l1, l2, l3] (.int (y1 + y0) :: st) h Q := wp_nx rfl
set_option maxRecDepth 20000 in
theorem r266_205 (μ : Bool) (d : Nat) (l0 : Value) (l1 : Value) (l2 : Value) (l3 : Value) (y0 : Int32) (y1 : Nat) (st : List Value) (h : Hp) (Q : Po) : wp μ d 266 205 [l0, l1, l2, l3] (.int y0 :: .ref y1 :: st) h Q = (((kdm μ h y1).1 = 20 ∧ vp_in y0 (kdm μ h y1).2) ∧ wp μ d 266 206 [l0, l1, l2, l3] (.int (gI h y1 y0.toNatClampNeg) :: st) h Q) := wp_ck _ rfl
set_option maxRecDepth 20000 in
theorem r266_205t (μ : Bool) (d : Nat) (l0 : Value) (l1 : Value) (l2 : Value) (l3 : Value) (y0 : Int32) (st : List Value) (h : Hp) (Q : Po) : wp μ d 266 205 [l0, l1, l2, l3] (.int y0 :: .retAddr 1 :: st) h Q = (vp_in y0 (hk h 0).2 ∧ wp μ d 266 206 [l0, l1, l2, l3] (.int (gI h 0 y0.toNatClampNeg) :: st) h Q) := wp_ck _ rfl
set_option maxRecDepth 20000 in
theorem r266_206 (μ : Bool) (d : Nat) (l1 : Value) (l2 : Value) (l3 : Value) (x : Nat) (st : List Value) (h : Hp) (Q : Po) : wp μ d 266 206 [.ref x, l1, l2, l3] st h Q = wp μ d 266 207 [.ref x, l1, l2, l3] (.ref x :: st) h Q := wp_nx rfl
set_option maxRecDepth 20000 in
theorem r266_206t (μ : Bool) (d : Nat) (l1 : Value) (l2 : Value) (l3 : Value) (x : Nat) (st : List Value) (h : Hp) (Q : Po) : wp μ d 266 206 [.retAddr x, l1, l2, l3] st h Q = wp μ d 266 207 [.retAddr x, l1, l2, l3] (.retAddr x :: st) h Q := wp_nx rfl
set_option maxRecDepth 20000 in
theorem r266_207 (μ : Bool) (d : Nat) (l0 : Value) (l1 : Value) (l2 : Value) (x : Int32) (st : List Value) (h : Hp) (Q : Po) : wp μ d 266 207 [l0, l1, l2, .int x] st h Q = wp μ d 266 208 [l0, l1, l2, .int x] (.int x :: st) h Q := wp_nx rfl
set_option maxRecDepth 20000 in
theorem r266_208 (μ : Bool) (d : Nat) (l0 : Value) (l1 : Value) (l2 : Value) (l3 : Value) (st : List Value) (h : Hp) (Q : Po) : wp μ d 266 208 [l0, l1, l2, l3] st h Q = wp μ d 266 209 [l0, l1, l2, l3] (.int (nI 2) :: st) h Q := (wp_nx rfl).trans (congrArg (fun z => wp μ d 266 209 [l0, l1, l2, l3] (.int z :: st) h Q) (show Int32.ofInt (2) = (nI 2) by decide))
set_option maxRecDepth 20000 in
theorem r266_209 (μ : Bool) (d : Nat) (l0 : Value) (l1 : Value) (l2 : Value) (l3 : Value) (y0 y1 : Int32) (st : List Value) (h : Hp) (Q : Po) : wp μ d 266 209 [l0, l1, l2, l3] (.int y0 :: .int y1 :: st) h Q = wp μ d 266 210 [l0, l1, l2, l3] (.int (y1 + y0) :: st) h Q := wp_nx rfl
set_option maxRecDepth 20000 in
theorem r266_210 (μ : Bool) (d : Nat) (l0 : Value) (l1 : Value) (l2 : Value) (l3 : Value) (y0 : Int32) (y1 : Nat) (st : List Value) (h : Hp) (Q : Po) : wp μ d 266 210 [l0, l1, l2, l3] (.int y0 :: .ref y1 :: st) h Q = (((kdm μ h y1).1 = 20 ∧ vp_in y0 (kdm μ h y1).2) ∧ wp μ d 266 211 [l0, l1, l2, l3] (.int (gI h y1 y0.toNatClampNeg) :: st) h Q) := wp_ck _ rfl
set_option maxRecDepth 20000 in
theorem r266_210t (μ : Bool) (d : Nat) (l0 : Value) (l1 : Value) (l2 : Value) (l3 : Value) (y0 : Int32) (st : List Value) (h : Hp) (Q : Po) : wp μ d 266 210 [l0, l1, l2, l3] (.int y0 :: .retAddr 1 :: st) h Q = (vp_in y0 (hk h 0).2 ∧ wp μ d 266 211 [l0, l1, l2, l3] (.int (gI h 0 y0.toNatClampNeg) :: st) h Q) := wp_ck _ rfl
set_option maxRecDepth 20000 in
theorem r266_211 (μ : Bool) (d : Nat) (l1 : Value) (l2 : Value) (l3 : Value) (x : Nat) (st : List Value) (h : Hp) (Q : Po) : wp μ d 266 211 [.ref x, l1, l2, l3] st h Q = wp μ d 266 212 [.ref x, l1, l2, l3] (.ref x :: st) h Q := wp_nx rfl
set_option maxRecDepth 20000 in
theorem r266_211t (μ : Bool) (d : Nat) (l1 : Value) (l2 : Value) (l3 : Value) (x : Nat) (st : List Value) (h : Hp) (Q : Po) : wp μ d 266 211 [.retAddr x, l1, l2, l3] st h Q = wp μ d 266 212 [.retAddr x, l1, l2, l3] (.retAddr x :: st) h Q := wp_nx rfl
set_option maxRecDepth 20000 in
theorem r266_212 (μ : Bool) (d : Nat) (l0 : Value) (l1 : Value) (l2 : Value) (x : Int32) (st : List Value) (h : Hp) (Q : Po) : wp μ d 266 212 [l0, l1, l2, .int x] st h Q = wp μ d 266 213 [l0, l1, l2, .int x] (.int x :: st) h Q := wp_nx rfl
set_option maxRecDepth 20000 in
theorem r266_213 (μ : Bool) (d : Nat) (l0 : Value) (l1 : Value) (l2 : Value) (l3 : Value) (st : List Value) (h : Hp) (Q : Po) : wp μ d 266 213 [l0, l1, l2, l3] st h Q = wp μ d 266 214 [l0, l1, l2, l3] (.int (nI 3) :: st) h Q := (wp_nx rfl).trans (congrArg (fun z => wp μ d 266 214 [l0, l1, l2, l3] (.int z :: st) h Q) (show Int32.ofInt (3) = (nI 3) by decide))
set_option maxRecDepth 20000 in
theorem r266_214 (μ : Bool) (d : Nat) (l0 : Value) (l1 : Value) (l2 : Value) (l3 : Value) (y0 y1 : Int32) (st : List Value) (h : Hp) (Q : Po) : wp μ d 266 214 [l0, l1, l2, l3] (.int y0 :: .int y1 :: st) h Q = wp μ d 266 215 [l0, l1, l2, l3] (.int (y1 + y0) :: st) h Q := wp_nx rfl
set_option maxRecDepth 20000 in
theorem r266_215 (μ : Bool) (d : Nat) (l0 : Value) (l1 : Value) (l2 : Value) (l3 : Value) (y0 : Int32) (y1 : Nat) (st : List Value) (h : Hp) (Q : Po) : wp μ d 266 215 [l0, l1, l2, l3] (.int y0 :: .ref y1 :: st) h Q = (((kdm μ h y1).1 = 20 ∧ vp_in y0 (kdm μ h y1).2) ∧ wp μ d 266 216 [l0, l1, l2, l3] (.int (gI h y1 y0.toNatClampNeg) :: st) h Q) := wp_ck _ rfl
set_option maxRecDepth 20000 in
theorem r266_215t (μ : Bool) (d : Nat) (l0 : Value) (l1 : Value) (l2 : Value) (l3 : Value) (y0 : Int32) (st : List Value) (h : Hp) (Q : Po) : wp μ d 266 215 [l0, l1, l2, l3] (.int y0 :: .retAddr 1 :: st) h Q = (vp_in y0 (hk h 0).2 ∧ wp μ d 266 216 [l0, l1, l2, l3] (.int (gI h 0 y0.toNatClampNeg) :: st) h Q) := wp_ck _ rfl
set_option maxRecDepth 20000 in
theorem r266_216 (μ : Bool) (d : Nat) (l0 : Value) (l1 : Value) (l2 : Value) (l3 : Value) (y0 : Int32) (y1 : Int32) (y2 : Int32) (y3 : Nat) (h : Hp) (Q : Po) : wp μ (d + 1) 266 216 [l0, l1, l2, l3] [.int y0, .int y1, .int y2, .ref y3] h Q = ((kdm μ h y3).1 = 11 ∧ cwp μ d 87 [.ref y3, .int y2, .int y1, .int y0] h (fun r h' => wp μ (d + 1) 266 219 [l0, l1, l2, l3] (r.toList ++ []) h' Q)) := wp_kc _ True rfl ⟨fun q => by obtain ⟨x, q1, q2⟩ := q.2.2.1 rfl; cases q1; exact q2, fun q => ⟨Nat.le_of_ble_eq_true rfl, ⟨Nat.le_of_ble_eq_true rfl, rfl, Nat.le_of_ble_eq_true rfl⟩, fun _ => ⟨_, rfl, q⟩, fun q9 => absurd q9 (by decide)⟩⟩
set_option maxRecDepth 20000 in
theorem r266_219 (μ : Bool) (d : Nat) (l0 : Value) (l1 : Value) (l3 : Value) (x : Nat) (st : List Value) (h : Hp) (Q : Po) : wp μ d 266 219 [l0, l1, .ref x, l3] st h Q = wp μ d 266 220 [l0, l1, .ref x, l3] (.ref x :: st) h Q := wp_nx rfl
set_option maxRecDepth 20000 in
theorem r266_219n (μ : Bool) (d : Nat) (l0 : Value) (l1 : Value) (l3 : Value) (st : List Value) (h : Hp) (Q : Po) : wp μ d 266 219 [l0, l1, .null, l3] st h Q = wp μ d 266 220 [l0, l1, .null, l3] (.null :: st) h Q := wp_nx rfl
set_option maxRecDepth 20000 in
theorem r266_219t (μ : Bool) (d : Nat) (l0 : Value) (l1 : Value) (l3 : Value) (x : Nat) (st : List Value) (h : Hp) (Q : Po) : wp μ d 266 219 [l0, l1, .retAddr x, l3] st h Q = wp μ d 266 220 [l0, l1, .retAddr x, l3] (.retAddr x :: st) h Q := wp_nx rfl
set_option maxRecDepth 20000 in
theorem r266_220 (μ : Bool) (d : Nat) (l1 : Value) (l2 : Value) (l3 : Value) (x : Nat) (st : List Value) (h : Hp) (Q : Po) : wp μ d 266 220 [.ref x, l1, l2, l3] st h Q = wp μ d 266 221 [.ref x, l1, l2, l3] (.ref x :: st) h Q := wp_nx rfl
set_option maxRecDepth 20000 in
theorem r266_220t (μ : Bool) (d : Nat) (l1 : Value) (l2 : Value) (l3 : Value) (x : Nat) (st : List Value) (h : Hp) (Q : Po) : wp μ d 266 220 [.retAddr x, l1, l2, l3] st h Q = wp μ d 266 221 [.retAddr x, l1, l2, l3] (.retAddr x :: st) h Q := wp_nx rfl
set_option maxRecDepth 20000 in
theorem r266_221 (μ : Bool) (d : Nat) (l0 : Value) (l1 : Value) (l2 : Value) (x : Int32) (st : List Value) (h : Hp) (Q : Po) : wp μ d 266 221 [l0, l1, l2, .int x] st h Q = wp μ d 266 222 [l0, l1, l2, .int x] (.int x :: st) h Q := wp_nx rfl
set_option maxRecDepth 20000 in
theorem r266_222 (μ : Bool) (d : Nat) (l0 : Value) (l1 : Value) (l2 : Value) (l3 : Value) (st : List Value) (h : Hp) (Q : Po) : wp μ d 266 222 [l0, l1, l2, l3] st h Q = wp μ d 266 223 [l0, l1, l2, l3] (.int (nI 1) :: st) h Q := (wp_nx rfl).trans (congrArg (fun z => wp μ d 266 223 [l0, l1, l2, l3] (.int z :: st) h Q) (show Int32.ofInt (1) = (nI 1) by decide))
set_option maxRecDepth 20000 in
theorem r266_223 (μ : Bool) (d : Nat) (l0 : Value) (l1 : Value) (l2 : Value) (l3 : Value) (y0 y1 : Int32) (st : List Value) (h : Hp) (Q : Po) : wp μ d 266 223 [l0, l1, l2, l3] (.int y0 :: .int y1 :: st) h Q = wp μ d 266 224 [l0, l1, l2, l3] (.int (y1 + y0) :: st) h Q := wp_nx rfl
set_option maxRecDepth 20000 in
theorem r266_224 (μ : Bool) (d : Nat) (l0 : Value) (l1 : Value) (l2 : Value) (l3 : Value) (y0 : Int32) (y1 : Nat) (st : List Value) (h : Hp) (Q : Po) : wp μ d 266 224 [l0, l1, l2, l3] (.int y0 :: .ref y1 :: st) h Q = (((kdm μ h y1).1 = 20 ∧ vp_in y0 (kdm μ h y1).2) ∧ wp μ d 266 225 [l0, l1, l2, l3] (.int (gI h y1 y0.toNatClampNeg) :: st) h Q) := wp_ck _ rfl
set_option maxRecDepth 20000 in
theorem r266_224t (μ : Bool) (d : Nat) (l0 : Value) (l1 : Value) (l2 : Value) (l3 : Value) (y0 : Int32) (st : List Value) (h : Hp) (Q : Po) : wp μ d 266 224 [l0, l1, l2, l3] (.int y0 :: .retAddr 1 :: st) h Q = (vp_in y0 (hk h 0).2 ∧ wp μ d 266 225 [l0, l1, l2, l3] (.int (gI h 0 y0.toNatClampNeg) :: st) h Q) := wp_ck _ rfl
set_option maxRecDepth 20000 in
theorem r266_225 (μ : Bool) (d : Nat) (l1 : Value) (l2 : Value) (l3 : Value) (x : Nat) (st : List Value) (h : Hp) (Q : Po) : wp μ d 266 225 [.ref x, l1, l2, l3] st h Q = wp μ d 266 226 [.ref x, l1, l2, l3] (.ref x :: st) h Q := wp_nx rfl
set_option maxRecDepth 20000 in
theorem r266_225t (μ : Bool) (d : Nat) (l1 : Value) (l2 : Value) (l3 : Value) (x : Nat) (st : List Value) (h : Hp) (Q : Po) : wp μ d 266 225 [.retAddr x, l1, l2, l3] st h Q = wp μ d 266 226 [.retAddr x, l1, l2, l3] (.retAddr x :: st) h Q := wp_nx rfl
set_option maxRecDepth 20000 in
theorem r266_226 (μ : Bool) (d : Nat) (l0 : Value) (l1 : Value) (l2 : Value) (x : Int32) (st : List Value) (h : Hp) (Q : Po) : wp μ d 266 226 [l0, l1, l2, .int x] st h Q = wp μ d 266 227 [l0, l1, l2, .int x] (.int x :: st) h Q := wp_nx rfl
set_option maxRecDepth 20000 in
theorem r266_227 (μ : Bool) (d : Nat) (l0 : Value) (l1 : Value) (l2 : Value) (l3 : Value) (st : List Value) (h : Hp) (Q : Po) : wp μ d 266 227 [l0, l1, l2, l3] st h Q = wp μ d 266 228 [l0, l1, l2, l3] (.int (nI 2) :: st) h Q := (wp_nx rfl).trans (congrArg (fun z => wp μ d 266 228 [l0, l1, l2, l3] (.int z :: st) h Q) (show Int32.ofInt (2) = (nI 2) by decide))
set_option maxRecDepth 20000 in
theorem r266_228 (μ : Bool) (d : Nat) (l0 : Value) (l1 : Value) (l2 : Value) (l3 : Value) (y0 y1 : Int32) (st : List Value) (h : Hp) (Q : Po) : wp μ d 266 228 [l0, l1, l2, l3] (.int y0 :: .int y1 :: st) h Q = wp μ d 266 229 [l0, l1, l2, l3] (.int (y1 + y0) :: st) h Q := wp_nx rfl
set_option maxRecDepth 20000 in
theorem r266_229 (μ : Bool) (d : Nat) (l0 : Value) (l1 : Value) (l2 : Value) (l3 : Value) (y0 : Int32) (y1 : Nat) (st : List Value) (h : Hp) (Q : Po) : wp μ d 266 229 [l0, l1, l2, l3] (.int y0 :: .ref y1 :: st) h Q = (((kdm μ h y1).1 = 20 ∧ vp_in y0 (kdm μ h y1).2) ∧ wp μ d 266 230 [l0, l1, l2, l3] (.int (gI h y1 y0.toNatClampNeg) :: st) h Q) := wp_ck _ rfl
set_option maxRecDepth 20000 in
theorem r266_229t (μ : Bool) (d : Nat) (l0 : Value) (l1 : Value) (l2 : Value) (l3 : Value) (y0 : Int32) (st : List Value) (h : Hp) (Q : Po) : wp μ d 266 229 [l0, l1, l2, l3] (.int y0 :: .retAddr 1 :: st) h Q = (vp_in y0 (hk h 0).2 ∧ wp μ d 266 230 [l0, l1, l2, l3] (.int (gI h 0 y0.toNatClampNeg) :: st) h Q) := wp_ck _ rfl
set_option maxRecDepth 20000 in
theorem r266_230 (μ : Bool) (d : Nat) (l1 : Value) (l2 : Value) (l3 : Value) (x : Nat) (st : List Value) (h : Hp) (Q : Po) : wp μ d 266 230 [.ref x, l1, l2, l3] st h Q = wp μ d 266 231 [.ref x, l1, l2, l3] (.ref x :: st) h Q := wp_nx rfl
set_option maxRecDepth 20000 in
theorem r266_230t (μ : Bool) (d : Nat) (l1 : Value) (l2 : Value) (l3 : Value) (x : Nat) (st : List Value) (h : Hp) (Q : Po) : wp μ d 266 230 [.retAddr x, l1, l2, l3] st h Q = wp μ d 266 231 [.retAddr x, l1, l2, l3] (.retAddr x :: st) h Q := wp_nx rfl
set_option maxRecDepth 20000 in
theorem r266_231 (μ : Bool) (d : Nat) (l0 : Value) (l1 : Value) (l2 : Value) (x : Int32) (st : List Value) (h : Hp) (Q : Po) : wp μ d 266 231 [l0, l1, l2, .int x] st h Q = wp μ d 266 232 [l0, l1, l2, .int x] (.int x :: st) h Q := wp_nx rfl
set_option maxRecDepth 20000 in
theorem r266_232 (μ : Bool) (d : Nat) (l0 : Value) (l1 : Value) (l2 : Value) (l3 : Value) (st : List Value) (h : Hp) (Q : Po) : wp μ d 266 232 [l0, l1, l2, l3] st h Q = wp μ d 266 233 [l0, l1, l2, l3] (.int (nI 3) :: st) h Q := (wp_nx rfl).trans (congrArg (fun z => wp μ d 266 233 [l0, l1, l2, l3] (.int z :: st) h Q) (show Int32.ofInt (3) = (nI 3) by decide))
set_option maxRecDepth 20000 in
theorem r266_233 (μ : Bool) (d : Nat) (l0 : Value) (l1 : Value) (l2 : Value) (l3 : Value) (y0 y1 : Int32) (st : List Value) (h : Hp) (Q : Po) : wp μ d 266 233 [l0, l1, l2, l3] (.int y0 :: .int y1 :: st) h Q = wp μ d 266 234 [l0, l1, l2, l3] (.int (y1 + y0) :: st) h Q := wp_nx rfl
set_option maxRecDepth 20000 in
theorem r266_234 (μ : Bool) (d : Nat) (l0 : Value) (l1 : Value) (l2 : Value) (l3 : Value) (y0 : Int32) (y1 : Nat) (st : List Value) (h : Hp) (Q : Po) : wp μ d 266 234 [l0, l1, l2, l3] (.int y0 :: .ref y1 :: st) h Q = (((kdm μ h y1).1 = 20 ∧ vp_in y0 (kdm μ h y1).2) ∧ wp μ d 266 235 [l0, l1, l2, l3] (.int (gI h y1 y0.toNatClampNeg) :: st) h Q) := wp_ck _ rfl
set_option maxRecDepth 20000 in
theorem r266_234t (μ : Bool) (d : Nat) (l0 : Value) (l1 : Value) (l2 : Value) (l3 : Value) (y0 : Int32) (st : List Value) (h : Hp) (Q : Po) : wp μ d 266 234 [l0, l1, l2, l3] (.int y0 :: .retAddr 1 :: st) h Q = (vp_in y0 (hk h 0).2 ∧ wp μ d 266 235 [l0, l1, l2, l3] (.int (gI h 0 y0.toNatClampNeg) :: st) h Q) := wp_ck _ rfl
set_option maxRecDepth 20000 in
theorem r266_235 (μ : Bool) (d : Nat) (l0 : Value) (l1 : Value) (l2 : Value) (l3 : Value) (y0 : Int32) (y1 : Int32) (y2 : Int32) (y3 : Nat) (y4 : Int32) (h : Hp) (Q : Po) : wp μ (d + 1) 266 235 [l0, l1, l2, l3] [.int y0, .int y1, .int y2, .ref y3, .int y4] h Q = ((kdm μ h y3).1 = 12 ∧ cwp μ d 163 [.ref y3, .int y2, .int y1, .int y0] h (fun r h' => wp μ (d + 1) 266 238 [l0, l1, l2, l3] (r.toList ++ [.int y4]) h' Q)) := wp_kc _ True rfl ⟨fun q => by obtain ⟨x, q1, q2⟩ := q.2.2.1 rfl; cases q1; exact q2, fun q => ⟨Nat.le_of_ble_eq_true rfl, ⟨Nat.le_of_ble_eq_true rfl, rfl, Nat.le_of_ble_eq_true rfl⟩, fun _ => ⟨_, rfl, q⟩, fun q9 => absurd q9 (by decide)⟩⟩
set_option maxRecDepth 20000 in
theorem r266_238 (μ : Bool) (d : Nat) (l0 : Value) (l1 : Value) (l2 : Value) (l3 : Value) (y0 y1 : Int32) (st : List Value) (h : Hp) (Q : Po) : wp μ d 266 238 [l0, l1, l2, l3] (.int y0 :: .int y1 :: st) h Q = if y1 = y0 then wp μ d 266 1545 [l0, l1, l2, l3] st h Q else wp μ d 266 241 [l0, l1, l2, l3] st h Q := wp_br (y1 = y0) rfl
set_option maxRecDepth 20000 in
theorem r266_241 (μ : Bool) (d : Nat) (l0 : Value) (l1 : Value) (l2 : Value) (l3 : Value) (st : List Value) (h : Hp) (Q : Po) : wp μ d 266 241 [l0, l1, l2, l3] st h Q = wp μ d 266 242 [l0, l1, l2, l3] (.int (nI 0) :: st) h Q := (wp_nx rfl).trans (congrArg (fun z => wp μ d 266 242 [l0, l1, l2, l3] (.int z :: st) h Q) (show Int32.ofInt (0) = (nI 0) by decide))
set_option maxRecDepth 20000 in
theorem r266_242 (μ : Bool) (d : Nat) (l0 : Value) (l1 : Value) (l2 : Value) (l3 : Value) (y0 : Int32) (h : Hp) (Q : Po) : wp μ d 266 242 [l0, l1, l2, l3] [.int y0] h Q = ((y0 = nI 0 ∨ y0 = nI 1) ∧ Q (some (.int y0)) h) := (wp_rc _ rfl).trans (by rw [show retOk (rM 266) y0 = (narrow .boolean (.int y0) = .int y0) from rfl, nz_iff]; rfl)
set_option maxRecDepth 20000 in
theorem r266_243 (μ : Bool) (d : Nat) (l0 : Value) (l2 : Value) (l3 : Value) (x : Nat) (st : List Value) (h : Hp) (Q : Po) : wp μ d 266 243 [l0, .ref x, l2, l3] st h Q = wp μ d 266 244 [l0, .ref x, l2, l3] (.ref x :: st) h Q := wp_nx rfl
set_option maxRecDepth 20000 in
theorem r266_243n (μ : Bool) (d : Nat) (l0 : Value) (l2 : Value) (l3 : Value) (st : List Value) (h : Hp) (Q : Po) : wp μ d 266 243 [l0, .null, l2, l3] st h Q = wp μ d 266 244 [l0, .null, l2, l3] (.null :: st) h Q := wp_nx rfl
set_option maxRecDepth 20000 in
theorem r266_243t (μ : Bool) (d : Nat) (l0 : Value) (l2 : Value) (l3 : Value) (x : Nat) (st : List Value) (h : Hp) (Q : Po) : wp μ d 266 243 [l0, .retAddr x, l2, l3] st h Q = wp μ d 266 244 [l0, .retAddr x, l2, l3] (.retAddr x :: st) h Q := wp_nx rfl
set_option maxRecDepth 20000 in
theorem r266_244 (μ : Bool) (d : Nat) (l1 : Value) (l2 : Value) (l3 : Value) (x : Nat) (st : List Value) (h : Hp) (Q : Po) : wp μ d 266 244 [.ref x, l1, l2, l3] st h Q = wp μ d 266 245 [.ref x, l1, l2, l3] (.ref x :: st) h Q := wp_nx rfl
set_option maxRecDepth 20000 in
theorem r266_244t (μ : Bool) (d : Nat) (l1 : Value) (l2 : Value) (l3 : Value) (x : Nat) (st : List Value) (h : Hp) (Q : Po) : wp μ d 266 244 [.retAddr x, l1, l2, l3] st h Q = wp μ d 266 245 [.retAddr x, l1, l2, l3] (.retAddr x :: st) h Q := wp_nx rfl
set_option maxRecDepth 20000 in
theorem r266_245 (μ : Bool) (d : Nat) (l0 : Value) (l1 : Value) (l2 : Value) (x : Int32) (st : List Value) (h : Hp) (Q : Po) : wp μ d 266 245 [l0, l1, l2, .int x] st h Q = wp μ d 266 246 [l0, l1, l2, .int x] (.int x :: st) h Q := wp_nx rfl
set_option maxRecDepth 20000 in
theorem r266_246 (μ : Bool) (d : Nat) (l0 : Value) (l1 : Value) (l2 : Value) (l3 : Value) (st : List Value) (h : Hp) (Q : Po) : wp μ d 266 246 [l0, l1, l2, l3] st h Q = wp μ d 266 247 [l0, l1, l2, l3] (.int (nI 1) :: st) h Q := (wp_nx rfl).trans (congrArg (fun z => wp μ d 266 247 [l0, l1, l2, l3] (.int z :: st) h Q) (show Int32.ofInt (1) = (nI 1) by decide))
set_option maxRecDepth 20000 in
theorem r266_247 (μ : Bool) (d : Nat) (l0 : Value) (l1 : Value) (l2 : Value) (l3 : Value) (y0 y1 : Int32) (st : List Value) (h : Hp) (Q : Po) : wp μ d 266 247 [l0, l1, l2, l3] (.int y0 :: .int y1 :: st) h Q = wp μ d 266 248 [l0, l1, l2, l3] (.int (y1 + y0) :: st) h Q := wp_nx rfl
set_option maxRecDepth 20000 in
theorem r266_248 (μ : Bool) (d : Nat) (l0 : Value) (l1 : Value) (l2 : Value) (l3 : Value) (y0 : Int32) (y1 : Nat) (st : List Value) (h : Hp) (Q : Po) : wp μ d 266 248 [l0, l1, l2, l3] (.int y0 :: .ref y1 :: st) h Q = (((kdm μ h y1).1 = 20 ∧ vp_in y0 (kdm μ h y1).2) ∧ wp μ d 266 249 [l0, l1, l2, l3] (.int (gI h y1 y0.toNatClampNeg) :: st) h Q) := wp_ck _ rfl
set_option maxRecDepth 20000 in
theorem r266_248t (μ : Bool) (d : Nat) (l0 : Value) (l1 : Value) (l2 : Value) (l3 : Value) (y0 : Int32) (st : List Value) (h : Hp) (Q : Po) : wp μ d 266 248 [l0, l1, l2, l3] (.int y0 :: .retAddr 1 :: st) h Q = (vp_in y0 (hk h 0).2 ∧ wp μ d 266 249 [l0, l1, l2, l3] (.int (gI h 0 y0.toNatClampNeg) :: st) h Q) := wp_ck _ rfl
set_option maxRecDepth 20000 in
theorem r266_249 (μ : Bool) (d : Nat) (l1 : Value) (l2 : Value) (l3 : Value) (x : Nat) (st : List Value) (h : Hp) (Q : Po) : wp μ d 266 249 [.ref x, l1, l2, l3] st h Q = wp μ d 266 250 [.ref x, l1, l2, l3] (.ref x :: st) h Q := wp_nx rfl
set_option maxRecDepth 20000 in
theorem r266_249t (μ : Bool) (d : Nat) (l1 : Value) (l2 : Value) (l3 : Value) (x : Nat) (st : List Value) (h : Hp) (Q : Po) : wp μ d 266 249 [.retAddr x, l1, l2, l3] st h Q = wp μ d 266 250 [.retAddr x, l1, l2, l3] (.retAddr x :: st) h Q := wp_nx rfl
set_option maxRecDepth 20000 in
theorem r266_250 (μ : Bool) (d : Nat) (l0 : Value) (l1 : Value) (l2 : Value) (x : Int32) (st : List Value) (h : Hp) (Q : Po) : wp μ d 266 250 [l0, l1, l2, .int x] st h Q = wp μ d 266 251 [l0, l1, l2, .int x] (.int x :: st) h Q := wp_nx rfl
set_option maxRecDepth 20000 in
theorem r266_251 (μ : Bool) (d : Nat) (l0 : Value) (l1 : Value) (l2 : Value) (l3 : Value) (st : List Value) (h : Hp) (Q : Po) : wp μ d 266 251 [l0, l1, l2, l3] st h Q = wp μ d 266 252 [l0, l1, l2, l3] (.int (nI 2) :: st) h Q := (wp_nx rfl).trans (congrArg (fun z => wp μ d 266 252 [l0, l1, l2, l3] (.int z :: st) h Q) (show Int32.ofInt (2) = (nI 2) by decide))
set_option maxRecDepth 20000 in
theorem r266_252 (μ : Bool) (d : Nat) (l0 : Value) (l1 : Value) (l2 : Value) (l3 : Value) (y0 y1 : Int32) (st : List Value) (h : Hp) (Q : Po) : wp μ d 266 252 [l0, l1, l2, l3] (.int y0 :: .int y1 :: st) h Q = wp μ d 266 253 [l0, l1, l2, l3] (.int (y1 + y0) :: st) h Q := wp_nx rfl
set_option maxRecDepth 20000 in
theorem r266_253 (μ : Bool) (d : Nat) (l0 : Value) (l1 : Value) (l2 : Value) (l3 : Value) (y0 : Int32) (y1 : Nat) (st : List Value) (h : Hp) (Q : Po) : wp μ d 266 253 [l0, l1, l2, l3] (.int y0 :: .ref y1 :: st) h Q = (((kdm μ h y1).1 = 20 ∧ vp_in y0 (kdm μ h y1).2) ∧ wp μ d 266 254 [l0, l1, l2, l3] (.int (gI h y1 y0.toNatClampNeg) :: st) h Q) := wp_ck _ rfl
set_option maxRecDepth 20000 in
theorem r266_253t (μ : Bool) (d : Nat) (l0 : Value) (l1 : Value) (l2 : Value) (l3 : Value) (y0 : Int32) (st : List Value) (h : Hp) (Q : Po) : wp μ d 266 253 [l0, l1, l2, l3] (.int y0 :: .retAddr 1 :: st) h Q = (vp_in y0 (hk h 0).2 ∧ wp μ d 266 254 [l0, l1, l2, l3] (.int (gI h 0 y0.toNatClampNeg) :: st) h Q) := wp_ck _ rfl
set_option maxRecDepth 20000 in
theorem r266_254 (μ : Bool) (d : Nat) (l1 : Value) (l2 : Value) (l3 : Value) (x : Nat) (st : List Value) (h : Hp) (Q : Po) : wp μ d 266 254 [.ref x, l1, l2, l3] st h Q = wp μ d 266 255 [.ref x, l1, l2, l3] (.ref x :: st) h Q := wp_nx rfl
set_option maxRecDepth 20000 in
theorem r266_254t (μ : Bool) (d : Nat) (l1 : Value) (l2 : Value) (l3 : Value) (x : Nat) (st : List Value) (h : Hp) (Q : Po) : wp μ d 266 254 [.retAddr x, l1, l2, l3] st h Q = wp μ d 266 255 [.retAddr x, l1, l2, l3] (.retAddr x :: st) h Q := wp_nx rfl
set_option maxRecDepth 20000 in
theorem r266_255 (μ : Bool) (d : Nat) (l0 : Value) (l1 : Value) (l2 : Value) (x : Int32) (st : List Value) (h : Hp) (Q : Po) : wp μ d 266 255 [l0, l1, l2, .int x] st h Q = wp μ d 266 256 [l0, l1, l2, .int x] (.int x :: st) h Q := wp_nx rfl
set_option maxRecDepth 20000 in
theorem r266_256 (μ : Bool) (d : Nat) (l0 : Value) (l1 : Value) (l2 : Value) (l3 : Value) (st : List Value) (h : Hp) (Q : Po) : wp μ d 266 256 [l0, l1, l2, l3] st h Q = wp μ d 266 257 [l0, l1, l2, l3] (.int (nI 3) :: st) h Q := (wp_nx rfl).trans (congrArg (fun z => wp μ d 266 257 [l0, l1, l2, l3] (.int z :: st) h Q) (show Int32.ofInt (3) = (nI 3) by decide))
set_option maxRecDepth 20000 in
theorem r266_257 (μ : Bool) (d : Nat) (l0 : Value) (l1 : Value) (l2 : Value) (l3 : Value) (y0 y1 : Int32) (st : List Value) (h : Hp) (Q : Po) : wp μ d 266 257 [l0, l1, l2, l3] (.int y0 :: .int y1 :: st) h Q = wp μ d 266 258 [l0, l1, l2, l3] (.int (y1 + y0) :: st) h Q := wp_nx rfl
set_option maxRecDepth 20000 in
theorem r266_258 (μ : Bool) (d : Nat) (l0 : Value) (l1 : Value) (l2 : Value) (l3 : Value) (y0 : Int32) (y1 : Nat) (st : List Value) (h : Hp) (Q : Po) : wp μ d 266 258 [l0, l1, l2, l3] (.int y0 :: .ref y1 :: st) h Q = (((kdm μ h y1).1 = 20 ∧ vp_in y0 (kdm μ h y1).2) ∧ wp μ d 266 259 [l0, l1, l2, l3] (.int (gI h y1 y0.toNatClampNeg) :: st) h Q) := wp_ck _ rfl
set_option maxRecDepth 20000 in
theorem r266_258t (μ : Bool) (d : Nat) (l0 : Value) (l1 : Value) (l2 : Value) (l3 : Value) (y0 : Int32) (st : List Value) (h : Hp) (Q : Po) : wp μ d 266 258 [l0, l1, l2, l3] (.int y0 :: .retAddr 1 :: st) h Q = (vp_in y0 (hk h 0).2 ∧ wp μ d 266 259 [l0, l1, l2, l3] (.int (gI h 0 y0.toNatClampNeg) :: st) h Q) := wp_ck _ rfl
set_option maxRecDepth 20000 in
theorem r266_259 (μ : Bool) (d : Nat) (l0 : Value) (l1 : Value) (l2 : Value) (l3 : Value) (y0 : Int32) (y1 : Int32) (y2 : Int32) (y3 : Nat) (h : Hp) (Q : Po) : wp μ (d + 1) 266 259 [l0, l1, l2, l3] [.int y0, .int y1, .int y2, .ref y3] h Q = ((kdm μ h y3).1 = 11 ∧ cwp μ d 88 [.ref y3, .int y2, .int y1, .int y0] h (fun r h' => wp μ (d + 1) 266 262 [l0, l1, l2, l3] (r.toList ++ []) h' Q)) := wp_kc _ True rfl ⟨fun q => by obtain ⟨x, q1, q2⟩ := q.2.2.1 rfl; cases q1; exact q2, fun q => ⟨Nat.le_of_ble_eq_true rfl, ⟨Nat.le_of_ble_eq_true rfl, rfl, Nat.le_of_ble_eq_true rfl⟩, fun _ => ⟨_, rfl, q⟩, fun q9 => absurd q9 (by decide)⟩⟩
set_option maxRecDepth 20000 in
theorem r266_262 (μ : Bool) (d : Nat) (l0 : Value) (l1 : Value) (l3 : Value) (x : Nat) (st : List Value) (h : Hp) (Q : Po) : wp μ d 266 262 [l0, l1, .ref x, l3] st h Q = wp μ d 266 263 [l0, l1, .ref x, l3] (.ref x :: st) h Q := wp_nx rfl
set_option maxRecDepth 20000 in
theorem r266_262n (μ : Bool) (d : Nat) (l0 : Value) (l1 : Value) (l3 : Value) (st : List Value) (h : Hp) (Q : Po) : wp μ d 266 262 [l0, l1, .null, l3] st h Q = wp μ d 266 263 [l0, l1, .null, l3] (.null :: st) h Q := wp_nx rfl
set_option maxRecDepth 20000 in
theorem r266_262t (μ : Bool) (d : Nat) (l0 : Value) (l1 : Value) (l3 : Value) (x : Nat) (st : List Value) (h : Hp) (Q : Po) : wp μ d 266 262 [l0, l1, .retAddr x, l3] st h Q = wp μ d 266 263 [l0, l1, .retAddr x, l3] (.retAddr x :: st) h Q := wp_nx rfl
set_option maxRecDepth 20000 in
theorem r266_263 (μ : Bool) (d : Nat) (l1 : Value) (l2 : Value) (l3 : Value) (x : Nat) (st : List Value) (h : Hp) (Q : Po) : wp μ d 266 263 [.ref x, l1, l2, l3] st h Q = wp μ d 266 264 [.ref x, l1, l2, l3] (.ref x :: st) h Q := wp_nx rfl
set_option maxRecDepth 20000 in
theorem r266_263t (μ : Bool) (d : Nat) (l1 : Value) (l2 : Value) (l3 : Value) (x : Nat) (st : List Value) (h : Hp) (Q : Po) : wp μ d 266 263 [.retAddr x, l1, l2, l3] st h Q = wp μ d 266 264 [.retAddr x, l1, l2, l3] (.retAddr x :: st) h Q := wp_nx rfl
set_option maxRecDepth 20000 in
theorem r266_264 (μ : Bool) (d : Nat) (l0 : Value) (l1 : Value) (l2 : Value) (x : Int32) (st : List Value) (h : Hp) (Q : Po) : wp μ d 266 264 [l0, l1, l2, .int x] st h Q = wp μ d 266 265 [l0, l1, l2, .int x] (.int x :: st) h Q := wp_nx rfl
set_option maxRecDepth 20000 in
theorem r266_265 (μ : Bool) (d : Nat) (l0 : Value) (l1 : Value) (l2 : Value) (l3 : Value) (st : List Value) (h : Hp) (Q : Po) : wp μ d 266 265 [l0, l1, l2, l3] st h Q = wp μ d 266 266 [l0, l1, l2, l3] (.int (nI 1) :: st) h Q := (wp_nx rfl).trans (congrArg (fun z => wp μ d 266 266 [l0, l1, l2, l3] (.int z :: st) h Q) (show Int32.ofInt (1) = (nI 1) by decide))
set_option maxRecDepth 20000 in
theorem r266_266 (μ : Bool) (d : Nat) (l0 : Value) (l1 : Value) (l2 : Value) (l3 : Value) (y0 y1 : Int32) (st : List Value) (h : Hp) (Q : Po) : wp μ d 266 266 [l0, l1, l2, l3] (.int y0 :: .int y1 :: st) h Q = wp μ d 266 267 [l0, l1, l2, l3] (.int (y1 + y0) :: st) h Q := wp_nx rfl
set_option maxRecDepth 20000 in
theorem r266_267 (μ : Bool) (d : Nat) (l0 : Value) (l1 : Value) (l2 : Value) (l3 : Value) (y0 : Int32) (y1 : Nat) (st : List Value) (h : Hp) (Q : Po) : wp μ d 266 267 [l0, l1, l2, l3] (.int y0 :: .ref y1 :: st) h Q = (((kdm μ h y1).1 = 20 ∧ vp_in y0 (kdm μ h y1).2) ∧ wp μ d 266 268 [l0, l1, l2, l3] (.int (gI h y1 y0.toNatClampNeg) :: st) h Q) := wp_ck _ rfl
set_option maxRecDepth 20000 in
theorem r266_267t (μ : Bool) (d : Nat) (l0 : Value) (l1 : Value) (l2 : Value) (l3 : Value) (y0 : Int32) (st : List Value) (h : Hp) (Q : Po) : wp μ d 266 267 [l0, l1, l2, l3] (.int y0 :: .retAddr 1 :: st) h Q = (vp_in y0 (hk h 0).2 ∧ wp μ d 266 268 [l0, l1, l2, l3] (.int (gI h 0 y0.toNatClampNeg) :: st) h Q) := wp_ck _ rfl
set_option maxRecDepth 20000 in
theorem r266_268 (μ : Bool) (d : Nat) (l1 : Value) (l2 : Value) (l3 : Value) (x : Nat) (st : List Value) (h : Hp) (Q : Po) : wp μ d 266 268 [.ref x, l1, l2, l3] st h Q = wp μ d 266 269 [.ref x, l1, l2, l3] (.ref x :: st) h Q := wp_nx rfl
set_option maxRecDepth 20000 in
theorem r266_268t (μ : Bool) (d : Nat) (l1 : Value) (l2 : Value) (l3 : Value) (x : Nat) (st : List Value) (h : Hp) (Q : Po) : wp μ d 266 268 [.retAddr x, l1, l2, l3] st h Q = wp μ d 266 269 [.retAddr x, l1, l2, l3] (.retAddr x :: st) h Q := wp_nx rfl
set_option maxRecDepth 20000 in
theorem r266_269 (μ : Bool) (d : Nat) (l0 : Value) (l1 : Value) (l2 : Value) (x : Int32) (st : List Value) (h : Hp) (Q : Po) : wp μ d 266 269 [l0, l1, l2, .int x] st h Q = wp μ d 266 270 [l0, l1, l2, .int x] (.int x :: st) h Q := wp_nx rfl
set_option maxRecDepth 20000 in
theorem r266_270 (μ : Bool) (d : Nat) (l0 : Value) (l1 : Value) (l2 : Value) (l3 : Value) (st : List Value) (h : Hp) (Q : Po) : wp μ d 266 270 [l0, l1, l2, l3] st h Q = wp μ d 266 271 [l0, l1, l2, l3] (.int (nI 2) :: st) h Q := (wp_nx rfl).trans (congrArg (fun z => wp μ d 266 271 [l0, l1, l2, l3] (.int z :: st) h Q) (show Int32.ofInt (2) = (nI 2) by decide))
set_option maxRecDepth 20000 in
theorem r266_271 (μ : Bool) (d : Nat) (l0 : Value) (l1 : Value) (l2 : Value) (l3 : Value) (y0 y1 : Int32) (st : List Value) (h : Hp) (Q : Po) : wp μ d 266 271 [l0, l1, l2, l3] (.int y0 :: .int y1 :: st) h Q = wp μ d 266 272 [l0, l1, l2, l3] (.int (y1 + y0) :: st) h Q := wp_nx rfl
set_option maxRecDepth 20000 in
theorem r266_272 (μ : Bool) (d : Nat) (l0 : Value) (l1 : Value) (l2 : Value) (l3 : Value) (y0 : Int32) (y1 : Nat) (st : List Value) (h : Hp) (Q : Po) : wp μ d 266 272 [l0, l1, l2, l3] (.int y0 :: .ref y1 :: st) h Q = (((kdm μ h y1).1 = 20 ∧ vp_in y0 (kdm μ h y1).2) ∧ wp μ d 266 273 [l0, l1, l2, l3] (.int (gI h y1 y0.toNatClampNeg) :: st) h Q) := wp_ck _ rfl
set_option maxRecDepth 20000 in
theorem r266_272t (μ : Bool) (d : Nat) (l0 : Value) (l1 : Value) (l2 : Value) (l3 : Value) (y0 : Int32) (st : List Value) (h : Hp) (Q : Po) : wp μ d 266 272 [l0, l1, l2, l3] (.int y0 :: .retAddr 1 :: st) h Q = (vp_in y0 (hk h 0).2 ∧ wp μ d 266 273 [l0, l1, l2, l3] (.int (gI h 0 y0.toNatClampNeg) :: st) h Q) := wp_ck _ rfl
set_option maxRecDepth 20000 in
theorem r266_273 (μ : Bool) (d : Nat) (l1 : Value) (l2 : Value) (l3 : Value) (x : Nat) (st : List Value) (h : Hp) (Q : Po) : wp μ d 266 273 [.ref x, l1, l2, l3] st h Q = wp μ d 266 274 [.ref x, l1, l2, l3] (.ref x :: st) h Q := wp_nx rfl
set_option maxRecDepth 20000 in
theorem r266_273t (μ : Bool) (d : Nat) (l1 : Value) (l2 : Value) (l3 : Value) (x : Nat) (st : List Value) (h : Hp) (Q : Po) : wp μ d 266 273 [.retAddr x, l1, l2, l3] st h Q = wp μ d 266 274 [.retAddr x, l1, l2, l3] (.retAddr x :: st) h Q := wp_nx rfl
set_option maxRecDepth 20000 in
theorem r266_274 (μ : Bool) (d : Nat) (l0 : Value) (l1 : Value) (l2 : Value) (x : Int32) (st : List Value) (h : Hp) (Q : Po) : wp μ d 266 274 [l0, l1, l2, .int x] st h Q = wp μ d 266 275 [l0, l1, l2, .int x] (.int x :: st) h Q := wp_nx rfl
set_option maxRecDepth 20000 in
theorem r266_275 (μ : Bool) (d : Nat) (l0 : Value) (l1 : Value) (l2 : Value) (l3 : Value) (st : List Value) (h : Hp) (Q : Po) : wp μ d 266 275 [l0, l1, l2, l3] st h Q = wp μ d 266 276 [l0, l1, l2, l3] (.int (nI 3) :: st) h Q := (wp_nx rfl).trans (congrArg (fun z => wp μ d 266 276 [l0, l1, l2, l3] (.int z :: st) h Q) (show Int32.ofInt (3) = (nI 3) by decide))
set_option maxRecDepth 20000 in
theorem r266_276 (μ : Bool) (d : Nat) (l0 : Value) (l1 : Value) (l2 : Value) (l3 : Value) (y0 y1 : Int32) (st : List Value) (h : Hp) (Q : Po) : wp μ d 266 276 [l0, l1, l2, l3] (.int y0 :: .int y1 :: st) h Q = wp μ d 266 277 [l0, l1, l2, l3] (.int (y1 + y0) :: st) h Q := wp_nx rfl
set_option maxRecDepth 20000 in
theorem r266_277 (μ : Bool) (d : Nat) (l0 : Value) (l1 : Value) (l2 : Value) (l3 : Value) (y0 : Int32) (y1 : Nat) (st : List Value) (h : Hp) (Q : Po) : wp μ d 266 277 [l0, l1, l2, l3] (.int y0 :: .ref y1 :: st) h Q = (((kdm μ h y1).1 = 20 ∧ vp_in y0 (kdm μ h y1).2) ∧ wp μ d 266 278 [l0, l1, l2, l3] (.int (gI h y1 y0.toNatClampNeg) :: st) h Q) := wp_ck _ rfl
set_option maxRecDepth 20000 in
theorem r266_277t (μ : Bool) (d : Nat) (l0 : Value) (l1 : Value) (l2 : Value) (l3 : Value) (y0 : Int32) (st : List Value) (h : Hp) (Q : Po) : wp μ d 266 277 [l0, l1, l2, l3] (.int y0 :: .retAddr 1 :: st) h Q = (vp_in y0 (hk h 0).2 ∧ wp μ d 266 278 [l0, l1, l2, l3] (.int (gI h 0 y0.toNatClampNeg) :: st) h Q) := wp_ck _ rfl
set_option maxRecDepth 20000 in
theorem r266_278 (μ : Bool) (d : Nat) (l0 : Value) (l1 : Value) (l2 : Value) (l3 : Value) (y0 : Int32) (y1 : Int32) (y2 : Int32) (y3 : Nat) (y4 : Int32) (h : Hp) (Q : Po) : wp μ (d + 1) 266 278 [l0, l1, l2, l3] [.int y0, .int y1, .int y2, .ref y3, .int y4] h Q = ((kdm μ h y3).1 = 12 ∧ cwp μ d 164 [.ref y3, .int y2, .int y1, .int y0] h (fun r h' => wp μ (d + 1) 266 281 [l0, l1, l2, l3] (r.toList ++ [.int y4]) h' Q)) := wp_kc _ True rfl ⟨fun q => by obtain ⟨x, q1, q2⟩ := q.2.2.1 rfl; cases q1; exact q2, fun q => ⟨Nat.le_of_ble_eq_true rfl, ⟨Nat.le_of_ble_eq_true rfl, rfl, Nat.le_of_ble_eq_true rfl⟩, fun _ => ⟨_, rfl, q⟩, fun q9 => absurd q9 (by decide)⟩⟩
set_option maxRecDepth 20000 in
theorem r266_281 (μ : Bool) (d : Nat) (l0 : Value) (l1 : Value) (l2 : Value) (l3 : Value) (y0 y1 : Int32) (st : List Value) (h : Hp) (Q : Po) : wp μ d 266 281 [l0, l1, l2, l3] (.int y0 :: .int y1 :: st) h Q = if y1 = y0 then wp μ d 266 1545 [l0, l1, l2, l3] st h Q else wp μ d 266 284 [l0, l1, l2, l3] st h Q := wp_br (y1 = y0) rfl
set_option maxRecDepth 20000 in
theorem r266_284 (μ : Bool) (d : Nat) (l0 : Value) (l1 : Value) (l2 : Value) (l3 : Value) (st : List Value) (h : Hp) (Q : Po) : wp μ d 266 284 [l0, l1, l2, l3] st h Q = wp μ d 266 285 [l0, l1, l2, l3] (.int (nI 0) :: st) h Q := (wp_nx rfl).trans (congrArg (fun z => wp μ d 266 285 [l0, l1, l2, l3] (.int z :: st) h Q) (show Int32.ofInt (0) = (nI 0) by decide))
set_option maxRecDepth 20000 in
theorem r266_285 (μ : Bool) (d : Nat) (l0 : Value) (l1 : Value) (l2 : Value) (l3 : Value) (y0 : Int32) (h : Hp) (Q : Po) : wp μ d 266 285 [l0, l1, l2, l3] [.int y0] h Q = ((y0 = nI 0 ∨ y0 = nI 1) ∧ Q (some (.int y0)) h) := (wp_rc _ rfl).trans (by rw [show retOk (rM 266) y0 = (narrow .boolean (.int y0) = .int y0) from rfl, nz_iff]; rfl)
set_option maxRecDepth 20000 in
theorem r266_286 (μ : Bool) (d : Nat) (l0 : Value) (l2 : Value) (l3 : Value) (x : Nat) (st : List Value) (h : Hp) (Q : Po) : wp μ d 266 286 [l0, .ref x, l2, l3] st h Q = wp μ d 266 287 [l0, .ref x, l2, l3] (.ref x :: st) h Q := wp_nx rfl
set_option maxRecDepth 20000 in
theorem r266_286n (μ : Bool) (d : Nat) (l0 : Value) (l2 : Value) (l3 : Value) (st : List Value) (h : Hp) (Q : Po) : wp μ d 266 286 [l0, .null, l2, l3] st h Q = wp μ d 266 287 [l0, .null, l2, l3] (.null :: st) h Q := wp_nx rfl
set_option maxRecDepth 20000 in
theorem r266_286t (μ : Bool) (d : Nat) (l0 : Value) (l2 : Value) (l3 : Value) (x : Nat) (st : List Value) (h : Hp) (Q : Po) : wp μ d 266 286 [l0, .retAddr x, l2, l3] st h Q = wp μ d 266 287 [l0, .retAddr x, l2, l3] (.retAddr x :: st) h Q := wp_nx rfl
set_option maxRecDepth 20000 in
theorem r266_287 (μ : Bool) (d : Nat) (l1 : Value) (l2 : Value) (l3 : Value) (x : Nat) (st : List Value) (h : Hp) (Q : Po) : wp μ d 266 287 [.ref x, l1, l2, l3] st h Q = wp μ d 266 288 [.ref x, l1, l2, l3] (.ref x :: st) h Q := wp_nx rfl
set_option maxRecDepth 20000 in
theorem r266_287t (μ : Bool) (d : Nat) (l1 : Value) (l2 : Value) (l3 : Value) (x : Nat) (st : List Value) (h : Hp) (Q : Po) : wp μ d 266 287 [.retAddr x, l1, l2, l3] st h Q = wp μ d 266 288 [.retAddr x, l1, l2, l3] (.retAddr x :: st) h Q := wp_nx rfl
set_option maxRecDepth 20000 in
theorem r266_288 (μ : Bool) (d : Nat) (l0 : Value) (l1 : Value) (l2 : Value) (x : Int32) (st : List Value) (h : Hp) (Q : Po) : wp μ d 266 288 [l0, l1, l2, .int x] st h Q = wp μ d 266 289 [l0, l1, l2, .int x] (.int x :: st) h Q := wp_nx rfl
set_option maxRecDepth 20000 in
theorem r266_289 (μ : Bool) (d : Nat) (l0 : Value) (l1 : Value) (l2 : Value) (l3 : Value) (st : List Value) (h : Hp) (Q : Po) : wp μ d 266 289 [l0, l1, l2, l3] st h Q = wp μ d 266 290 [l0, l1, l2, l3] (.int (nI 1) :: st) h Q := (wp_nx rfl).trans (congrArg (fun z => wp μ d 266 290 [l0, l1, l2, l3] (.int z :: st) h Q) (show Int32.ofInt (1) = (nI 1) by decide))
set_option maxRecDepth 20000 in
theorem r266_290 (μ : Bool) (d : Nat) (l0 : Value) (l1 : Value) (l2 : Value) (l3 : Value) (y0 y1 : Int32) (st : List Value) (h : Hp) (Q : Po) : wp μ d 266 290 [l0, l1, l2, l3] (.int y0 :: .int y1 :: st) h Q = wp μ d 266 291 [l0, l1, l2, l3] (.int (y1 + y0) :: st) h Q := wp_nx rfl
set_option maxRecDepth 20000 in
theorem r266_291 (μ : Bool) (d : Nat) (l0 : Value) (l1 : Value) (l2 : Value) (l3 : Value) (y0 : Int32) (y1 : Nat) (st : List Value) (h : Hp) (Q : Po) : wp μ d 266 291 [l0, l1, l2, l3] (.int y0 :: .ref y1 :: st) h Q = (((kdm μ h y1).1 = 20 ∧ vp_in y0 (kdm μ h y1).2) ∧ wp μ d 266 292 [l0, l1, l2, l3] (.int (gI h y1 y0.toNatClampNeg) :: st) h Q) := wp_ck _ rfl
set_option maxRecDepth 20000 in
theorem r266_291t (μ : Bool) (d : Nat) (l0 : Value) (l1 : Value) (l2 : Value) (l3 : Value) (y0 : Int32) (st : List Value) (h : Hp) (Q : Po) : wp μ d 266 291 [l0, l1, l2, l3] (.int y0 :: .retAddr 1 :: st) h Q = (vp_in y0 (hk h 0).2 ∧ wp μ d 266 292 [l0, l1, l2, l3] (.int (gI h 0 y0.toNatClampNeg) :: st) h Q) := wp_ck _ rfl
set_option maxRecDepth 20000 in
theorem r266_292 (μ : Bool) (d : Nat) (l1 : Value) (l2 : Value) (l3 : Value) (x : Nat) (st : List Value) (h : Hp) (Q : Po) : wp μ d 266 292 [.ref x, l1, l2, l3] st h Q = wp μ d 266 293 [.ref x, l1, l2, l3] (.ref x :: st) h Q := wp_nx rfl
set_option maxRecDepth 20000 in
theorem r266_292t (μ : Bool) (d : Nat) (l1 : Value) (l2 : Value) (l3 : Value) (x : Nat) (st : List Value) (h : Hp) (Q : Po) : wp μ d 266 292 [.retAddr x, l1, l2, l3] st h Q = wp μ d 266 293 [.retAddr x, l1, l2, l3] (.retAddr x :: st) h Q := wp_nx rfl
set_option maxRecDepth 20000 in
theorem r266_293 (μ : Bool) (d : Nat) (l0 : Value) (l1 : Value) (l2 : Value) (x : Int32) (st : List Value) (h : Hp) (Q : Po) : wp μ d 266 293 [l0, l1, l2, .int x] st h Q = wp μ d 266 294 [l0, l1, l2, .int x] (.int x :: st) h Q := wp_nx rfl
set_option maxRecDepth 20000 in
theorem r266_294 (μ : Bool) (d : Nat) (l0 : Value) (l1 : Value) (l2 : Value) (l3 : Value) (st : List Value) (h : Hp) (Q : Po) : wp μ d 266 294 [l0, l1, l2, l3] st h Q = wp μ d 266 295 [l0, l1, l2, l3] (.int (nI 2) :: st) h Q := (wp_nx rfl).trans (congrArg (fun z => wp μ d 266 295 [l0, l1, l2, l3] (.int z :: st) h Q) (show Int32.ofInt (2) = (nI 2) by decide))
set_option maxRecDepth 20000 in
theorem r266_295 (μ : Bool) (d : Nat) (l0 : Value) (l1 : Value) (l2 : Value) (l3 : Value) (y0 y1 : Int32) (st : List Value) (h : Hp) (Q : Po) : wp μ d 266 295 [l0, l1, l2, l3] (.int y0 :: .int y1 :: st) h Q = wp μ d 266 296 [l0, l1, l2, l3] (.int (y1 + y0) :: st) h Q := wp_nx rfl
set_option maxRecDepth 20000 in
theorem r266_296 (μ : Bool) (d : Nat) (l0 : Value) (l1 : Value) (l2 : Value) (l3 : Value) (y0 : Int32) (y1 : Nat) (st : List Value) (h : Hp) (Q : Po) : wp μ d 266 296 [l0, l1, l2, l3] (.int y0 :: .ref y1 :: st) h Q = (((kdm μ h y1).1 = 20 ∧ vp_in y0 (kdm μ h y1).2) ∧ wp μ d 266 297 [l0, l1, l2, l3] (.int (gI h y1 y0.toNatClampNeg) :: st) h Q) := wp_ck _ rfl
set_option maxRecDepth 20000 in
theorem r266_296t (μ : Bool) (d : Nat) (l0 : Value) (l1 : Value) (l2 : Value) (l3 : Value) (y0 : Int32) (st : List Value) (h : Hp) (Q : Po) : wp μ d 266 296 [l0, l1, l2, l3] (.int y0 :: .retAddr 1 :: st) h Q = (vp_in y0 (hk h 0).2 ∧ wp μ d 266 297 [l0, l1, l2, l3] (.int (gI h 0 y0.toNatClampNeg) :: st) h Q) := wp_ck _ rfl
set_option maxRecDepth 20000 in
theorem r266_297 (μ : Bool) (d : Nat) (l0 : Value) (l1 : Value) (l2 : Value) (l3 : Value) (y0 : Int32) (y1 : Int32) (y2 : Nat) (h : Hp) (Q : Po) : wp μ (d + 1) 266 297 [l0, l1, l2, l3] [.int y0, .int y1, .ref y2] h Q = ((kdm μ h y2).1 = 11 ∧ cwp μ d 89 [.ref y2, .int y1, .int y0] h (fun r h' => wp μ (d + 1) 266 300 [l0, l1, l2, l3] (r.toList ++ []) h' Q)) := wp_kc _ True rfl ⟨fun q => by obtain ⟨x, q1, q2⟩ := q.2.2.1 rfl; cases q1; exact q2, fun q => ⟨Nat.le_of_ble_eq_true rfl, ⟨Nat.le_of_ble_eq_true rfl, rfl, Nat.le_of_ble_eq_true rfl⟩, fun _ => ⟨_, rfl, q⟩, fun q9 => absurd q9 (by decide)⟩⟩
set_option maxRecDepth 20000 in
theorem r266_300 (μ : Bool) (d : Nat) (l0 : Value) (l1 : Value) (l3 : Value) (x : Nat) (st : List Value) (h : Hp) (Q : Po) : wp μ d 266 300 [l0, l1, .ref x, l3] st h Q = wp μ d 266 301 [l0, l1, .ref x, l3] (.ref x :: st) h Q := wp_nx rfl
set_option maxRecDepth 20000 in
theorem r266_300n (μ : Bool) (d : Nat) (l0 : Value) (l1 : Value) (l3 : Value) (st : List Value) (h : Hp) (Q : Po) : wp μ d 266 300 [l0, l1, .null, l3] st h Q = wp μ d 266 301 [l0, l1, .null, l3] (.null :: st) h Q := wp_nx rfl
set_option maxRecDepth 20000 in
theorem r266_300t (μ : Bool) (d : Nat) (l0 : Value) (l1 : Value) (l3 : Value) (x : Nat) (st : List Value) (h : Hp) (Q : Po) : wp μ d 266 300 [l0, l1, .retAddr x, l3] st h Q = wp μ d 266 301 [l0, l1, .retAddr x, l3] (.retAddr x :: st) h Q := wp_nx rfl
set_option maxRecDepth 20000 in
theorem r266_301 (μ : Bool) (d : Nat) (l1 : Value) (l2 : Value) (l3 : Value) (x : Nat) (st : List Value) (h : Hp) (Q : Po) : wp μ d 266 301 [.ref x, l1, l2, l3] st h Q = wp μ d 266 302 [.ref x, l1, l2, l3] (.ref x :: st) h Q := wp_nx rfl
set_option maxRecDepth 20000 in
theorem r266_301t (μ : Bool) (d : Nat) (l1 : Value) (l2 : Value) (l3 : Value) (x : Nat) (st : List Value) (h : Hp) (Q : Po) : wp μ d 266 301 [.retAddr x, l1, l2, l3] st h Q = wp μ d 266 302 [.retAddr x, l1, l2, l3] (.retAddr x :: st) h Q := wp_nx rfl
set_option maxRecDepth 20000 in
theorem r266_302 (μ : Bool) (d : Nat) (l0 : Value) (l1 : Value) (l2 : Value) (x : Int32) (st : List Value) (h : Hp) (Q : Po) : wp μ d 266 302 [l0, l1, l2, .int x] st h Q = wp μ d 266 303 [l0, l1, l2, .int x] (.int x :: st) h Q := wp_nx rfl
set_option maxRecDepth 20000 in
theorem r266_303 (μ : Bool) (d : Nat) (l0 : Value) (l1 : Value) (l2 : Value) (l3 : Value) (st : List Value) (h : Hp) (Q : Po) : wp μ d 266 303 [l0, l1, l2, l3] st h Q = wp μ d 266 304 [l0, l1, l2, l3] (.int (nI 1) :: st) h Q := (wp_nx rfl).trans (congrArg (fun z => wp μ d 266 304 [l0, l1, l2, l3] (.int z :: st) h Q) (show Int32.ofInt (1) = (nI 1) by decide))
set_option maxRecDepth 20000 in
theorem r266_304 (μ : Bool) (d : Nat) (l0 : Value) (l1 : Value) (l2 : Value) (l3 : Value) (y0 y1 : Int32) (st : List Value) (h : Hp) (Q : Po) : wp μ d 266 304 [l0, l1, l2, l3] (.int y0 :: .int y1 :: st) h Q = wp μ d 266 305 [l0, l1, l2, l3] (.int (y1 + y0) :: st) h Q := wp_nx rfl
set_option maxRecDepth 20000 in
theorem r266_305 (μ : Bool) (d : Nat) (l0 : Value) (l1 : Value) (l2 : Value) (l3 : Value) (y0 : Int32) (y1 : Nat) (st : List Value) (h : Hp) (Q : Po) : wp μ d 266 305 [l0, l1, l2, l3] (.int y0 :: .ref y1 :: st) h Q = (((kdm μ h y1).1 = 20 ∧ vp_in y0 (kdm μ h y1).2) ∧ wp μ d 266 306 [l0, l1, l2, l3] (.int (gI h y1 y0.toNatClampNeg) :: st) h Q) := wp_ck _ rfl
set_option maxRecDepth 20000 in
theorem r266_305t (μ : Bool) (d : Nat) (l0 : Value) (l1 : Value) (l2 : Value) (l3 : Value) (y0 : Int32) (st : List Value) (h : Hp) (Q : Po) : wp μ d 266 305 [l0, l1, l2, l3] (.int y0 :: .retAddr 1 :: st) h Q = (vp_in y0 (hk h 0).2 ∧ wp μ d 266 306 [l0, l1, l2, l3] (.int (gI h 0 y0.toNatClampNeg) :: st) h Q) := wp_ck _ rfl
set_option maxRecDepth 20000 in
theorem r266_306 (μ : Bool) (d : Nat) (l1 : Value) (l2 : Value) (l3 : Value) (x : Nat) (st : List Value) (h : Hp) (Q : Po) : wp μ d 266 306 [.ref x, l1, l2, l3] st h Q = wp μ d 266 307 [.ref x, l1, l2, l3] (.ref x :: st) h Q := wp_nx rfl
set_option maxRecDepth 20000 in
theorem r266_306t (μ : Bool) (d : Nat) (l1 : Value) (l2 : Value) (l3 : Value) (x : Nat) (st : List Value) (h : Hp) (Q : Po) : wp μ d 266 306 [.retAddr x, l1, l2, l3] st h Q = wp μ d 266 307 [.retAddr x, l1, l2, l3] (.retAddr x :: st) h Q := wp_nx rfl
set_option maxRecDepth 20000 in
theorem r266_307 (μ : Bool) (d : Nat) (l0 : Value) (l1 : Value) (l2 : Value) (x : Int32) (st : List Value) (h : Hp) (Q : Po) : wp μ d 266 307 [l0, l1, l2, .int x] st h Q = wp μ d 266 308 [l0, l1, l2, .int x] (.int x :: st) h Q := wp_nx rfl
set_option maxRecDepth 20000 in
theorem r266_308 (μ : Bool) (d : Nat) (l0 : Value) (l1 : Value) (l2 : Value) (l3 : Value) (st : List Value) (h : Hp) (Q : Po) : wp μ d 266 308 [l0, l1, l2, l3] st h Q = wp μ d 266 309 [l0, l1, l2, l3] (.int (nI 2) :: st) h Q := (wp_nx rfl).trans (congrArg (fun z => wp μ d 266 309 [l0, l1, l2, l3] (.int z :: st) h Q) (show Int32.ofInt (2) = (nI 2) by decide))
set_option maxRecDepth 20000 in
theorem r266_309 (μ : Bool) (d : Nat) (l0 : Value) (l1 : Value) (l2 : Value) (l3 : Value) (y0 y1 : Int32) (st : List Value) (h : Hp) (Q : Po) : wp μ d 266 309 [l0, l1, l2, l3] (.int y0 :: .int y1 :: st) h Q = wp μ d 266 310 [l0, l1, l2, l3] (.int (y1 + y0) :: st) h Q := wp_nx rfl
set_option maxRecDepth 20000 in
theorem r266_310 (μ : Bool) (d : Nat) (l0 : Value) (l1 : Value) (l2 : Value) (l3 : Value) (y0 : Int32) (y1 : Nat) (st : List Value) (h : Hp) (Q : Po) : wp μ d 266 310 [l0, l1, l2, l3] (.int y0 :: .ref y1 :: st) h Q = (((kdm μ h y1).1 = 20 ∧ vp_in y0 (kdm μ h y1).2) ∧ wp μ d 266 311 [l0, l1, l2, l3] (.int (gI h y1 y0.toNatClampNeg) :: st) h Q) := wp_ck _ rfl
set_option maxRecDepth 20000 in
theorem r266_310t (μ : Bool) (d : Nat) (l0 : Value) (l1 : Value) (l2 : Value) (l3 : Value) (y0 : Int32) (st : List Value) (h : Hp) (Q : Po) : wp μ d 266 310 [l0, l1, l2, l3] (.int y0 :: .retAddr 1 :: st) h Q = (vp_in y0 (hk h 0).2 ∧ wp μ d 266 311 [l0, l1, l2, l3] (.int (gI h 0 y0.toNatClampNeg) :: st) h Q) := wp_ck _ rfl
set_option maxRecDepth 20000 in
theorem r266_311 (μ : Bool) (d : Nat) (l0 : Value) (l1 : Value) (l2 : Value) (l3 : Value) (y0 : Int32) (y1 : Int32) (y2 : Nat) (y3 : Int32) (h : Hp) (Q : Po) : wp μ (d + 1) 266 311 [l0, l1, l2, l3] [.int y0, .int y1, .ref y2, .int y3] h Q = ((kdm μ h y2).1 = 12 ∧ cwp μ d 165 [.ref y2, .int y1, .int y0] h (fun r h' => wp μ (d + 1) 266 314 [l0, l1, l2, l3] (r.toList ++ [.int y3]) h' Q)) := wp_kc _ True rfl ⟨fun q => by obtain ⟨x, q1, q2⟩ := q.2.2.1 rfl; cases q1; exact q2, fun q => ⟨Nat.le_of_ble_eq_true rfl, ⟨Nat.le_of_ble_eq_true rfl, rfl, Nat.le_of_ble_eq_true rfl⟩, fun _ => ⟨_, rfl, q⟩, fun q9 => absurd q9 (by decide)⟩⟩
set_option maxRecDepth 20000 in
theorem r266_314 (μ : Bool) (d : Nat) (l0 : Value) (l1 : Value) (l2 : Value) (l3 : Value) (y0 y1 : Int32) (st : List Value) (h : Hp) (Q : Po) : wp μ d 266 314 [l0, l1, l2, l3] (.int y0 :: .int y1 :: st) h Q = if y1 = y0 then wp μ d 266 1545 [l0, l1, l2, l3] st h Q else wp μ d 266 317 [l0, l1, l2, l3] st h Q := wp_br (y1 = y0) rfl
set_option maxRecDepth 20000 in
theorem r266_317 (μ : Bool) (d : Nat) (l0 : Value) (l1 : Value) (l2 : Value) (l3 : Value) (st : List Value) (h : Hp) (Q : Po) : wp μ d 266 317 [l0, l1, l2, l3] st h Q = wp μ d 266 318 [l0, l1, l2, l3] (.int (nI 0) :: st) h Q := (wp_nx rfl).trans (congrArg (fun z => wp μ d 266 318 [l0, l1, l2, l3] (.int z :: st) h Q) (show Int32.ofInt (0) = (nI 0) by decide))
set_option maxRecDepth 20000 in
theorem r266_318 (μ : Bool) (d : Nat) (l0 : Value) (l1 : Value) (l2 : Value) (l3 : Value) (y0 : Int32) (h : Hp) (Q : Po) : wp μ d 266 318 [l0, l1, l2, l3] [.int y0] h Q = ((y0 = nI 0 ∨ y0 = nI 1) ∧ Q (some (.int y0)) h) := (wp_rc _ rfl).trans (by rw [show retOk (rM 266) y0 = (narrow .boolean (.int y0) = .int y0) from rfl, nz_iff]; rfl)
set_option maxRecDepth 20000 in
theorem r266_319 (μ : Bool) (d : Nat) (l0 : Value) (l2 : Value) (l3 : Value) (x : Nat) (st : List Value) (h : Hp) (Q : Po) : wp μ d 266 319 [l0, .ref x, l2, l3] st h Q = wp μ d 266 320 [l0, .ref x, l2, l3] (.ref x :: st) h Q := wp_nx rfl
set_option maxRecDepth 20000 in
theorem r266_319n (μ : Bool) (d : Nat) (l0 : Value) (l2 : Value) (l3 : Value) (st : List Value) (h : Hp) (Q : Po) : wp μ d 266 319 [l0, .null, l2, l3] st h Q = wp μ d 266 320 [l0, .null, l2, l3] (.null :: st) h Q := wp_nx rfl
set_option maxRecDepth 20000 in
theorem r266_319t (μ : Bool) (d : Nat) (l0 : Value) (l2 : Value) (l3 : Value) (x : Nat) (st : List Value) (h : Hp) (Q : Po) : wp μ d 266 319 [l0, .retAddr x, l2, l3] st h Q = wp μ d 266 320 [l0, .retAddr x, l2, l3] (.retAddr x :: st) h Q := wp_nx rfl
set_option maxRecDepth 20000 in
theorem r266_320 (μ : Bool) (d : Nat) (l1 : Value) (l2 : Value) (l3 : Value) (x : Nat) (st : List Value) (h : Hp) (Q : Po) : wp μ d 266 320 [.ref x, l1, l2, l3] st h Q = wp μ d 266 321 [.ref x, l1, l2, l3] (.ref x :: st) h Q := wp_nx rfl
set_option maxRecDepth 20000 in
theorem r266_320t (μ : Bool) (d : Nat) (l1 : Value) (l2 : Value) (l3 : Value) (x : Nat) (st : List Value) (h : Hp) (Q : Po) : wp μ d 266 320 [.retAddr x, l1, l2, l3] st h Q = wp μ d 266 321 [.retAddr x, l1, l2, l3] (.retAddr x :: st) h Q := wp_nx rfl
set_option maxRecDepth 20000 in
theorem r266_321 (μ : Bool) (d : Nat) (l0 : Value) (l1 : Value) (l2 : Value) (x : Int32) (st : List Value) (h : Hp) (Q : Po) : wp μ d 266 321 [l0, l1, l2, .int x] st h Q = wp μ d 266 322 [l0, l1, l2, .int x] (.int x :: st) h Q := wp_nx rfl
set_option maxRecDepth 20000 in
theorem r266_322 (μ : Bool) (d : Nat) (l0 : Value) (l1 : Value) (l2 : Value) (l3 : Value) (st : List Value) (h : Hp) (Q : Po) : wp μ d 266 322 [l0, l1, l2, l3] st h Q = wp μ d 266 323 [l0, l1, l2, l3] (.int (nI 1) :: st) h Q := (wp_nx rfl).trans (congrArg (fun z => wp μ d 266 323 [l0, l1, l2, l3] (.int z :: st) h Q) (show Int32.ofInt (1) = (nI 1) by decide))
set_option maxRecDepth 20000 in
theorem r266_323 (μ : Bool) (d : Nat) (l0 : Value) (l1 : Value) (l2 : Value) (l3 : Value) (y0 y1 : Int32) (st : List Value) (h : Hp) (Q : Po) : wp μ d 266 323 [l0, l1, l2, l3] (.int y0 :: .int y1 :: st) h Q = wp μ d 266 324 [l0, l1, l2, l3] (.int (y1 + y0) :: st) h Q := wp_nx rfl
set_option maxRecDepth 20000 in
theorem r266_324 (μ : Bool) (d : Nat) (l0 : Value) (l1 : Value) (l2 : Value) (l3 : Value) (y0 : Int32) (y1 : Nat) (st : List Value) (h : Hp) (Q : Po) : wp μ d 266 324 [l0, l1, l2, l3] (.int y0 :: .ref y1 :: st) h Q = (((kdm μ h y1).1 = 20 ∧ vp_in y0 (kdm μ h y1).2) ∧ wp μ d 266 325 [l0, l1, l2, l3] (.int (gI h y1 y0.toNatClampNeg) :: st) h Q) := wp_ck _ rfl
set_option maxRecDepth 20000 in
theorem r266_324t (μ : Bool) (d : Nat) (l0 : Value) (l1 : Value) (l2 : Value) (l3 : Value) (y0 : Int32) (st : List Value) (h : Hp) (Q : Po) : wp μ d 266 324 [l0, l1, l2, l3] (.int y0 :: .retAddr 1 :: st) h Q = (vp_in y0 (hk h 0).2 ∧ wp μ d 266 325 [l0, l1, l2, l3] (.int (gI h 0 y0.toNatClampNeg) :: st) h Q) := wp_ck _ rfl
set_option maxRecDepth 20000 in
theorem r266_325 (μ : Bool) (d : Nat) (l1 : Value) (l2 : Value) (l3 : Value) (x : Nat) (st : List Value) (h : Hp) (Q : Po) : wp μ d 266 325 [.ref x, l1, l2, l3] st h Q = wp μ d 266 326 [.ref x, l1, l2, l3] (.ref x :: st) h Q := wp_nx rfl
set_option maxRecDepth 20000 in
theorem r266_325t (μ : Bool) (d : Nat) (l1 : Value) (l2 : Value) (l3 : Value) (x : Nat) (st : List Value) (h : Hp) (Q : Po) : wp μ d 266 325 [.retAddr x, l1, l2, l3] st h Q = wp μ d 266 326 [.retAddr x, l1, l2, l3] (.retAddr x :: st) h Q := wp_nx rfl
set_option maxRecDepth 20000 in
theorem r266_326 (μ : Bool) (d : Nat) (l0 : Value) (l1 : Value) (l2 : Value) (x : Int32) (st : List Value) (h : Hp) (Q : Po) : wp μ d 266 326 [l0, l1, l2, .int x] st h Q = wp μ d 266 327 [l0, l1, l2, .int x] (.int x :: st) h Q := wp_nx rfl
set_option maxRecDepth 20000 in
theorem r266_327 (μ : Bool) (d : Nat) (l0 : Value) (l1 : Value) (l2 : Value) (l3 : Value) (st : List Value) (h : Hp) (Q : Po) : wp μ d 266 327 [l0, l1, l2, l3] st h Q = wp μ d 266 328 [l0, l1, l2, l3] (.int (nI 2) :: st) h Q := (wp_nx rfl).trans (congrArg (fun z => wp μ d 266 328 [l0, l1, l2, l3] (.int z :: st) h Q) (show Int32.ofInt (2) = (nI 2) by decide))
set_option maxRecDepth 20000 in
theorem r266_328 (μ : Bool) (d : Nat) (l0 : Value) (l1 : Value) (l2 : Value) (l3 : Value) (y0 y1 : Int32) (st : List Value) (h : Hp) (Q : Po) : wp μ d 266 328 [l0, l1, l2, l3] (.int y0 :: .int y1 :: st) h Q = wp μ d 266 329 [l0, l1, l2, l3] (.int (y1 + y0) :: st) h Q := wp_nx rfl
set_option maxRecDepth 20000 in
theorem r266_329 (μ : Bool) (d : Nat) (l0 : Value) (l1 : Value) (l2 : Value) (l3 : Value) (y0 : Int32) (y1 : Nat) (st : List Value) (h : Hp) (Q : Po) : wp μ d 266 329 [l0, l1, l2, l3] (.int y0 :: .ref y1 :: st) h Q = (((kdm μ h y1).1 = 20 ∧ vp_in y0 (kdm μ h y1).2) ∧ wp μ d 266 330 [l0, l1, l2, l3] (.int (gI h y1 y0.toNatClampNeg) :: st) h Q) := wp_ck _ rfl
set_option maxRecDepth 20000 in
theorem r266_329t (μ : Bool) (d : Nat) (l0 : Value) (l1 : Value) (l2 : Value) (l3 : Value) (y0 : Int32) (st : List Value) (h : Hp) (Q : Po) : wp μ d 266 329 [l0, l1, l2, l3] (.int y0 :: .retAddr 1 :: st) h Q = (vp_in y0 (hk h 0).2 ∧ wp μ d 266 330 [l0, l1, l2, l3] (.int (gI h 0 y0.toNatClampNeg) :: st) h Q) := wp_ck _ rfl
set_option maxRecDepth 20000 in
theorem r266_330 (μ : Bool) (d : Nat) (l0 : Value) (l1 : Value) (l2 : Value) (l3 : Value) (y0 : Int32) (y1 : Int32) (y2 : Nat) (h : Hp) (Q : Po) : wp μ (d + 1) 266 330 [l0, l1, l2, l3] [.int y0, .int y1, .ref y2] h Q = ((kdm μ h y2).1 = 11 ∧ cwp μ d 90 [.ref y2, .int y1, .int y0] h (fun r h' => wp μ (d + 1) 266 333 [l0, l1, l2, l3] (r.toList ++ []) h' Q)) := wp_kc _ True rfl ⟨fun q => by obtain ⟨x, q1, q2⟩ := q.2.2.1 rfl; cases q1; exact q2, fun q => ⟨Nat.le_of_ble_eq_true rfl, ⟨Nat.le_of_ble_eq_true rfl, rfl, Nat.le_of_ble_eq_true rfl⟩, fun _ => ⟨_, rfl, q⟩, fun q9 => absurd q9 (by decide)⟩⟩
set_option maxRecDepth 20000 in
theorem r266_333 (μ : Bool) (d : Nat) (l0 : Value) (l1 : Value) (l3 : Value) (x : Nat) (st : List Value) (h : Hp) (Q : Po) : wp μ d 266 333 [l0, l1, .ref x, l3] st h Q = wp μ d 266 334 [l0, l1, .ref x, l3] (.ref x :: st) h Q := wp_nx rfl
set_option maxRecDepth 20000 in
theorem r266_333n (μ : Bool) (d : Nat) (l0 : Value) (l1 : Value) (l3 : Value) (st : List Value) (h : Hp) (Q : Po) : wp μ d 266 333 [l0, l1, .null, l3] st h Q = wp μ d 266 334 [l0, l1, .null, l3] (.null :: st) h Q := wp_nx rfl
set_option maxRecDepth 20000 in
theorem r266_333t (μ : Bool) (d : Nat) (l0 : Value) (l1 : Value) (l3 : Value) (x : Nat) (st : List Value) (h : Hp) (Q : Po) : wp μ d 266 333 [l0, l1, .retAddr x, l3] st h Q = wp μ d 266 334 [l0, l1, .retAddr x, l3] (.retAddr x :: st) h Q := wp_nx rfl
set_option maxRecDepth 20000 in
theorem r266_334 (μ : Bool) (d : Nat) (l1 : Value) (l2 : Value) (l3 : Value) (x : Nat) (st : List Value) (h : Hp) (Q : Po) : wp μ d 266 334 [.ref x, l1, l2, l3] st h Q = wp μ d 266 335 [.ref x, l1, l2, l3] (.ref x :: st) h Q := wp_nx rfl
set_option maxRecDepth 20000 in
theorem r266_334t (μ : Bool) (d : Nat) (l1 : Value) (l2 : Value) (l3 : Value) (x : Nat) (st : List Value) (h : Hp) (Q : Po) : wp μ d 266 334 [.retAddr x, l1, l2, l3] st h Q = wp μ d 266 335 [.retAddr x, l1, l2, l3] (.retAddr x :: st) h Q := wp_nx rfl
set_option maxRecDepth 20000 in
theorem r266_335 (μ : Bool) (d : Nat) (l0 : Value) (l1 : Value) (l2 : Value) (x : Int32) (st : List Value) (h : Hp) (Q : Po) : wp μ d 266 335 [l0, l1, l2, .int x] st h Q = wp μ d 266 336 [l0, l1, l2, .int x] (.int x :: st) h Q := wp_nx rfl
set_option maxRecDepth 20000 in
theorem r266_336 (μ : Bool) (d : Nat) (l0 : Value) (l1 : Value) (l2 : Value) (l3 : Value) (st : List Value) (h : Hp) (Q : Po) : wp μ d 266 336 [l0, l1, l2, l3] st h Q = wp μ d 266 337 [l0, l1, l2, l3] (.int (nI 1) :: st) h Q := (wp_nx rfl).trans (congrArg (fun z => wp μ d 266 337 [l0, l1, l2, l3] (.int z :: st) h Q) (show Int32.ofInt (1) = (nI 1) by decide))
set_option maxRecDepth 20000 in
theorem r266_337 (μ : Bool) (d : Nat) (l0 : Value) (l1 : Value) (l2 : Value) (l3 : Value) (y0 y1 : Int32) (st : List Value) (h : Hp) (Q : Po) : wp μ d 266 337 [l0, l1, l2, l3] (.int y0 :: .int y1 :: st) h Q = wp μ d 266 338 [l0, l1, l2, l3] (.int (y1 + y0) :: st) h Q := wp_nx rfl
set_option maxRecDepth 20000 in
theorem r266_338 (μ : Bool) (d : Nat) (l0 : Value) (l1 : Value) (l2 : Value) (l3 : Value) (y0 : Int32) (y1 : Nat) (st : List Value) (h : Hp) (Q : Po) : wp μ d 266 338 [l0, l1, l2, l3] (.int y0 :: .ref y1 :: st) h Q = (((kdm μ h y1).1 = 20 ∧ vp_in y0 (kdm μ h y1).2) ∧ wp μ d 266 339 [l0, l1, l2, l3] (.int (gI h y1 y0.toNatClampNeg) :: st) h Q) := wp_ck _ rfl
set_option maxRecDepth 20000 in
theorem r266_338t (μ : Bool) (d : Nat) (l0 : Value) (l1 : Value) (l2 : Value) (l3 : Value) (y0 : Int32) (st : List Value) (h : Hp) (Q : Po) : wp μ d 266 338 [l0, l1, l2, l3] (.int y0 :: .retAddr 1 :: st) h Q = (vp_in y0 (hk h 0).2 ∧ wp μ d 266 339 [l0, l1, l2, l3] (.int (gI h 0 y0.toNatClampNeg) :: st) h Q) := wp_ck _ rfl
set_option maxRecDepth 20000 in
theorem r266_339 (μ : Bool) (d : Nat) (l1 : Value) (l2 : Value) (l3 : Value) (x : Nat) (st : List Value) (h : Hp) (Q : Po) : wp μ d 266 339 [.ref x, l1, l2, l3] st h Q = wp μ d 266 340 [.ref x, l1, l2, l3] (.ref x :: st) h Q := wp_nx rfl
set_option maxRecDepth 20000 in
theorem r266_339t (μ : Bool) (d : Nat) (l1 : Value) (l2 : Value) (l3 : Value) (x : Nat) (st : List Value) (h : Hp) (Q : Po) : wp μ d 266 339 [.retAddr x, l1, l2, l3] st h Q = wp μ d 266 340 [.retAddr x, l1, l2, l3] (.retAddr x :: st) h Q := wp_nx rfl
set_option maxRecDepth 20000 in
theorem r266_340 (μ : Bool) (d : Nat) (l0 : Value) (l1 : Value) (l2 : Value) (x : Int32) (st : List Value) (h : Hp) (Q : Po) : wp μ d 266 340 [l0, l1, l2, .int x] st h Q = wp μ d 266 341 [l0, l1, l2, .int x] (.int x :: st) h Q := wp_nx rfl
set_option maxRecDepth 20000 in
theorem r266_341 (μ : Bool) (d : Nat) (l0 : Value) (l1 : Value) (l2 : Value) (l3 : Value) (st : List Value) (h : Hp) (Q : Po) : wp μ d 266 341 [l0, l1, l2, l3] st h Q = wp μ d 266 342 [l0, l1, l2, l3] (.int (nI 2) :: st) h Q := (wp_nx rfl).trans (congrArg (fun z => wp μ d 266 342 [l0, l1, l2, l3] (.int z :: st) h Q) (show Int32.ofInt (2) = (nI 2) by decide))
set_option maxRecDepth 20000 in
theorem r266_342 (μ : Bool) (d : Nat) (l0 : Value) (l1 : Value) (l2 : Value) (l3 : Value) (y0 y1 : Int32) (st : List Value) (h : Hp) (Q : Po) : wp μ d 266 342 [l0, l1, l2, l3] (.int y0 :: .int y1 :: st) h Q = wp μ d 266 343 [l0, l1, l2, l3] (.int (y1 + y0) :: st) h Q := wp_nx rfl
set_option maxRecDepth 20000 in
theorem r266_343 (μ : Bool) (d : Nat) (l0 : Value) (l1 : Value) (l2 : Value) (l3 : Value) (y0 : Int32) (y1 : Nat) (st : List Value) (h : Hp) (Q : Po) : wp μ d 266 343 [l0, l1, l2, l3] (.int y0 :: .ref y1 :: st) h Q = (((kdm μ h y1).1 = 20 ∧ vp_in y0 (kdm μ h y1).2) ∧ wp μ d 266 344 [l0, l1, l2, l3] (.int (gI h y1 y0.toNatClampNeg) :: st) h Q) := wp_ck _ rfl
set_option maxRecDepth 20000 in
theorem r266_343t (μ : Bool) (d : Nat) (l0 : Value) (l1 : Value) (l2 : Value) (l3 : Value) (y0 : Int32) (st : List Value) (h : Hp) (Q : Po) : wp μ d 266 343 [l0, l1, l2, l3] (.int y0 :: .retAddr 1 :: st) h Q = (vp_in y0 (hk h 0).2 ∧ wp μ d 266 344 [l0, l1, l2, l3] (.int (gI h 0 y0.toNatClampNeg) :: st) h Q) := wp_ck _ rfl
set_option maxRecDepth 20000 in
theorem r266_344 (μ : Bool) (d : Nat) (l0 : Value) (l1 : Value) (l2 : Value) (l3 : Value) (y0 : Int32) (y1 : Int32) (y2 : Nat) (y3 : Int32) (h : Hp) (Q : Po) : wp μ (d + 1) 266 344 [l0, l1, l2, l3] [.int y0, .int y1, .ref y2, .int y3] h Q = ((kdm μ h y2).1 = 12 ∧ cwp μ d 166 [.ref y2, .int y1, .int y0] h (fun r h' => wp μ (d + 1) 266 347 [l0, l1, l2, l3] (r.toList ++ [.int y3]) h' Q)) := wp_kc _ True rfl ⟨fun q => by obtain ⟨x, q1, q2⟩ := q.2.2.1 rfl; cases q1; exact q2, fun q => ⟨Nat.le_of_ble_eq_true rfl, ⟨Nat.le_of_ble_eq_true rfl, rfl, Nat.le_of_ble_eq_true rfl⟩, fun _ => ⟨_, rfl, q⟩, fun q9 => absurd q9 (by decide)⟩⟩
set_option maxRecDepth 20000 in
theorem r266_347 (μ : Bool) (d : Nat) (l0 : Value) (l1 : Value) (l2 : Value) (l3 : Value) (y0 y1 : Int32) (st : List Value) (h : Hp) (Q : Po) : wp μ d 266 347 [l0, l1, l2, l3] (.int y0 :: .int y1 :: st) h Q = if y1 = y0 then wp μ d 266 1545 [l0, l1, l2, l3] st h Q else wp μ d 266 350 [l0, l1, l2, l3] st h Q := wp_br (y1 = y0) rfl
set_option maxRecDepth 20000 in
theorem r266_350 (μ : Bool) (d : Nat) (l0 : Value) (l1 : Value) (l2 : Value) (l3 : Value) (st : List Value) (h : Hp) (Q : Po) : wp μ d 266 350 [l0, l1, l2, l3] st h Q = wp μ d 266 351 [l0, l1, l2, l3] (.int (nI 0) :: st) h Q := (wp_nx rfl).trans (congrArg (fun z => wp μ d 266 351 [l0, l1, l2, l3] (.int z :: st) h Q) (show Int32.ofInt (0) = (nI 0) by decide))
set_option maxRecDepth 20000 in
theorem r266_351 (μ : Bool) (d : Nat) (l0 : Value) (l1 : Value) (l2 : Value) (l3 : Value) (y0 : Int32) (h : Hp) (Q : Po) : wp μ d 266 351 [l0, l1, l2, l3] [.int y0] h Q = ((y0 = nI 0 ∨ y0 = nI 1) ∧ Q (some (.int y0)) h) := (wp_rc _ rfl).trans (by rw [show retOk (rM 266) y0 = (narrow .boolean (.int y0) = .int y0) from rfl, nz_iff]; rfl)
set_option maxRecDepth 20000 in
theorem r266_352 (μ : Bool) (d : Nat) (l0 : Value) (l2 : Value) (l3 : Value) (x : Nat) (st : List Value) (h : Hp) (Q : Po) : wp μ d 266 352 [l0, .ref x, l2, l3] st h Q = wp μ d 266 353 [l0, .ref x, l2, l3] (.ref x :: st) h Q := wp_nx rfl
set_option maxRecDepth 20000 in
theorem r266_352n (μ : Bool) (d : Nat) (l0 : Value) (l2 : Value) (l3 : Value) (st : List Value) (h : Hp) (Q : Po) : wp μ d 266 352 [l0, .null, l2, l3] st h Q = wp μ d 266 353 [l0, .null, l2, l3] (.null :: st) h Q := wp_nx rfl
set_option maxRecDepth 20000 in
theorem r266_352t (μ : Bool) (d : Nat) (l0 : Value) (l2 : Value) (l3 : Value) (x : Nat) (st : List Value) (h : Hp) (Q : Po) : wp μ d 266 352 [l0, .retAddr x, l2, l3] st h Q = wp μ d 266 353 [l0, .retAddr x, l2, l3] (.retAddr x :: st) h Q := wp_nx rfl
set_option maxRecDepth 20000 in
theorem r266_353 (μ : Bool) (d : Nat) (l1 : Value) (l2 : Value) (l3 : Value) (x : Nat) (st : List Value) (h : Hp) (Q : Po) : wp μ d 266 353 [.ref x, l1, l2, l3] st h Q = wp μ d 266 354 [.ref x, l1, l2, l3] (.ref x :: st) h Q := wp_nx rfl
set_option maxRecDepth 20000 in
theorem r266_353t (μ : Bool) (d : Nat) (l1 : Value) (l2 : Value) (l3 : Value) (x : Nat) (st : List Value) (h : Hp) (Q : Po) : wp μ d 266 353 [.retAddr x, l1, l2, l3] st h Q = wp μ d 266 354 [.retAddr x, l1, l2, l3] (.retAddr x :: st) h Q := wp_nx rfl
set_option maxRecDepth 20000 in
theorem r266_354 (μ : Bool) (d : Nat) (l0 : Value) (l1 : Value) (l2 : Value) (x : Int32) (st : List Value) (h : Hp) (Q : Po) : wp μ d 266 354 [l0, l1, l2, .int x] st h Q = wp μ d 266 355 [l0, l1, l2, .int x] (.int x :: st) h Q := wp_nx rfl
set_option maxRecDepth 20000 in
theorem r266_355 (μ : Bool) (d : Nat) (l0 : Value) (l1 : Value) (l2 : Value) (l3 : Value) (st : List Value) (h : Hp) (Q : Po) : wp μ d 266 355 [l0, l1, l2, l3] st h Q = wp μ d 266 356 [l0, l1, l2, l3] (.int (nI 1) :: st) h Q := (wp_nx rfl).trans (congrArg (fun z => wp μ d 266 356 [l0, l1, l2, l3] (.int z :: st) h Q) (show Int32.ofInt (1) = (nI 1) by decide))
set_option maxRecDepth 20000 in
theorem r266_356 (μ : Bool) (d : Nat) (l0 : Value) (l1 : Value) (l2 : Value) (l3 : Value) (y0 y1 : Int32) (st : List Value) (h : Hp) (Q : Po) : wp μ d 266 356 [l0, l1, l2, l3] (.int y0 :: .int y1 :: st) h Q = wp μ d 266 357 [l0, l1, l2, l3] (.int (y1 + y0) :: st) h Q := wp_nx rfl
set_option maxRecDepth 20000 in
theorem r266_357 (μ : Bool) (d : Nat) (l0 : Value) (l1 : Value) (l2 : Value) (l3 : Value) (y0 : Int32) (y1 : Nat) (st : List Value) (h : Hp) (Q : Po) : wp μ d 266 357 [l0, l1, l2, l3] (.int y0 :: .ref y1 :: st) h Q = (((kdm μ h y1).1 = 20 ∧ vp_in y0 (kdm μ h y1).2) ∧ wp μ d 266 358 [l0, l1, l2, l3] (.int (gI h y1 y0.toNatClampNeg) :: st) h Q) := wp_ck _ rfl
set_option maxRecDepth 20000 in
theorem r266_357t (μ : Bool) (d : Nat) (l0 : Value) (l1 : Value) (l2 : Value) (l3 : Value) (y0 : Int32) (st : List Value) (h : Hp) (Q : Po) : wp μ d 266 357 [l0, l1, l2, l3] (.int y0 :: .retAddr 1 :: st) h Q = (vp_in y0 (hk h 0).2 ∧ wp μ d 266 358 [l0, l1, l2, l3] (.int (gI h 0 y0.toNatClampNeg) :: st) h Q) := wp_ck _ rfl
set_option maxRecDepth 20000 in
theorem r266_358 (μ : Bool) (d : Nat) (l1 : Value) (l2 : Value) (l3 : Value) (x : Nat) (st : List Value) (h : Hp) (Q : Po) : wp μ d 266 358 [.ref x, l1, l2, l3] st h Q = wp μ d 266 359 [.ref x, l1, l2, l3] (.ref x :: st) h Q := wp_nx rfl
set_option maxRecDepth 20000 in
theorem r266_358t (μ : Bool) (d : Nat) (l1 : Value) (l2 : Value) (l3 : Value) (x : Nat) (st : List Value) (h : Hp) (Q : Po) : wp μ d 266 358 [.retAddr x, l1, l2, l3] st h Q = wp μ d 266 359 [.retAddr x, l1, l2, l3] (.retAddr x :: st) h Q := wp_nx rfl
set_option maxRecDepth 20000 in
theorem r266_359 (μ : Bool) (d : Nat) (l0 : Value) (l1 : Value) (l2 : Value) (x : Int32) (st : List Value) (h : Hp) (Q : Po) : wp μ d 266 359 [l0, l1, l2, .int x] st h Q = wp μ d 266 360 [l0, l1, l2, .int x] (.int x :: st) h Q := wp_nx rfl
set_option maxRecDepth 20000 in
theorem r266_360 (μ : Bool) (d : Nat) (l0 : Value) (l1 : Value) (l2 : Value) (l3 : Value) (st : List Value) (h : Hp) (Q : Po) : wp μ d 266 360 [l0, l1, l2, l3] st h Q = wp μ d 266 361 [l0, l1, l2, l3] (.int (nI 2) :: st) h Q := (wp_nx rfl).trans (congrArg (fun z => wp μ d 266 361 [l0, l1, l2, l3] (.int z :: st) h Q) (show Int32.ofInt (2) = (nI 2) by decide))
set_option maxRecDepth 20000 in
theorem r266_361 (μ : Bool) (d : Nat) (l0 : Value) (l1 : Value) (l2 : Value) (l3 : Value) (y0 y1 : Int32) (st : List Value) (h : Hp) (Q : Po) : wp μ d 266 361 [l0, l1, l2, l3] (.int y0 :: .int y1 :: st) h Q = wp μ d 266 362 [l0, l1, l2, l3] (.int (y1 + y0) :: st) h Q := wp_nx rfl
set_option maxRecDepth 20000 in
theorem r266_362 (μ : Bool) (d : Nat) (l0 : Value) (l1 : Value) (l2 : Value) (l3 : Value) (y0 : Int32) (y1 : Nat) (st : List Value) (h : Hp) (Q : Po) : wp μ d 266 362 [l0, l1, l2, l3] (.int y0 :: .ref y1 :: st) h Q = (((kdm μ h y1).1 = 20 ∧ vp_in y0 (kdm μ h y1).2) ∧ wp μ d 266 363 [l0, l1, l2, l3] (.int (gI h y1 y0.toNatClampNeg) :: st) h Q) := wp_ck _ rfl
set_option maxRecDepth 20000 in
theorem r266_362t (μ : Bool) (d : Nat) (l0 : Value) (l1 : Value) (l2 : Value) (l3 : Value) (y0 : Int32) (st : List Value) (h : Hp) (Q : Po) : wp μ d 266 362 [l0, l1, l2, l3] (.int y0 :: .retAddr 1 :: st) h Q = (vp_in y0 (hk h 0).2 ∧ wp μ d 266 363 [l0, l1, l2, l3] (.int (gI h 0 y0.toNatClampNeg) :: st) h Q) := wp_ck _ rfl
set_option maxRecDepth 20000 in
theorem r266_363 (μ : Bool) (d : Nat) (l1 : Value) (l2 : Value) (l3 : Value) (x : Nat) (st : List Value) (h : Hp) (Q : Po) : wp μ d 266 363 [.ref x, l1, l2, l3] st h Q = wp μ d 266 364 [.ref x, l1, l2, l3] (.ref x :: st) h Q := wp_nx rfl
set_option maxRecDepth 20000 in
theorem r266_363t (μ : Bool) (d : Nat) (l1 : Value) (l2 : Value) (l3 : Value) (x : Nat) (st : List Value) (h : Hp) (Q : Po) : wp μ d 266 363 [.retAddr x, l1, l2, l3] st h Q = wp μ d 266 364 [.retAddr x, l1, l2, l3] (.retAddr x :: st) h Q := wp_nx rfl
set_option maxRecDepth 20000 in
theorem r266_364 (μ : Bool) (d : Nat) (l0 : Value) (l1 : Value) (l2 : Value) (x : Int32) (st : List Value) (h : Hp) (Q : Po) : wp μ d 266 364 [l0, l1, l2, .int x] st h Q = wp μ d 266 365 [l0, l1, l2, .int x] (.int x :: st) h Q := wp_nx rfl
set_option maxRecDepth 20000 in
theorem r266_365 (μ : Bool) (d : Nat) (l0 : Value) (l1 : Value) (l2 : Value) (l3 : Value) (st : List Value) (h : Hp) (Q : Po) : wp μ d 266 365 [l0, l1, l2, l3] st h Q = wp μ d 266 366 [l0, l1, l2, l3] (.int (nI 3) :: st) h Q := (wp_nx rfl).trans (congrArg (fun z => wp μ d 266 366 [l0, l1, l2, l3] (.int z :: st) h Q) (show Int32.ofInt (3) = (nI 3) by decide))
set_option maxRecDepth 20000 in
theorem r266_366 (μ : Bool) (d : Nat) (l0 : Value) (l1 : Value) (l2 : Value) (l3 : Value) (y0 y1 : Int32) (st : List Value) (h : Hp) (Q : Po) : wp μ d 266 366 [l0, l1, l2, l3] (.int y0 :: .int y1 :: st) h Q = wp μ d 266 367 [l0, l1, l2, l3] (.int (y1 + y0) :: st) h Q := wp_nx rfl
set_option maxRecDepth 20000 in
theorem r266_367 (μ : Bool) (d : Nat) (l0 : Value) (l1 : Value) (l2 : Value) (l3 : Value) (y0 : Int32) (y1 : Nat) (st : List Value) (h : Hp) (Q : Po) : wp μ d 266 367 [l0, l1, l2, l3] (.int y0 :: .ref y1 :: st) h Q = (((kdm μ h y1).1 = 20 ∧ vp_in y0 (kdm μ h y1).2) ∧ wp μ d 266 368 [l0, l1, l2, l3] (.int (gI h y1 y0.toNatClampNeg) :: st) h Q) := wp_ck _ rfl
set_option maxRecDepth 20000 in
theorem r266_367t (μ : Bool) (d : Nat) (l0 : Value) (l1 : Value) (l2 : Value) (l3 : Value) (y0 : Int32) (st : List Value) (h : Hp) (Q : Po) : wp μ d 266 367 [l0, l1, l2, l3] (.int y0 :: .retAddr 1 :: st) h Q = (vp_in y0 (hk h 0).2 ∧ wp μ d 266 368 [l0, l1, l2, l3] (.int (gI h 0 y0.toNatClampNeg) :: st) h Q) := wp_ck _ rfl
set_option maxRecDepth 20000 in
theorem r266_368 (μ : Bool) (d : Nat) (l1 : Value) (l2 : Value) (l3 : Value) (x : Nat) (st : List Value) (h : Hp) (Q : Po) : wp μ d 266 368 [.ref x, l1, l2, l3] st h Q = wp μ d 266 369 [.ref x, l1, l2, l3] (.ref x :: st) h Q := wp_nx rfl
set_option maxRecDepth 20000 in
theorem r266_368t (μ : Bool) (d : Nat) (l1 : Value) (l2 : Value) (l3 : Value) (x : Nat) (st : List Value) (h : Hp) (Q : Po) : wp μ d 266 368 [.retAddr x, l1, l2, l3] st h Q = wp μ d 266 369 [.retAddr x, l1, l2, l3] (.retAddr x :: st) h Q := wp_nx rfl
set_option maxRecDepth 20000 in
theorem r266_369 (μ : Bool) (d : Nat) (l0 : Value) (l1 : Value) (l2 : Value) (x : Int32) (st : List Value) (h : Hp) (Q : Po) : wp μ d 266 369 [l0, l1, l2, .int x] st h Q = wp μ d 266 370 [l0, l1, l2, .int x] (.int x :: st) h Q := wp_nx rfl
set_option maxRecDepth 20000 in
theorem r266_370 (μ : Bool) (d : Nat) (l0 : Value) (l1 : Value) (l2 : Value) (l3 : Value) (st : List Value) (h : Hp) (Q : Po) : wp μ d 266 370 [l0, l1, l2, l3] st h Q = wp μ d 266 371 [l0, l1, l2, l3] (.int (nI 4) :: st) h Q := (wp_nx rfl).trans (congrArg (fun z => wp μ d 266 371 [l0, l1, l2, l3] (.int z :: st) h Q) (show Int32.ofInt (4) = (nI 4) by decide))
set_option maxRecDepth 20000 in
theorem r266_371 (μ : Bool) (d : Nat) (l0 : Value) (l1 : Value) (l2 : Value) (l3 : Value) (y0 y1 : Int32) (st : List Value) (h : Hp) (Q : Po) : wp μ d 266 371 [l0, l1, l2, l3] (.int y0 :: .int y1 :: st) h Q = wp μ d 266 372 [l0, l1, l2, l3] (.int (y1 + y0) :: st) h Q := wp_nx rfl
set_option maxRecDepth 20000 in
theorem r266_372 (μ : Bool) (d : Nat) (l0 : Value) (l1 : Value) (l2 : Value) (l3 : Value) (y0 : Int32) (y1 : Nat) (st : List Value) (h : Hp) (Q : Po) : wp μ d 266 372 [l0, l1, l2, l3] (.int y0 :: .ref y1 :: st) h Q = (((kdm μ h y1).1 = 20 ∧ vp_in y0 (kdm μ h y1).2) ∧ wp μ d 266 373 [l0, l1, l2, l3] (.int (gI h y1 y0.toNatClampNeg) :: st) h Q) := wp_ck _ rfl
set_option maxRecDepth 20000 in
theorem r266_372t (μ : Bool) (d : Nat) (l0 : Value) (l1 : Value) (l2 : Value) (l3 : Value) (y0 : Int32) (st : List Value) (h : Hp) (Q : Po) : wp μ d 266 372 [l0, l1, l2, l3] (.int y0 :: .retAddr 1 :: st) h Q = (vp_in y0 (hk h 0).2 ∧ wp μ d 266 373 [l0, l1, l2, l3] (.int (gI h 0 y0.toNatClampNeg) :: st) h Q) := wp_ck _ rfl
set_option maxRecDepth 20000 in
theorem r266_373 (μ : Bool) (d : Nat) (l1 : Value) (l2 : Value) (l3 : Value) (x : Nat) (st : List Value) (h : Hp) (Q : Po) : wp μ d 266 373 [.ref x, l1, l2, l3] st h Q = wp μ d 266 374 [.ref x, l1, l2, l3] (.ref x :: st) h Q := wp_nx rfl
set_option maxRecDepth 20000 in
theorem r266_373t (μ : Bool) (d : Nat) (l1 : Value) (l2 : Value) (l3 : Value) (x : Nat) (st : List Value) (h : Hp) (Q : Po) : wp μ d 266 373 [.retAddr x, l1, l2, l3] st h Q = wp μ d 266 374 [.retAddr x, l1, l2, l3] (.retAddr x :: st) h Q := wp_nx rfl
set_option maxRecDepth 20000 in
theorem r266_374 (μ : Bool) (d : Nat) (l0 : Value) (l1 : Value) (l2 : Value) (x : Int32) (st : List Value) (h : Hp) (Q : Po) : wp μ d 266 374 [l0, l1, l2, .int x] st h Q = wp μ d 266 375 [l0, l1, l2, .int x] (.int x :: st) h Q := wp_nx rfl
set_option maxRecDepth 20000 in
theorem r266_375 (μ : Bool) (d : Nat) (l0 : Value) (l1 : Value) (l2 : Value) (l3 : Value) (st : List Value) (h : Hp) (Q : Po) : wp μ d 266 375 [l0, l1, l2, l3] st h Q = wp μ d 266 376 [l0, l1, l2, l3] (.int (nI 5) :: st) h Q := (wp_nx rfl).trans (congrArg (fun z => wp μ d 266 376 [l0, l1, l2, l3] (.int z :: st) h Q) (show Int32.ofInt (5) = (nI 5) by decide))
set_option maxRecDepth 20000 in
theorem r266_376 (μ : Bool) (d : Nat) (l0 : Value) (l1 : Value) (l2 : Value) (l3 : Value) (y0 y1 : Int32) (st : List Value) (h : Hp) (Q : Po) : wp μ d 266 376 [l0, l1, l2, l3] (.int y0 :: .int y1 :: st) h Q = wp μ d 266 377 [l0, l1, l2, l3] (.int (y1 + y0) :: st) h Q := wp_nx rfl
set_option maxRecDepth 20000 in
theorem r266_377 (μ : Bool) (d : Nat) (l0 : Value) (l1 : Value) (l2 : Value) (l3 : Value) (y0 : Int32) (y1 : Nat) (st : List Value) (h : Hp) (Q : Po) : wp μ d 266 377 [l0, l1, l2, l3] (.int y0 :: .ref y1 :: st) h Q = (((kdm μ h y1).1 = 20 ∧ vp_in y0 (kdm μ h y1).2) ∧ wp μ d 266 378 [l0, l1, l2, l3] (.int (gI h y1 y0.toNatClampNeg) :: st) h Q) := wp_ck _ rfl
set_option maxRecDepth 20000 in
theorem r266_377t (μ : Bool) (d : Nat) (l0 : Value) (l1 : Value) (l2 : Value) (l3 : Value) (y0 : Int32) (st : List Value) (h : Hp) (Q : Po) : wp μ d 266 377 [l0, l1, l2, l3] (.int y0 :: .retAddr 1 :: st) h Q = (vp_in y0 (hk h 0).2 ∧ wp μ d 266 378 [l0, l1, l2, l3] (.int (gI h 0 y0.toNatClampNeg) :: st) h Q) := wp_ck _ rfl
set_option maxRecDepth 20000 in
theorem r266_378 (μ : Bool) (d : Nat) (l0 : Value) (l1 : Value) (l2 : Value) (l3 : Value) (y0 : Int32) (y1 : Int32) (y2 : Int32) (y3 : Int32) (y4 : Int32) (y5 : Nat) (h : Hp) (Q : Po) : wp μ (d + 1) 266 378 [l0, l1, l2, l3] [.int y0, .int y1, .int y2, .int y3, .int y4, .ref y5] h Q = ((kdm μ h y5).1 = 11 ∧ cwp μ d 91 [.ref y5, .int y4, .int y3, .int y2, .int y1, .int y0] h (fun r h' => wp μ (d + 1) 266 381 [l0, l1, l2, l3] (r.toList ++ []) h' Q)) := wp_kc _ True rfl ⟨fun q => by obtain ⟨x, q1, q2⟩ := q.2.2.1 rfl; cases q1; exact q2, fun q => ⟨Nat.le_of_ble_eq_true rfl, ⟨Nat.le_of_ble_eq_true rfl, rfl, Nat.le_of_ble_eq_true rfl⟩, fun _ => ⟨_, rfl, q⟩, fun q9 => absurd q9 (by decide)⟩⟩
set_option maxRecDepth 20000 in
theorem r266_381 (μ : Bool) (d : Nat) (l0 : Value) (l1 : Value) (l3 : Value) (x : Nat) (st : List Value) (h : Hp) (Q : Po) : wp μ d 266 381 [l0, l1, .ref x, l3] st h Q = wp μ d 266 382 [l0, l1, .ref x, l3] (.ref x :: st) h Q := wp_nx rfl
set_option maxRecDepth 20000 in
theorem r266_381n (μ : Bool) (d : Nat) (l0 : Value) (l1 : Value) (l3 : Value) (st : List Value) (h : Hp) (Q : Po) : wp μ d 266 381 [l0, l1, .null, l3] st h Q = wp μ d 266 382 [l0, l1, .null, l3] (.null :: st) h Q := wp_nx rfl
set_option maxRecDepth 20000 in
theorem r266_381t (μ : Bool) (d : Nat) (l0 : Value) (l1 : Value) (l3 : Value) (x : Nat) (st : List Value) (h : Hp) (Q : Po) : wp μ d 266 381 [l0, l1, .retAddr x, l3] st h Q = wp μ d 266 382 [l0, l1, .retAddr x, l3] (.retAddr x :: st) h Q := wp_nx rfl
set_option maxRecDepth 20000 in
theorem r266_382 (μ : Bool) (d : Nat) (l1 : Value) (l2 : Value) (l3 : Value) (x : Nat) (st : List Value) (h : Hp) (Q : Po) : wp μ d 266 382 [.ref x, l1, l2, l3] st h Q = wp μ d 266 383 [.ref x, l1, l2, l3] (.ref x :: st) h Q := wp_nx rfl
set_option maxRecDepth 20000 in
theorem r266_382t (μ : Bool) (d : Nat) (l1 : Value) (l2 : Value) (l3 : Value) (x : Nat) (st : List Value) (h : Hp) (Q : Po) : wp μ d 266 382 [.retAddr x, l1, l2, l3] st h Q = wp μ d 266 383 [.retAddr x, l1, l2, l3] (.retAddr x :: st) h Q := wp_nx rfl
set_option maxRecDepth 20000 in
theorem r266_383 (μ : Bool) (d : Nat) (l0 : Value) (l1 : Value) (l2 : Value) (x : Int32) (st : List Value) (h : Hp) (Q : Po) : wp μ d 266 383 [l0, l1, l2, .int x] st h Q = wp μ d 266 384 [l0, l1, l2, .int x] (.int x :: st) h Q := wp_nx rfl
set_option maxRecDepth 20000 in
theorem r266_384 (μ : Bool) (d : Nat) (l0 : Value) (l1 : Value) (l2 : Value) (l3 : Value) (st : List Value) (h : Hp) (Q : Po) : wp μ d 266 384 [l0, l1, l2, l3] st h Q = wp μ d 266 385 [l0, l1, l2, l3] (.int (nI 1) :: st) h Q := (wp_nx rfl).trans (congrArg (fun z => wp μ d 266 385 [l0, l1, l2, l3] (.int z :: st) h Q) (show Int32.ofInt (1) = (nI 1) by decide))
set_option maxRecDepth 20000 in
theorem r266_385 (μ : Bool) (d : Nat) (l0 : Value) (l1 : Value) (l2 : Value) (l3 : Value) (y0 y1 : Int32) (st : List Value) (h : Hp) (Q : Po) : wp μ d 266 385 [l0, l1, l2, l3] (.int y0 :: .int y1 :: st) h Q = wp μ d 266 386 [l0, l1, l2, l3] (.int (y1 + y0) :: st) h Q := wp_nx rfl
set_option maxRecDepth 20000 in
theorem r266_386 (μ : Bool) (d : Nat) (l0 : Value) (l1 : Value) (l2 : Value) (l3 : Value) (y0 : Int32) (y1 : Nat) (st : List Value) (h : Hp) (Q : Po) : wp μ d 266 386 [l0, l1, l2, l3] (.int y0 :: .ref y1 :: st) h Q = (((kdm μ h y1).1 = 20 ∧ vp_in y0 (kdm μ h y1).2) ∧ wp μ d 266 387 [l0, l1, l2, l3] (.int (gI h y1 y0.toNatClampNeg) :: st) h Q) := wp_ck _ rfl
set_option maxRecDepth 20000 in
theorem r266_386t (μ : Bool) (d : Nat) (l0 : Value) (l1 : Value) (l2 : Value) (l3 : Value) (y0 : Int32) (st : List Value) (h : Hp) (Q : Po) : wp μ d 266 386 [l0, l1, l2, l3] (.int y0 :: .retAddr 1 :: st) h Q = (vp_in y0 (hk h 0).2 ∧ wp μ d 266 387 [l0, l1, l2, l3] (.int (gI h 0 y0.toNatClampNeg) :: st) h Q) := wp_ck _ rfl
set_option maxRecDepth 20000 in
theorem r266_387 (μ : Bool) (d : Nat) (l1 : Value) (l2 : Value) (l3 : Value) (x : Nat) (st : List Value) (h : Hp) (Q : Po) : wp μ d 266 387 [.ref x, l1, l2, l3] st h Q = wp μ d 266 388 [.ref x, l1, l2, l3] (.ref x :: st) h Q := wp_nx rfl
set_option maxRecDepth 20000 in
theorem r266_387t (μ : Bool) (d : Nat) (l1 : Value) (l2 : Value) (l3 : Value) (x : Nat) (st : List Value) (h : Hp) (Q : Po) : wp μ d 266 387 [.retAddr x, l1, l2, l3] st h Q = wp μ d 266 388 [.retAddr x, l1, l2, l3] (.retAddr x :: st) h Q := wp_nx rfl
set_option maxRecDepth 20000 in
theorem r266_388 (μ : Bool) (d : Nat) (l0 : Value) (l1 : Value) (l2 : Value) (x : Int32) (st : List Value) (h : Hp) (Q : Po) : wp μ d 266 388 [l0, l1, l2, .int x] st h Q = wp μ d 266 389 [l0, l1, l2, .int x] (.int x :: st) h Q := wp_nx rfl
set_option maxRecDepth 20000 in
theorem r266_389 (μ : Bool) (d : Nat) (l0 : Value) (l1 : Value) (l2 : Value) (l3 : Value) (st : List Value) (h : Hp) (Q : Po) : wp μ d 266 389 [l0, l1, l2, l3] st h Q = wp μ d 266 390 [l0, l1, l2, l3] (.int (nI 2) :: st) h Q := (wp_nx rfl).trans (congrArg (fun z => wp μ d 266 390 [l0, l1, l2, l3] (.int z :: st) h Q) (show Int32.ofInt (2) = (nI 2) by decide))
set_option maxRecDepth 20000 in
theorem r266_390 (μ : Bool) (d : Nat) (l0 : Value) (l1 : Value) (l2 : Value) (l3 : Value) (y0 y1 : Int32) (st : List Value) (h : Hp) (Q : Po) : wp μ d 266 390 [l0, l1, l2, l3] (.int y0 :: .int y1 :: st) h Q = wp μ d 266 391 [l0, l1, l2, l3] (.int (y1 + y0) :: st) h Q := wp_nx rfl
set_option maxRecDepth 20000 in
theorem r266_391 (μ : Bool) (d : Nat) (l0 : Value) (l1 : Value) (l2 : Value) (l3 : Value) (y0 : Int32) (y1 : Nat) (st : List Value) (h : Hp) (Q : Po) : wp μ d 266 391 [l0, l1, l2, l3] (.int y0 :: .ref y1 :: st) h Q = (((kdm μ h y1).1 = 20 ∧ vp_in y0 (kdm μ h y1).2) ∧ wp μ d 266 392 [l0, l1, l2, l3] (.int (gI h y1 y0.toNatClampNeg) :: st) h Q) := wp_ck _ rfl
set_option maxRecDepth 20000 in
theorem r266_391t (μ : Bool) (d : Nat) (l0 : Value) (l1 : Value) (l2 : Value) (l3 : Value) (y0 : Int32) (st : List Value) (h : Hp) (Q : Po) : wp μ d 266 391 [l0, l1, l2, l3] (.int y0 :: .retAddr 1 :: st) h Q = (vp_in y0 (hk h 0).2 ∧ wp μ d 266 392 [l0, l1, l2, l3] (.int (gI h 0 y0.toNatClampNeg) :: st) h Q) := wp_ck _ rfl
set_option maxRecDepth 20000 in
theorem r266_392 (μ : Bool) (d : Nat) (l1 : Value) (l2 : Value) (l3 : Value) (x : Nat) (st : List Value) (h : Hp) (Q : Po) : wp μ d 266 392 [.ref x, l1, l2, l3] st h Q = wp μ d 266 393 [.ref x, l1, l2, l3] (.ref x :: st) h Q := wp_nx rfl
set_option maxRecDepth 20000 in
theorem r266_392t (μ : Bool) (d : Nat) (l1 : Value) (l2 : Value) (l3 : Value) (x : Nat) (st : List Value) (h : Hp) (Q : Po) : wp μ d 266 392 [.retAddr x, l1, l2, l3] st h Q = wp μ d 266 393 [.retAddr x, l1, l2, l3] (.retAddr x :: st) h Q := wp_nx rfl
set_option maxRecDepth 20000 in
theorem r266_393 (μ : Bool) (d : Nat) (l0 : Value) (l1 : Value) (l2 : Value) (x : Int32) (st : List Value) (h : Hp) (Q : Po) : wp μ d 266 393 [l0, l1, l2, .int x] st h Q = wp μ d 266 394 [l0, l1, l2, .int x] (.int x :: st) h Q := wp_nx rfl
set_option maxRecDepth 20000 in
theorem r266_394 (μ : Bool) (d : Nat) (l0 : Value) (l1 : Value) (l2 : Value) (l3 : Value) (st : List Value) (h : Hp) (Q : Po) : wp μ d 266 394 [l0, l1, l2, l3] st h Q = wp μ d 266 395 [l0, l1, l2, l3] (.int (nI 3) :: st) h Q := (wp_nx rfl).trans (congrArg (fun z => wp μ d 266 395 [l0, l1, l2, l3] (.int z :: st) h Q) (show Int32.ofInt (3) = (nI 3) by decide))
set_option maxRecDepth 20000 in
theorem r266_395 (μ : Bool) (d : Nat) (l0 : Value) (l1 : Value) (l2 : Value) (l3 : Value) (y0 y1 : Int32) (st : List Value) (h : Hp) (Q : Po) : wp μ d 266 395 [l0, l1, l2, l3] (.int y0 :: .int y1 :: st) h Q = wp μ d 266 396 [l0, l1, l2, l3] (.int (y1 + y0) :: st) h Q := wp_nx rfl
set_option maxRecDepth 20000 in
theorem r266_396 (μ : Bool) (d : Nat) (l0 : Value) (l1 : Value) (l2 : Value) (l3 : Value) (y0 : Int32) (y1 : Nat) (st : List Value) (h : Hp) (Q : Po) : wp μ d 266 396 [l0, l1, l2, l3] (.int y0 :: .ref y1 :: st) h Q = (((kdm μ h y1).1 = 20 ∧ vp_in y0 (kdm μ h y1).2) ∧ wp μ d 266 397 [l0, l1, l2, l3] (.int (gI h y1 y0.toNatClampNeg) :: st) h Q) := wp_ck _ rfl
set_option maxRecDepth 20000 in
theorem r266_396t (μ : Bool) (d : Nat) (l0 : Value) (l1 : Value) (l2 : Value) (l3 : Value) (y0 : Int32) (st : List Value) (h : Hp) (Q : Po) : wp μ d 266 396 [l0, l1, l2, l3] (.int y0 :: .retAddr 1 :: st) h Q = (vp_in y0 (hk h 0).2 ∧ wp μ d 266 397 [l0, l1, l2, l3] (.int (gI h 0 y0.toNatClampNeg) :: st) h Q) := wp_ck _ rfl
set_option maxRecDepth 20000 in
theorem r266_397 (μ : Bool) (d : Nat) (l1 : Value) (l2 : Value) (l3 : Value) (x : Nat) (st : List Value) (h : Hp) (Q : Po) : wp μ d 266 397 [.ref x, l1, l2, l3] st h Q = wp μ d 266 398 [.ref x, l1, l2, l3] (.ref x :: st) h Q := wp_nx rfl
set_option maxRecDepth 20000 in
theorem r266_397t (μ : Bool) (d : Nat) (l1 : Value) (l2 : Value) (l3 : Value) (x : Nat) (st : List Value) (h : Hp) (Q : Po) : wp μ d 266 397 [.retAddr x, l1, l2, l3] st h Q = wp μ d 266 398 [.retAddr x, l1, l2, l3] (.retAddr x :: st) h Q := wp_nx rfl
set_option maxRecDepth 20000 in
theorem r266_398 (μ : Bool) (d : Nat) (l0 : Value) (l1 : Value) (l2 : Value) (x : Int32) (st : List Value) (h : Hp) (Q : Po) : wp μ d 266 398 [l0, l1, l2, .int x] st h Q = wp μ d 266 399 [l0, l1, l2, .int x] (.int x :: st) h Q := wp_nx rfl
set_option maxRecDepth 20000 in
theorem r266_399 (μ : Bool) (d : Nat) (l0 : Value) (l1 : Value) (l2 : Value) (l3 : Value) (st : List Value) (h : Hp) (Q : Po) : wp μ d 266 399 [l0, l1, l2, l3] st h Q = wp μ d 266 400 [l0, l1, l2, l3] (.int (nI 4) :: st) h Q := (wp_nx rfl).trans (congrArg (fun z => wp μ d 266 400 [l0, l1, l2, l3] (.int z :: st) h Q) (show Int32.ofInt (4) = (nI 4) by decide))
set_option maxRecDepth 20000 in
theorem r266_400 (μ : Bool) (d : Nat) (l0 : Value) (l1 : Value) (l2 : Value) (l3 : Value) (y0 y1 : Int32) (st : List Value) (h : Hp) (Q : Po) : wp μ d 266 400 [l0, l1, l2, l3] (.int y0 :: .int y1 :: st) h Q = wp μ d 266 401 [l0, l1, l2, l3] (.int (y1 + y0) :: st) h Q := wp_nx rfl
set_option maxRecDepth 20000 in
theorem r266_401 (μ : Bool) (d : Nat) (l0 : Value) (l1 : Value) (l2 : Value) (l3 : Value) (y0 : Int32) (y1 : Nat) (st : List Value) (h : Hp) (Q : Po) : wp μ d 266 401 [l0, l1, l2, l3] (.int y0 :: .ref y1 :: st) h Q = (((kdm μ h y1).1 = 20 ∧ vp_in y0 (kdm μ h y1).2) ∧ wp μ d 266 402 [l0, l1, l2, l3] (.int (gI h y1 y0.toNatClampNeg) :: st) h Q) := wp_ck _ rfl
set_option maxRecDepth 20000 in
theorem r266_401t (μ : Bool) (d : Nat) (l0 : Value) (l1 : Value) (l2 : Value) (l3 : Value) (y0 : Int32) (st : List Value) (h : Hp) (Q : Po) : wp μ d 266 401 [l0, l1, l2, l3] (.int y0 :: .retAddr 1 :: st) h Q = (vp_in y0 (hk h 0).2 ∧ wp μ d 266 402 [l0, l1, l2, l3] (.int (gI h 0 y0.toNatClampNeg) :: st) h Q) := wp_ck _ rfl
set_option maxRecDepth 20000 in
theorem r266_402 (μ : Bool) (d : Nat) (l1 : Value) (l2 : Value) (l3 : Value) (x : Nat) (st : List Value) (h : Hp) (Q : Po) : wp μ d 266 402 [.ref x, l1, l2, l3] st h Q = wp μ d 266 403 [.ref x, l1, l2, l3] (.ref x :: st) h Q := wp_nx rfl
set_option maxRecDepth 20000 in
theorem r266_402t (μ : Bool) (d : Nat) (l1 : Value) (l2 : Value) (l3 : Value) (x : Nat) (st : List Value) (h : Hp) (Q : Po) : wp μ d 266 402 [.retAddr x, l1, l2, l3] st h Q = wp μ d 266 403 [.retAddr x, l1, l2, l3] (.retAddr x :: st) h Q := wp_nx rfl
set_option maxRecDepth 20000 in
theorem r266_403 (μ : Bool) (d : Nat) (l0 : Value) (l1 : Value) (l2 : Value) (x : Int32) (st : List Value) (h : Hp) (Q : Po) : wp μ d 266 403 [l0, l1, l2, .int x] st h Q = wp μ d 266 404 [l0, l1, l2, .int x] (.int x :: st) h Q := wp_nx rfl
set_option maxRecDepth 20000 in
theorem r266_404 (μ : Bool) (d : Nat) (l0 : Value) (l1 : Value) (l2 : Value) (l3 : Value) (st : List Value) (h : Hp) (Q : Po) : wp μ d 266 404 [l0, l1, l2, l3] st h Q = wp μ d 266 405 [l0, l1, l2, l3] (.int (nI 5) :: st) h Q := (wp_nx rfl).trans (congrArg (fun z => wp μ d 266 405 [l0, l1, l2, l3] (.int z :: st) h Q) (show Int32.ofInt (5) = (nI 5) by decide))
set_option maxRecDepth 20000 in
theorem r266_405 (μ : Bool) (d : Nat) (l0 : Value) (l1 : Value) (l2 : Value) (l3 : Value) (y0 y1 : Int32) (st : List Value) (h : Hp) (Q : Po) : wp μ d 266 405 [l0, l1, l2, l3] (.int y0 :: .int y1 :: st) h Q = wp μ d 266 406 [l0, l1, l2, l3] (.int (y1 + y0) :: st) h Q := wp_nx rfl
set_option maxRecDepth 20000 in
theorem r266_406 (μ : Bool) (d : Nat) (l0 : Value) (l1 : Value) (l2 : Value) (l3 : Value) (y0 : Int32) (y1 : Nat) (st : List Value) (h : Hp) (Q : Po) : wp μ d 266 406 [l0, l1, l2, l3] (.int y0 :: .ref y1 :: st) h Q = (((kdm μ h y1).1 = 20 ∧ vp_in y0 (kdm μ h y1).2) ∧ wp μ d 266 407 [l0, l1, l2, l3] (.int (gI h y1 y0.toNatClampNeg) :: st) h Q) := wp_ck _ rfl
set_option maxRecDepth 20000 in
theorem r266_406t (μ : Bool) (d : Nat) (l0 : Value) (l1 : Value) (l2 : Value) (l3 : Value) (y0 : Int32) (st : List Value) (h : Hp) (Q : Po) : wp μ d 266 406 [l0, l1, l2, l3] (.int y0 :: .retAddr 1 :: st) h Q = (vp_in y0 (hk h 0).2 ∧ wp μ d 266 407 [l0, l1, l2, l3] (.int (gI h 0 y0.toNatClampNeg) :: st) h Q) := wp_ck _ rfl
set_option maxRecDepth 20000 in
theorem r266_407 (μ : Bool) (d : Nat) (l0 : Value) (l1 : Value) (l2 : Value) (l3 : Value) (y0 : Int32) (y1 : Int32) (y2 : Int32) (y3 : Int32) (y4 : Int32) (y5 : Nat) (y6 : Int32) (h : Hp) (Q : Po) : wp μ (d + 1) 266 407 [l0, l1, l2, l3] [.int y0, .int y1, .int y2, .int y3, .int y4, .ref y5, .int y6] h Q = ((kdm μ h y5).1 = 12 ∧ cwp μ d 168 [.ref y5, .int y4, .int y3, .int y2, .int y1, .int y0] h (fun r h' => wp μ (d + 1) 266 410 [l0, l1, l2, l3] (r.toList ++ [.int y6]) h' Q)) := wp_kc _ True rfl ⟨fun q => by obtain ⟨x, q1, q2⟩ := q.2.2.1 rfl; cases q1; exact q2, fun q => ⟨Nat.le_of_ble_eq_true rfl, ⟨Nat.le_of_ble_eq_true rfl, rfl, Nat.le_of_ble_eq_true rfl⟩, fun _ => ⟨_, rfl, q⟩, fun q9 => absurd q9 (by decide)⟩⟩
set_option maxRecDepth 20000 in
theorem r266_410 (μ : Bool) (d : Nat) (l0 : Value) (l1 : Value) (l2 : Value) (l3 : Value) (y0 y1 : Int32) (st : List Value) (h : Hp) (Q : Po) : wp μ d 266 410 [l0, l1, l2, l3] (.int y0 :: .int y1 :: st) h Q = if y1 = y0 then wp μ d 266 1545 [l0, l1, l2, l3] st h Q else wp μ d 266 413 [l0, l1, l2, l3] st h Q := wp_br (y1 = y0) rfl
set_option maxRecDepth 20000 in
theorem r266_413 (μ : Bool) (d : Nat) (l0 : Value) (l1 : Value) (l2 : Value) (l3 : Value) (st : List Value) (h : Hp) (Q : Po) : wp μ d 266 413 [l0, l1, l2, l3] st h Q = wp μ d 266 414 [l0, l1, l2, l3] (.int (nI 0) :: st) h Q := (wp_nx rfl).trans (congrArg (fun z => wp μ d 266 414 [l0, l1, l2, l3] (.int z :: st) h Q) (show Int32.ofInt (0) = (nI 0) by decide))
set_option maxRecDepth 20000 in
theorem r266_414 (μ : Bool) (d : Nat) (l0 : Value) (l1 : Value) (l2 : Value) (l3 : Value) (y0 : Int32) (h : Hp) (Q : Po) : wp μ d 266 414 [l0, l1, l2, l3] [.int y0] h Q = ((y0 = nI 0 ∨ y0 = nI 1) ∧ Q (some (.int y0)) h) := (wp_rc _ rfl).trans (by rw [show retOk (rM 266) y0 = (narrow .boolean (.int y0) = .int y0) from rfl, nz_iff]; rfl)
set_option maxRecDepth 20000 in
theorem r266_415 (μ : Bool) (d : Nat) (l0 : Value) (l2 : Value) (l3 : Value) (x : Nat) (st : List Value) (h : Hp) (Q : Po) : wp μ d 266 415 [l0, .ref x, l2, l3] st h Q = wp μ d 266 416 [l0, .ref x, l2, l3] (.ref x :: st) h Q := wp_nx rfl
set_option maxRecDepth 20000 in
theorem r266_415n (μ : Bool) (d : Nat) (l0 : Value) (l2 : Value) (l3 : Value) (st : List Value) (h : Hp) (Q : Po) : wp μ d 266 415 [l0, .null, l2, l3] st h Q = wp μ d 266 416 [l0, .null, l2, l3] (.null :: st) h Q := wp_nx rfl
set_option maxRecDepth 20000 in
theorem r266_415t (μ : Bool) (d : Nat) (l0 : Value) (l2 : Value) (l3 : Value) (x : Nat) (st : List Value) (h : Hp) (Q : Po) : wp μ d 266 415 [l0, .retAddr x, l2, l3] st h Q = wp μ d 266 416 [l0, .retAddr x, l2, l3] (.retAddr x :: st) h Q := wp_nx rfl
set_option maxRecDepth 20000 in
theorem r266_416 (μ : Bool) (d : Nat) (l1 : Value) (l2 : Value) (l3 : Value) (x : Nat) (st : List Value) (h : Hp) (Q : Po) : wp μ d 266 416 [.ref x, l1, l2, l3] st h Q = wp μ d 266 417 [.ref x, l1, l2, l3] (.ref x :: st) h Q := wp_nx rfl
set_option maxRecDepth 20000 in
theorem r266_416t (μ : Bool) (d : Nat) (l1 : Value) (l2 : Value) (l3 : Value) (x : Nat) (st : List Value) (h : Hp) (Q : Po) : wp μ d 266 416 [.retAddr x, l1, l2, l3] st h Q = wp μ d 266 417 [.retAddr x, l1, l2, l3] (.retAddr x :: st) h Q := wp_nx rfl
set_option maxRecDepth 20000 in
theorem r266_417 (μ : Bool) (d : Nat) (l0 : Value) (l1 : Value) (l2 : Value) (x : Int32) (st : List Value) (h : Hp) (Q : Po) : wp μ d 266 417 [l0, l1, l2, .int x] st h Q = wp μ d 266 418 [l0, l1, l2, .int x] (.int x :: st) h Q := wp_nx rfl
set_option maxRecDepth 20000 in
theorem r266_418 (μ : Bool) (d : Nat) (l0 : Value) (l1 : Value) (l2 : Value) (l3 : Value) (st : List Value) (h : Hp) (Q : Po) : wp μ d 266 418 [l0, l1, l2, l3] st h Q = wp μ d 266 419 [l0, l1, l2, l3] (.int (nI 1) :: st) h Q := (wp_nx rfl).trans (congrArg (fun z => wp μ d 266 419 [l0, l1, l2, l3] (.int z :: st) h Q) (show Int32.ofInt (1) = (nI 1) by decide))
set_option maxRecDepth 20000 in
theorem r266_419 (μ : Bool) (d : Nat) (l0 : Value) (l1 : Value) (l2 : Value) (l3 : Value) (y0 y1 : Int32) (st : List Value) (h : Hp) (Q : Po) : wp μ d 266 419 [l0, l1, l2, l3] (.int y0 :: .int y1 :: st) h Q = wp μ d 266 420 [l0, l1, l2, l3] (.int (y1 + y0) :: st) h Q := wp_nx rfl
set_option maxRecDepth 20000 in
theorem r266_420 (μ : Bool) (d : Nat) (l0 : Value) (l1 : Value) (l2 : Value) (l3 : Value) (y0 : Int32) (y1 : Nat) (st : List Value) (h : Hp) (Q : Po) : wp μ d 266 420 [l0, l1, l2, l3] (.int y0 :: .ref y1 :: st) h Q = (((kdm μ h y1).1 = 20 ∧ vp_in y0 (kdm μ h y1).2) ∧ wp μ d 266 421 [l0, l1, l2, l3] (.int (gI h y1 y0.toNatClampNeg) :: st) h Q) := wp_ck _ rfl
set_option maxRecDepth 20000 in
theorem r266_420t (μ : Bool) (d : Nat) (l0 : Value) (l1 : Value) (l2 : Value) (l3 : Value) (y0 : Int32) (st : List Value) (h : Hp) (Q : Po) : wp μ d 266 420 [l0, l1, l2, l3] (.int y0 :: .retAddr 1 :: st) h Q = (vp_in y0 (hk h 0).2 ∧ wp μ d 266 421 [l0, l1, l2, l3] (.int (gI h 0 y0.toNatClampNeg) :: st) h Q) := wp_ck _ rfl
set_option maxRecDepth 20000 in
theorem r266_421 (μ : Bool) (d : Nat) (l0 : Value) (l1 : Value) (l2 : Value) (l3 : Value) (y0 : Int32) (y1 : Nat) (h : Hp) (Q : Po) : wp μ (d + 1) 266 421 [l0, l1, l2, l3] [.int y0, .ref y1] h Q = ((kdm μ h y1).1 = 11 ∧ cwp μ d 92 [.ref y1, .int y0] h (fun r h' => wp μ (d + 1) 266 424 [l0, l1, l2, l3] (r.toList ++ []) h' Q)) := wp_kc _ True rfl ⟨fun q => by obtain ⟨x, q1, q2⟩ := q.2.2.1 rfl; cases q1; exact q2, fun q => ⟨Nat.le_of_ble_eq_true rfl, ⟨Nat.le_of_ble_eq_true rfl, rfl, Nat.le_of_ble_eq_true rfl⟩, fun _ => ⟨_, rfl, q⟩, fun q9 => absurd q9 (by decide)⟩⟩
set_option maxRecDepth 20000 in
theorem r266_424 (μ : Bool) (d : Nat) (l0 : Value) (l1 : Value) (l3 : Value) (x : Nat) (st : List Value) (h : Hp) (Q : Po) : wp μ d 266 424 [l0, l1, .ref x, l3] st h Q = wp μ d 266 425 [l0, l1, .ref x, l3] (.ref x :: st) h Q := wp_nx rfl
set_option maxRecDepth 20000 in
theorem r266_424n (μ : Bool) (d : Nat) (l0 : Value) (l1 : Value) (l3 : Value) (st : List Value) (h : Hp) (Q : Po) : wp μ d 266 424 [l0, l1, .null, l3] st h Q = wp μ d 266 425 [l0, l1, .null, l3] (.null :: st) h Q := wp_nx rfl
set_option maxRecDepth 20000 in
theorem r266_424t (μ : Bool) (d : Nat) (l0 : Value) (l1 : Value) (l3 : Value) (x : Nat) (st : List Value) (h : Hp) (Q : Po) : wp μ d 266 424 [l0, l1, .retAddr x, l3] st h Q = wp μ d 266 425 [l0, l1, .retAddr x, l3] (.retAddr x :: st) h Q := wp_nx rfl
set_option maxRecDepth 20000 in
theorem r266_425 (μ : Bool) (d : Nat) (l1 : Value) (l2 : Value) (l3 : Value) (x : Nat) (st : List Value) (h : Hp) (Q : Po) : wp μ d 266 425 [.ref x, l1, l2, l3] st h Q = wp μ d 266 426 [.ref x, l1, l2, l3] (.ref x :: st) h Q := wp_nx rfl
set_option maxRecDepth 20000 in
theorem r266_425t (μ : Bool) (d : Nat) (l1 : Value) (l2 : Value) (l3 : Value) (x : Nat) (st : List Value) (h : Hp) (Q : Po) : wp μ d 266 425 [.retAddr x, l1, l2, l3] st h Q = wp μ d 266 426 [.retAddr x, l1, l2, l3] (.retAddr x :: st) h Q := wp_nx rfl
set_option maxRecDepth 20000 in
theorem r266_426 (μ : Bool) (d : Nat) (l0 : Value) (l1 : Value) (l2 : Value) (x : Int32) (st : List Value) (h : Hp) (Q : Po) : wp μ d 266 426 [l0, l1, l2, .int x] st h Q = wp μ d 266 427 [l0, l1, l2, .int x] (.int x :: st) h Q := wp_nx rfl
set_option maxRecDepth 20000 in
theorem r266_427 (μ : Bool) (d : Nat) (l0 : Value) (l1 : Value) (l2 : Value) (l3 : Value) (st : List Value) (h : Hp) (Q : Po) : wp μ d 266 427 [l0, l1, l2, l3] st h Q = wp μ d 266 428 [l0, l1, l2, l3] (.int (nI 1) :: st) h Q := (wp_nx rfl).trans (congrArg (fun z => wp μ d 266 428 [l0, l1, l2, l3] (.int z :: st) h Q) (show Int32.ofInt (1) = (nI 1) by decide))
set_option maxRecDepth 20000 in
theorem r266_428 (μ : Bool) (d : Nat) (l0 : Value) (l1 : Value) (l2 : Value) (l3 : Value) (y0 y1 : Int32) (st : List Value) (h : Hp) (Q : Po) : wp μ d 266 428 [l0, l1, l2, l3] (.int y0 :: .int y1 :: st) h Q = wp μ d 266 429 [l0, l1, l2, l3] (.int (y1 + y0) :: st) h Q := wp_nx rfl
set_option maxRecDepth 20000 in
theorem r266_429 (μ : Bool) (d : Nat) (l0 : Value) (l1 : Value) (l2 : Value) (l3 : Value) (y0 : Int32) (y1 : Nat) (st : List Value) (h : Hp) (Q : Po) : wp μ d 266 429 [l0, l1, l2, l3] (.int y0 :: .ref y1 :: st) h Q = (((kdm μ h y1).1 = 20 ∧ vp_in y0 (kdm μ h y1).2) ∧ wp μ d 266 430 [l0, l1, l2, l3] (.int (gI h y1 y0.toNatClampNeg) :: st) h Q) := wp_ck _ rfl
set_option maxRecDepth 20000 in
theorem r266_429t (μ : Bool) (d : Nat) (l0 : Value) (l1 : Value) (l2 : Value) (l3 : Value) (y0 : Int32) (st : List Value) (h : Hp) (Q : Po) : wp μ d 266 429 [l0, l1, l2, l3] (.int y0 :: .retAddr 1 :: st) h Q = (vp_in y0 (hk h 0).2 ∧ wp μ d 266 430 [l0, l1, l2, l3] (.int (gI h 0 y0.toNatClampNeg) :: st) h Q) := wp_ck _ rfl
set_option maxRecDepth 20000 in
theorem r266_430 (μ : Bool) (d : Nat) (l0 : Value) (l1 : Value) (l2 : Value) (l3 : Value) (y0 : Int32) (y1 : Nat) (y2 : Int32) (h : Hp) (Q : Po) : wp μ (d + 1) 266 430 [l0, l1, l2, l3] [.int y0, .ref y1, .int y2] h Q = ((kdm μ h y1).1 = 12 ∧ cwp μ d 169 [.ref y1, .int y0] h (fun r h' => wp μ (d + 1) 266 433 [l0, l1, l2, l3] (r.toList ++ [.int y2]) h' Q)) := wp_kc _ True rfl ⟨fun q => by obtain ⟨x, q1, q2⟩ := q.2.2.1 rfl; cases q1; exact q2, fun q => ⟨Nat.le_of_ble_eq_true rfl, ⟨Nat.le_of_ble_eq_true rfl, rfl, Nat.le_of_ble_eq_true rfl⟩, fun _ => ⟨_, rfl, q⟩, fun q9 => absurd q9 (by decide)⟩⟩
set_option maxRecDepth 20000 in
theorem r266_433 (μ : Bool) (d : Nat) (l0 : Value) (l1 : Value) (l2 : Value) (l3 : Value) (y0 y1 : Int32) (st : List Value) (h : Hp) (Q : Po) : wp μ d 266 433 [l0, l1, l2, l3] (.int y0 :: .int y1 :: st) h Q = if y1 = y0 then wp μ d 266 1545 [l0, l1, l2, l3] st h Q else wp μ d 266 436 [l0, l1, l2, l3] st h Q := wp_br (y1 = y0) rfl
set_option maxRecDepth 20000 in
theorem r266_436 (μ : Bool) (d : Nat) (l0 : Value) (l1 : Value) (l2 : Value) (l3 : Value) (st : List Value) (h : Hp) (Q : Po) : wp μ d 266 436 [l0, l1, l2, l3] st h Q = wp μ d 266 437 [l0, l1, l2, l3] (.int (nI 0) :: st) h Q := (wp_nx rfl).trans (congrArg (fun z => wp μ d 266 437 [l0, l1, l2, l3] (.int z :: st) h Q) (show Int32.ofInt (0) = (nI 0) by decide))
set_option maxRecDepth 20000 in
theorem r266_437 (μ : Bool) (d : Nat) (l0 : Value) (l1 : Value) (l2 : Value) (l3 : Value) (y0 : Int32) (h : Hp) (Q : Po) : wp μ d 266 437 [l0, l1, l2, l3] [.int y0] h Q = ((y0 = nI 0 ∨ y0 = nI 1) ∧ Q (some (.int y0)) h) := (wp_rc _ rfl).trans (by rw [show retOk (rM 266) y0 = (narrow .boolean (.int y0) = .int y0) from rfl, nz_iff]; rfl)
set_option maxRecDepth 20000 in
theorem r266_438 (μ : Bool) (d : Nat) (l0 : Value) (l2 : Value) (l3 : Value) (x : Nat) (st : List Value) (h : Hp) (Q : Po) : wp μ d 266 438 [l0, .ref x, l2, l3] st h Q = wp μ d 266 439 [l0, .ref x, l2, l3] (.ref x :: st) h Q := wp_nx rfl
set_option maxRecDepth 20000 in
theorem r266_438n (μ : Bool) (d : Nat) (l0 : Value) (l2 : Value) (l3 : Value) (st : List Value) (h : Hp) (Q : Po) : wp μ d 266 438 [l0, .null, l2, l3] st h Q = wp μ d 266 439 [l0, .null, l2, l3] (.null :: st) h Q := wp_nx rfl
set_option maxRecDepth 20000 in
theorem r266_438t (μ : Bool) (d : Nat) (l0 : Value) (l2 : Value) (l3 : Value) (x : Nat) (st : List Value) (h : Hp) (Q : Po) : wp μ d 266 438 [l0, .retAddr x, l2, l3] st h Q = wp μ d 266 439 [l0, .retAddr x, l2, l3] (.retAddr x :: st) h Q := wp_nx rfl
set_option maxRecDepth 20000 in
theorem r266_439 (μ : Bool) (d : Nat) (l1 : Value) (l2 : Value) (l3 : Value) (x : Nat) (st : List Value) (h : Hp) (Q : Po) : wp μ d 266 439 [.ref x, l1, l2, l3] st h Q = wp μ d 266 440 [.ref x, l1, l2, l3] (.ref x :: st) h Q := wp_nx rfl
set_option maxRecDepth 20000 in
theorem r266_439t (μ : Bool) (d : Nat) (l1 : Value) (l2 : Value) (l3 : Value) (x : Nat) (st : List Value) (h : Hp) (Q : Po) : wp μ d 266 439 [.retAddr x, l1, l2, l3] st h Q = wp μ d 266 440 [.retAddr x, l1, l2, l3] (.retAddr x :: st) h Q := wp_nx rfl
set_option maxRecDepth 20000 in
theorem r266_440 (μ : Bool) (d : Nat) (l0 : Value) (l1 : Value) (l2 : Value) (x : Int32) (st : List Value) (h : Hp) (Q : Po) : wp μ d 266 440 [l0, l1, l2, .int x] st h Q = wp μ d 266 441 [l0, l1, l2, .int x] (.int x :: st) h Q := wp_nx rfl
set_option maxRecDepth 20000 in
theorem r266_441 (μ : Bool) (d : Nat) (l0 : Value) (l1 : Value) (l2 : Value) (l3 : Value) (st : List Value) (h : Hp) (Q : Po) : wp μ d 266 441 [l0, l1, l2, l3] st h Q = wp μ d 266 442 [l0, l1, l2, l3] (.int (nI 1) :: st) h Q := (wp_nx rfl).trans (congrArg (fun z => wp μ d 266 442 [l0, l1, l2, l3] (.int z :: st) h Q) (show Int32.ofInt (1) = (nI 1) by decide))
set_option maxRecDepth 20000 in
theorem r266_442 (μ : Bool) (d : Nat) (l0 : Value) (l1 : Value) (l2 : Value) (l3 : Value) (y0 y1 : Int32) (st : List Value) (h : Hp) (Q : Po) : wp μ d 266 442 [l0, l1, l2, l3] (.int y0 :: .int y1 :: st) h Q = wp μ d 266 443 [l0, l1, l2, l3] (.int (y1 + y0) :: st) h Q := wp_nx rfl
set_option maxRecDepth 20000 in
theorem r266_443 (μ : Bool) (d : Nat) (l0 : Value) (l1 : Value) (l2 : Value) (l3 : Value) (y0 : Int32) (y1 : Nat) (st : List Value) (h : Hp) (Q : Po) : wp μ d 266 443 [l0, l1, l2, l3] (.int y0 :: .ref y1 :: st) h Q = (((kdm μ h y1).1 = 20 ∧ vp_in y0 (kdm μ h y1).2) ∧ wp μ d 266 444 [l0, l1, l2, l3] (.int (gI h y1 y0.toNatClampNeg) :: st) h Q) := wp_ck _ rfl
set_option maxRecDepth 20000 in
theorem r266_443t (μ : Bool) (d : Nat) (l0 : Value) (l1 : Value) (l2 : Value) (l3 : Value) (y0 : Int32) (st : List Value) (h : Hp) (Q : Po) : wp μ d 266 443 [l0, l1, l2, l3] (.int y0 :: .retAddr 1 :: st) h Q = (vp_in y0 (hk h 0).2 ∧ wp μ d 266 444 [l0, l1, l2, l3] (.int (gI h 0 y0.toNatClampNeg) :: st) h Q) := wp_ck _ rfl
set_option maxRecDepth 20000 in
theorem r266_444 (μ : Bool) (d : Nat) (l1 : Value) (l2 : Value) (l3 : Value) (x : Nat) (st : List Value) (h : Hp) (Q : Po) : wp μ d 266 444 [.ref x, l1, l2, l3] st h Q = wp μ d 266 445 [.ref x, l1, l2, l3] (.ref x :: st) h Q := wp_nx rfl
set_option maxRecDepth 20000 in
theorem r266_444t (μ : Bool) (d : Nat) (l1 : Value) (l2 : Value) (l3 : Value) (x : Nat) (st : List Value) (h : Hp) (Q : Po) : wp μ d 266 444 [.retAddr x, l1, l2, l3] st h Q = wp μ d 266 445 [.retAddr x, l1, l2, l3] (.retAddr x :: st) h Q := wp_nx rfl
set_option maxRecDepth 20000 in
theorem r266_445 (μ : Bool) (d : Nat) (l0 : Value) (l1 : Value) (l2 : Value) (x : Int32) (st : List Value) (h : Hp) (Q : Po) : wp μ d 266 445 [l0, l1, l2, .int x] st h Q = wp μ d 266 446 [l0, l1, l2, .int x] (.int x :: st) h Q := wp_nx rfl
set_option maxRecDepth 20000 in
theorem r266_446 (μ : Bool) (d : Nat) (l0 : Value) (l1 : Value) (l2 : Value) (l3 : Value) (st : List Value) (h : Hp) (Q : Po) : wp μ d 266 446 [l0, l1, l2, l3] st h Q = wp μ d 266 447 [l0, l1, l2, l3] (.int (nI 2) :: st) h Q := (wp_nx rfl).trans (congrArg (fun z => wp μ d 266 447 [l0, l1, l2, l3] (.int z :: st) h Q) (show Int32.ofInt (2) = (nI 2) by decide))
set_option maxRecDepth 20000 in
theorem r266_447 (μ : Bool) (d : Nat) (l0 : Value) (l1 : Value) (l2 : Value) (l3 : Value) (y0 y1 : Int32) (st : List Value) (h : Hp) (Q : Po) : wp μ d 266 447 [l0, l1, l2, l3] (.int y0 :: .int y1 :: st) h Q = wp μ d 266 448 [l0, l1, l2, l3] (.int (y1 + y0) :: st) h Q := wp_nx rfl
set_option maxRecDepth 20000 in
theorem r266_448 (μ : Bool) (d : Nat) (l0 : Value) (l1 : Value) (l2 : Value) (l3 : Value) (y0 : Int32) (y1 : Nat) (st : List Value) (h : Hp) (Q : Po) : wp μ d 266 448 [l0, l1, l2, l3] (.int y0 :: .ref y1 :: st) h Q = (((kdm μ h y1).1 = 20 ∧ vp_in y0 (kdm μ h y1).2) ∧ wp μ d 266 449 [l0, l1, l2, l3] (.int (gI h y1 y0.toNatClampNeg) :: st) h Q) := wp_ck _ rfl
set_option maxRecDepth 20000 in
theorem r266_448t (μ : Bool) (d : Nat) (l0 : Value) (l1 : Value) (l2 : Value) (l3 : Value) (y0 : Int32) (st : List Value) (h : Hp) (Q : Po) : wp μ d 266 448 [l0, l1, l2, l3] (.int y0 :: .retAddr 1 :: st) h Q = (vp_in y0 (hk h 0).2 ∧ wp μ d 266 449 [l0, l1, l2, l3] (.int (gI h 0 y0.toNatClampNeg) :: st) h Q) := wp_ck _ rfl
set_option maxRecDepth 20000 in
theorem r266_449 (μ : Bool) (d : Nat) (l0 : Value) (l1 : Value) (l2 : Value) (l3 : Value) (y0 : Int32) (y1 : Int32) (y2 : Nat) (h : Hp) (Q : Po) : wp μ (d + 1) 266 449 [l0, l1, l2, l3] [.int y0, .int y1, .ref y2] h Q = ((kdm μ h y2).1 = 11 ∧ cwp μ d 93 [.ref y2, .int y1, .int y0] h (fun r h' => wp μ (d + 1) 266 452 [l0, l1, l2, l3] (r.toList ++ []) h' Q)) := wp_kc _ True rfl ⟨fun q => by obtain ⟨x, q1, q2⟩ := q.2.2.1 rfl; cases q1; exact q2, fun q => ⟨Nat.le_of_ble_eq_true rfl, ⟨Nat.le_of_ble_eq_true rfl, rfl, Nat.le_of_ble_eq_true rfl⟩, fun _ => ⟨_, rfl, q⟩, fun q9 => absurd q9 (by decide)⟩⟩
set_option maxRecDepth 20000 in
theorem r266_452 (μ : Bool) (d : Nat) (l0 : Value) (l1 : Value) (l3 : Value) (x : Nat) (st : List Value) (h : Hp) (Q : Po) : wp μ d 266 452 [l0, l1, .ref x, l3] st h Q = wp μ d 266 453 [l0, l1, .ref x, l3] (.ref x :: st) h Q := wp_nx rfl
set_option maxRecDepth 20000 in
theorem r266_452n (μ : Bool) (d : Nat) (l0 : Value) (l1 : Value) (l3 : Value) (st : List Value) (h : Hp) (Q : Po) : wp μ d 266 452 [l0, l1, .null, l3] st h Q = wp μ d 266 453 [l0, l1, .null, l3] (.null :: st) h Q := wp_nx rfl
set_option maxRecDepth 20000 in
theorem r266_452t (μ : Bool) (d : Nat) (l0 : Value) (l1 : Value) (l3 : Value) (x : Nat) (st : List Value) (h : Hp) (Q : Po) : wp μ d 266 452 [l0, l1, .retAddr x, l3] st h Q = wp μ d 266 453 [l0, l1, .retAddr x, l3] (.retAddr x :: st) h Q := wp_nx rfl
set_option maxRecDepth 20000 in
theorem r266_453 (μ : Bool) (d : Nat) (l1 : Value) (l2 : Value) (l3 : Value) (x : Nat) (st : List Value) (h : Hp) (Q : Po) : wp μ d 266 453 [.ref x, l1, l2, l3] st h Q = wp μ d 266 454 [.ref x, l1, l2, l3] (.ref x :: st) h Q := wp_nx rfl
set_option maxRecDepth 20000 in
theorem r266_453t (μ : Bool) (d : Nat) (l1 : Value) (l2 : Value) (l3 : Value) (x : Nat) (st : List Value) (h : Hp) (Q : Po) : wp μ d 266 453 [.retAddr x, l1, l2, l3] st h Q = wp μ d 266 454 [.retAddr x, l1, l2, l3] (.retAddr x :: st) h Q := wp_nx rfl
set_option maxRecDepth 20000 in
theorem r266_454 (μ : Bool) (d : Nat) (l0 : Value) (l1 : Value) (l2 : Value) (x : Int32) (st : List Value) (h : Hp) (Q : Po) : wp μ d 266 454 [l0, l1, l2, .int x] st h Q = wp μ d 266 455 [l0, l1, l2, .int x] (.int x :: st) h Q := wp_nx rfl
set_option maxRecDepth 20000 in
theorem r266_455 (μ : Bool) (d : Nat) (l0 : Value) (l1 : Value) (l2 : Value) (l3 : Value) (st : List Value) (h : Hp) (Q : Po) : wp μ d 266 455 [l0, l1, l2, l3] st h Q = wp μ d 266 456 [l0, l1, l2, l3] (.int (nI 1) :: st) h Q := (wp_nx rfl).trans (congrArg (fun z => wp μ d 266 456 [l0, l1, l2, l3] (.int z :: st) h Q) (show Int32.ofInt (1) = (nI 1) by decide))
set_option maxRecDepth 20000 in
theorem r266_456 (μ : Bool) (d : Nat) (l0 : Value) (l1 : Value) (l2 : Value) (l3 : Value) (y0 y1 : Int32) (st : List Value) (h : Hp) (Q : Po) : wp μ d 266 456 [l0, l1, l2, l3] (.int y0 :: .int y1 :: st) h Q = wp μ d 266 457 [l0, l1, l2, l3] (.int (y1 + y0) :: st) h Q := wp_nx rfl
set_option maxRecDepth 20000 in
theorem r266_457 (μ : Bool) (d : Nat) (l0 : Value) (l1 : Value) (l2 : Value) (l3 : Value) (y0 : Int32) (y1 : Nat) (st : List Value) (h : Hp) (Q : Po) : wp μ d 266 457 [l0, l1, l2, l3] (.int y0 :: .ref y1 :: st) h Q = (((kdm μ h y1).1 = 20 ∧ vp_in y0 (kdm μ h y1).2) ∧ wp μ d 266 458 [l0, l1, l2, l3] (.int (gI h y1 y0.toNatClampNeg) :: st) h Q) := wp_ck _ rfl
set_option maxRecDepth 20000 in
theorem r266_457t (μ : Bool) (d : Nat) (l0 : Value) (l1 : Value) (l2 : Value) (l3 : Value) (y0 : Int32) (st : List Value) (h : Hp) (Q : Po) : wp μ d 266 457 [l0, l1, l2, l3] (.int y0 :: .retAddr 1 :: st) h Q = (vp_in y0 (hk h 0).2 ∧ wp μ d 266 458 [l0, l1, l2, l3] (.int (gI h 0 y0.toNatClampNeg) :: st) h Q) := wp_ck _ rfl
set_option maxRecDepth 20000 in
theorem r266_458 (μ : Bool) (d : Nat) (l1 : Value) (l2 : Value) (l3 : Value) (x : Nat) (st : List Value) (h : Hp) (Q : Po) : wp μ d 266 458 [.ref x, l1, l2, l3] st h Q = wp μ d 266 459 [.ref x, l1, l2, l3] (.ref x :: st) h Q := wp_nx rfl
set_option maxRecDepth 20000 in
theorem r266_458t (μ : Bool) (d : Nat) (l1 : Value) (l2 : Value) (l3 : Value) (x : Nat) (st : List Value) (h : Hp) (Q : Po) : wp μ d 266 458 [.retAddr x, l1, l2, l3] st h Q = wp μ d 266 459 [.retAddr x, l1, l2, l3] (.retAddr x :: st) h Q := wp_nx rfl
set_option maxRecDepth 20000 in
theorem r266_459 (μ : Bool) (d : Nat) (l0 : Value) (l1 : Value) (l2 : Value) (x : Int32) (st : List Value) (h : Hp) (Q : Po) : wp μ d 266 459 [l0, l1, l2, .int x] st h Q = wp μ d 266 460 [l0, l1, l2, .int x] (.int x :: st) h Q := wp_nx rfl
set_option maxRecDepth 20000 in
theorem r266_460 (μ : Bool) (d : Nat) (l0 : Value) (l1 : Value) (l2 : Value) (l3 : Value) (st : List Value) (h : Hp) (Q : Po) : wp μ d 266 460 [l0, l1, l2, l3] st h Q = wp μ d 266 461 [l0, l1, l2, l3] (.int (nI 2) :: st) h Q := (wp_nx rfl).trans (congrArg (fun z => wp μ d 266 461 [l0, l1, l2, l3] (.int z :: st) h Q) (show Int32.ofInt (2) = (nI 2) by decide))
set_option maxRecDepth 20000 in
theorem r266_461 (μ : Bool) (d : Nat) (l0 : Value) (l1 : Value) (l2 : Value) (l3 : Value) (y0 y1 : Int32) (st : List Value) (h : Hp) (Q : Po) : wp μ d 266 461 [l0, l1, l2, l3] (.int y0 :: .int y1 :: st) h Q = wp μ d 266 462 [l0, l1, l2, l3] (.int (y1 + y0) :: st) h Q := wp_nx rfl
set_option maxRecDepth 20000 in
theorem r266_462 (μ : Bool) (d : Nat) (l0 : Value) (l1 : Value) (l2 : Value) (l3 : Value) (y0 : Int32) (y1 : Nat) (st : List Value) (h : Hp) (Q : Po) : wp μ d 266 462 [l0, l1, l2, l3] (.int y0 :: .ref y1 :: st) h Q = (((kdm μ h y1).1 = 20 ∧ vp_in y0 (kdm μ h y1).2) ∧ wp μ d 266 463 [l0, l1, l2, l3] (.int (gI h y1 y0.toNatClampNeg) :: st) h Q) := wp_ck _ rfl
set_option maxRecDepth 20000 in
theorem r266_462t (μ : Bool) (d : Nat) (l0 : Value) (l1 : Value) (l2 : Value) (l3 : Value) (y0 : Int32) (st : List Value) (h : Hp) (Q : Po) : wp μ d 266 462 [l0, l1, l2, l3] (.int y0 :: .retAddr 1 :: st) h Q = (vp_in y0 (hk h 0).2 ∧ wp μ d 266 463 [l0, l1, l2, l3] (.int (gI h 0 y0.toNatClampNeg) :: st) h Q) := wp_ck _ rfl
set_option maxRecDepth 20000 in
theorem r266_463 (μ : Bool) (d : Nat) (l0 : Value) (l1 : Value) (l2 : Value) (l3 : Value) (y0 : Int32) (y1 : Int32) (y2 : Nat) (y3 : Int32) (h : Hp) (Q : Po) : wp μ (d + 1) 266 463 [l0, l1, l2, l3] [.int y0, .int y1, .ref y2, .int y3] h Q = ((kdm μ h y2).1 = 12 ∧ cwp μ d 167 [.ref y2, .int y1, .int y0] h (fun r h' => wp μ (d + 1) 266 466 [l0, l1, l2, l3] (r.toList ++ [.int y3]) h' Q)) := wp_kc _ True rfl ⟨fun q => by obtain ⟨x, q1, q2⟩ := q.2.2.1 rfl; cases q1; exact q2, fun q => ⟨Nat.le_of_ble_eq_true rfl, ⟨Nat.le_of_ble_eq_true rfl, rfl, Nat.le_of_ble_eq_true rfl⟩, fun _ => ⟨_, rfl, q⟩, fun q9 => absurd q9 (by decide)⟩⟩
set_option maxRecDepth 20000 in
theorem r266_466 (μ : Bool) (d : Nat) (l0 : Value) (l1 : Value) (l2 : Value) (l3 : Value) (y0 y1 : Int32) (st : List Value) (h : Hp) (Q : Po) : wp μ d 266 466 [l0, l1, l2, l3] (.int y0 :: .int y1 :: st) h Q = if y1 = y0 then wp μ d 266 1545 [l0, l1, l2, l3] st h Q else wp μ d 266 469 [l0, l1, l2, l3] st h Q := wp_br (y1 = y0) rfl
set_option maxRecDepth 20000 in
theorem r266_469 (μ : Bool) (d : Nat) (l0 : Value) (l1 : Value) (l2 : Value) (l3 : Value) (st : List Value) (h : Hp) (Q : Po) : wp μ d 266 469 [l0, l1, l2, l3] st h Q = wp μ d 266 470 [l0, l1, l2, l3] (.int (nI 0) :: st) h Q := (wp_nx rfl).trans (congrArg (fun z => wp μ d 266 470 [l0, l1, l2, l3] (.int z :: st) h Q) (show Int32.ofInt (0) = (nI 0) by decide))
set_option maxRecDepth 20000 in
theorem r266_470 (μ : Bool) (d : Nat) (l0 : Value) (l1 : Value) (l2 : Value) (l3 : Value) (y0 : Int32) (h : Hp) (Q : Po) : wp μ d 266 470 [l0, l1, l2, l3] [.int y0] h Q = ((y0 = nI 0 ∨ y0 = nI 1) ∧ Q (some (.int y0)) h) := (wp_rc _ rfl).trans (by rw [show retOk (rM 266) y0 = (narrow .boolean (.int y0) = .int y0) from rfl, nz_iff]; rfl)
set_option maxRecDepth 20000 in
theorem r266_471 (μ : Bool) (d : Nat) (l0 : Value) (l2 : Value) (l3 : Value) (x : Nat) (st : List Value) (h : Hp) (Q : Po) : wp μ d 266 471 [l0, .ref x, l2, l3] st h Q = wp μ d 266 472 [l0, .ref x, l2, l3] (.ref x :: st) h Q := wp_nx rfl
set_option maxRecDepth 20000 in
theorem r266_471n (μ : Bool) (d : Nat) (l0 : Value) (l2 : Value) (l3 : Value) (st : List Value) (h : Hp) (Q : Po) : wp μ d 266 471 [l0, .null, l2, l3] st h Q = wp μ d 266 472 [l0, .null, l2, l3] (.null :: st) h Q := wp_nx rfl
set_option maxRecDepth 20000 in
theorem r266_471t (μ : Bool) (d : Nat) (l0 : Value) (l2 : Value) (l3 : Value) (x : Nat) (st : List Value) (h : Hp) (Q : Po) : wp μ d 266 471 [l0, .retAddr x, l2, l3] st h Q = wp μ d 266 472 [l0, .retAddr x, l2, l3] (.retAddr x :: st) h Q := wp_nx rfl
set_option maxRecDepth 20000 in
theorem r266_472 (μ : Bool) (d : Nat) (l0 : Value) (l1 : Value) (l2 : Value) (l3 : Value) (y0 : Nat) (h : Hp) (Q : Po) : wp μ (d + 1) 266 472 [l0, l1, l2, l3] [.ref y0] h Q = ((kdm μ h y0).1 = 11 ∧ cwp μ d 94 [.ref y0] h (fun r h' => wp μ (d + 1) 266 475 [l0, l1, l2, l3] (r.toList ++ []) h' Q)) := wp_kc _ True rfl ⟨fun q => by obtain ⟨x, q1, q2⟩ := q.2.2.1 rfl; cases q1; exact q2, fun q => ⟨Nat.le_of_ble_eq_true rfl, ⟨Nat.le_of_ble_eq_true rfl, rfl, Nat.le_of_ble_eq_true rfl⟩, fun _ => ⟨_, rfl, q⟩, fun q9 => absurd q9 (by decide)⟩⟩
set_option maxRecDepth 20000 in
theorem r266_475 (μ : Bool) (d : Nat) (l0 : Value) (l1 : Value) (l3 : Value) (x : Nat) (st : List Value) (h : Hp) (Q : Po) : wp μ d 266 475 [l0, l1, .ref x, l3] st h Q = wp μ d 266 476 [l0, l1, .ref x, l3] (.ref x :: st) h Q := wp_nx rfl
set_option maxRecDepth 20000 in
theorem r266_475n (μ : Bool) (d : Nat) (l0 : Value) (l1 : Value) (l3 : Value) (st : List Value) (h : Hp) (Q : Po) : wp μ d 266 475 [l0, l1, .null, l3] st h Q = wp μ d 266 476 [l0, l1, .null, l3] (.null :: st) h Q := wp_nx rfl
set_option maxRecDepth 20000 in
theorem r266_475t (μ : Bool) (d : Nat) (l0 : Value) (l1 : Value) (l3 : Value) (x : Nat) (st : List Value) (h : Hp) (Q : Po) : wp μ d 266 475 [l0, l1, .retAddr x, l3] st h Q = wp μ d 266 476 [l0, l1, .retAddr x, l3] (.retAddr x :: st) h Q := wp_nx rfl
set_option maxRecDepth 20000 in
theorem r266_476 (μ : Bool) (d : Nat) (l0 : Value) (l1 : Value) (l2 : Value) (l3 : Value) (y0 : Nat) (y1 : Int32) (h : Hp) (Q : Po) : wp μ (d + 1) 266 476 [l0, l1, l2, l3] [.ref y0, .int y1] h Q = ((kdm μ h y0).1 = 12 ∧ cwp μ d 188 [.ref y0] h (fun r h' => wp μ (d + 1) 266 479 [l0, l1, l2, l3] (r.toList ++ [.int y1]) h' Q)) := wp_kc _ True rfl ⟨fun q => by obtain ⟨x, q1, q2⟩ := q.2.2.1 rfl; cases q1; exact q2, fun q => ⟨Nat.le_of_ble_eq_true rfl, ⟨Nat.le_of_ble_eq_true rfl, rfl, Nat.le_of_ble_eq_true rfl⟩, fun _ => ⟨_, rfl, q⟩, fun q9 => absurd q9 (by decide)⟩⟩
set_option maxRecDepth 20000 in
theorem r266_479 (μ : Bool) (d : Nat) (l0 : Value) (l1 : Value) (l2 : Value) (l3 : Value) (y0 y1 : Int32) (st : List Value) (h : Hp) (Q : Po) : wp μ d 266 479 [l0, l1, l2, l3] (.int y0 :: .int y1 :: st) h Q = if y1 = y0 then wp μ d 266 1545 [l0, l1, l2, l3] st h Q else wp μ d 266 482 [l0, l1, l2, l3] st h Q := wp_br (y1 = y0) rfl
set_option maxRecDepth 20000 in
theorem r266_482 (μ : Bool) (d : Nat) (l0 : Value) (l1 : Value) (l2 : Value) (l3 : Value) (st : List Value) (h : Hp) (Q : Po) : wp μ d 266 482 [l0, l1, l2, l3] st h Q = wp μ d 266 483 [l0, l1, l2, l3] (.int (nI 0) :: st) h Q := (wp_nx rfl).trans (congrArg (fun z => wp μ d 266 483 [l0, l1, l2, l3] (.int z :: st) h Q) (show Int32.ofInt (0) = (nI 0) by decide))
set_option maxRecDepth 20000 in
theorem r266_483 (μ : Bool) (d : Nat) (l0 : Value) (l1 : Value) (l2 : Value) (l3 : Value) (y0 : Int32) (h : Hp) (Q : Po) : wp μ d 266 483 [l0, l1, l2, l3] [.int y0] h Q = ((y0 = nI 0 ∨ y0 = nI 1) ∧ Q (some (.int y0)) h) := (wp_rc _ rfl).trans (by rw [show retOk (rM 266) y0 = (narrow .boolean (.int y0) = .int y0) from rfl, nz_iff]; rfl)
set_option maxRecDepth 20000 in
theorem r266_484 (μ : Bool) (d : Nat) (l0 : Value) (l2 : Value) (l3 : Value) (x : Nat) (st : List Value) (h : Hp) (Q : Po) : wp μ d 266 484 [l0, .ref x, l2, l3] st h Q = wp μ d 266 485 [l0, .ref x, l2, l3] (.ref x :: st) h Q := wp_nx rfl
set_option maxRecDepth 20000 in
theorem r266_484n (μ : Bool) (d : Nat) (l0 : Value) (l2 : Value) (l3 : Value) (st : List Value) (h : Hp) (Q : Po) : wp μ d 266 484 [l0, .null, l2, l3] st h Q = wp μ d 266 485 [l0, .null, l2, l3] (.null :: st) h Q := wp_nx rfl
set_option maxRecDepth 20000 in
theorem r266_484t (μ : Bool) (d : Nat) (l0 : Value) (l2 : Value) (l3 : Value) (x : Nat) (st : List Value) (h : Hp) (Q : Po) : wp μ d 266 484 [l0, .retAddr x, l2, l3] st h Q = wp μ d 266 485 [l0, .retAddr x, l2, l3] (.retAddr x :: st) h Q := wp_nx rfl
set_option maxRecDepth 20000 in
theorem r266_485 (μ : Bool) (d : Nat) (l0 : Value) (l1 : Value) (l2 : Value) (l3 : Value) (y0 : Nat) (h : Hp) (Q : Po) : wp μ (d + 1) 266 485 [l0, l1, l2, l3] [.ref y0] h Q = ((kdm μ h y0).1 = 11 ∧ cwp μ d 95 [.ref y0] h (fun r h' => wp μ (d + 1) 266 488 [l0, l1, l2, l3] (r.toList ++ []) h' Q)) := wp_kc _ True rfl ⟨fun q => by obtain ⟨x, q1, q2⟩ := q.2.2.1 rfl; cases q1; exact q2, fun q => ⟨Nat.le_of_ble_eq_true rfl, ⟨Nat.le_of_ble_eq_true rfl, rfl, Nat.le_of_ble_eq_true rfl⟩, fun _ => ⟨_, rfl, q⟩, fun q9 => absurd q9 (by decide)⟩⟩
set_option maxRecDepth 20000 in
theorem r266_488 (μ : Bool) (d : Nat) (l0 : Value) (l1 : Value) (l3 : Value) (x : Nat) (st : List Value) (h : Hp) (Q : Po) : wp μ d 266 488 [l0, l1, .ref x, l3] st h Q = wp μ d 266 489 [l0, l1, .ref x, l3] (.ref x :: st) h Q := wp_nx rfl
set_option maxRecDepth 20000 in
theorem r266_488n (μ : Bool) (d : Nat) (l0 : Value) (l1 : Value) (l3 : Value) (st : List Value) (h : Hp) (Q : Po) : wp μ d 266 488 [l0, l1, .null, l3] st h Q = wp μ d 266 489 [l0, l1, .null, l3] (.null :: st) h Q := wp_nx rfl
set_option maxRecDepth 20000 in
theorem r266_488t (μ : Bool) (d : Nat) (l0 : Value) (l1 : Value) (l3 : Value) (x : Nat) (st : List Value) (h : Hp) (Q : Po) : wp μ d 266 488 [l0, l1, .retAddr x, l3] st h Q = wp μ d 266 489 [l0, l1, .retAddr x, l3] (.retAddr x :: st) h Q := wp_nx rfl
set_option maxRecDepth 20000 in
theorem r266_489 (μ : Bool) (d : Nat) (l0 : Value) (l1 : Value) (l2 : Value) (l3 : Value) (y0 : Nat) (y1 : Int32) (h : Hp) (Q : Po) : wp μ (d + 1) 266 489 [l0, l1, l2, l3] [.ref y0, .int y1] h Q = ((kdm μ h y0).1 = 12 ∧ cwp μ d 189 [.ref y0] h (fun r h' => wp μ (d + 1) 266 492 [l0, l1, l2, l3] (r.toList ++ [.int y1]) h' Q)) := wp_kc _ True rfl ⟨fun q => by obtain ⟨x, q1, q2⟩ := q.2.2.1 rfl; cases q1; exact q2, fun q => ⟨Nat.le_of_ble_eq_true rfl, ⟨Nat.le_of_ble_eq_true rfl, rfl, Nat.le_of_ble_eq_true rfl⟩, fun _ => ⟨_, rfl, q⟩, fun q9 => absurd q9 (by decide)⟩⟩
set_option maxRecDepth 20000 in
theorem r266_492 (μ : Bool) (d : Nat) (l0 : Value) (l1 : Value) (l2 : Value) (l3 : Value) (y0 y1 : Int32) (st : List Value) (h : Hp) (Q : Po) : wp μ d 266 492 [l0, l1, l2, l3] (.int y0 :: .int y1 :: st) h Q = if y1 = y0 then wp μ d 266 1545 [l0, l1, l2, l3] st h Q else wp μ d 266 495 [l0, l1, l2, l3] st h Q := wp_br (y1 = y0) rfl
set_option maxRecDepth 20000 in
theorem r266_495 (μ : Bool) (d : Nat) (l0 : Value) (l1 : Value) (l2 : Value) (l3 : Value) (st : List Value) (h : Hp) (Q : Po) : wp μ d 266 495 [l0, l1, l2, l3] st h Q = wp μ d 266 496 [l0, l1, l2, l3] (.int (nI 0) :: st) h Q := (wp_nx rfl).trans (congrArg (fun z => wp μ d 266 496 [l0, l1, l2, l3] (.int z :: st) h Q) (show Int32.ofInt (0) = (nI 0) by decide))
set_option maxRecDepth 20000 in
theorem r266_496 (μ : Bool) (d : Nat) (l0 : Value) (l1 : Value) (l2 : Value) (l3 : Value) (y0 : Int32) (h : Hp) (Q : Po) : wp μ d 266 496 [l0, l1, l2, l3] [.int y0] h Q = ((y0 = nI 0 ∨ y0 = nI 1) ∧ Q (some (.int y0)) h) := (wp_rc _ rfl).trans (by rw [show retOk (rM 266) y0 = (narrow .boolean (.int y0) = .int y0) from rfl, nz_iff]; rfl)
set_option maxRecDepth 20000 in
theorem r266_497 (μ : Bool) (d : Nat) (l0 : Value) (l2 : Value) (l3 : Value) (x : Nat) (st : List Value) (h : Hp) (Q : Po) : wp μ d 266 497 [l0, .ref x, l2, l3] st h Q = wp μ d 266 498 [l0, .ref x, l2, l3] (.ref x :: st) h Q := wp_nx rfl
set_option maxRecDepth 20000 in
theorem r266_497n (μ : Bool) (d : Nat) (l0 : Value) (l2 : Value) (l3 : Value) (st : List Value) (h : Hp) (Q : Po) : wp μ d 266 497 [l0, .null, l2, l3] st h Q = wp μ d 266 498 [l0, .null, l2, l3] (.null :: st) h Q := wp_nx rfl
set_option maxRecDepth 20000 in
theorem r266_497t (μ : Bool) (d : Nat) (l0 : Value) (l2 : Value) (l3 : Value) (x : Nat) (st : List Value) (h : Hp) (Q : Po) : wp μ d 266 497 [l0, .retAddr x, l2, l3] st h Q = wp μ d 266 498 [l0, .retAddr x, l2, l3] (.retAddr x :: st) h Q := wp_nx rfl
set_option maxRecDepth 20000 in
theorem r266_498 (μ : Bool) (d : Nat) (l1 : Value) (l2 : Value) (l3 : Value) (x : Nat) (st : List Value) (h : Hp) (Q : Po) : wp μ d 266 498 [.ref x, l1, l2, l3] st h Q = wp μ d 266 499 [.ref x, l1, l2, l3] (.ref x :: st) h Q := wp_nx rfl
set_option maxRecDepth 20000 in
theorem r266_498t (μ : Bool) (d : Nat) (l1 : Value) (l2 : Value) (l3 : Value) (x : Nat) (st : List Value) (h : Hp) (Q : Po) : wp μ d 266 498 [.retAddr x, l1, l2, l3] st h Q = wp μ d 266 499 [.retAddr x, l1, l2, l3] (.retAddr x :: st) h Q := wp_nx rfl
set_option maxRecDepth 20000 in
theorem r266_499 (μ : Bool) (d : Nat) (l0 : Value) (l1 : Value) (l2 : Value) (x : Int32) (st : List Value) (h : Hp) (Q : Po) : wp μ d 266 499 [l0, l1, l2, .int x] st h Q = wp μ d 266 500 [l0, l1, l2, .int x] (.int x :: st) h Q := wp_nx rfl
set_option maxRecDepth 20000 in
theorem r266_500 (μ : Bool) (d : Nat) (l0 : Value) (l1 : Value) (l2 : Value) (l3 : Value) (st : List Value) (h : Hp) (Q : Po) : wp μ d 266 500 [l0, l1, l2, l3] st h Q = wp μ d 266 501 [l0, l1, l2, l3] (.int (nI 1) :: st) h Q := (wp_nx rfl).trans (congrArg (fun z => wp μ d 266 501 [l0, l1, l2, l3] (.int z :: st) h Q) (show Int32.ofInt (1) = (nI 1) by decide))
set_option maxRecDepth 20000 in
theorem r266_501 (μ : Bool) (d : Nat) (l0 : Value) (l1 : Value) (l2 : Value) (l3 : Value) (y0 y1 : Int32) (st : List Value) (h : Hp) (Q : Po) : wp μ d 266 501 [l0, l1, l2, l3] (.int y0 :: .int y1 :: st) h Q = wp μ d 266 502 [l0, l1, l2, l3] (.int (y1 + y0) :: st) h Q := wp_nx rfl
set_option maxRecDepth 20000 in
theorem r266_502 (μ : Bool) (d : Nat) (l0 : Value) (l1 : Value) (l2 : Value) (l3 : Value) (y0 : Int32) (y1 : Nat) (st : List Value) (h : Hp) (Q : Po) : wp μ d 266 502 [l0, l1, l2, l3] (.int y0 :: .ref y1 :: st) h Q = (((kdm μ h y1).1 = 20 ∧ vp_in y0 (kdm μ h y1).2) ∧ wp μ d 266 503 [l0, l1, l2, l3] (.int (gI h y1 y0.toNatClampNeg) :: st) h Q) := wp_ck _ rfl
set_option maxRecDepth 20000 in
theorem r266_502t (μ : Bool) (d : Nat) (l0 : Value) (l1 : Value) (l2 : Value) (l3 : Value) (y0 : Int32) (st : List Value) (h : Hp) (Q : Po) : wp μ d 266 502 [l0, l1, l2, l3] (.int y0 :: .retAddr 1 :: st) h Q = (vp_in y0 (hk h 0).2 ∧ wp μ d 266 503 [l0, l1, l2, l3] (.int (gI h 0 y0.toNatClampNeg) :: st) h Q) := wp_ck _ rfl
set_option maxRecDepth 20000 in
theorem r266_503 (μ : Bool) (d : Nat) (l1 : Value) (l2 : Value) (l3 : Value) (x : Nat) (st : List Value) (h : Hp) (Q : Po) : wp μ d 266 503 [.ref x, l1, l2, l3] st h Q = wp μ d 266 504 [.ref x, l1, l2, l3] (.ref x :: st) h Q := wp_nx rfl
set_option maxRecDepth 20000 in
theorem r266_503t (μ : Bool) (d : Nat) (l1 : Value) (l2 : Value) (l3 : Value) (x : Nat) (st : List Value) (h : Hp) (Q : Po) : wp μ d 266 503 [.retAddr x, l1, l2, l3] st h Q = wp μ d 266 504 [.retAddr x, l1, l2, l3] (.retAddr x :: st) h Q := wp_nx rfl
set_option maxRecDepth 20000 in
theorem r266_504 (μ : Bool) (d : Nat) (l0 : Value) (l1 : Value) (l2 : Value) (x : Int32) (st : List Value) (h : Hp) (Q : Po) : wp μ d 266 504 [l0, l1, l2, .int x] st h Q = wp μ d 266 505 [l0, l1, l2, .int x] (.int x :: st) h Q := wp_nx rfl
set_option maxRecDepth 20000 in
theorem r266_505 (μ : Bool) (d : Nat) (l0 : Value) (l1 : Value) (l2 : Value) (l3 : Value) (st : List Value) (h : Hp) (Q : Po) : wp μ d 266 505 [l0, l1, l2, l3] st h Q = wp μ d 266 506 [l0, l1, l2, l3] (.int (nI 2) :: st) h Q := (wp_nx rfl).trans (congrArg (fun z => wp μ d 266 506 [l0, l1, l2, l3] (.int z :: st) h Q) (show Int32.ofInt (2) = (nI 2) by decide))
set_option maxRecDepth 20000 in
theorem r266_506 (μ : Bool) (d : Nat) (l0 : Value) (l1 : Value) (l2 : Value) (l3 : Value) (y0 y1 : Int32) (st : List Value) (h : Hp) (Q : Po) : wp μ d 266 506 [l0, l1, l2, l3] (.int y0 :: .int y1 :: st) h Q = wp μ d 266 507 [l0, l1, l2, l3] (.int (y1 + y0) :: st) h Q := wp_nx rfl
set_option maxRecDepth 20000 in
theorem r266_507 (μ : Bool) (d : Nat) (l0 : Value) (l1 : Value) (l2 : Value) (l3 : Value) (y0 : Int32) (y1 : Nat) (st : List Value) (h : Hp) (Q : Po) : wp μ d 266 507 [l0, l1, l2, l3] (.int y0 :: .ref y1 :: st) h Q = (((kdm μ h y1).1 = 20 ∧ vp_in y0 (kdm μ h y1).2) ∧ wp μ d 266 508 [l0, l1, l2, l3] (.int (gI h y1 y0.toNatClampNeg) :: st) h Q) := wp_ck _ rfl
set_option maxRecDepth 20000 in
theorem r266_507t (μ : Bool) (d : Nat) (l0 : Value) (l1 : Value) (l2 : Value) (l3 : Value) (y0 : Int32) (st : List Value) (h : Hp) (Q : Po) : wp μ d 266 507 [l0, l1, l2, l3] (.int y0 :: .retAddr 1 :: st) h Q = (vp_in y0 (hk h 0).2 ∧ wp μ d 266 508 [l0, l1, l2, l3] (.int (gI h 0 y0.toNatClampNeg) :: st) h Q) := wp_ck _ rfl
set_option maxRecDepth 20000 in
theorem r266_508 (μ : Bool) (d : Nat) (l1 : Value) (l2 : Value) (l3 : Value) (x : Nat) (st : List Value) (h : Hp) (Q : Po) : wp μ d 266 508 [.ref x, l1, l2, l3] st h Q = wp μ d 266 509 [.ref x, l1, l2, l3] (.ref x :: st) h Q := wp_nx rfl
set_option maxRecDepth 20000 in
theorem r266_508t (μ : Bool) (d : Nat) (l1 : Value) (l2 : Value) (l3 : Value) (x : Nat) (st : List Value) (h : Hp) (Q : Po) : wp μ d 266 508 [.retAddr x, l1, l2, l3] st h Q = wp μ d 266 509 [.retAddr x, l1, l2, l3] (.retAddr x :: st) h Q := wp_nx rfl
set_option maxRecDepth 20000 in
theorem r266_509 (μ : Bool) (d : Nat) (l0 : Value) (l1 : Value) (l2 : Value) (x : Int32) (st : List Value) (h : Hp) (Q : Po) : wp μ d 266 509 [l0, l1, l2, .int x] st h Q = wp μ d 266 510 [l0, l1, l2, .int x] (.int x :: st) h Q := wp_nx rfl
set_option maxRecDepth 20000 in
theorem r266_510 (μ : Bool) (d : Nat) (l0 : Value) (l1 : Value) (l2 : Value) (l3 : Value) (st : List Value) (h : Hp) (Q : Po) : wp μ d 266 510 [l0, l1, l2, l3] st h Q = wp μ d 266 511 [l0, l1, l2, l3] (.int (nI 3) :: st) h Q := (wp_nx rfl).trans (congrArg (fun z => wp μ d 266 511 [l0, l1, l2, l3] (.int z :: st) h Q) (show Int32.ofInt (3) = (nI 3) by decide))
set_option maxRecDepth 20000 in
theorem r266_511 (μ : Bool) (d : Nat) (l0 : Value) (l1 : Value) (l2 : Value) (l3 : Value) (y0 y1 : Int32) (st : List Value) (h : Hp) (Q : Po) : wp μ d 266 511 [l0, l1, l2, l3] (.int y0 :: .int y1 :: st) h Q = wp μ d 266 512 [l0, l1, l2, l3] (.int (y1 + y0) :: st) h Q := wp_nx rfl
set_option maxRecDepth 20000 in
theorem r266_512 (μ : Bool) (d : Nat) (l0 : Value) (l1 : Value) (l2 : Value) (l3 : Value) (y0 : Int32) (y1 : Nat) (st : List Value) (h : Hp) (Q : Po) : wp μ d 266 512 [l0, l1, l2, l3] (.int y0 :: .ref y1 :: st) h Q = (((kdm μ h y1).1 = 20 ∧ vp_in y0 (kdm μ h y1).2) ∧ wp μ d 266 513 [l0, l1, l2, l3] (.int (gI h y1 y0.toNatClampNeg) :: st) h Q) := wp_ck _ rfl
set_option maxRecDepth 20000 in
theorem r266_512t (μ : Bool) (d : Nat) (l0 : Value) (l1 : Value) (l2 : Value) (l3 : Value) (y0 : Int32) (st : List Value) (h : Hp) (Q : Po) : wp μ d 266 512 [l0, l1, l2, l3] (.int y0 :: .retAddr 1 :: st) h Q = (vp_in y0 (hk h 0).2 ∧ wp μ d 266 513 [l0, l1, l2, l3] (.int (gI h 0 y0.toNatClampNeg) :: st) h Q) := wp_ck _ rfl
set_option maxRecDepth 20000 in
theorem r266_513 (μ : Bool) (d : Nat) (l1 : Value) (l2 : Value) (l3 : Value) (x : Nat) (st : List Value) (h : Hp) (Q : Po) : wp μ d 266 513 [.ref x, l1, l2, l3] st h Q = wp μ d 266 514 [.ref x, l1, l2, l3] (.ref x :: st) h Q := wp_nx rfl
set_option maxRecDepth 20000 in
theorem r266_513t (μ : Bool) (d : Nat) (l1 : Value) (l2 : Value) (l3 : Value) (x : Nat) (st : List Value) (h : Hp) (Q : Po) : wp μ d 266 513 [.retAddr x, l1, l2, l3] st h Q = wp μ d 266 514 [.retAddr x, l1, l2, l3] (.retAddr x :: st) h Q := wp_nx rfl
set_option maxRecDepth 20000 in
theorem r266_514 (μ : Bool) (d : Nat) (l0 : Value) (l1 : Value) (l2 : Value) (x : Int32) (st : List Value) (h : Hp) (Q : Po) : wp μ d 266 514 [l0, l1, l2, .int x] st h Q = wp μ d 266 515 [l0, l1, l2, .int x] (.int x :: st) h Q := wp_nx rfl
set_option maxRecDepth 20000 in
theorem r266_515 (μ : Bool) (d : Nat) (l0 : Value) (l1 : Value) (l2 : Value) (l3 : Value) (st : List Value) (h : Hp) (Q : Po) : wp μ d 266 515 [l0, l1, l2, l3] st h Q = wp μ d 266 516 [l0, l1, l2, l3] (.int (nI 4) :: st) h Q := (wp_nx rfl).trans (congrArg (fun z => wp μ d 266 516 [l0, l1, l2, l3] (.int z :: st) h Q) (show Int32.ofInt (4) = (nI 4) by decide))
set_option maxRecDepth 20000 in
theorem r266_516 (μ : Bool) (d : Nat) (l0 : Value) (l1 : Value) (l2 : Value) (l3 : Value) (y0 y1 : Int32) (st : List Value) (h : Hp) (Q : Po) : wp μ d 266 516 [l0, l1, l2, l3] (.int y0 :: .int y1 :: st) h Q = wp μ d 266 517 [l0, l1, l2, l3] (.int (y1 + y0) :: st) h Q := wp_nx rfl
set_option maxRecDepth 20000 in
theorem r266_517 (μ : Bool) (d : Nat) (l0 : Value) (l1 : Value) (l2 : Value) (l3 : Value) (y0 : Int32) (y1 : Nat) (st : List Value) (h : Hp) (Q : Po) : wp μ d 266 517 [l0, l1, l2, l3] (.int y0 :: .ref y1 :: st) h Q = (((kdm μ h y1).1 = 20 ∧ vp_in y0 (kdm μ h y1).2) ∧ wp μ d 266 518 [l0, l1, l2, l3] (.int (gI h y1 y0.toNatClampNeg) :: st) h Q) := wp_ck _ rfl
set_option maxRecDepth 20000 in
theorem r266_517t (μ : Bool) (d : Nat) (l0 : Value) (l1 : Value) (l2 : Value) (l3 : Value) (y0 : Int32) (st : List Value) (h : Hp) (Q : Po) : wp μ d 266 517 [l0, l1, l2, l3] (.int y0 :: .retAddr 1 :: st) h Q = (vp_in y0 (hk h 0).2 ∧ wp μ d 266 518 [l0, l1, l2, l3] (.int (gI h 0 y0.toNatClampNeg) :: st) h Q) := wp_ck _ rfl
set_option maxRecDepth 20000 in
theorem r266_518 (μ : Bool) (d : Nat) (l0 : Value) (l1 : Value) (l2 : Value) (l3 : Value) (y0 : Int32) (y1 : Int32) (y2 : Int32) (y3 : Int32) (y4 : Nat) (h : Hp) (Q : Po) : wp μ (d + 1) 266 518 [l0, l1, l2, l3] [.int y0, .int y1, .int y2, .int y3, .ref y4] h Q = ((kdm μ h y4).1 = 11 ∧ cwp μ d 96 [.ref y4, .int y3, .int y2, .int y1, .int y0] h (fun r h' => wp μ (d + 1) 266 521 [l0, l1, l2, l3] (r.toList ++ []) h' Q)) := wp_kc _ True rfl ⟨fun q => by obtain ⟨x, q1, q2⟩ := q.2.2.1 rfl; cases q1; exact q2, fun q => ⟨Nat.le_of_ble_eq_true rfl, ⟨Nat.le_of_ble_eq_true rfl, rfl, Nat.le_of_ble_eq_true rfl⟩, fun _ => ⟨_, rfl, q⟩, fun q9 => absurd q9 (by decide)⟩⟩
set_option maxRecDepth 20000 in
theorem r266_521 (μ : Bool) (d : Nat) (l0 : Value) (l1 : Value) (l3 : Value) (x : Nat) (st : List Value) (h : Hp) (Q : Po) : wp μ d 266 521 [l0, l1, .ref x, l3] st h Q = wp μ d 266 522 [l0, l1, .ref x, l3] (.ref x :: st) h Q := wp_nx rfl
set_option maxRecDepth 20000 in
theorem r266_521n (μ : Bool) (d : Nat) (l0 : Value) (l1 : Value) (l3 : Value) (st : List Value) (h : Hp) (Q : Po) : wp μ d 266 521 [l0, l1, .null, l3] st h Q = wp μ d 266 522 [l0, l1, .null, l3] (.null :: st) h Q := wp_nx rfl
set_option maxRecDepth 20000 in
theorem r266_521t (μ : Bool) (d : Nat) (l0 : Value) (l1 : Value) (l3 : Value) (x : Nat) (st : List Value) (h : Hp) (Q : Po) : wp μ d 266 521 [l0, l1, .retAddr x, l3] st h Q = wp μ d 266 522 [l0, l1, .retAddr x, l3] (.retAddr x :: st) h Q := wp_nx rfl
set_option maxRecDepth 20000 in
theorem r266_522 (μ : Bool) (d : Nat) (l1 : Value) (l2 : Value) (l3 : Value) (x : Nat) (st : List Value) (h : Hp) (Q : Po) : wp μ d 266 522 [.ref x, l1, l2, l3] st h Q = wp μ d 266 523 [.ref x, l1, l2, l3] (.ref x :: st) h Q := wp_nx rfl
set_option maxRecDepth 20000 in
theorem r266_522t (μ : Bool) (d : Nat) (l1 : Value) (l2 : Value) (l3 : Value) (x : Nat) (st : List Value) (h : Hp) (Q : Po) : wp μ d 266 522 [.retAddr x, l1, l2, l3] st h Q = wp μ d 266 523 [.retAddr x, l1, l2, l3] (.retAddr x :: st) h Q := wp_nx rfl
set_option maxRecDepth 20000 in
theorem r266_523 (μ : Bool) (d : Nat) (l0 : Value) (l1 : Value) (l2 : Value) (x : Int32) (st : List Value) (h : Hp) (Q : Po) : wp μ d 266 523 [l0, l1, l2, .int x] st h Q = wp μ d 266 524 [l0, l1, l2, .int x] (.int x :: st) h Q := wp_nx rfl
set_option maxRecDepth 20000 in
theorem r266_524 (μ : Bool) (d : Nat) (l0 : Value) (l1 : Value) (l2 : Value) (l3 : Value) (st : List Value) (h : Hp) (Q : Po) : wp μ d 266 524 [l0, l1, l2, l3] st h Q = wp μ d 266 525 [l0, l1, l2, l3] (.int (nI 1) :: st) h Q := (wp_nx rfl).trans (congrArg (fun z => wp μ d 266 525 [l0, l1, l2, l3] (.int z :: st) h Q) (show Int32.ofInt (1) = (nI 1) by decide))
set_option maxRecDepth 20000 in
theorem r266_525 (μ : Bool) (d : Nat) (l0 : Value) (l1 : Value) (l2 : Value) (l3 : Value) (y0 y1 : Int32) (st : List Value) (h : Hp) (Q : Po) : wp μ d 266 525 [l0, l1, l2, l3] (.int y0 :: .int y1 :: st) h Q = wp μ d 266 526 [l0, l1, l2, l3] (.int (y1 + y0) :: st) h Q := wp_nx rfl
set_option maxRecDepth 20000 in
theorem r266_526 (μ : Bool) (d : Nat) (l0 : Value) (l1 : Value) (l2 : Value) (l3 : Value) (y0 : Int32) (y1 : Nat) (st : List Value) (h : Hp) (Q : Po) : wp μ d 266 526 [l0, l1, l2, l3] (.int y0 :: .ref y1 :: st) h Q = (((kdm μ h y1).1 = 20 ∧ vp_in y0 (kdm μ h y1).2) ∧ wp μ d 266 527 [l0, l1, l2, l3] (.int (gI h y1 y0.toNatClampNeg) :: st) h Q) := wp_ck _ rfl
set_option maxRecDepth 20000 in
theorem r266_526t (μ : Bool) (d : Nat) (l0 : Value) (l1 : Value) (l2 : Value) (l3 : Value) (y0 : Int32) (st : List Value) (h : Hp) (Q : Po) : wp μ d 266 526 [l0, l1, l2, l3] (.int y0 :: .retAddr 1 :: st) h Q = (vp_in y0 (hk h 0).2 ∧ wp μ d 266 527 [l0, l1, l2, l3] (.int (gI h 0 y0.toNatClampNeg) :: st) h Q) := wp_ck _ rfl
set_option maxRecDepth 20000 in
theorem r266_527 (μ : Bool) (d : Nat) (l1 : Value) (l2 : Value) (l3 : Value) (x : Nat) (st : List Value) (h : Hp) (Q : Po) : wp μ d 266 527 [.ref x, l1, l2, l3] st h Q = wp μ d 266 528 [.ref x, l1, l2, l3] (.ref x :: st) h Q := wp_nx rfl
set_option maxRecDepth 20000 in
theorem r266_527t (μ : Bool) (d : Nat) (l1 : Value) (l2 : Value) (l3 : Value) (x : Nat) (st : List Value) (h : Hp) (Q : Po) : wp μ d 266 527 [.retAddr x, l1, l2, l3] st h Q = wp μ d 266 528 [.retAddr x, l1, l2, l3] (.retAddr x :: st) h Q := wp_nx rfl
set_option maxRecDepth 20000 in
theorem r266_528 (μ : Bool) (d : Nat) (l0 : Value) (l1 : Value) (l2 : Value) (x : Int32) (st : List Value) (h : Hp) (Q : Po) : wp μ d 266 528 [l0, l1, l2, .int x] st h Q = wp μ d 266 529 [l0, l1, l2, .int x] (.int x :: st) h Q := wp_nx rfl
set_option maxRecDepth 20000 in
theorem r266_529 (μ : Bool) (d : Nat) (l0 : Value) (l1 : Value) (l2 : Value) (l3 : Value) (st : List Value) (h : Hp) (Q : Po) : wp μ d 266 529 [l0, l1, l2, l3] st h Q = wp μ d 266 530 [l0, l1, l2, l3] (.int (nI 2) :: st) h Q := (wp_nx rfl).trans (congrArg (fun z => wp μ d 266 530 [l0, l1, l2, l3] (.int z :: st) h Q) (show Int32.ofInt (2) = (nI 2) by decide))
set_option maxRecDepth 20000 in
theorem r266_530 (μ : Bool) (d : Nat) (l0 : Value) (l1 : Value) (l2 : Value) (l3 : Value) (y0 y1 : Int32) (st : List Value) (h : Hp) (Q : Po) : wp μ d 266 530 [l0, l1, l2, l3] (.int y0 :: .int y1 :: st) h Q = wp μ d 266 531 [l0, l1, l2, l3] (.int (y1 + y0) :: st) h Q := wp_nx rfl
set_option maxRecDepth 20000 in
theorem r266_531 (μ : Bool) (d : Nat) (l0 : Value) (l1 : Value) (l2 : Value) (l3 : Value) (y0 : Int32) (y1 : Nat) (st : List Value) (h : Hp) (Q : Po) : wp μ d 266 531 [l0, l1, l2, l3] (.int y0 :: .ref y1 :: st) h Q = (((kdm μ h y1).1 = 20 ∧ vp_in y0 (kdm μ h y1).2) ∧ wp μ d 266 532 [l0, l1, l2, l3] (.int (gI h y1 y0.toNatClampNeg) :: st) h Q) := wp_ck _ rfl
set_option maxRecDepth 20000 in
theorem r266_531t (μ : Bool) (d : Nat) (l0 : Value) (l1 : Value) (l2 : Value) (l3 : Value) (y0 : Int32) (st : List Value) (h : Hp) (Q : Po) : wp μ d 266 531 [l0, l1, l2, l3] (.int y0 :: .retAddr 1 :: st) h Q = (vp_in y0 (hk h 0).2 ∧ wp μ d 266 532 [l0, l1, l2, l3] (.int (gI h 0 y0.toNatClampNeg) :: st) h Q) := wp_ck _ rfl
set_option maxRecDepth 20000 in
theorem r266_532 (μ : Bool) (d : Nat) (l1 : Value) (l2 : Value) (l3 : Value) (x : Nat) (st : List Value) (h : Hp) (Q : Po) : wp μ d 266 532 [.ref x, l1, l2, l3] st h Q = wp μ d 266 533 [.ref x, l1, l2, l3] (.ref x :: st) h Q := wp_nx rfl
set_option maxRecDepth 20000 in
theorem r266_532t (μ : Bool) (d : Nat) (l1 : Value) (l2 : Value) (l3 : Value) (x : Nat) (st : List Value) (h : Hp) (Q : Po) : wp μ d 266 532 [.retAddr x, l1, l2, l3] st h Q = wp μ d 266 533 [.retAddr x, l1, l2, l3] (.retAddr x :: st) h Q := wp_nx rfl
set_option maxRecDepth 20000 in
theorem r266_533 (μ : Bool) (d : Nat) (l0 : Value) (l1 : Value) (l2 : Value) (x : Int32) (st : List Value) (h : Hp) (Q : Po) : wp μ d 266 533 [l0, l1, l2, .int x] st h Q = wp μ d 266 534 [l0, l1, l2, .int x] (.int x :: st) h Q := wp_nx rfl
set_option maxRecDepth 20000 in
theorem r266_534 (μ : Bool) (d : Nat) (l0 : Value) (l1 : Value) (l2 : Value) (l3 : Value) (st : List Value) (h : Hp) (Q : Po) : wp μ d 266 534 [l0, l1, l2, l3] st h Q = wp μ d 266 535 [l0, l1, l2, l3] (.int (nI 3) :: st) h Q := (wp_nx rfl).trans (congrArg (fun z => wp μ d 266 535 [l0, l1, l2, l3] (.int z :: st) h Q) (show Int32.ofInt (3) = (nI 3) by decide))
set_option maxRecDepth 20000 in
theorem r266_535 (μ : Bool) (d : Nat) (l0 : Value) (l1 : Value) (l2 : Value) (l3 : Value) (y0 y1 : Int32) (st : List Value) (h : Hp) (Q : Po) : wp μ d 266 535 [l0, l1, l2, l3] (.int y0 :: .int y1 :: st) h Q = wp μ d 266 536 [l0, l1, l2, l3] (.int (y1 + y0) :: st) h Q := wp_nx rfl
set_option maxRecDepth 20000 in
theorem r266_536 (μ : Bool) (d : Nat) (l0 : Value) (l1 : Value) (l2 : Value) (l3 : Value) (y0 : Int32) (y1 : Nat) (st : List Value) (h : Hp) (Q : Po) : wp μ d 266 536 [l0, l1, l2, l3] (.int y0 :: .ref y1 :: st) h Q = (((kdm μ h y1).1 = 20 ∧ vp_in y0 (kdm μ h y1).2) ∧ wp μ d 266 537 [l0, l1, l2, l3] (.int (gI h y1 y0.toNatClampNeg) :: st) h Q) := wp_ck _ rfl
set_option maxRecDepth 20000 in
theorem r266_536t (μ : Bool) (d : Nat) (l0 : Value) (l1 : Value) (l2 : Value) (l3 : Value) (y0 : Int32) (st : List Value) (h : Hp) (Q : Po) : wp μ d 266 536 [l0, l1, l2, l3] (.int y0 :: .retAddr 1 :: st) h Q = (vp_in y0 (hk h 0).2 ∧ wp μ d 266 537 [l0, l1, l2, l3] (.int (gI h 0 y0.toNatClampNeg) :: st) h Q) := wp_ck _ rfl
set_option maxRecDepth 20000 in
theorem r266_537 (μ : Bool) (d : Nat) (l1 : Value) (l2 : Value) (l3 : Value) (x : Nat) (st : List Value) (h : Hp) (Q : Po) : wp μ d 266 537 [.ref x, l1, l2, l3] st h Q = wp μ d 266 538 [.ref x, l1, l2, l3] (.ref x :: st) h Q := wp_nx rfl
set_option maxRecDepth 20000 in
theorem r266_537t (μ : Bool) (d : Nat) (l1 : Value) (l2 : Value) (l3 : Value) (x : Nat) (st : List Value) (h : Hp) (Q : Po) : wp μ d 266 537 [.retAddr x, l1, l2, l3] st h Q = wp μ d 266 538 [.retAddr x, l1, l2, l3] (.retAddr x :: st) h Q := wp_nx rfl
set_option maxRecDepth 20000 in
theorem r266_538 (μ : Bool) (d : Nat) (l0 : Value) (l1 : Value) (l2 : Value) (x : Int32) (st : List Value) (h : Hp) (Q : Po) : wp μ d 266 538 [l0, l1, l2, .int x] st h Q = wp μ d 266 539 [l0, l1, l2, .int x] (.int x :: st) h Q := wp_nx rfl
set_option maxRecDepth 20000 in
theorem r266_539 (μ : Bool) (d : Nat) (l0 : Value) (l1 : Value) (l2 : Value) (l3 : Value) (st : List Value) (h : Hp) (Q : Po) : wp μ d 266 539 [l0, l1, l2, l3] st h Q = wp μ d 266 540 [l0, l1, l2, l3] (.int (nI 4) :: st) h Q := (wp_nx rfl).trans (congrArg (fun z => wp μ d 266 540 [l0, l1, l2, l3] (.int z :: st) h Q) (show Int32.ofInt (4) = (nI 4) by decide))
set_option maxRecDepth 20000 in
theorem r266_540 (μ : Bool) (d : Nat) (l0 : Value) (l1 : Value) (l2 : Value) (l3 : Value) (y0 y1 : Int32) (st : List Value) (h : Hp) (Q : Po) : wp μ d 266 540 [l0, l1, l2, l3] (.int y0 :: .int y1 :: st) h Q = wp μ d 266 541 [l0, l1, l2, l3] (.int (y1 + y0) :: st) h Q := wp_nx rfl
set_option maxRecDepth 20000 in
theorem r266_541 (μ : Bool) (d : Nat) (l0 : Value) (l1 : Value) (l2 : Value) (l3 : Value) (y0 : Int32) (y1 : Nat) (st : List Value) (h : Hp) (Q : Po) : wp μ d 266 541 [l0, l1, l2, l3] (.int y0 :: .ref y1 :: st) h Q = (((kdm μ h y1).1 = 20 ∧ vp_in y0 (kdm μ h y1).2) ∧ wp μ d 266 542 [l0, l1, l2, l3] (.int (gI h y1 y0.toNatClampNeg) :: st) h Q) := wp_ck _ rfl
set_option maxRecDepth 20000 in
theorem r266_541t (μ : Bool) (d : Nat) (l0 : Value) (l1 : Value) (l2 : Value) (l3 : Value) (y0 : Int32) (st : List Value) (h : Hp) (Q : Po) : wp μ d 266 541 [l0, l1, l2, l3] (.int y0 :: .retAddr 1 :: st) h Q = (vp_in y0 (hk h 0).2 ∧ wp μ d 266 542 [l0, l1, l2, l3] (.int (gI h 0 y0.toNatClampNeg) :: st) h Q) := wp_ck _ rfl
set_option maxRecDepth 20000 in
theorem r266_542 (μ : Bool) (d : Nat) (l0 : Value) (l1 : Value) (l2 : Value) (l3 : Value) (y0 : Int32) (y1 : Int32) (y2 : Int32) (y3 : Int32) (y4 : Nat) (y5 : Int32) (h : Hp) (Q : Po) : wp μ (d + 1) 266 542 [l0, l1, l2, l3] [.int y0, .int y1, .int y2, .int y3, .ref y4, .int y5] h Q = ((kdm μ h y4).1 = 12 ∧ cwp μ d 204 [.ref y4, .int y3, .int y2, .int y1, .int y0] h (fun r h' => wp μ (d + 1) 266 545 [l0, l1, l2, l3] (r.toList ++ [.int y5]) h' Q)) := wp_kc _ True rfl ⟨fun q => by obtain ⟨x, q1, q2⟩ := q.2.2.1 rfl; cases q1; exact q2, fun q => ⟨Nat.le_of_ble_eq_true rfl, ⟨Nat.le_of_ble_eq_true rfl, rfl, Nat.le_of_ble_eq_true rfl⟩, fun _ => ⟨_, rfl, q⟩, fun q9 => absurd q9 (by decide)⟩⟩
set_option maxRecDepth 20000 in
theorem r266_545 (μ : Bool) (d : Nat) (l0 : Value) (l1 : Value) (l2 : Value) (l3 : Value) (y0 y1 : Int32) (st : List Value) (h : Hp) (Q : Po) : wp μ d 266 545 [l0, l1, l2, l3] (.int y0 :: .int y1 :: st) h Q = if y1 = y0 then wp μ d 266 1545 [l0, l1, l2, l3] st h Q else wp μ d 266 548 [l0, l1, l2, l3] st h Q := wp_br (y1 = y0) rfl
set_option maxRecDepth 20000 in
theorem r266_548 (μ : Bool) (d : Nat) (l0 : Value) (l1 : Value) (l2 : Value) (l3 : Value) (st : List Value) (h : Hp) (Q : Po) : wp μ d 266 548 [l0, l1, l2, l3] st h Q = wp μ d 266 549 [l0, l1, l2, l3] (.int (nI 0) :: st) h Q := (wp_nx rfl).trans (congrArg (fun z => wp μ d 266 549 [l0, l1, l2, l3] (.int z :: st) h Q) (show Int32.ofInt (0) = (nI 0) by decide))
set_option maxRecDepth 20000 in
theorem r266_549 (μ : Bool) (d : Nat) (l0 : Value) (l1 : Value) (l2 : Value) (l3 : Value) (y0 : Int32) (h : Hp) (Q : Po) : wp μ d 266 549 [l0, l1, l2, l3] [.int y0] h Q = ((y0 = nI 0 ∨ y0 = nI 1) ∧ Q (some (.int y0)) h) := (wp_rc _ rfl).trans (by rw [show retOk (rM 266) y0 = (narrow .boolean (.int y0) = .int y0) from rfl, nz_iff]; rfl)
set_option maxRecDepth 20000 in
theorem r266_550 (μ : Bool) (d : Nat) (l0 : Value) (l2 : Value) (l3 : Value) (x : Nat) (st : List Value) (h : Hp) (Q : Po) : wp μ d 266 550 [l0, .ref x, l2, l3] st h Q = wp μ d 266 551 [l0, .ref x, l2, l3] (.ref x :: st) h Q := wp_nx rfl
set_option maxRecDepth 20000 in
theorem r266_550n (μ : Bool) (d : Nat) (l0 : Value) (l2 : Value) (l3 : Value) (st : List Value) (h : Hp) (Q : Po) : wp μ d 266 550 [l0, .null, l2, l3] st h Q = wp μ d 266 551 [l0, .null, l2, l3] (.null :: st) h Q := wp_nx rfl
set_option maxRecDepth 20000 in
theorem r266_550t (μ : Bool) (d : Nat) (l0 : Value) (l2 : Value) (l3 : Value) (x : Nat) (st : List Value) (h : Hp) (Q : Po) : wp μ d 266 550 [l0, .retAddr x, l2, l3] st h Q = wp μ d 266 551 [l0, .retAddr x, l2, l3] (.retAddr x :: st) h Q := wp_nx rfl
set_option maxRecDepth 20000 in
theorem r266_551 (μ : Bool) (d : Nat) (l1 : Value) (l2 : Value) (l3 : Value) (x : Nat) (st : List Value) (h : Hp) (Q : Po) : wp μ d 266 551 [.ref x, l1, l2, l3] st h Q = wp μ d 266 552 [.ref x, l1, l2, l3] (.ref x :: st) h Q := wp_nx rfl
set_option maxRecDepth 20000 in
theorem r266_551t (μ : Bool) (d : Nat) (l1 : Value) (l2 : Value) (l3 : Value) (x : Nat) (st : List Value) (h : Hp) (Q : Po) : wp μ d 266 551 [.retAddr x, l1, l2, l3] st h Q = wp μ d 266 552 [.retAddr x, l1, l2, l3] (.retAddr x :: st) h Q := wp_nx rfl
set_option maxRecDepth 20000 in
theorem r266_552 (μ : Bool) (d : Nat) (l0 : Value) (l1 : Value) (l2 : Value) (x : Int32) (st : List Value) (h : Hp) (Q : Po) : wp μ d 266 552 [l0, l1, l2, .int x] st h Q = wp μ d 266 553 [l0, l1, l2, .int x] (.int x :: st) h Q := wp_nx rfl
set_option maxRecDepth 20000 in
theorem r266_553 (μ : Bool) (d : Nat) (l0 : Value) (l1 : Value) (l2 : Value) (l3 : Value) (st : List Value) (h : Hp) (Q : Po) : wp μ d 266 553 [l0, l1, l2, l3] st h Q = wp μ d 266 554 [l0, l1, l2, l3] (.int (nI 1) :: st) h Q := (wp_nx rfl).trans (congrArg (fun z => wp μ d 266 554 [l0, l1, l2, l3] (.int z :: st) h Q) (show Int32.ofInt (1) = (nI 1) by decide))
set_option maxRecDepth 20000 in
theorem r266_554 (μ : Bool) (d : Nat) (l0 : Value) (l1 : Value) (l2 : Value) (l3 : Value) (y0 y1 : Int32) (st : List Value) (h : Hp) (Q : Po) : wp μ d 266 554 [l0, l1, l2, l3] (.int y0 :: .int y1 :: st) h Q = wp μ d 266 555 [l0, l1, l2, l3] (.int (y1 + y0) :: st) h Q := wp_nx rfl
set_option maxRecDepth 20000 in
theorem r266_555 (μ : Bool) (d : Nat) (l0 : Value) (l1 : Value) (l2 : Value) (l3 : Value) (y0 : Int32) (y1 : Nat) (st : List Value) (h : Hp) (Q : Po) : wp μ d 266 555 [l0, l1, l2, l3] (.int y0 :: .ref y1 :: st) h Q = (((kdm μ h y1).1 = 20 ∧ vp_in y0 (kdm μ h y1).2) ∧ wp μ d 266 556 [l0, l1, l2, l3] (.int (gI h y1 y0.toNatClampNeg) :: st) h Q) := wp_ck _ rfl
set_option maxRecDepth 20000 in
theorem r266_555t (μ : Bool) (d : Nat) (l0 : Value) (l1 : Value) (l2 : Value) (l3 : Value) (y0 : Int32) (st : List Value) (h : Hp) (Q : Po) : wp μ d 266 555 [l0, l1, l2, l3] (.int y0 :: .retAddr 1 :: st) h Q = (vp_in y0 (hk h 0).2 ∧ wp μ d 266 556 [l0, l1, l2, l3] (.int (gI h 0 y0.toNatClampNeg) :: st) h Q) := wp_ck _ rfl
set_option maxRecDepth 20000 in
theorem r266_556 (μ : Bool) (d : Nat) (l1 : Value) (l2 : Value) (l3 : Value) (x : Nat) (st : List Value) (h : Hp) (Q : Po) : wp μ d 266 556 [.ref x, l1, l2, l3] st h Q = wp μ d 266 557 [.ref x, l1, l2, l3] (.ref x :: st) h Q := wp_nx rfl
set_option maxRecDepth 20000 in
theorem r266_556t (μ : Bool) (d : Nat) (l1 : Value) (l2 : Value) (l3 : Value) (x : Nat) (st : List Value) (h : Hp) (Q : Po) : wp μ d 266 556 [.retAddr x, l1, l2, l3] st h Q = wp μ d 266 557 [.retAddr x, l1, l2, l3] (.retAddr x :: st) h Q := wp_nx rfl
set_option maxRecDepth 20000 in
theorem r266_557 (μ : Bool) (d : Nat) (l0 : Value) (l1 : Value) (l2 : Value) (x : Int32) (st : List Value) (h : Hp) (Q : Po) : wp μ d 266 557 [l0, l1, l2, .int x] st h Q = wp μ d 266 558 [l0, l1, l2, .int x] (.int x :: st) h Q := wp_nx rfl
set_option maxRecDepth 20000 in
theorem r266_558 (μ : Bool) (d : Nat) (l0 : Value) (l1 : Value) (l2 : Value) (l3 : Value) (st : List Value) (h : Hp) (Q : Po) : wp μ d 266 558 [l0, l1, l2, l3] st h Q = wp μ d 266 559 [l0, l1, l2, l3] (.int (nI 2) :: st) h Q := (wp_nx rfl).trans (congrArg (fun z => wp μ d 266 559 [l0, l1, l2, l3] (.int z :: st) h Q) (show Int32.ofInt (2) = (nI 2) by decide))
set_option maxRecDepth 20000 in
theorem r266_559 (μ : Bool) (d : Nat) (l0 : Value) (l1 : Value) (l2 : Value) (l3 : Value) (y0 y1 : Int32) (st : List Value) (h : Hp) (Q : Po) : wp μ d 266 559 [l0, l1, l2, l3] (.int y0 :: .int y1 :: st) h Q = wp μ d 266 560 [l0, l1, l2, l3] (.int (y1 + y0) :: st) h Q := wp_nx rfl
set_option maxRecDepth 20000 in
theorem r266_560 (μ : Bool) (d : Nat) (l0 : Value) (l1 : Value) (l2 : Value) (l3 : Value) (y0 : Int32) (y1 : Nat) (st : List Value) (h : Hp) (Q : Po) : wp μ d 266 560 [l0, l1, l2, l3] (.int y0 :: .ref y1 :: st) h Q = (((kdm μ h y1).1 = 20 ∧ vp_in y0 (kdm μ h y1).2) ∧ wp μ d 266 561 [l0, l1, l2, l3] (.int (gI h y1 y0.toNatClampNeg) :: st) h Q) := wp_ck _ rfl
set_option maxRecDepth 20000 in
theorem r266_560t (μ : Bool) (d : Nat) (l0 : Value) (l1 : Value) (l2 : Value) (l3 : Value) (y0 : Int32) (st : List Value) (h : Hp) (Q : Po) : wp μ d 266 560 [l0, l1, l2, l3] (.int y0 :: .retAddr 1 :: st) h Q = (vp_in y0 (hk h 0).2 ∧ wp μ d 266 561 [l0, l1, l2, l3] (.int (gI h 0 y0.toNatClampNeg) :: st) h Q) := wp_ck _ rfl
set_option maxRecDepth 20000 in
theorem r266_561 (μ : Bool) (d : Nat) (l1 : Value) (l2 : Value) (l3 : Value) (x : Nat) (st : List Value) (h : Hp) (Q : Po) : wp μ d 266 561 [.ref x, l1, l2, l3] st h Q = wp μ d 266 562 [.ref x, l1, l2, l3] (.ref x :: st) h Q := wp_nx rfl
set_option maxRecDepth 20000 in
theorem r266_561t (μ : Bool) (d : Nat) (l1 : Value) (l2 : Value) (l3 : Value) (x : Nat) (st : List Value) (h : Hp) (Q : Po) : wp μ d 266 561 [.retAddr x, l1, l2, l3] st h Q = wp μ d 266 562 [.retAddr x, l1, l2, l3] (.retAddr x :: st) h Q := wp_nx rfl
set_option maxRecDepth 20000 in
theorem r266_562 (μ : Bool) (d : Nat) (l0 : Value) (l1 : Value) (l2 : Value) (x : Int32) (st : List Value) (h : Hp) (Q : Po) : wp μ d 266 562 [l0, l1, l2, .int x] st h Q = wp μ d 266 563 [l0, l1, l2, .int x] (.int x :: st) h Q := wp_nx rfl
set_option maxRecDepth 20000 in
theorem r266_563 (μ : Bool) (d : Nat) (l0 : Value) (l1 : Value) (l2 : Value) (l3 : Value) (st : List Value) (h : Hp) (Q : Po) : wp μ d 266 563 [l0, l1, l2, l3] st h Q = wp μ d 266 564 [l0, l1, l2, l3] (.int (nI 3) :: st) h Q := (wp_nx rfl).trans (congrArg (fun z => wp μ d 266 564 [l0, l1, l2, l3] (.int z :: st) h Q) (show Int32.ofInt (3) = (nI 3) by decide))
set_option maxRecDepth 20000 in
theorem r266_564 (μ : Bool) (d : Nat) (l0 : Value) (l1 : Value) (l2 : Value) (l3 : Value) (y0 y1 : Int32) (st : List Value) (h : Hp) (Q : Po) : wp μ d 266 564 [l0, l1, l2, l3] (.int y0 :: .int y1 :: st) h Q = wp μ d 266 565 [l0, l1, l2, l3] (.int (y1 + y0) :: st) h Q := wp_nx rfl
set_option maxRecDepth 20000 in
theorem r266_565 (μ : Bool) (d : Nat) (l0 : Value) (l1 : Value) (l2 : Value) (l3 : Value) (y0 : Int32) (y1 : Nat) (st : List Value) (h : Hp) (Q : Po) : wp μ d 266 565 [l0, l1, l2, l3] (.int y0 :: .ref y1 :: st) h Q = (((kdm μ h y1).1 = 20 ∧ vp_in y0 (kdm μ h y1).2) ∧ wp μ d 266 566 [l0, l1, l2, l3] (.int (gI h y1 y0.toNatClampNeg) :: st) h Q) := wp_ck _ rfl
set_option maxRecDepth 20000 in
theorem r266_565t (μ : Bool) (d : Nat) (l0 : Value) (l1 : Value) (l2 : Value) (l3 : Value) (y0 : Int32) (st : List Value) (h : Hp) (Q : Po) : wp μ d 266 565 [l0, l1, l2, l3] (.int y0 :: .retAddr 1 :: st) h Q = (vp_in y0 (hk h 0).2 ∧ wp μ d 266 566 [l0, l1, l2, l3] (.int (gI h 0 y0.toNatClampNeg) :: st) h Q) := wp_ck _ rfl
set_option maxRecDepth 20000 in
theorem r266_566 (μ : Bool) (d : Nat) (l0 : Value) (l1 : Value) (l2 : Value) (l3 : Value) (y0 : Int32) (y1 : Int32) (y2 : Int32) (y3 : Nat) (h : Hp) (Q : Po) : wp μ (d + 1) 266 566 [l0, l1, l2, l3] [.int y0, .int y1, .int y2, .ref y3] h Q = ((kdm μ h y3).1 = 11 ∧ cwp μ d 97 [.ref y3, .int y2, .int y1, .int y0] h (fun r h' => wp μ (d + 1) 266 569 [l0, l1, l2, l3] (r.toList ++ []) h' Q)) := wp_kc _ True rfl ⟨fun q => by obtain ⟨x, q1, q2⟩ := q.2.2.1 rfl; cases q1; exact q2, fun q => ⟨Nat.le_of_ble_eq_true rfl, ⟨Nat.le_of_ble_eq_true rfl, rfl, Nat.le_of_ble_eq_true rfl⟩, fun _ => ⟨_, rfl, q⟩, fun q9 => absurd q9 (by decide)⟩⟩
set_option maxRecDepth 20000 in
theorem r266_569 (μ : Bool) (d : Nat) (l0 : Value) (l1 : Value) (l3 : Value) (x : Nat) (st : List Value) (h : Hp) (Q : Po) : wp μ d 266 569 [l0, l1, .ref x, l3] st h Q = wp μ d 266 570 [l0, l1, .ref x, l3] (.ref x :: st) h Q := wp_nx rfl
set_option maxRecDepth 20000 in
theorem r266_569n (μ : Bool) (d : Nat) (l0 : Value) (l1 : Value) (l3 : Value) (st : List Value) (h : Hp) (Q : Po) : wp μ d 266 569 [l0, l1, .null, l3] st h Q = wp μ d 266 570 [l0, l1, .null, l3] (.null :: st) h Q := wp_nx rfl
set_option maxRecDepth 20000 in
theorem r266_569t (μ : Bool) (d : Nat) (l0 : Value) (l1 : Value) (l3 : Value) (x : Nat) (st : List Value) (h : Hp) (Q : Po) : wp μ d 266 569 [l0, l1, .retAddr x, l3] st h Q = wp μ d 266 570 [l0, l1, .retAddr x, l3] (.retAddr x :: st) h Q := wp_nx rfl
set_option maxRecDepth 20000 in
theorem r266_570 (μ : Bool) (d : Nat) (l1 : Value) (l2 : Value) (l3 : Value) (x : Nat) (st : List Value) (h : Hp) (Q : Po) : wp μ d 266 570 [.ref x, l1, l2, l3] st h Q = wp μ d 266 571 [.ref x, l1, l2, l3] (.ref x :: st) h Q := wp_nx rfl
set_option maxRecDepth 20000 in
theorem r266_570t (μ : Bool) (d : Nat) (l1 : Value) (l2 : Value) (l3 : Value) (x : Nat) (st : List Value) (h : Hp) (Q : Po) : wp μ d 266 570 [.retAddr x, l1, l2, l3] st h Q = wp μ d 266 571 [.retAddr x, l1, l2, l3] (.retAddr x :: st) h Q := wp_nx rfl
set_option maxRecDepth 20000 in
theorem r266_571 (μ : Bool) (d : Nat) (l0 : Value) (l1 : Value) (l2 : Value) (x : Int32) (st : List Value) (h : Hp) (Q : Po) : wp μ d 266 571 [l0, l1, l2, .int x] st h Q = wp μ d 266 572 [l0, l1, l2, .int x] (.int x :: st) h Q := wp_nx rfl
set_option maxRecDepth 20000 in
theorem r266_572 (μ : Bool) (d : Nat) (l0 : Value) (l1 : Value) (l2 : Value) (l3 : Value) (st : List Value) (h : Hp) (Q : Po) : wp μ d 266 572 [l0, l1, l2, l3] st h Q = wp μ d 266 573 [l0, l1, l2, l3] (.int (nI 1) :: st) h Q := (wp_nx rfl).trans (congrArg (fun z => wp μ d 266 573 [l0, l1, l2, l3] (.int z :: st) h Q) (show Int32.ofInt (1) = (nI 1) by decide))
set_option maxRecDepth 20000 in
theorem r266_573 (μ : Bool) (d : Nat) (l0 : Value) (l1 : Value) (l2 : Value) (l3 : Value) (y0 y1 : Int32) (st : List Value) (h : Hp) (Q : Po) : wp μ d 266 573 [l0, l1, l2, l3] (.int y0 :: .int y1 :: st) h Q = wp μ d 266 574 [l0, l1, l2, l3] (.int (y1 + y0) :: st) h Q := wp_nx rfl
set_option maxRecDepth 20000 in
theorem r266_574 (μ : Bool) (d : Nat) (l0 : Value) (l1 : Value) (l2 : Value) (l3 : Value) (y0 : Int32) (y1 : Nat) (st : List Value) (h : Hp) (Q : Po) : wp μ d 266 574 [l0, l1, l2, l3] (.int y0 :: .ref y1 :: st) h Q = (((kdm μ h y1).1 = 20 ∧ vp_in y0 (kdm μ h y1).2) ∧ wp μ d 266 575 [l0, l1, l2, l3] (.int (gI h y1 y0.toNatClampNeg) :: st) h Q) := wp_ck _ rfl
set_option maxRecDepth 20000 in
theorem r266_574t (μ : Bool) (d : Nat) (l0 : Value) (l1 : Value) (l2 : Value) (l3 : Value) (y0 : Int32) (st : List Value) (h : Hp) (Q : Po) : wp μ d 266 574 [l0, l1, l2, l3] (.int y0 :: .retAddr 1 :: st) h Q = (vp_in y0 (hk h 0).2 ∧ wp μ d 266 575 [l0, l1, l2, l3] (.int (gI h 0 y0.toNatClampNeg) :: st) h Q) := wp_ck _ rfl
set_option maxRecDepth 20000 in
theorem r266_575 (μ : Bool) (d : Nat) (l1 : Value) (l2 : Value) (l3 : Value) (x : Nat) (st : List Value) (h : Hp) (Q : Po) : wp μ d 266 575 [.ref x, l1, l2, l3] st h Q = wp μ d 266 576 [.ref x, l1, l2, l3] (.ref x :: st) h Q := wp_nx rfl
set_option maxRecDepth 20000 in
theorem r266_575t (μ : Bool) (d : Nat) (l1 : Value) (l2 : Value) (l3 : Value) (x : Nat) (st : List Value) (h : Hp) (Q : Po) : wp μ d 266 575 [.retAddr x, l1, l2, l3] st h Q = wp μ d 266 576 [.retAddr x, l1, l2, l3] (.retAddr x :: st) h Q := wp_nx rfl
set_option maxRecDepth 20000 in
theorem r266_576 (μ : Bool) (d : Nat) (l0 : Value) (l1 : Value) (l2 : Value) (x : Int32) (st : List Value) (h : Hp) (Q : Po) : wp μ d 266 576 [l0, l1, l2, .int x] st h Q = wp μ d 266 577 [l0, l1, l2, .int x] (.int x :: st) h Q := wp_nx rfl
set_option maxRecDepth 20000 in
theorem r266_577 (μ : Bool) (d : Nat) (l0 : Value) (l1 : Value) (l2 : Value) (l3 : Value) (st : List Value) (h : Hp) (Q : Po) : wp μ d 266 577 [l0, l1, l2, l3] st h Q = wp μ d 266 578 [l0, l1, l2, l3] (.int (nI 2) :: st) h Q := (wp_nx rfl).trans (congrArg (fun z => wp μ d 266 578 [l0, l1, l2, l3] (.int z :: st) h Q) (show Int32.ofInt (2) = (nI 2) by decide))
set_option maxRecDepth 20000 in
theorem r266_578 (μ : Bool) (d : Nat) (l0 : Value) (l1 : Value) (l2 : Value) (l3 : Value) (y0 y1 : Int32) (st : List Value) (h : Hp) (Q : Po) : wp μ d 266 578 [l0, l1, l2, l3] (.int y0 :: .int y1 :: st) h Q = wp μ d 266 579 [l0, l1, l2, l3] (.int (y1 + y0) :: st) h Q := wp_nx rfl
set_option maxRecDepth 20000 in
theorem r266_579 (μ : Bool) (d : Nat) (l0 : Value) (l1 : Value) (l2 : Value) (l3 : Value) (y0 : Int32) (y1 : Nat) (st : List Value) (h : Hp) (Q : Po) : wp μ d 266 579 [l0, l1, l2, l3] (.int y0 :: .ref y1 :: st) h Q = (((kdm μ h y1).1 = 20 ∧ vp_in y0 (kdm μ h y1).2) ∧ wp μ d 266 580 [l0, l1, l2, l3] (.int (gI h y1 y0.toNatClampNeg) :: st) h Q) := wp_ck _ rfl
set_option maxRecDepth 20000 in
theorem r266_579t (μ : Bool) (d : Nat) (l0 : Value) (l1 : Value) (l2 : Value) (l3 : Value) (y0 : Int32) (st : List Value) (h : Hp) (Q : Po) : wp μ d 266 579 [l0, l1, l2, l3] (.int y0 :: .retAddr 1 :: st) h Q = (vp_in y0 (hk h 0).2 ∧ wp μ d 266 580 [l0, l1, l2, l3] (.int (gI h 0 y0.toNatClampNeg) :: st) h Q) := wp_ck _ rfl
set_option maxRecDepth 20000 in
theorem r266_580 (μ : Bool) (d : Nat) (l1 : Value) (l2 : Value) (l3 : Value) (x : Nat) (st : List Value) (h : Hp) (Q : Po) : wp μ d 266 580 [.ref x, l1, l2, l3] st h Q = wp μ d 266 581 [.ref x, l1, l2, l3] (.ref x :: st) h Q := wp_nx rfl
set_option maxRecDepth 20000 in
theorem r266_580t (μ : Bool) (d : Nat) (l1 : Value) (l2 : Value) (l3 : Value) (x : Nat) (st : List Value) (h : Hp) (Q : Po) : wp μ d 266 580 [.retAddr x, l1, l2, l3] st h Q = wp μ d 266 581 [.retAddr x, l1, l2, l3] (.retAddr x :: st) h Q := wp_nx rfl
set_option maxRecDepth 20000 in
theorem r266_581 (μ : Bool) (d : Nat) (l0 : Value) (l1 : Value) (l2 : Value) (x : Int32) (st : List Value) (h : Hp) (Q : Po) : wp μ d 266 581 [l0, l1, l2, .int x] st h Q = wp μ d 266 582 [l0, l1, l2, .int x] (.int x :: st) h Q := wp_nx rfl
set_option maxRecDepth 20000 in
theorem r266_582 (μ : Bool) (d : Nat) (l0 : Value) (l1 : Value) (l2 : Value) (l3 : Value) (st : List Value) (h : Hp) (Q : Po) : wp μ d 266 582 [l0, l1, l2, l3] st h Q = wp μ d 266 583 [l0, l1, l2, l3] (.int (nI 3) :: st) h Q := (wp_nx rfl).trans (congrArg (fun z => wp μ d 266 583 [l0, l1, l2, l3] (.int z :: st) h Q) (show Int32.ofInt (3) = (nI 3) by decide))
set_option maxRecDepth 20000 in
theorem r266_583 (μ : Bool) (d : Nat) (l0 : Value) (l1 : Value) (l2 : Value) (l3 : Value) (y0 y1 : Int32) (st : List Value) (h : Hp) (Q : Po) : wp μ d 266 583 [l0, l1, l2, l3] (.int y0 :: .int y1 :: st) h Q = wp μ d 266 584 [l0, l1, l2, l3] (.int (y1 + y0) :: st) h Q := wp_nx rfl
set_option maxRecDepth 20000 in
theorem r266_584 (μ : Bool) (d : Nat) (l0 : Value) (l1 : Value) (l2 : Value) (l3 : Value) (y0 : Int32) (y1 : Nat) (st : List Value) (h : Hp) (Q : Po) : wp μ d 266 584 [l0, l1, l2, l3] (.int y0 :: .ref y1 :: st) h Q = (((kdm μ h y1).1 = 20 ∧ vp_in y0 (kdm μ h y1).2) ∧ wp μ d 266 585 [l0, l1, l2, l3] (.int (gI h y1 y0.toNatClampNeg) :: st) h Q) := wp_ck _ rfl
set_option maxRecDepth 20000 in
theorem r266_584t (μ : Bool) (d : Nat) (l0 : Value) (l1 : Value) (l2 : Value) (l3 : Value) (y0 : Int32) (st : List Value) (h : Hp) (Q : Po) : wp μ d 266 584 [l0, l1, l2, l3] (.int y0 :: .retAddr 1 :: st) h Q = (vp_in y0 (hk h 0).2 ∧ wp μ d 266 585 [l0, l1, l2, l3] (.int (gI h 0 y0.toNatClampNeg) :: st) h Q) := wp_ck _ rfl
set_option maxRecDepth 20000 in
theorem r266_585 (μ : Bool) (d : Nat) (l0 : Value) (l1 : Value) (l2 : Value) (l3 : Value) (y0 : Int32) (y1 : Int32) (y2 : Int32) (y3 : Nat) (y4 : Int32) (h : Hp) (Q : Po) : wp μ (d + 1) 266 585 [l0, l1, l2, l3] [.int y0, .int y1, .int y2, .ref y3, .int y4] h Q = ((kdm μ h y3).1 = 12 ∧ cwp μ d 208 [.ref y3, .int y2, .int y1, .int y0] h (fun r h' => wp μ (d + 1) 266 588 [l0, l1, l2, l3] (r.toList ++ [.int y4]) h' Q)) := wp_kc _ True rfl ⟨fun q => by obtain ⟨x, q1, q2⟩ := q.2.2.1 rfl; cases q1; exact q2, fun q => ⟨Nat.le_of_ble_eq_true rfl, ⟨Nat.le_of_ble_eq_true rfl, rfl, Nat.le_of_ble_eq_true rfl⟩, fun _ => ⟨_, rfl, q⟩, fun q9 => absurd q9 (by decide)⟩⟩
set_option maxRecDepth 20000 in
theorem r266_588 (μ : Bool) (d : Nat) (l0 : Value) (l1 : Value) (l2 : Value) (l3 : Value) (y0 y1 : Int32) (st : List Value) (h : Hp) (Q : Po) : wp μ d 266 588 [l0, l1, l2, l3] (.int y0 :: .int y1 :: st) h Q = if y1 = y0 then wp μ d 266 1545 [l0, l1, l2, l3] st h Q else wp μ d 266 591 [l0, l1, l2, l3] st h Q := wp_br (y1 = y0) rfl
set_option maxRecDepth 20000 in
theorem r266_591 (μ : Bool) (d : Nat) (l0 : Value) (l1 : Value) (l2 : Value) (l3 : Value) (st : List Value) (h : Hp) (Q : Po) : wp μ d 266 591 [l0, l1, l2, l3] st h Q = wp μ d 266 592 [l0, l1, l2, l3] (.int (nI 0) :: st) h Q := (wp_nx rfl).trans (congrArg (fun z => wp μ d 266 592 [l0, l1, l2, l3] (.int z :: st) h Q) (show Int32.ofInt (0) = (nI 0) by decide))
set_option maxRecDepth 20000 in
theorem r266_592 (μ : Bool) (d : Nat) (l0 : Value) (l1 : Value) (l2 : Value) (l3 : Value) (y0 : Int32) (h : Hp) (Q : Po) : wp μ d 266 592 [l0, l1, l2, l3] [.int y0] h Q = ((y0 = nI 0 ∨ y0 = nI 1) ∧ Q (some (.int y0)) h) := (wp_rc _ rfl).trans (by rw [show retOk (rM 266) y0 = (narrow .boolean (.int y0) = .int y0) from rfl, nz_iff]; rfl)
set_option maxRecDepth 20000 in
theorem r266_593 (μ : Bool) (d : Nat) (l0 : Value) (l2 : Value) (l3 : Value) (x : Nat) (st : List Value) (h : Hp) (Q : Po) : wp μ d 266 593 [l0, .ref x, l2, l3] st h Q = wp μ d 266 594 [l0, .ref x, l2, l3] (.ref x :: st) h Q := wp_nx rfl
set_option maxRecDepth 20000 in
theorem r266_593n (μ : Bool) (d : Nat) (l0 : Value) (l2 : Value) (l3 : Value) (st : List Value) (h : Hp) (Q : Po) : wp μ d 266 593 [l0, .null, l2, l3] st h Q = wp μ d 266 594 [l0, .null, l2, l3] (.null :: st) h Q := wp_nx rfl
set_option maxRecDepth 20000 in
theorem r266_593t (μ : Bool) (d : Nat) (l0 : Value) (l2 : Value) (l3 : Value) (x : Nat) (st : List Value) (h : Hp) (Q : Po) : wp μ d 266 593 [l0, .retAddr x, l2, l3] st h Q = wp μ d 266 594 [l0, .retAddr x, l2, l3] (.retAddr x :: st) h Q := wp_nx rfl
set_option maxRecDepth 20000 in
theorem r266_594 (μ : Bool) (d : Nat) (l1 : Value) (l2 : Value) (l3 : Value) (x : Nat) (st : List Value) (h : Hp) (Q : Po) : wp μ d 266 594 [.ref x, l1, l2, l3] st h Q = wp μ d 266 595 [.ref x, l1, l2, l3] (.ref x :: st) h Q := wp_nx rfl
set_option maxRecDepth 20000 in
theorem r266_594t (μ : Bool) (d : Nat) (l1 : Value) (l2 : Value) (l3 : Value) (x : Nat) (st : List Value) (h : Hp) (Q : Po) : wp μ d 266 594 [.retAddr x, l1, l2, l3] st h Q = wp μ d 266 595 [.retAddr x, l1, l2, l3] (.retAddr x :: st) h Q := wp_nx rfl
set_option maxRecDepth 20000 in
theorem r266_595 (μ : Bool) (d : Nat) (l0 : Value) (l1 : Value) (l2 : Value) (x : Int32) (st : List Value) (h : Hp) (Q : Po) : wp μ d 266 595 [l0, l1, l2, .int x] st h Q = wp μ d 266 596 [l0, l1, l2, .int x] (.int x :: st) h Q := wp_nx rfl
set_option maxRecDepth 20000 in
theorem r266_596 (μ : Bool) (d : Nat) (l0 : Value) (l1 : Value) (l2 : Value) (l3 : Value) (st : List Value) (h : Hp) (Q : Po) : wp μ d 266 596 [l0, l1, l2, l3] st h Q = wp μ d 266 597 [l0, l1, l2, l3] (.int (nI 1) :: st) h Q := (wp_nx rfl).trans (congrArg (fun z => wp μ d 266 597 [l0, l1, l2, l3] (.int z :: st) h Q) (show Int32.ofInt (1) = (nI 1) by decide))
set_option maxRecDepth 20000 in
theorem r266_597 (μ : Bool) (d : Nat) (l0 : Value) (l1 : Value) (l2 : Value) (l3 : Value) (y0 y1 : Int32) (st : List Value) (h : Hp) (Q : Po) : wp μ d 266 597 [l0, l1, l2, l3] (.int y0 :: .int y1 :: st) h Q = wp μ d 266 598 [l0, l1, l2, l3] (.int (y1 + y0) :: st) h Q := wp_nx rfl
set_option maxRecDepth 20000 in
theorem r266_598 (μ : Bool) (d : Nat) (l0 : Value) (l1 : Value) (l2 : Value) (l3 : Value) (y0 : Int32) (y1 : Nat) (st : List Value) (h : Hp) (Q : Po) : wp μ d 266 598 [l0, l1, l2, l3] (.int y0 :: .ref y1 :: st) h Q = (((kdm μ h y1).1 = 20 ∧ vp_in y0 (kdm μ h y1).2) ∧ wp μ d 266 599 [l0, l1, l2, l3] (.int (gI h y1 y0.toNatClampNeg) :: st) h Q) := wp_ck _ rfl
set_option maxRecDepth 20000 in
theorem r266_598t (μ : Bool) (d : Nat) (l0 : Value) (l1 : Value) (l2 : Value) (l3 : Value) (y0 : Int32) (st : List Value) (h : Hp) (Q : Po) : wp μ d 266 598 [l0, l1, l2, l3] (.int y0 :: .retAddr 1 :: st) h Q = (vp_in y0 (hk h 0).2 ∧ wp μ d 266 599 [l0, l1, l2, l3] (.int (gI h 0 y0.toNatClampNeg) :: st) h Q) := wp_ck _ rfl
set_option maxRecDepth 20000 in
theorem r266_599 (μ : Bool) (d : Nat) (l0 : Value) (l1 : Value) (l2 : Value) (l3 : Value) (y0 : Int32) (y1 : Nat) (h : Hp) (Q : Po) : wp μ (d + 1) 266 599 [l0, l1, l2, l3] [.int y0, .ref y1] h Q = ((kdm μ h y1).1 = 11 ∧ cwp μ d 98 [.ref y1, .int y0] h (fun r h' => wp μ (d + 1) 266 602 [l0, l1, l2, l3] (r.toList ++ []) h' Q)) := wp_kc _ True rfl ⟨fun q => by obtain ⟨x, q1, q2⟩ := q.2.2.1 rfl; cases q1; exact q2, fun q => ⟨Nat.le_of_ble_eq_true rfl, ⟨Nat.le_of_ble_eq_true rfl, rfl, Nat.le_of_ble_eq_true rfl⟩, fun _ => ⟨_, rfl, q⟩, fun q9 => absurd q9 (by decide)⟩⟩
set_option maxRecDepth 20000 in
theorem r266_602 (μ : Bool) (d : Nat) (l0 : Value) (l1 : Value) (l3 : Value) (x : Nat) (st : List Value) (h : Hp) (Q : Po) : wp μ d 266 602 [l0, l1, .ref x, l3] st h Q = wp μ d 266 603 [l0, l1, .ref x, l3] (.ref x :: st) h Q := wp_nx rfl
set_option maxRecDepth 20000 in
theorem r266_602n (μ : Bool) (d : Nat) (l0 : Value) (l1 : Value) (l3 : Value) (st : List Value) (h : Hp) (Q : Po) : wp μ d 266 602 [l0, l1, .null, l3] st h Q = wp μ d 266 603 [l0, l1, .null, l3] (.null :: st) h Q := wp_nx rfl
set_option maxRecDepth 20000 in
theorem r266_602t (μ : Bool) (d : Nat) (l0 : Value) (l1 : Value) (l3 : Value) (x : Nat) (st : List Value) (h : Hp) (Q : Po) : wp μ d 266 602 [l0, l1, .retAddr x, l3] st h Q = wp μ d 266 603 [l0, l1, .retAddr x, l3] (.retAddr x :: st) h Q := wp_nx rfl
set_option maxRecDepth 20000 in
theorem r266_603 (μ : Bool) (d : Nat) (l1 : Value) (l2 : Value) (l3 : Value) (x : Nat) (st : List Value) (h : Hp) (Q : Po) : wp μ d 266 603 [.ref x, l1, l2, l3] st h Q = wp μ d 266 604 [.ref x, l1, l2, l3] (.ref x :: st) h Q := wp_nx rfl
set_option maxRecDepth 20000 in
theorem r266_603t (μ : Bool) (d : Nat) (l1 : Value) (l2 : Value) (l3 : Value) (x : Nat) (st : List Value) (h : Hp) (Q : Po) : wp μ d 266 603 [.retAddr x, l1, l2, l3] st h Q = wp μ d 266 604 [.retAddr x, l1, l2, l3] (.retAddr x :: st) h Q := wp_nx rfl
set_option maxRecDepth 20000 in
theorem r266_604 (μ : Bool) (d : Nat) (l0 : Value) (l1 : Value) (l2 : Value) (x : Int32) (st : List Value) (h : Hp) (Q : Po) : wp μ d 266 604 [l0, l1, l2, .int x] st h Q = wp μ d 266 605 [l0, l1, l2, .int x] (.int x :: st) h Q := wp_nx rfl
set_option maxRecDepth 20000 in
theorem r266_605 (μ : Bool) (d : Nat) (l0 : Value) (l1 : Value) (l2 : Value) (l3 : Value) (st : List Value) (h : Hp) (Q : Po) : wp μ d 266 605 [l0, l1, l2, l3] st h Q = wp μ d 266 606 [l0, l1, l2, l3] (.int (nI 1) :: st) h Q := (wp_nx rfl).trans (congrArg (fun z => wp μ d 266 606 [l0, l1, l2, l3] (.int z :: st) h Q) (show Int32.ofInt (1) = (nI 1) by decide))
set_option maxRecDepth 20000 in
theorem r266_606 (μ : Bool) (d : Nat) (l0 : Value) (l1 : Value) (l2 : Value) (l3 : Value) (y0 y1 : Int32) (st : List Value) (h : Hp) (Q : Po) : wp μ d 266 606 [l0, l1, l2, l3] (.int y0 :: .int y1 :: st) h Q = wp μ d 266 607 [l0, l1, l2, l3] (.int (y1 + y0) :: st) h Q := wp_nx rfl
set_option maxRecDepth 20000 in
theorem r266_607 (μ : Bool) (d : Nat) (l0 : Value) (l1 : Value) (l2 : Value) (l3 : Value) (y0 : Int32) (y1 : Nat) (st : List Value) (h : Hp) (Q : Po) : wp μ d 266 607 [l0, l1, l2, l3] (.int y0 :: .ref y1 :: st) h Q = (((kdm μ h y1).1 = 20 ∧ vp_in y0 (kdm μ h y1).2) ∧ wp μ d 266 608 [l0, l1, l2, l3] (.int (gI h y1 y0.toNatClampNeg) :: st) h Q) := wp_ck _ rfl
set_option maxRecDepth 20000 in
theorem r266_607t (μ : Bool) (d : Nat) (l0 : Value) (l1 : Value) (l2 : Value) (l3 : Value) (y0 : Int32) (st : List Value) (h : Hp) (Q : Po) : wp μ d 266 607 [l0, l1, l2, l3] (.int y0 :: .retAddr 1 :: st) h Q = (vp_in y0 (hk h 0).2 ∧ wp μ d 266 608 [l0, l1, l2, l3] (.int (gI h 0 y0.toNatClampNeg) :: st) h Q) := wp_ck _ rfl
set_option maxRecDepth 20000 in
theorem r266_608 (μ : Bool) (d : Nat) (l0 : Value) (l1 : Value) (l2 : Value) (l3 : Value) (y0 : Int32) (y1 : Nat) (y2 : Int32) (h : Hp) (Q : Po) : wp μ (d + 1) 266 608 [l0, l1, l2, l3] [.int y0, .ref y1, .int y2] h Q = ((kdm μ h y1).1 = 12 ∧ cwp μ d 210 [.ref y1, .int y0] h (fun r h' => wp μ (d + 1) 266 611 [l0, l1, l2, l3] (r.toList ++ [.int y2]) h' Q)) := wp_kc _ True rfl ⟨fun q => by obtain ⟨x, q1, q2⟩ := q.2.2.1 rfl; cases q1; exact q2, fun q => ⟨Nat.le_of_ble_eq_true rfl, ⟨Nat.le_of_ble_eq_true rfl, rfl, Nat.le_of_ble_eq_true rfl⟩, fun _ => ⟨_, rfl, q⟩, fun q9 => absurd q9 (by decide)⟩⟩
set_option maxRecDepth 20000 in
theorem r266_611 (μ : Bool) (d : Nat) (l0 : Value) (l1 : Value) (l2 : Value) (l3 : Value) (y0 y1 : Int32) (st : List Value) (h : Hp) (Q : Po) : wp μ d 266 611 [l0, l1, l2, l3] (.int y0 :: .int y1 :: st) h Q = if y1 = y0 then wp μ d 266 1545 [l0, l1, l2, l3] st h Q else wp μ d 266 614 [l0, l1, l2, l3] st h Q := wp_br (y1 = y0) rfl
set_option maxRecDepth 20000 in
theorem r266_614 (μ : Bool) (d : Nat) (l0 : Value) (l1 : Value) (l2 : Value) (l3 : Value) (st : List Value) (h : Hp) (Q : Po) : wp μ d 266 614 [l0, l1, l2, l3] st h Q = wp μ d 266 615 [l0, l1, l2, l3] (.int (nI 0) :: st) h Q := (wp_nx rfl).trans (congrArg (fun z => wp μ d 266 615 [l0, l1, l2, l3] (.int z :: st) h Q) (show Int32.ofInt (0) = (nI 0) by decide))
set_option maxRecDepth 20000 in
theorem r266_615 (μ : Bool) (d : Nat) (l0 : Value) (l1 : Value) (l2 : Value) (l3 : Value) (y0 : Int32) (h : Hp) (Q : Po) : wp μ d 266 615 [l0, l1, l2, l3] [.int y0] h Q = ((y0 = nI 0 ∨ y0 = nI 1) ∧ Q (some (.int y0)) h) := (wp_rc _ rfl).trans (by rw [show retOk (rM 266) y0 = (narrow .boolean (.int y0) = .int y0) from rfl, nz_iff]; rfl)
set_option maxRecDepth 20000 in
theorem r266_616 (μ : Bool) (d : Nat) (l0 : Value) (l2 : Value) (l3 : Value) (x : Nat) (st : List Value) (h : Hp) (Q : Po) : wp μ d 266 616 [l0, .ref x, l2, l3] st h Q = wp μ d 266 617 [l0, .ref x, l2, l3] (.ref x :: st) h Q := wp_nx rfl
set_option maxRecDepth 20000 in
theorem r266_616n (μ : Bool) (d : Nat) (l0 : Value) (l2 : Value) (l3 : Value) (st : List Value) (h : Hp) (Q : Po) : wp μ d 266 616 [l0, .null, l2, l3] st h Q = wp μ d 266 617 [l0, .null, l2, l3] (.null :: st) h Q := wp_nx rfl
set_option maxRecDepth 20000 in
theorem r266_616t (μ : Bool) (d : Nat) (l0 : Value) (l2 : Value) (l3 : Value) (x : Nat) (st : List Value) (h : Hp) (Q : Po) : wp μ d 266 616 [l0, .retAddr x, l2, l3] st h Q = wp μ d 266 617 [l0, .retAddr x, l2, l3] (.retAddr x :: st) h Q := wp_nx rfl
set_option maxRecDepth 20000 in
theorem r266_617 (μ : Bool) (d : Nat) (l1 : Value) (l2 : Value) (l3 : Value) (x : Nat) (st : List Value) (h : Hp) (Q : Po) : wp μ d 266 617 [.ref x, l1, l2, l3] st h Q = wp μ d 266 618 [.ref x, l1, l2, l3] (.ref x :: st) h Q := wp_nx rfl
set_option maxRecDepth 20000 in
theorem r266_617t (μ : Bool) (d : Nat) (l1 : Value) (l2 : Value) (l3 : Value) (x : Nat) (st : List Value) (h : Hp) (Q : Po) : wp μ d 266 617 [.retAddr x, l1, l2, l3] st h Q = wp μ d 266 618 [.retAddr x, l1, l2, l3] (.retAddr x :: st) h Q := wp_nx rfl
set_option maxRecDepth 20000 in
theorem r266_618 (μ : Bool) (d : Nat) (l0 : Value) (l1 : Value) (l2 : Value) (x : Int32) (st : List Value) (h : Hp) (Q : Po) : wp μ d 266 618 [l0, l1, l2, .int x] st h Q = wp μ d 266 619 [l0, l1, l2, .int x] (.int x :: st) h Q := wp_nx rfl
set_option maxRecDepth 20000 in
theorem r266_619 (μ : Bool) (d : Nat) (l0 : Value) (l1 : Value) (l2 : Value) (l3 : Value) (st : List Value) (h : Hp) (Q : Po) : wp μ d 266 619 [l0, l1, l2, l3] st h Q = wp μ d 266 620 [l0, l1, l2, l3] (.int (nI 1) :: st) h Q := (wp_nx rfl).trans (congrArg (fun z => wp μ d 266 620 [l0, l1, l2, l3] (.int z :: st) h Q) (show Int32.ofInt (1) = (nI 1) by decide))
set_option maxRecDepth 20000 in
theorem r266_620 (μ : Bool) (d : Nat) (l0 : Value) (l1 : Value) (l2 : Value) (l3 : Value) (y0 y1 : Int32) (st : List Value) (h : Hp) (Q : Po) : wp μ d 266 620 [l0, l1, l2, l3] (.int y0 :: .int y1 :: st) h Q = wp μ d 266 621 [l0, l1, l2, l3] (.int (y1 + y0) :: st) h Q := wp_nx rfl
set_option maxRecDepth 20000 in
theorem r266_621 (μ : Bool) (d : Nat) (l0 : Value) (l1 : Value) (l2 : Value) (l3 : Value) (y0 : Int32) (y1 : Nat) (st : List Value) (h : Hp) (Q : Po) : wp μ d 266 621 [l0, l1, l2, l3] (.int y0 :: .ref y1 :: st) h Q = (((kdm μ h y1).1 = 20 ∧ vp_in y0 (kdm μ h y1).2) ∧ wp μ d 266 622 [l0, l1, l2, l3] (.int (gI h y1 y0.toNatClampNeg) :: st) h Q) := wp_ck _ rfl
set_option maxRecDepth 20000 in
theorem r266_621t (μ : Bool) (d : Nat) (l0 : Value) (l1 : Value) (l2 : Value) (l3 : Value) (y0 : Int32) (st : List Value) (h : Hp) (Q : Po) : wp μ d 266 621 [l0, l1, l2, l3] (.int y0 :: .retAddr 1 :: st) h Q = (vp_in y0 (hk h 0).2 ∧ wp μ d 266 622 [l0, l1, l2, l3] (.int (gI h 0 y0.toNatClampNeg) :: st) h Q) := wp_ck _ rfl
set_option maxRecDepth 20000 in
theorem r266_622 (μ : Bool) (d : Nat) (l1 : Value) (l2 : Value) (l3 : Value) (x : Nat) (st : List Value) (h : Hp) (Q : Po) : wp μ d 266 622 [.ref x, l1, l2, l3] st h Q = wp μ d 266 623 [.ref x, l1, l2, l3] (.ref x :: st) h Q := wp_nx rfl
set_option maxRecDepth 20000 in
theorem r266_622t (μ : Bool) (d : Nat) (l1 : Value) (l2 : Value) (l3 : Value) (x : Nat) (st : List Value) (h : Hp) (Q : Po) : wp μ d 266 622 [.retAddr x, l1, l2, l3] st h Q = wp μ d 266 623 [.retAddr x, l1, l2, l3] (.retAddr x :: st) h Q := wp_nx rfl
set_option maxRecDepth 20000 in
theorem r266_623 (μ : Bool) (d : Nat) (l0 : Value) (l1 : Value) (l2 : Value) (x : Int32) (st : List Value) (h : Hp) (Q : Po) : wp μ d 266 623 [l0, l1, l2, .int x] st h Q = wp μ d 266 624 [l0, l1, l2, .int x] (.int x :: st) h Q := wp_nx rfl
set_option maxRecDepth 20000 in
theorem r266_624 (μ : Bool) (d : Nat) (l0 : Value) (l1 : Value) (l2 : Value) (l3 : Value) (st : List Value) (h : Hp) (Q : Po) : wp μ d 266 624 [l0, l1, l2, l3] st h Q = wp μ d 266 625 [l0, l1, l2, l3] (.int (nI 2) :: st) h Q := (wp_nx rfl).trans (congrArg (fun z => wp μ d 266 625 [l0, l1, l2, l3] (.int z :: st) h Q) (show Int32.ofInt (2) = (nI 2) by decide))
set_option maxRecDepth 20000 in
theorem r266_625 (μ : Bool) (d : Nat) (l0 : Value) (l1 : Value) (l2 : Value) (l3 : Value) (y0 y1 : Int32) (st : List Value) (h : Hp) (Q : Po) : wp μ d 266 625 [l0, l1, l2, l3] (.int y0 :: .int y1 :: st) h Q = wp μ d 266 626 [l0, l1, l2, l3] (.int (y1 + y0) :: st) h Q := wp_nx rfl
set_option maxRecDepth 20000 in
theorem r266_626 (μ : Bool) (d : Nat) (l0 : Value) (l1 : Value) (l2 : Value) (l3 : Value) (y0 : Int32) (y1 : Nat) (st : List Value) (h : Hp) (Q : Po) : wp μ d 266 626 [l0, l1, l2, l3] (.int y0 :: .ref y1 :: st) h Q = (((kdm μ h y1).1 = 20 ∧ vp_in y0 (kdm μ h y1).2) ∧ wp μ d 266 627 [l0, l1, l2, l3] (.int (gI h y1 y0.toNatClampNeg) :: st) h Q) := wp_ck _ rfl
set_option maxRecDepth 20000 in
theorem r266_626t (μ : Bool) (d : Nat) (l0 : Value) (l1 : Value) (l2 : Value) (l3 : Value) (y0 : Int32) (st : List Value) (h : Hp) (Q : Po) : wp μ d 266 626 [l0, l1, l2, l3] (.int y0 :: .retAddr 1 :: st) h Q = (vp_in y0 (hk h 0).2 ∧ wp μ d 266 627 [l0, l1, l2, l3] (.int (gI h 0 y0.toNatClampNeg) :: st) h Q) := wp_ck _ rfl
set_option maxRecDepth 20000 in
theorem r266_627 (μ : Bool) (d : Nat) (l1 : Value) (l2 : Value) (l3 : Value) (x : Nat) (st : List Value) (h : Hp) (Q : Po) : wp μ d 266 627 [.ref x, l1, l2, l3] st h Q = wp μ d 266 628 [.ref x, l1, l2, l3] (.ref x :: st) h Q := wp_nx rfl
set_option maxRecDepth 20000 in
theorem r266_627t (μ : Bool) (d : Nat) (l1 : Value) (l2 : Value) (l3 : Value) (x : Nat) (st : List Value) (h : Hp) (Q : Po) : wp μ d 266 627 [.retAddr x, l1, l2, l3] st h Q = wp μ d 266 628 [.retAddr x, l1, l2, l3] (.retAddr x :: st) h Q := wp_nx rfl
set_option maxRecDepth 20000 in
theorem r266_628 (μ : Bool) (d : Nat) (l0 : Value) (l1 : Value) (l2 : Value) (x : Int32) (st : List Value) (h : Hp) (Q : Po) : wp μ d 266 628 [l0, l1, l2, .int x] st h Q = wp μ d 266 629 [l0, l1, l2, .int x] (.int x :: st) h Q := wp_nx rfl
set_option maxRecDepth 20000 in
theorem r266_629 (μ : Bool) (d : Nat) (l0 : Value) (l1 : Value) (l2 : Value) (l3 : Value) (st : List Value) (h : Hp) (Q : Po) : wp μ d 266 629 [l0, l1, l2, l3] st h Q = wp μ d 266 630 [l0, l1, l2, l3] (.int (nI 3) :: st) h Q := (wp_nx rfl).trans (congrArg (fun z => wp μ d 266 630 [l0, l1, l2, l3] (.int z :: st) h Q) (show Int32.ofInt (3) = (nI 3) by decide))
set_option maxRecDepth 20000 in
theorem r266_630 (μ : Bool) (d : Nat) (l0 : Value) (l1 : Value) (l2 : Value) (l3 : Value) (y0 y1 : Int32) (st : List Value) (h : Hp) (Q : Po) : wp μ d 266 630 [l0, l1, l2, l3] (.int y0 :: .int y1 :: st) h Q = wp μ d 266 631 [l0, l1, l2, l3] (.int (y1 + y0) :: st) h Q := wp_nx rfl
set_option maxRecDepth 20000 in
theorem r266_631 (μ : Bool) (d : Nat) (l0 : Value) (l1 : Value) (l2 : Value) (l3 : Value) (y0 : Int32) (y1 : Nat) (st : List Value) (h : Hp) (Q : Po) : wp μ d 266 631 [l0, l1, l2, l3] (.int y0 :: .ref y1 :: st) h Q = (((kdm μ h y1).1 = 20 ∧ vp_in y0 (kdm μ h y1).2) ∧ wp μ d 266 632 [l0, l1, l2, l3] (.int (gI h y1 y0.toNatClampNeg) :: st) h Q) := wp_ck _ rfl
set_option maxRecDepth 20000 in
theorem r266_631t (μ : Bool) (d : Nat) (l0 : Value) (l1 : Value) (l2 : Value) (l3 : Value) (y0 : Int32) (st : List Value) (h : Hp) (Q : Po) : wp μ d 266 631 [l0, l1, l2, l3] (.int y0 :: .retAddr 1 :: st) h Q = (vp_in y0 (hk h 0).2 ∧ wp μ d 266 632 [l0, l1, l2, l3] (.int (gI h 0 y0.toNatClampNeg) :: st) h Q) := wp_ck _ rfl
set_option maxRecDepth 20000 in
theorem r266_632 (μ : Bool) (d : Nat) (l1 : Value) (l2 : Value) (l3 : Value) (x : Nat) (st : List Value) (h : Hp) (Q : Po) : wp μ d 266 632 [.ref x, l1, l2, l3] st h Q = wp μ d 266 633 [.ref x, l1, l2, l3] (.ref x :: st) h Q := wp_nx rfl
set_option maxRecDepth 20000 in
theorem r266_632t (μ : Bool) (d : Nat) (l1 : Value) (l2 : Value) (l3 : Value) (x : Nat) (st : List Value) (h : Hp) (Q : Po) : wp μ d 266 632 [.retAddr x, l1, l2, l3] st h Q = wp μ d 266 633 [.retAddr x, l1, l2, l3] (.retAddr x :: st) h Q := wp_nx rfl
set_option maxRecDepth 20000 in
theorem r266_633 (μ : Bool) (d : Nat) (l0 : Value) (l1 : Value) (l2 : Value) (x : Int32) (st : List Value) (h : Hp) (Q : Po) : wp μ d 266 633 [l0, l1, l2, .int x] st h Q = wp μ d 266 634 [l0, l1, l2, .int x] (.int x :: st) h Q := wp_nx rfl
set_option maxRecDepth 20000 in
theorem r266_634 (μ : Bool) (d : Nat) (l0 : Value) (l1 : Value) (l2 : Value) (l3 : Value) (st : List Value) (h : Hp) (Q : Po) : wp μ d 266 634 [l0, l1, l2, l3] st h Q = wp μ d 266 635 [l0, l1, l2, l3] (.int (nI 4) :: st) h Q := (wp_nx rfl).trans (congrArg (fun z => wp μ d 266 635 [l0, l1, l2, l3] (.int z :: st) h Q) (show Int32.ofInt (4) = (nI 4) by decide))
set_option maxRecDepth 20000 in
theorem r266_635 (μ : Bool) (d : Nat) (l0 : Value) (l1 : Value) (l2 : Value) (l3 : Value) (y0 y1 : Int32) (st : List Value) (h : Hp) (Q : Po) : wp μ d 266 635 [l0, l1, l2, l3] (.int y0 :: .int y1 :: st) h Q = wp μ d 266 636 [l0, l1, l2, l3] (.int (y1 + y0) :: st) h Q := wp_nx rfl
set_option maxRecDepth 20000 in
theorem r266_636 (μ : Bool) (d : Nat) (l0 : Value) (l1 : Value) (l2 : Value) (l3 : Value) (y0 : Int32) (y1 : Nat) (st : List Value) (h : Hp) (Q : Po) : wp μ d 266 636 [l0, l1, l2, l3] (.int y0 :: .ref y1 :: st) h Q = (((kdm μ h y1).1 = 20 ∧ vp_in y0 (kdm μ h y1).2) ∧ wp μ d 266 637 [l0, l1, l2, l3] (.int (gI h y1 y0.toNatClampNeg) :: st) h Q) := wp_ck _ rfl
set_option maxRecDepth 20000 in
theorem r266_636t (μ : Bool) (d : Nat) (l0 : Value) (l1 : Value) (l2 : Value) (l3 : Value) (y0 : Int32) (st : List Value) (h : Hp) (Q : Po) : wp μ d 266 636 [l0, l1, l2, l3] (.int y0 :: .retAddr 1 :: st) h Q = (vp_in y0 (hk h 0).2 ∧ wp μ d 266 637 [l0, l1, l2, l3] (.int (gI h 0 y0.toNatClampNeg) :: st) h Q) := wp_ck _ rfl
set_option maxRecDepth 20000 in
theorem r266_637 (μ : Bool) (d : Nat) (l1 : Value) (l2 : Value) (l3 : Value) (x : Nat) (st : List Value) (h : Hp) (Q : Po) : wp μ d 266 637 [.ref x, l1, l2, l3] st h Q = wp μ d 266 638 [.ref x, l1, l2, l3] (.ref x :: st) h Q := wp_nx rfl
set_option maxRecDepth 20000 in
theorem r266_637t (μ : Bool) (d : Nat) (l1 : Value) (l2 : Value) (l3 : Value) (x : Nat) (st : List Value) (h : Hp) (Q : Po) : wp μ d 266 637 [.retAddr x, l1, l2, l3] st h Q = wp μ d 266 638 [.retAddr x, l1, l2, l3] (.retAddr x :: st) h Q := wp_nx rfl
set_option maxRecDepth 20000 in
theorem r266_638 (μ : Bool) (d : Nat) (l0 : Value) (l1 : Value) (l2 : Value) (x : Int32) (st : List Value) (h : Hp) (Q : Po) : wp μ d 266 638 [l0, l1, l2, .int x] st h Q = wp μ d 266 639 [l0, l1, l2, .int x] (.int x :: st) h Q := wp_nx rfl
set_option maxRecDepth 20000 in
theorem r266_639 (μ : Bool) (d : Nat) (l0 : Value) (l1 : Value) (l2 : Value) (l3 : Value) (st : List Value) (h : Hp) (Q : Po) : wp μ d 266 639 [l0, l1, l2, l3] st h Q = wp μ d 266 640 [l0, l1, l2, l3] (.int (nI 5) :: st) h Q := (wp_nx rfl).trans (congrArg (fun z => wp μ d 266 640 [l0, l1, l2, l3] (.int z :: st) h Q) (show Int32.ofInt (5) = (nI 5) by decide))
set_option maxRecDepth 20000 in
theorem r266_640 (μ : Bool) (d : Nat) (l0 : Value) (l1 : Value) (l2 : Value) (l3 : Value) (y0 y1 : Int32) (st : List Value) (h : Hp) (Q : Po) : wp μ d 266 640 [l0, l1, l2, l3] (.int y0 :: .int y1 :: st) h Q = wp μ d 266 641 [l0, l1, l2, l3] (.int (y1 + y0) :: st) h Q := wp_nx rfl
set_option maxRecDepth 20000 in
theorem r266_641 (μ : Bool) (d : Nat) (l0 : Value) (l1 : Value) (l2 : Value) (l3 : Value) (y0 : Int32) (y1 : Nat) (st : List Value) (h : Hp) (Q : Po) : wp μ d 266 641 [l0, l1, l2, l3] (.int y0 :: .ref y1 :: st) h Q = (((kdm μ h y1).1 = 20 ∧ vp_in y0 (kdm μ h y1).2) ∧ wp μ d 266 642 [l0, l1, l2, l3] (.int (gI h y1 y0.toNatClampNeg) :: st) h Q) := wp_ck _ rfl
set_option maxRecDepth 20000 in
theorem r266_641t (μ : Bool) (d : Nat) (l0 : Value) (l1 : Value) (l2 : Value) (l3 : Value) (y0 : Int32) (st : List Value) (h : Hp) (Q : Po) : wp μ d 266 641 [l0, l1, l2, l3] (.int y0 :: .retAddr 1 :: st) h Q = (vp_in y0 (hk h 0).2 ∧ wp μ d 266 642 [l0, l1, l2, l3] (.int (gI h 0 y0.toNatClampNeg) :: st) h Q) := wp_ck _ rfl
set_option maxRecDepth 20000 in
theorem r266_642 (μ : Bool) (d : Nat) (l0 : Value) (l1 : Value) (l2 : Value) (l3 : Value) (y0 : Int32) (y1 : Int32) (y2 : Int32) (y3 : Int32) (y4 : Int32) (y5 : Nat) (h : Hp) (Q : Po) : wp μ (d + 1) 266 642 [l0, l1, l2, l3] [.int y0, .int y1, .int y2, .int y3, .int y4, .ref y5] h Q = ((kdm μ h y5).1 = 11 ∧ cwp μ d 99 [.ref y5, .int y4, .int y3, .int y2, .int y1, .int y0] h (fun r h' => wp μ (d + 1) 266 645 [l0, l1, l2, l3] (r.toList ++ []) h' Q)) := wp_kc _ True rfl ⟨fun q => by obtain ⟨x, q1, q2⟩ := q.2.2.1 rfl; cases q1; exact q2, fun q => ⟨Nat.le_of_ble_eq_true rfl, ⟨Nat.le_of_ble_eq_true rfl, rfl, Nat.le_of_ble_eq_true rfl⟩, fun _ => ⟨_, rfl, q⟩, fun q9 => absurd q9 (by decide)⟩⟩
set_option maxRecDepth 20000 in
theorem r266_645 (μ : Bool) (d : Nat) (l0 : Value) (l1 : Value) (l3 : Value) (x : Nat) (st : List Value) (h : Hp) (Q : Po) : wp μ d 266 645 [l0, l1, .ref x, l3] st h Q = wp μ d 266 646 [l0, l1, .ref x, l3] (.ref x :: st) h Q := wp_nx rfl
set_option maxRecDepth 20000 in
theorem r266_645n (μ : Bool) (d : Nat) (l0 : Value) (l1 : Value) (l3 : Value) (st : List Value) (h : Hp) (Q : Po) : wp μ d 266 645 [l0, l1, .null, l3] st h Q = wp μ d 266 646 [l0, l1, .null, l3] (.null :: st) h Q := wp_nx rfl
set_option maxRecDepth 20000 in
theorem r266_645t (μ : Bool) (d : Nat) (l0 : Value) (l1 : Value) (l3 : Value) (x : Nat) (st : List Value) (h : Hp) (Q : Po) : wp μ d 266 645 [l0, l1, .retAddr x, l3] st h Q = wp μ d 266 646 [l0, l1, .retAddr x, l3] (.retAddr x :: st) h Q := wp_nx rfl
set_option maxRecDepth 20000 in
theorem r266_646 (μ : Bool) (d : Nat) (l1 : Value) (l2 : Value) (l3 : Value) (x : Nat) (st : List Value) (h : Hp) (Q : Po) : wp μ d 266 646 [.ref x, l1, l2, l3] st h Q = wp μ d 266 647 [.ref x, l1, l2, l3] (.ref x :: st) h Q := wp_nx rfl
set_option maxRecDepth 20000 in
theorem r266_646t (μ : Bool) (d : Nat) (l1 : Value) (l2 : Value) (l3 : Value) (x : Nat) (st : List Value) (h : Hp) (Q : Po) : wp μ d 266 646 [.retAddr x, l1, l2, l3] st h Q = wp μ d 266 647 [.retAddr x, l1, l2, l3] (.retAddr x :: st) h Q := wp_nx rfl
set_option maxRecDepth 20000 in
theorem r266_647 (μ : Bool) (d : Nat) (l0 : Value) (l1 : Value) (l2 : Value) (x : Int32) (st : List Value) (h : Hp) (Q : Po) : wp μ d 266 647 [l0, l1, l2, .int x] st h Q = wp μ d 266 648 [l0, l1, l2, .int x] (.int x :: st) h Q := wp_nx rfl
set_option maxRecDepth 20000 in
theorem r266_648 (μ : Bool) (d : Nat) (l0 : Value) (l1 : Value) (l2 : Value) (l3 : Value) (st : List Value) (h : Hp) (Q : Po) : wp μ d 266 648 [l0, l1, l2, l3] st h Q = wp μ d 266 649 [l0, l1, l2, l3] (.int (nI 1) :: st) h Q := (wp_nx rfl).trans (congrArg (fun z => wp μ d 266 649 [l0, l1, l2, l3] (.int z :: st) h Q) (show Int32.ofInt (1) = (nI 1) by decide))
set_option maxRecDepth 20000 in
theorem r266_649 (μ : Bool) (d : Nat) (l0 : Value) (l1 : Value) (l2 : Value) (l3 : Value) (y0 y1 : Int32) (st : List Value) (h : Hp) (Q : Po) : wp μ d 266 649 [l0, l1, l2, l3] (.int y0 :: .int y1 :: st) h Q = wp μ d 266 650 [l0, l1, l2, l3] (.int (y1 + y0) :: st) h Q := wp_nx rfl
set_option maxRecDepth 20000 in
theorem r266_650 (μ : Bool) (d : Nat) (l0 : Value) (l1 : Value) (l2 : Value) (l3 : Value) (y0 : Int32) (y1 : Nat) (st : List Value) (h : Hp) (Q : Po) : wp μ d 266 650 [l0, l1, l2, l3] (.int y0 :: .ref y1 :: st) h Q = (((kdm μ h y1).1 = 20 ∧ vp_in y0 (kdm μ h y1).2) ∧ wp μ d 266 651 [l0, l1, l2, l3] (.int (gI h y1 y0.toNatClampNeg) :: st) h Q) := wp_ck _ rfl
set_option maxRecDepth 20000 in
theorem r266_650t (μ : Bool) (d : Nat) (l0 : Value) (l1 : Value) (l2 : Value) (l3 : Value) (y0 : Int32) (st : List Value) (h : Hp) (Q : Po) : wp μ d 266 650 [l0, l1, l2, l3] (.int y0 :: .retAddr 1 :: st) h Q = (vp_in y0 (hk h 0).2 ∧ wp μ d 266 651 [l0, l1, l2, l3] (.int (gI h 0 y0.toNatClampNeg) :: st) h Q) := wp_ck _ rfl
set_option maxRecDepth 20000 in
theorem r266_651 (μ : Bool) (d : Nat) (l1 : Value) (l2 : Value) (l3 : Value) (x : Nat) (st : List Value) (h : Hp) (Q : Po) : wp μ d 266 651 [.ref x, l1, l2, l3] st h Q = wp μ d 266 652 [.ref x, l1, l2, l3] (.ref x :: st) h Q := wp_nx rfl
set_option maxRecDepth 20000 in
theorem r266_651t (μ : Bool) (d : Nat) (l1 : Value) (l2 : Value) (l3 : Value) (x : Nat) (st : List Value) (h : Hp) (Q : Po) : wp μ d 266 651 [.retAddr x, l1, l2, l3] st h Q = wp μ d 266 652 [.retAddr x, l1, l2, l3] (.retAddr x :: st) h Q := wp_nx rfl
set_option maxRecDepth 20000 in
theorem r266_652 (μ : Bool) (d : Nat) (l0 : Value) (l1 : Value) (l2 : Value) (x : Int32) (st : List Value) (h : Hp) (Q : Po) : wp μ d 266 652 [l0, l1, l2, .int x] st h Q = wp μ d 266 653 [l0, l1, l2, .int x] (.int x :: st) h Q := wp_nx rfl
set_option maxRecDepth 20000 in
theorem r266_653 (μ : Bool) (d : Nat) (l0 : Value) (l1 : Value) (l2 : Value) (l3 : Value) (st : List Value) (h : Hp) (Q : Po) : wp μ d 266 653 [l0, l1, l2, l3] st h Q = wp μ d 266 654 [l0, l1, l2, l3] (.int (nI 2) :: st) h Q := (wp_nx rfl).trans (congrArg (fun z => wp μ d 266 654 [l0, l1, l2, l3] (.int z :: st) h Q) (show Int32.ofInt (2) = (nI 2) by decide))
set_option maxRecDepth 20000 in
theorem r266_654 (μ : Bool) (d : Nat) (l0 : Value) (l1 : Value) (l2 : Value) (l3 : Value) (y0 y1 : Int32) (st : List Value) (h : Hp) (Q : Po) : wp μ d 266 654 [l0, l1, l2, l3] (.int y0 :: .int y1 :: st) h Q = wp μ d 266 655 [l0, l1, l2, l3] (.int (y1 + y0) :: st) h Q := wp_nx rfl
set_option maxRecDepth 20000 in
theorem r266_655 (μ : Bool) (d : Nat) (l0 : Value) (l1 : Value) (l2 : Value) (l3 : Value) (y0 : Int32) (y1 : Nat) (st : List Value) (h : Hp) (Q : Po) : wp μ d 266 655 [l0, l1, l2, l3] (.int y0 :: .ref y1 :: st) h Q = (((kdm μ h y1).1 = 20 ∧ vp_in y0 (kdm μ h y1).2) ∧ wp μ d 266 656 [l0, l1, l2, l3] (.int (gI h y1 y0.toNatClampNeg) :: st) h Q) := wp_ck _ rfl
set_option maxRecDepth 20000 in
theorem r266_655t (μ : Bool) (d : Nat) (l0 : Value) (l1 : Value) (l2 : Value) (l3 : Value) (y0 : Int32) (st : List Value) (h : Hp) (Q : Po) : wp μ d 266 655 [l0, l1, l2, l3] (.int y0 :: .retAddr 1 :: st) h Q = (vp_in y0 (hk h 0).2 ∧ wp μ d 266 656 [l0, l1, l2, l3] (.int (gI h 0 y0.toNatClampNeg) :: st) h Q) := wp_ck _ rfl
set_option maxRecDepth 20000 in
theorem r266_656 (μ : Bool) (d : Nat) (l1 : Value) (l2 : Value) (l3 : Value) (x : Nat) (st : List Value) (h : Hp) (Q : Po) : wp μ d 266 656 [.ref x, l1, l2, l3] st h Q = wp μ d 266 657 [.ref x, l1, l2, l3] (.ref x :: st) h Q := wp_nx rfl
set_option maxRecDepth 20000 in
theorem r266_656t (μ : Bool) (d : Nat) (l1 : Value) (l2 : Value) (l3 : Value) (x : Nat) (st : List Value) (h : Hp) (Q : Po) : wp μ d 266 656 [.retAddr x, l1, l2, l3] st h Q = wp μ d 266 657 [.retAddr x, l1, l2, l3] (.retAddr x :: st) h Q := wp_nx rfl
set_option maxRecDepth 20000 in
theorem r266_657 (μ : Bool) (d : Nat) (l0 : Value) (l1 : Value) (l2 : Value) (x : Int32) (st : List Value) (h : Hp) (Q : Po) : wp μ d 266 657 [l0, l1, l2, .int x] st h Q = wp μ d 266 658 [l0, l1, l2, .int x] (.int x :: st) h Q := wp_nx rfl
set_option maxRecDepth 20000 in
theorem r266_658 (μ : Bool) (d : Nat) (l0 : Value) (l1 : Value) (l2 : Value) (l3 : Value) (st : List Value) (h : Hp) (Q : Po) : wp μ d 266 658 [l0, l1, l2, l3] st h Q = wp μ d 266 659 [l0, l1, l2, l3] (.int (nI 3) :: st) h Q := (wp_nx rfl).trans (congrArg (fun z => wp μ d 266 659 [l0, l1, l2, l3] (.int z :: st) h Q) (show Int32.ofInt (3) = (nI 3) by decide))
set_option maxRecDepth 20000 in
theorem r266_659 (μ : Bool) (d : Nat) (l0 : Value) (l1 : Value) (l2 : Value) (l3 : Value) (y0 y1 : Int32) (st : List Value) (h : Hp) (Q : Po) : wp μ d 266 659 [l0, l1, l2, l3] (.int y0 :: .int y1 :: st) h Q = wp μ d 266 660 [l0, l1, l2, l3] (.int (y1 + y0) :: st) h Q := wp_nx rfl
set_option maxRecDepth 20000 in
theorem r266_660 (μ : Bool) (d : Nat) (l0 : Value) (l1 : Value) (l2 : Value) (l3 : Value) (y0 : Int32) (y1 : Nat) (st : List Value) (h : Hp) (Q : Po) : wp μ d 266 660 [l0, l1, l2, l3] (.int y0 :: .ref y1 :: st) h Q = (((kdm μ h y1).1 = 20 ∧ vp_in y0 (kdm μ h y1).2) ∧ wp μ d 266 661 [l0, l1, l2, l3] (.int (gI h y1 y0.toNatClampNeg) :: st) h Q) := wp_ck _ rfl
set_option maxRecDepth 20000 in
theorem r266_660t (μ : Bool) (d : Nat) (l0 : Value) (l1 : Value) (l2 : Value) (l3 : Value) (y0 : Int32) (st : List Value) (h : Hp) (Q : Po) : wp μ d 266 660 [l0, l1, l2, l3] (.int y0 :: .retAddr 1 :: st) h Q = (vp_in y0 (hk h 0).2 ∧ wp μ d 266 661 [l0, l1, l2, l3] (.int (gI h 0 y0.toNatClampNeg) :: st) h Q) := wp_ck _ rfl
set_option maxRecDepth 20000 in
theorem r266_661 (μ : Bool) (d : Nat) (l1 : Value) (l2 : Value) (l3 : Value) (x : Nat) (st : List Value) (h : Hp) (Q : Po) : wp μ d 266 661 [.ref x, l1, l2, l3] st h Q = wp μ d 266 662 [.ref x, l1, l2, l3] (.ref x :: st) h Q := wp_nx rfl
set_option maxRecDepth 20000 in
theorem r266_661t (μ : Bool) (d : Nat) (l1 : Value) (l2 : Value) (l3 : Value) (x : Nat) (st : List Value) (h : Hp) (Q : Po) : wp μ d 266 661 [.retAddr x, l1, l2, l3] st h Q = wp μ d 266 662 [.retAddr x, l1, l2, l3] (.retAddr x :: st) h Q := wp_nx rfl
set_option maxRecDepth 20000 in
theorem r266_662 (μ : Bool) (d : Nat) (l0 : Value) (l1 : Value) (l2 : Value) (x : Int32) (st : List Value) (h : Hp) (Q : Po) : wp μ d 266 662 [l0, l1, l2, .int x] st h Q = wp μ d 266 663 [l0, l1, l2, .int x] (.int x :: st) h Q := wp_nx rfl
set_option maxRecDepth 20000 in
theorem r266_663 (μ : Bool) (d : Nat) (l0 : Value) (l1 : Value) (l2 : Value) (l3 : Value) (st : List Value) (h : Hp) (Q : Po) : wp μ d 266 663 [l0, l1, l2, l3] st h Q = wp μ d 266 664 [l0, l1, l2, l3] (.int (nI 4) :: st) h Q := (wp_nx rfl).trans (congrArg (fun z => wp μ d 266 664 [l0, l1, l2, l3] (.int z :: st) h Q) (show Int32.ofInt (4) = (nI 4) by decide))
set_option maxRecDepth 20000 in
theorem r266_664 (μ : Bool) (d : Nat) (l0 : Value) (l1 : Value) (l2 : Value) (l3 : Value) (y0 y1 : Int32) (st : List Value) (h : Hp) (Q : Po) : wp μ d 266 664 [l0, l1, l2, l3] (.int y0 :: .int y1 :: st) h Q = wp μ d 266 665 [l0, l1, l2, l3] (.int (y1 + y0) :: st) h Q := wp_nx rfl
set_option maxRecDepth 20000 in
theorem r266_665 (μ : Bool) (d : Nat) (l0 : Value) (l1 : Value) (l2 : Value) (l3 : Value) (y0 : Int32) (y1 : Nat) (st : List Value) (h : Hp) (Q : Po) : wp μ d 266 665 [l0, l1, l2, l3] (.int y0 :: .ref y1 :: st) h Q = (((kdm μ h y1).1 = 20 ∧ vp_in y0 (kdm μ h y1).2) ∧ wp μ d 266 666 [l0, l1, l2, l3] (.int (gI h y1 y0.toNatClampNeg) :: st) h Q) := wp_ck _ rfl
set_option maxRecDepth 20000 in
theorem r266_665t (μ : Bool) (d : Nat) (l0 : Value) (l1 : Value) (l2 : Value) (l3 : Value) (y0 : Int32) (st : List Value) (h : Hp) (Q : Po) : wp μ d 266 665 [l0, l1, l2, l3] (.int y0 :: .retAddr 1 :: st) h Q = (vp_in y0 (hk h 0).2 ∧ wp μ d 266 666 [l0, l1, l2, l3] (.int (gI h 0 y0.toNatClampNeg) :: st) h Q) := wp_ck _ rfl
set_option maxRecDepth 20000 in
theorem r266_666 (μ : Bool) (d : Nat) (l1 : Value) (l2 : Value) (l3 : Value) (x : Nat) (st : List Value) (h : Hp) (Q : Po) : wp μ d 266 666 [.ref x, l1, l2, l3] st h Q = wp μ d 266 667 [.ref x, l1, l2, l3] (.ref x :: st) h Q := wp_nx rfl
set_option maxRecDepth 20000 in
theorem r266_666t (μ : Bool) (d : Nat) (l1 : Value) (l2 : Value) (l3 : Value) (x : Nat) (st : List Value) (h : Hp) (Q : Po) : wp μ d 266 666 [.retAddr x, l1, l2, l3] st h Q = wp μ d 266 667 [.retAddr x, l1, l2, l3] (.retAddr x :: st) h Q := wp_nx rfl
set_option maxRecDepth 20000 in
theorem r266_667 (μ : Bool) (d : Nat) (l0 : Value) (l1 : Value) (l2 : Value) (x : Int32) (st : List Value) (h : Hp) (Q : Po) : wp μ d 266 667 [l0, l1, l2, .int x] st h Q = wp μ d 266 668 [l0, l1, l2, .int x] (.int x :: st) h Q := wp_nx rfl
set_option maxRecDepth 20000 in
theorem r266_668 (μ : Bool) (d : Nat) (l0 : Value) (l1 : Value) (l2 : Value) (l3 : Value) (st : List Value) (h : Hp) (Q : Po) : wp μ d 266 668 [l0, l1, l2, l3] st h Q = wp μ d 266 669 [l0, l1, l2, l3] (.int (nI 5) :: st) h Q := (wp_nx rfl).trans (congrArg (fun z => wp μ d 266 669 [l0, l1, l2, l3] (.int z :: st) h Q) (show Int32.ofInt (5) = (nI 5) by decide))
set_option maxRecDepth 20000 in
theorem r266_669 (μ : Bool) (d : Nat) (l0 : Value) (l1 : Value) (l2 : Value) (l3 : Value) (y0 y1 : Int32) (st : List Value) (h : Hp) (Q : Po) : wp μ d 266 669 [l0, l1, l2, l3] (.int y0 :: .int y1 :: st) h Q = wp μ d 266 670 [l0, l1, l2, l3] (.int (y1 + y0) :: st) h Q := wp_nx rfl
set_option maxRecDepth 20000 in
theorem r266_670 (μ : Bool) (d : Nat) (l0 : Value) (l1 : Value) (l2 : Value) (l3 : Value) (y0 : Int32) (y1 : Nat) (st : List Value) (h : Hp) (Q : Po) : wp μ d 266 670 [l0, l1, l2, l3] (.int y0 :: .ref y1 :: st) h Q = (((kdm μ h y1).1 = 20 ∧ vp_in y0 (kdm μ h y1).2) ∧ wp μ d 266 671 [l0, l1, l2, l3] (.int (gI h y1 y0.toNatClampNeg) :: st) h Q) := wp_ck _ rfl
set_option maxRecDepth 20000 in
theorem r266_670t (μ : Bool) (d : Nat) (l0 : Value) (l1 : Value) (l2 : Value) (l3 : Value) (y0 : Int32) (st : List Value) (h : Hp) (Q : Po) : wp μ d 266 670 [l0, l1, l2, l3] (.int y0 :: .retAddr 1 :: st) h Q = (vp_in y0 (hk h 0).2 ∧ wp μ d 266 671 [l0, l1, l2, l3] (.int (gI h 0 y0.toNatClampNeg) :: st) h Q) := wp_ck _ rfl
set_option maxRecDepth 20000 in
theorem r266_671 (μ : Bool) (d : Nat) (l0 : Value) (l1 : Value) (l2 : Value) (l3 : Value) (y0 : Int32) (y1 : Int32) (y2 : Int32) (y3 : Int32) (y4 : Int32) (y5 : Nat) (y6 : Int64) (h : Hp) (Q : Po) : wp μ (d + 1) 266 671 [l0, l1, l2, l3] [.int y0, .int y1, .int y2, .int y3, .int y4, .ref y5, .long y6] h Q = ((kdm μ h y5).1 = 12 ∧ cwp μ d 211 [.ref y5, .int y4, .int y3, .int y2, .int y1, .int y0] h (fun r h' => wp μ (d + 1) 266 674 [l0, l1, l2, l3] (r.toList ++ [.long y6]) h' Q)) := wp_kc _ True rfl ⟨fun q => by obtain ⟨x, q1, q2⟩ := q.2.2.1 rfl; cases q1; exact q2, fun q => ⟨Nat.le_of_ble_eq_true rfl, ⟨Nat.le_of_ble_eq_true rfl, rfl, Nat.le_of_ble_eq_true rfl⟩, fun _ => ⟨_, rfl, q⟩, fun q9 => absurd q9 (by decide)⟩⟩
set_option maxRecDepth 20000 in
theorem r266_674 (μ : Bool) (d : Nat) (l0 : Value) (l1 : Value) (l2 : Value) (l3 : Value) (y0 y1 : Int64) (st : List Value) (h : Hp) (Q : Po) : wp μ d 266 674 [l0, l1, l2, l3] (.long y0 :: .long y1 :: st) h Q = wp μ d 266 675 [l0, l1, l2, l3] (.int (lg_cmp y1 y0) :: st) h Q := wp_nx rfl
set_option maxRecDepth 20000 in
theorem r266_675 (μ : Bool) (d : Nat) (l0 : Value) (l1 : Value) (l2 : Value) (l3 : Value) (y0 : Int32) (st : List Value) (h : Hp) (Q : Po) : wp μ d 266 675 [l0, l1, l2, l3] (.int y0 :: st) h Q = if y0 = nI 0 then wp μ d 266 1545 [l0, l1, l2, l3] st h Q else wp μ d 266 678 [l0, l1, l2, l3] st h Q := wp_br (y0 = nI 0) rfl
set_option maxRecDepth 20000 in
theorem r266_678 (μ : Bool) (d : Nat) (l0 : Value) (l1 : Value) (l2 : Value) (l3 : Value) (st : List Value) (h : Hp) (Q : Po) : wp μ d 266 678 [l0, l1, l2, l3] st h Q = wp μ d 266 679 [l0, l1, l2, l3] (.int (nI 0) :: st) h Q := (wp_nx rfl).trans (congrArg (fun z => wp μ d 266 679 [l0, l1, l2, l3] (.int z :: st) h Q) (show Int32.ofInt (0) = (nI 0) by decide))
set_option maxRecDepth 20000 in
theorem r266_679 (μ : Bool) (d : Nat) (l0 : Value) (l1 : Value) (l2 : Value) (l3 : Value) (y0 : Int32) (h : Hp) (Q : Po) : wp μ d 266 679 [l0, l1, l2, l3] [.int y0] h Q = ((y0 = nI 0 ∨ y0 = nI 1) ∧ Q (some (.int y0)) h) := (wp_rc _ rfl).trans (by rw [show retOk (rM 266) y0 = (narrow .boolean (.int y0) = .int y0) from rfl, nz_iff]; rfl)
set_option maxRecDepth 20000 in
theorem r266_680 (μ : Bool) (d : Nat) (l0 : Value) (l2 : Value) (l3 : Value) (x : Nat) (st : List Value) (h : Hp) (Q : Po) : wp μ d 266 680 [l0, .ref x, l2, l3] st h Q = wp μ d 266 681 [l0, .ref x, l2, l3] (.ref x :: st) h Q := wp_nx rfl
set_option maxRecDepth 20000 in
theorem r266_680n (μ : Bool) (d : Nat) (l0 : Value) (l2 : Value) (l3 : Value) (st : List Value) (h : Hp) (Q : Po) : wp μ d 266 680 [l0, .null, l2, l3] st h Q = wp μ d 266 681 [l0, .null, l2, l3] (.null :: st) h Q := wp_nx rfl
set_option maxRecDepth 20000 in
theorem r266_680t (μ : Bool) (d : Nat) (l0 : Value) (l2 : Value) (l3 : Value) (x : Nat) (st : List Value) (h : Hp) (Q : Po) : wp μ d 266 680 [l0, .retAddr x, l2, l3] st h Q = wp μ d 266 681 [l0, .retAddr x, l2, l3] (.retAddr x :: st) h Q := wp_nx rfl
set_option maxRecDepth 20000 in
theorem r266_681 (μ : Bool) (d : Nat) (l1 : Value) (l2 : Value) (l3 : Value) (x : Nat) (st : List Value) (h : Hp) (Q : Po) : wp μ d 266 681 [.ref x, l1, l2, l3] st h Q = wp μ d 266 682 [.ref x, l1, l2, l3] (.ref x :: st) h Q := wp_nx rfl
set_option maxRecDepth 20000 in
theorem r266_681t (μ : Bool) (d : Nat) (l1 : Value) (l2 : Value) (l3 : Value) (x : Nat) (st : List Value) (h : Hp) (Q : Po) : wp μ d 266 681 [.retAddr x, l1, l2, l3] st h Q = wp μ d 266 682 [.retAddr x, l1, l2, l3] (.retAddr x :: st) h Q := wp_nx rfl
set_option maxRecDepth 20000 in
theorem r266_682 (μ : Bool) (d : Nat) (l0 : Value) (l1 : Value) (l2 : Value) (x : Int32) (st : List Value) (h : Hp) (Q : Po) : wp μ d 266 682 [l0, l1, l2, .int x] st h Q = wp μ d 266 683 [l0, l1, l2, .int x] (.int x :: st) h Q := wp_nx rfl
set_option maxRecDepth 20000 in
theorem r266_683 (μ : Bool) (d : Nat) (l0 : Value) (l1 : Value) (l2 : Value) (l3 : Value) (st : List Value) (h : Hp) (Q : Po) : wp μ d 266 683 [l0, l1, l2, l3] st h Q = wp μ d 266 684 [l0, l1, l2, l3] (.int (nI 1) :: st) h Q := (wp_nx rfl).trans (congrArg (fun z => wp μ d 266 684 [l0, l1, l2, l3] (.int z :: st) h Q) (show Int32.ofInt (1) = (nI 1) by decide))
set_option maxRecDepth 20000 in
theorem r266_684 (μ : Bool) (d : Nat) (l0 : Value) (l1 : Value) (l2 : Value) (l3 : Value) (y0 y1 : Int32) (st : List Value) (h : Hp) (Q : Po) : wp μ d 266 684 [l0, l1, l2, l3] (.int y0 :: .int y1 :: st) h Q = wp μ d 266 685 [l0, l1, l2, l3] (.int (y1 + y0) :: st) h Q := wp_nx rfl
set_option maxRecDepth 20000 in
theorem r266_685 (μ : Bool) (d : Nat) (l0 : Value) (l1 : Value) (l2 : Value) (l3 : Value) (y0 : Int32) (y1 : Nat) (st : List Value) (h : Hp) (Q : Po) : wp μ d 266 685 [l0, l1, l2, l3] (.int y0 :: .ref y1 :: st) h Q = (((kdm μ h y1).1 = 20 ∧ vp_in y0 (kdm μ h y1).2) ∧ wp μ d 266 686 [l0, l1, l2, l3] (.int (gI h y1 y0.toNatClampNeg) :: st) h Q) := wp_ck _ rfl
set_option maxRecDepth 20000 in
theorem r266_685t (μ : Bool) (d : Nat) (l0 : Value) (l1 : Value) (l2 : Value) (l3 : Value) (y0 : Int32) (st : List Value) (h : Hp) (Q : Po) : wp μ d 266 685 [l0, l1, l2, l3] (.int y0 :: .retAddr 1 :: st) h Q = (vp_in y0 (hk h 0).2 ∧ wp μ d 266 686 [l0, l1, l2, l3] (.int (gI h 0 y0.toNatClampNeg) :: st) h Q) := wp_ck _ rfl
set_option maxRecDepth 20000 in
theorem r266_686 (μ : Bool) (d : Nat) (l1 : Value) (l2 : Value) (l3 : Value) (x : Nat) (st : List Value) (h : Hp) (Q : Po) : wp μ d 266 686 [.ref x, l1, l2, l3] st h Q = wp μ d 266 687 [.ref x, l1, l2, l3] (.ref x :: st) h Q := wp_nx rfl
set_option maxRecDepth 20000 in
theorem r266_686t (μ : Bool) (d : Nat) (l1 : Value) (l2 : Value) (l3 : Value) (x : Nat) (st : List Value) (h : Hp) (Q : Po) : wp μ d 266 686 [.retAddr x, l1, l2, l3] st h Q = wp μ d 266 687 [.retAddr x, l1, l2, l3] (.retAddr x :: st) h Q := wp_nx rfl
set_option maxRecDepth 20000 in
theorem r266_687 (μ : Bool) (d : Nat) (l0 : Value) (l1 : Value) (l2 : Value) (x : Int32) (st : List Value) (h : Hp) (Q : Po) : wp μ d 266 687 [l0, l1, l2, .int x] st h Q = wp μ d 266 688 [l0, l1, l2, .int x] (.int x :: st) h Q := wp_nx rfl
set_option maxRecDepth 20000 in
theorem r266_688 (μ : Bool) (d : Nat) (l0 : Value) (l1 : Value) (l2 : Value) (l3 : Value) (st : List Value) (h : Hp) (Q : Po) : wp μ d 266 688 [l0, l1, l2, l3] st h Q = wp μ d 266 689 [l0, l1, l2, l3] (.int (nI 2) :: st) h Q := (wp_nx rfl).trans (congrArg (fun z => wp μ d 266 689 [l0, l1, l2, l3] (.int z :: st) h Q) (show Int32.ofInt (2) = (nI 2) by decide))
set_option maxRecDepth 20000 in
theorem r266_689 (μ : Bool) (d : Nat) (l0 : Value) (l1 : Value) (l2 : Value) (l3 : Value) (y0 y1 : Int32) (st : List Value) (h : Hp) (Q : Po) : wp μ d 266 689 [l0, l1, l2, l3] (.int y0 :: .int y1 :: st) h Q = wp μ d 266 690 [l0, l1, l2, l3] (.int (y1 + y0) :: st) h Q := wp_nx rfl
set_option maxRecDepth 20000 in
theorem r266_690 (μ : Bool) (d : Nat) (l0 : Value) (l1 : Value) (l2 : Value) (l3 : Value) (y0 : Int32) (y1 : Nat) (st : List Value) (h : Hp) (Q : Po) : wp μ d 266 690 [l0, l1, l2, l3] (.int y0 :: .ref y1 :: st) h Q = (((kdm μ h y1).1 = 20 ∧ vp_in y0 (kdm μ h y1).2) ∧ wp μ d 266 691 [l0, l1, l2, l3] (.int (gI h y1 y0.toNatClampNeg) :: st) h Q) := wp_ck _ rfl
set_option maxRecDepth 20000 in
theorem r266_690t (μ : Bool) (d : Nat) (l0 : Value) (l1 : Value) (l2 : Value) (l3 : Value) (y0 : Int32) (st : List Value) (h : Hp) (Q : Po) : wp μ d 266 690 [l0, l1, l2, l3] (.int y0 :: .retAddr 1 :: st) h Q = (vp_in y0 (hk h 0).2 ∧ wp μ d 266 691 [l0, l1, l2, l3] (.int (gI h 0 y0.toNatClampNeg) :: st) h Q) := wp_ck _ rfl
set_option maxRecDepth 20000 in
theorem r266_691 (μ : Bool) (d : Nat) (l0 : Value) (l1 : Value) (l2 : Value) (l3 : Value) (y0 : Int32) (y1 : Int32) (y2 : Nat) (h : Hp) (Q : Po) : wp μ (d + 1) 266 691 [l0, l1, l2, l3] [.int y0, .int y1, .ref y2] h Q = ((kdm μ h y2).1 = 11 ∧ cwp μ d 100 [.ref y2, .int y1, .int y0] h (fun r h' => wp μ (d + 1) 266 694 [l0, l1, l2, l3] (r.toList ++ []) h' Q)) := wp_kc _ True rfl ⟨fun q => by obtain ⟨x, q1, q2⟩ := q.2.2.1 rfl; cases q1; exact q2, fun q => ⟨Nat.le_of_ble_eq_true rfl, ⟨Nat.le_of_ble_eq_true rfl, rfl, Nat.le_of_ble_eq_true rfl⟩, fun _ => ⟨_, rfl, q⟩, fun q9 => absurd q9 (by decide)⟩⟩
set_option maxRecDepth 20000 in
theorem r266_694 (μ : Bool) (d : Nat) (l0 : Value) (l1 : Value) (l3 : Value) (x : Nat) (st : List Value) (h : Hp) (Q : Po) : wp μ d 266 694 [l0, l1, .ref x, l3] st h Q = wp μ d 266 695 [l0, l1, .ref x, l3] (.ref x :: st) h Q := wp_nx rfl
set_option maxRecDepth 20000 in
theorem r266_694n (μ : Bool) (d : Nat) (l0 : Value) (l1 : Value) (l3 : Value) (st : List Value) (h : Hp) (Q : Po) : wp μ d 266 694 [l0, l1, .null, l3] st h Q = wp μ d 266 695 [l0, l1, .null, l3] (.null :: st) h Q := wp_nx rfl
set_option maxRecDepth 20000 in
theorem r266_694t (μ : Bool) (d : Nat) (l0 : Value) (l1 : Value) (l3 : Value) (x : Nat) (st : List Value) (h : Hp) (Q : Po) : wp μ d 266 694 [l0, l1, .retAddr x, l3] st h Q = wp μ d 266 695 [l0, l1, .retAddr x, l3] (.retAddr x :: st) h Q := wp_nx rfl
set_option maxRecDepth 20000 in
theorem r266_695 (μ : Bool) (d : Nat) (l1 : Value) (l2 : Value) (l3 : Value) (x : Nat) (st : List Value) (h : Hp) (Q : Po) : wp μ d 266 695 [.ref x, l1, l2, l3] st h Q = wp μ d 266 696 [.ref x, l1, l2, l3] (.ref x :: st) h Q := wp_nx rfl
set_option maxRecDepth 20000 in
theorem r266_695t (μ : Bool) (d : Nat) (l1 : Value) (l2 : Value) (l3 : Value) (x : Nat) (st : List Value) (h : Hp) (Q : Po) : wp μ d 266 695 [.retAddr x, l1, l2, l3] st h Q = wp μ d 266 696 [.retAddr x, l1, l2, l3] (.retAddr x :: st) h Q := wp_nx rfl
set_option maxRecDepth 20000 in
theorem r266_696 (μ : Bool) (d : Nat) (l0 : Value) (l1 : Value) (l2 : Value) (x : Int32) (st : List Value) (h : Hp) (Q : Po) : wp μ d 266 696 [l0, l1, l2, .int x] st h Q = wp μ d 266 697 [l0, l1, l2, .int x] (.int x :: st) h Q := wp_nx rfl
set_option maxRecDepth 20000 in
theorem r266_697 (μ : Bool) (d : Nat) (l0 : Value) (l1 : Value) (l2 : Value) (l3 : Value) (st : List Value) (h : Hp) (Q : Po) : wp μ d 266 697 [l0, l1, l2, l3] st h Q = wp μ d 266 698 [l0, l1, l2, l3] (.int (nI 1) :: st) h Q := (wp_nx rfl).trans (congrArg (fun z => wp μ d 266 698 [l0, l1, l2, l3] (.int z :: st) h Q) (show Int32.ofInt (1) = (nI 1) by decide))
set_option maxRecDepth 20000 in
theorem r266_698 (μ : Bool) (d : Nat) (l0 : Value) (l1 : Value) (l2 : Value) (l3 : Value) (y0 y1 : Int32) (st : List Value) (h : Hp) (Q : Po) : wp μ d 266 698 [l0, l1, l2, l3] (.int y0 :: .int y1 :: st) h Q = wp μ d 266 699 [l0, l1, l2, l3] (.int (y1 + y0) :: st) h Q := wp_nx rfl
set_option maxRecDepth 20000 in
theorem r266_699 (μ : Bool) (d : Nat) (l0 : Value) (l1 : Value) (l2 : Value) (l3 : Value) (y0 : Int32) (y1 : Nat) (st : List Value) (h : Hp) (Q : Po) : wp μ d 266 699 [l0, l1, l2, l3] (.int y0 :: .ref y1 :: st) h Q = (((kdm μ h y1).1 = 20 ∧ vp_in y0 (kdm μ h y1).2) ∧ wp μ d 266 700 [l0, l1, l2, l3] (.int (gI h y1 y0.toNatClampNeg) :: st) h Q) := wp_ck _ rfl
set_option maxRecDepth 20000 in
theorem r266_699t (μ : Bool) (d : Nat) (l0 : Value) (l1 : Value) (l2 : Value) (l3 : Value) (y0 : Int32) (st : List Value) (h : Hp) (Q : Po) : wp μ d 266 699 [l0, l1, l2, l3] (.int y0 :: .retAddr 1 :: st) h Q = (vp_in y0 (hk h 0).2 ∧ wp μ d 266 700 [l0, l1, l2, l3] (.int (gI h 0 y0.toNatClampNeg) :: st) h Q) := wp_ck _ rfl
set_option maxRecDepth 20000 in
theorem r266_700 (μ : Bool) (d : Nat) (l1 : Value) (l2 : Value) (l3 : Value) (x : Nat) (st : List Value) (h : Hp) (Q : Po) : wp μ d 266 700 [.ref x, l1, l2, l3] st h Q = wp μ d 266 701 [.ref x, l1, l2, l3] (.ref x :: st) h Q := wp_nx rfl
set_option maxRecDepth 20000 in
theorem r266_700t (μ : Bool) (d : Nat) (l1 : Value) (l2 : Value) (l3 : Value) (x : Nat) (st : List Value) (h : Hp) (Q : Po) : wp μ d 266 700 [.retAddr x, l1, l2, l3] st h Q = wp μ d 266 701 [.retAddr x, l1, l2, l3] (.retAddr x :: st) h Q := wp_nx rfl
set_option maxRecDepth 20000 in
theorem r266_701 (μ : Bool) (d : Nat) (l0 : Value) (l1 : Value) (l2 : Value) (x : Int32) (st : List Value) (h : Hp) (Q : Po) : wp μ d 266 701 [l0, l1, l2, .int x] st h Q = wp μ d 266 702 [l0, l1, l2, .int x] (.int x :: st) h Q := wp_nx rfl
set_option maxRecDepth 20000 in
theorem r266_702 (μ : Bool) (d : Nat) (l0 : Value) (l1 : Value) (l2 : Value) (l3 : Value) (st : List Value) (h : Hp) (Q : Po) : wp μ d 266 702 [l0, l1, l2, l3] st h Q = wp μ d 266 703 [l0, l1, l2, l3] (.int (nI 2) :: st) h Q := (wp_nx rfl).trans (congrArg (fun z => wp μ d 266 703 [l0, l1, l2, l3] (.int z :: st) h Q) (show Int32.ofInt (2) = (nI 2) by decide))
set_option maxRecDepth 20000 in
theorem r266_703 (μ : Bool) (d : Nat) (l0 : Value) (l1 : Value) (l2 : Value) (l3 : Value) (y0 y1 : Int32) (st : List Value) (h : Hp) (Q : Po) : wp μ d 266 703 [l0, l1, l2, l3] (.int y0 :: .int y1 :: st) h Q = wp μ d 266 704 [l0, l1, l2, l3] (.int (y1 + y0) :: st) h Q := wp_nx rfl
set_option maxRecDepth 20000 in
theorem r266_704 (μ : Bool) (d : Nat) (l0 : Value) (l1 : Value) (l2 : Value) (l3 : Value) (y0 : Int32) (y1 : Nat) (st : List Value) (h : Hp) (Q : Po) : wp μ d 266 704 [l0, l1, l2, l3] (.int y0 :: .ref y1 :: st) h Q = (((kdm μ h y1).1 = 20 ∧ vp_in y0 (kdm μ h y1).2) ∧ wp μ d 266 705 [l0, l1, l2, l3] (.int (gI h y1 y0.toNatClampNeg) :: st) h Q) := wp_ck _ rfl
set_option maxRecDepth 20000 in
theorem r266_704t (μ : Bool) (d : Nat) (l0 : Value) (l1 : Value) (l2 : Value) (l3 : Value) (y0 : Int32) (st : List Value) (h : Hp) (Q : Po) : wp μ d 266 704 [l0, l1, l2, l3] (.int y0 :: .retAddr 1 :: st) h Q = (vp_in y0 (hk h 0).2 ∧ wp μ d 266 705 [l0, l1, l2, l3] (.int (gI h 0 y0.toNatClampNeg) :: st) h Q) := wp_ck _ rfl
set_option maxRecDepth 20000 in
theorem r266_705 (μ : Bool) (d : Nat) (l0 : Value) (l1 : Value) (l2 : Value) (l3 : Value) (y0 : Int32) (y1 : Int32) (y2 : Nat) (y3 : Int32) (h : Hp) (Q : Po) : wp μ (d + 1) 266 705 [l0, l1, l2, l3] [.int y0, .int y1, .ref y2, .int y3] h Q = ((kdm μ h y2).1 = 12 ∧ cwp μ d 212 [.ref y2, .int y1, .int y0] h (fun r h' => wp μ (d + 1) 266 708 [l0, l1, l2, l3] (r.toList ++ [.int y3]) h' Q)) := wp_kc _ True rfl ⟨fun q => by obtain ⟨x, q1, q2⟩ := q.2.2.1 rfl; cases q1; exact q2, fun q => ⟨Nat.le_of_ble_eq_true rfl, ⟨Nat.le_of_ble_eq_true rfl, rfl, Nat.le_of_ble_eq_true rfl⟩, fun _ => ⟨_, rfl, q⟩, fun q9 => absurd q9 (by decide)⟩⟩
set_option maxRecDepth 20000 in
theorem r266_708 (μ : Bool) (d : Nat) (l0 : Value) (l1 : Value) (l2 : Value) (l3 : Value) (y0 y1 : Int32) (st : List Value) (h : Hp) (Q : Po) : wp μ d 266 708 [l0, l1, l2, l3] (.int y0 :: .int y1 :: st) h Q = if y1 = y0 then wp μ d 266 1545 [l0, l1, l2, l3] st h Q else wp μ d 266 711 [l0, l1, l2, l3] st h Q := wp_br (y1 = y0) rfl
set_option maxRecDepth 20000 in
theorem r266_711 (μ : Bool) (d : Nat) (l0 : Value) (l1 : Value) (l2 : Value) (l3 : Value) (st : List Value) (h : Hp) (Q : Po) : wp μ d 266 711 [l0, l1, l2, l3] st h Q = wp μ d 266 712 [l0, l1, l2, l3] (.int (nI 0) :: st) h Q := (wp_nx rfl).trans (congrArg (fun z => wp μ d 266 712 [l0, l1, l2, l3] (.int z :: st) h Q) (show Int32.ofInt (0) = (nI 0) by decide))
set_option maxRecDepth 20000 in
theorem r266_712 (μ : Bool) (d : Nat) (l0 : Value) (l1 : Value) (l2 : Value) (l3 : Value) (y0 : Int32) (h : Hp) (Q : Po) : wp μ d 266 712 [l0, l1, l2, l3] [.int y0] h Q = ((y0 = nI 0 ∨ y0 = nI 1) ∧ Q (some (.int y0)) h) := (wp_rc _ rfl).trans (by rw [show retOk (rM 266) y0 = (narrow .boolean (.int y0) = .int y0) from rfl, nz_iff]; rfl)
set_option maxRecDepth 20000 in
theorem r266_713 (μ : Bool) (d : Nat) (l0 : Value) (l2 : Value) (l3 : Value) (x : Nat) (st : List Value) (h : Hp) (Q : Po) : wp μ d 266 713 [l0, .ref x, l2, l3] st h Q = wp μ d 266 714 [l0, .ref x, l2, l3] (.ref x :: st) h Q := wp_nx rfl
set_option maxRecDepth 20000 in
theorem r266_713n (μ : Bool) (d : Nat) (l0 : Value) (l2 : Value) (l3 : Value) (st : List Value) (h : Hp) (Q : Po) : wp μ d 266 713 [l0, .null, l2, l3] st h Q = wp μ d 266 714 [l0, .null, l2, l3] (.null :: st) h Q := wp_nx rfl
set_option maxRecDepth 20000 in
theorem r266_713t (μ : Bool) (d : Nat) (l0 : Value) (l2 : Value) (l3 : Value) (x : Nat) (st : List Value) (h : Hp) (Q : Po) : wp μ d 266 713 [l0, .retAddr x, l2, l3] st h Q = wp μ d 266 714 [l0, .retAddr x, l2, l3] (.retAddr x :: st) h Q := wp_nx rfl
set_option maxRecDepth 20000 in
theorem r266_714 (μ : Bool) (d : Nat) (l1 : Value) (l2 : Value) (l3 : Value) (x : Nat) (st : List Value) (h : Hp) (Q : Po) : wp μ d 266 714 [.ref x, l1, l2, l3] st h Q = wp μ d 266 715 [.ref x, l1, l2, l3] (.ref x :: st) h Q := wp_nx rfl
set_option maxRecDepth 20000 in
theorem r266_714t (μ : Bool) (d : Nat) (l1 : Value) (l2 : Value) (l3 : Value) (x : Nat) (st : List Value) (h : Hp) (Q : Po) : wp μ d 266 714 [.retAddr x, l1, l2, l3] st h Q = wp μ d 266 715 [.retAddr x, l1, l2, l3] (.retAddr x :: st) h Q := wp_nx rfl
set_option maxRecDepth 20000 in
theorem r266_715 (μ : Bool) (d : Nat) (l0 : Value) (l1 : Value) (l2 : Value) (x : Int32) (st : List Value) (h : Hp) (Q : Po) : wp μ d 266 715 [l0, l1, l2, .int x] st h Q = wp μ d 266 716 [l0, l1, l2, .int x] (.int x :: st) h Q := wp_nx rfl
set_option maxRecDepth 20000 in
theorem r266_716 (μ : Bool) (d : Nat) (l0 : Value) (l1 : Value) (l2 : Value) (l3 : Value) (st : List Value) (h : Hp) (Q : Po) : wp μ d 266 716 [l0, l1, l2, l3] st h Q = wp μ d 266 717 [l0, l1, l2, l3] (.int (nI 1) :: st) h Q := (wp_nx rfl).trans (congrArg (fun z => wp μ d 266 717 [l0, l1, l2, l3] (.int z :: st) h Q) (show Int32.ofInt (1) = (nI 1) by decide))
set_option maxRecDepth 20000 in
theorem r266_717 (μ : Bool) (d : Nat) (l0 : Value) (l1 : Value) (l2 : Value) (l3 : Value) (y0 y1 : Int32) (st : List Value) (h : Hp) (Q : Po) : wp μ d 266 717 [l0, l1, l2, l3] (.int y0 :: .int y1 :: st) h Q = wp μ d 266 718 [l0, l1, l2, l3] (.int (y1 + y0) :: st) h Q := wp_nx rfl
set_option maxRecDepth 20000 in
theorem r266_718 (μ : Bool) (d : Nat) (l0 : Value) (l1 : Value) (l2 : Value) (l3 : Value) (y0 : Int32) (y1 : Nat) (st : List Value) (h : Hp) (Q : Po) : wp μ d 266 718 [l0, l1, l2, l3] (.int y0 :: .ref y1 :: st) h Q = (((kdm μ h y1).1 = 20 ∧ vp_in y0 (kdm μ h y1).2) ∧ wp μ d 266 719 [l0, l1, l2, l3] (.int (gI h y1 y0.toNatClampNeg) :: st) h Q) := wp_ck _ rfl
set_option maxRecDepth 20000 in
theorem r266_718t (μ : Bool) (d : Nat) (l0 : Value) (l1 : Value) (l2 : Value) (l3 : Value) (y0 : Int32) (st : List Value) (h : Hp) (Q : Po) : wp μ d 266 718 [l0, l1, l2, l3] (.int y0 :: .retAddr 1 :: st) h Q = (vp_in y0 (hk h 0).2 ∧ wp μ d 266 719 [l0, l1, l2, l3] (.int (gI h 0 y0.toNatClampNeg) :: st) h Q) := wp_ck _ rfl
set_option maxRecDepth 20000 in
theorem r266_719 (μ : Bool) (d : Nat) (l1 : Value) (l2 : Value) (l3 : Value) (x : Nat) (st : List Value) (h : Hp) (Q : Po) : wp μ d 266 719 [.ref x, l1, l2, l3] st h Q = wp μ d 266 720 [.ref x, l1, l2, l3] (.ref x :: st) h Q := wp_nx rfl
set_option maxRecDepth 20000 in
theorem r266_719t (μ : Bool) (d : Nat) (l1 : Value) (l2 : Value) (l3 : Value) (x : Nat) (st : List Value) (h : Hp) (Q : Po) : wp μ d 266 719 [.retAddr x, l1, l2, l3] st h Q = wp μ d 266 720 [.retAddr x, l1, l2, l3] (.retAddr x :: st) h Q := wp_nx rfl
set_option maxRecDepth 20000 in
theorem r266_720 (μ : Bool) (d : Nat) (l0 : Value) (l1 : Value) (l2 : Value) (x : Int32) (st : List Value) (h : Hp) (Q : Po) : wp μ d 266 720 [l0, l1, l2, .int x] st h Q = wp μ d 266 721 [l0, l1, l2, .int x] (.int x :: st) h Q := wp_nx rfl
set_option maxRecDepth 20000 in
theorem r266_721 (μ : Bool) (d : Nat) (l0 : Value) (l1 : Value) (l2 : Value) (l3 : Value) (st : List Value) (h : Hp) (Q : Po) : wp μ d 266 721 [l0, l1, l2, l3] st h Q = wp μ d 266 722 [l0, l1, l2, l3] (.int (nI 2) :: st) h Q := (wp_nx rfl).trans (congrArg (fun z => wp μ d 266 722 [l0, l1, l2, l3] (.int z :: st) h Q) (show Int32.ofInt (2) = (nI 2) by decide))
set_option maxRecDepth 20000 in
theorem r266_722 (μ : Bool) (d : Nat) (l0 : Value) (l1 : Value) (l2 : Value) (l3 : Value) (y0 y1 : Int32) (st : List Value) (h : Hp) (Q : Po) : wp μ d 266 722 [l0, l1, l2, l3] (.int y0 :: .int y1 :: st) h Q = wp μ d 266 723 [l0, l1, l2, l3] (.int (y1 + y0) :: st) h Q := wp_nx rfl
set_option maxRecDepth 20000 in
theorem r266_723 (μ : Bool) (d : Nat) (l0 : Value) (l1 : Value) (l2 : Value) (l3 : Value) (y0 : Int32) (y1 : Nat) (st : List Value) (h : Hp) (Q : Po) : wp μ d 266 723 [l0, l1, l2, l3] (.int y0 :: .ref y1 :: st) h Q = (((kdm μ h y1).1 = 20 ∧ vp_in y0 (kdm μ h y1).2) ∧ wp μ d 266 724 [l0, l1, l2, l3] (.int (gI h y1 y0.toNatClampNeg) :: st) h Q) := wp_ck _ rfl
set_option maxRecDepth 20000 in
theorem r266_723t (μ : Bool) (d : Nat) (l0 : Value) (l1 : Value) (l2 : Value) (l3 : Value) (y0 : Int32) (st : List Value) (h : Hp) (Q : Po) : wp μ d 266 723 [l0, l1, l2, l3] (.int y0 :: .retAddr 1 :: st) h Q = (vp_in y0 (hk h 0).2 ∧ wp μ d 266 724 [l0, l1, l2, l3] (.int (gI h 0 y0.toNatClampNeg) :: st) h Q) := wp_ck _ rfl
set_option maxRecDepth 20000 in
theorem r266_724 (μ : Bool) (d : Nat) (l0 : Value) (l1 : Value) (l2 : Value) (l3 : Value) (y0 : Int32) (y1 : Int32) (y2 : Nat) (h : Hp) (Q : Po) : wp μ (d + 1) 266 724 [l0, l1, l2, l3] [.int y0, .int y1, .ref y2] h Q = ((kdm μ h y2).1 = 11 ∧ cwp μ d 101 [.ref y2, .int y1, .int y0] h (fun r h' => wp μ (d + 1) 266 727 [l0, l1, l2, l3] (r.toList ++ []) h' Q)) := wp_kc _ True rfl ⟨fun q => by obtain ⟨x, q1, q2⟩ := q.2.2.1 rfl; cases q1; exact q2, fun q => ⟨Nat.le_of_ble_eq_true rfl, ⟨Nat.le_of_ble_eq_true rfl, rfl, Nat.le_of_ble_eq_true rfl⟩, fun _ => ⟨_, rfl, q⟩, fun q9 => absurd q9 (by decide)⟩⟩
set_option maxRecDepth 20000 in
theorem r266_727 (μ : Bool) (d : Nat) (l0 : Value) (l1 : Value) (l3 : Value) (x : Nat) (st : List Value) (h : Hp) (Q : Po) : wp μ d 266 727 [l0, l1, .ref x, l3] st h Q = wp μ d 266 728 [l0, l1, .ref x, l3] (.ref x :: st) h Q := wp_nx rfl
set_option maxRecDepth 20000 in
theorem r266_727n (μ : Bool) (d : Nat) (l0 : Value) (l1 : Value) (l3 : Value) (st : List Value) (h : Hp) (Q : Po) : wp μ d 266 727 [l0, l1, .null, l3] st h Q = wp μ d 266 728 [l0, l1, .null, l3] (.null :: st) h Q := wp_nx rfl
set_option maxRecDepth 20000 in
theorem r266_727t (μ : Bool) (d : Nat) (l0 : Value) (l1 : Value) (l3 : Value) (x : Nat) (st : List Value) (h : Hp) (Q : Po) : wp μ d 266 727 [l0, l1, .retAddr x, l3] st h Q = wp μ d 266 728 [l0, l1, .retAddr x, l3] (.retAddr x :: st) h Q := wp_nx rfl
set_option maxRecDepth 20000 in
theorem r266_728 (μ : Bool) (d : Nat) (l1 : Value) (l2 : Value) (l3 : Value) (x : Nat) (st : List Value) (h : Hp) (Q : Po) : wp μ d 266 728 [.ref x, l1, l2, l3] st h Q = wp μ d 266 729 [.ref x, l1, l2, l3] (.ref x :: st) h Q := wp_nx rfl
set_option maxRecDepth 20000 in
theorem r266_728t (μ : Bool) (d : Nat) (l1 : Value) (l2 : Value) (l3 : Value) (x : Nat) (st : List Value) (h : Hp) (Q : Po) : wp μ d 266 728 [.retAddr x, l1, l2, l3] st h Q = wp μ d 266 729 [.retAddr x, l1, l2, l3] (.retAddr x :: st) h Q := wp_nx rfl
set_option maxRecDepth 20000 in
theorem r266_729 (μ : Bool) (d : Nat) (l0 : Value) (l1 : Value) (l2 : Value) (x : Int32) (st : List Value) (h : Hp) (Q : Po) : wp μ d 266 729 [l0, l1, l2, .int x] st h Q = wp μ d 266 730 [l0, l1, l2, .int x] (.int x :: st) h Q := wp_nx rfl
set_option maxRecDepth 20000 in
theorem r266_730 (μ : Bool) (d : Nat) (l0 : Value) (l1 : Value) (l2 : Value) (l3 : Value) (st : List Value) (h : Hp) (Q : Po) : wp μ d 266 730 [l0, l1, l2, l3] st h Q = wp μ d 266 731 [l0, l1, l2, l3] (.int (nI 1) :: st) h Q := (wp_nx rfl).trans (congrArg (fun z => wp μ d 266 731 [l0, l1, l2, l3] (.int z :: st) h Q) (show Int32.ofInt (1) = (nI 1) by decide))
set_option maxRecDepth 20000 in
theorem r266_731 (μ : Bool) (d : Nat) (l0 : Value) (l1 : Value) (l2 : Value) (l3 : Value) (y0 y1 : Int32) (st : List Value) (h : Hp) (Q : Po) : wp μ d 266 731 [l0, l1, l2, l3] (.int y0 :: .int y1 :: st) h Q = wp μ d 266 732 [l0, l1, l2, l3] (.int (y1 + y0) :: st) h Q := wp_nx rfl
set_option maxRecDepth 20000 in
theorem r266_732 (μ : Bool) (d : Nat) (l0 : Value) (l1 : Value) (l2 : Value) (l3 : Value) (y0 : Int32) (y1 : Nat) (st : List Value) (h : Hp) (Q : Po) : wp μ d 266 732 [l0, l1, l2, l3] (.int y0 :: .ref y1 :: st) h Q = (((kdm μ h y1).1 = 20 ∧ vp_in y0 (kdm μ h y1).2) ∧ wp μ d 266 733 [l0, l1, l2, l3] (.int (gI h y1 y0.toNatClampNeg) :: st) h Q) := wp_ck _ rfl
set_option maxRecDepth 20000 in
theorem r266_732t (μ : Bool) (d : Nat) (l0 : Value) (l1 : Value) (l2 : Value) (l3 : Value) (y0 : Int32) (st : List Value) (h : Hp) (Q : Po) : wp μ d 266 732 [l0, l1, l2, l3] (.int y0 :: .retAddr 1 :: st) h Q = (vp_in y0 (hk h 0).2 ∧ wp μ d 266 733 [l0, l1, l2, l3] (.int (gI h 0 y0.toNatClampNeg) :: st) h Q) := wp_ck _ rfl
set_option maxRecDepth 20000 in
theorem r266_733 (μ : Bool) (d : Nat) (l1 : Value) (l2 : Value) (l3 : Value) (x : Nat) (st : List Value) (h : Hp) (Q : Po) : wp μ d 266 733 [.ref x, l1, l2, l3] st h Q = wp μ d 266 734 [.ref x, l1, l2, l3] (.ref x :: st) h Q := wp_nx rfl
set_option maxRecDepth 20000 in
theorem r266_733t (μ : Bool) (d : Nat) (l1 : Value) (l2 : Value) (l3 : Value) (x : Nat) (st : List Value) (h : Hp) (Q : Po) : wp μ d 266 733 [.retAddr x, l1, l2, l3] st h Q = wp μ d 266 734 [.retAddr x, l1, l2, l3] (.retAddr x :: st) h Q := wp_nx rfl
set_option maxRecDepth 20000 in
theorem r266_734 (μ : Bool) (d : Nat) (l0 : Value) (l1 : Value) (l2 : Value) (x : Int32) (st : List Value) (h : Hp) (Q : Po) : wp μ d 266 734 [l0, l1, l2, .int x] st h Q = wp μ d 266 735 [l0, l1, l2, .int x] (.int x :: st) h Q := wp_nx rfl
set_option maxRecDepth 20000 in
theorem r266_735 (μ : Bool) (d : Nat) (l0 : Value) (l1 : Value) (l2 : Value) (l3 : Value) (st : List Value) (h : Hp) (Q : Po) : wp μ d 266 735 [l0, l1, l2, l3] st h Q = wp μ d 266 736 [l0, l1, l2, l3] (.int (nI 2) :: st) h Q := (wp_nx rfl).trans (congrArg (fun z => wp μ d 266 736 [l0, l1, l2, l3] (.int z :: st) h Q) (show Int32.ofInt (2) = (nI 2) by decide))
set_option maxRecDepth 20000 in
theorem r266_736 (μ : Bool) (d : Nat) (l0 : Value) (l1 : Value) (l2 : Value) (l3 : Value) (y0 y1 : Int32) (st : List Value) (h : Hp) (Q : Po) : wp μ d 266 736 [l0, l1, l2, l3] (.int y0 :: .int y1 :: st) h Q = wp μ d 266 737 [l0, l1, l2, l3] (.int (y1 + y0) :: st) h Q := wp_nx rfl
set_option maxRecDepth 20000 in
theorem r266_737 (μ : Bool) (d : Nat) (l0 : Value) (l1 : Value) (l2 : Value) (l3 : Value) (y0 : Int32) (y1 : Nat) (st : List Value) (h : Hp) (Q : Po) : wp μ d 266 737 [l0, l1, l2, l3] (.int y0 :: .ref y1 :: st) h Q = (((kdm μ h y1).1 = 20 ∧ vp_in y0 (kdm μ h y1).2) ∧ wp μ d 266 738 [l0, l1, l2, l3] (.int (gI h y1 y0.toNatClampNeg) :: st) h Q) := wp_ck _ rfl
set_option maxRecDepth 20000 in
theorem r266_737t (μ : Bool) (d : Nat) (l0 : Value) (l1 : Value) (l2 : Value) (l3 : Value) (y0 : Int32) (st : List Value) (h : Hp) (Q : Po) : wp μ d 266 737 [l0, l1, l2, l3] (.int y0 :: .retAddr 1 :: st) h Q = (vp_in y0 (hk h 0).2 ∧ wp μ d 266 738 [l0, l1, l2, l3] (.int (gI h 0 y0.toNatClampNeg) :: st) h Q) := wp_ck _ rfl
set_option maxRecDepth 20000 in
theorem r266_738 (μ : Bool) (d : Nat) (l0 : Value) (l1 : Value) (l2 : Value) (l3 : Value) (y0 : Int32) (y1 : Int32) (y2 : Nat) (y3 : Int32) (h : Hp) (Q : Po) : wp μ (d + 1) 266 738 [l0, l1, l2, l3] [.int y0, .int y1, .ref y2, .int y3] h Q = ((kdm μ h y2).1 = 12 ∧ cwp μ d 215 [.ref y2, .int y1, .int y0] h (fun r h' => wp μ (d + 1) 266 741 [l0, l1, l2, l3] (r.toList ++ [.int y3]) h' Q)) := wp_kc _ True rfl ⟨fun q => by obtain ⟨x, q1, q2⟩ := q.2.2.1 rfl; cases q1; exact q2, fun q => ⟨Nat.le_of_ble_eq_true rfl, ⟨Nat.le_of_ble_eq_true rfl, rfl, Nat.le_of_ble_eq_true rfl⟩, fun _ => ⟨_, rfl, q⟩, fun q9 => absurd q9 (by decide)⟩⟩
set_option maxRecDepth 20000 in
theorem r266_741 (μ : Bool) (d : Nat) (l0 : Value) (l1 : Value) (l2 : Value) (l3 : Value) (y0 y1 : Int32) (st : List Value) (h : Hp) (Q : Po) : wp μ d 266 741 [l0, l1, l2, l3] (.int y0 :: .int y1 :: st) h Q = if y1 = y0 then wp μ d 266 1545 [l0, l1, l2, l3] st h Q else wp μ d 266 744 [l0, l1, l2, l3] st h Q := wp_br (y1 = y0) rfl
set_option maxRecDepth 20000 in
theorem r266_744 (μ : Bool) (d : Nat) (l0 : Value) (l1 : Value) (l2 : Value) (l3 : Value) (st : List Value) (h : Hp) (Q : Po) : wp μ d 266 744 [l0, l1, l2, l3] st h Q = wp μ d 266 745 [l0, l1, l2, l3] (.int (nI 0) :: st) h Q := (wp_nx rfl).trans (congrArg (fun z => wp μ d 266 745 [l0, l1, l2, l3] (.int z :: st) h Q) (show Int32.ofInt (0) = (nI 0) by decide))
set_option maxRecDepth 20000 in
theorem r266_745 (μ : Bool) (d : Nat) (l0 : Value) (l1 : Value) (l2 : Value) (l3 : Value) (y0 : Int32) (h : Hp) (Q : Po) : wp μ d 266 745 [l0, l1, l2, l3] [.int y0] h Q = ((y0 = nI 0 ∨ y0 = nI 1) ∧ Q (some (.int y0)) h) := (wp_rc _ rfl).trans (by rw [show retOk (rM 266) y0 = (narrow .boolean (.int y0) = .int y0) from rfl, nz_iff]; rfl)
set_option maxRecDepth 20000 in
theorem r266_746 (μ : Bool) (d : Nat) (l0 : Value) (l2 : Value) (l3 : Value) (x : Nat) (st : List Value) (h : Hp) (Q : Po) : wp μ d 266 746 [l0, .ref x, l2, l3] st h Q = wp μ d 266 747 [l0, .ref x, l2, l3] (.ref x :: st) h Q := wp_nx rfl
set_option maxRecDepth 20000 in
theorem r266_746n (μ : Bool) (d : Nat) (l0 : Value) (l2 : Value) (l3 : Value) (st : List Value) (h : Hp) (Q : Po) : wp μ d 266 746 [l0, .null, l2, l3] st h Q = wp μ d 266 747 [l0, .null, l2, l3] (.null :: st) h Q := wp_nx rfl
set_option maxRecDepth 20000 in
theorem r266_746t (μ : Bool) (d : Nat) (l0 : Value) (l2 : Value) (l3 : Value) (x : Nat) (st : List Value) (h : Hp) (Q : Po) : wp μ d 266 746 [l0, .retAddr x, l2, l3] st h Q = wp μ d 266 747 [l0, .retAddr x, l2, l3] (.retAddr x :: st) h Q := wp_nx rfl
set_option maxRecDepth 20000 in
theorem r266_747 (μ : Bool) (d : Nat) (l1 : Value) (l2 : Value) (l3 : Value) (x : Nat) (st : List Value) (h : Hp) (Q : Po) : wp μ d 266 747 [.ref x, l1, l2, l3] st h Q = wp μ d 266 748 [.ref x, l1, l2, l3] (.ref x :: st) h Q := wp_nx rfl
set_option maxRecDepth 20000 in
theorem r266_747t (μ : Bool) (d : Nat) (l1 : Value) (l2 : Value) (l3 : Value) (x : Nat) (st : List Value) (h : Hp) (Q : Po) : wp μ d 266 747 [.retAddr x, l1, l2, l3] st h Q = wp μ d 266 748 [.retAddr x, l1, l2, l3] (.retAddr x :: st) h Q := wp_nx rfl
set_option maxRecDepth 20000 in
theorem r266_748 (μ : Bool) (d : Nat) (l0 : Value) (l1 : Value) (l2 : Value) (x : Int32) (st : List Value) (h : Hp) (Q : Po) : wp μ d 266 748 [l0, l1, l2, .int x] st h Q = wp μ d 266 749 [l0, l1, l2, .int x] (.int x :: st) h Q := wp_nx rfl
set_option maxRecDepth 20000 in
theorem r266_749 (μ : Bool) (d : Nat) (l0 : Value) (l1 : Value) (l2 : Value) (l3 : Value) (st : List Value) (h : Hp) (Q : Po) : wp μ d 266 749 [l0, l1, l2, l3] st h Q = wp μ d 266 750 [l0, l1, l2, l3] (.int (nI 1) :: st) h Q := (wp_nx rfl).trans (congrArg (fun z => wp μ d 266 750 [l0, l1, l2, l3] (.int z :: st) h Q) (show Int32.ofInt (1) = (nI 1) by decide))
set_option maxRecDepth 20000 in
theorem r266_750 (μ : Bool) (d : Nat) (l0 : Value) (l1 : Value) (l2 : Value) (l3 : Value) (y0 y1 : Int32) (st : List Value) (h : Hp) (Q : Po) : wp μ d 266 750 [l0, l1, l2, l3] (.int y0 :: .int y1 :: st) h Q = wp μ d 266 751 [l0, l1, l2, l3] (.int (y1 + y0) :: st) h Q := wp_nx rfl
set_option maxRecDepth 20000 in
theorem r266_751 (μ : Bool) (d : Nat) (l0 : Value) (l1 : Value) (l2 : Value) (l3 : Value) (y0 : Int32) (y1 : Nat) (st : List Value) (h : Hp) (Q : Po) : wp μ d 266 751 [l0, l1, l2, l3] (.int y0 :: .ref y1 :: st) h Q = (((kdm μ h y1).1 = 20 ∧ vp_in y0 (kdm μ h y1).2) ∧ wp μ d 266 752 [l0, l1, l2, l3] (.int (gI h y1 y0.toNatClampNeg) :: st) h Q) := wp_ck _ rfl
set_option maxRecDepth 20000 in
theorem r266_751t (μ : Bool) (d : Nat) (l0 : Value) (l1 : Value) (l2 : Value) (l3 : Value) (y0 : Int32) (st : List Value) (h : Hp) (Q : Po) : wp μ d 266 751 [l0, l1, l2, l3] (.int y0 :: .retAddr 1 :: st) h Q = (vp_in y0 (hk h 0).2 ∧ wp μ d 266 752 [l0, l1, l2, l3] (.int (gI h 0 y0.toNatClampNeg) :: st) h Q) := wp_ck _ rfl
set_option maxRecDepth 20000 in
theorem r266_752 (μ : Bool) (d : Nat) (l1 : Value) (l2 : Value) (l3 : Value) (x : Nat) (st : List Value) (h : Hp) (Q : Po) : wp μ d 266 752 [.ref x, l1, l2, l3] st h Q = wp μ d 266 753 [.ref x, l1, l2, l3] (.ref x :: st) h Q := wp_nx rfl
set_option maxRecDepth 20000 in
theorem r266_752t (μ : Bool) (d : Nat) (l1 : Value) (l2 : Value) (l3 : Value) (x : Nat) (st : List Value) (h : Hp) (Q : Po) : wp μ d 266 752 [.retAddr x, l1, l2, l3] st h Q = wp μ d 266 753 [.retAddr x, l1, l2, l3] (.retAddr x :: st) h Q := wp_nx rfl
set_option maxRecDepth 20000 in
theorem r266_753 (μ : Bool) (d : Nat) (l0 : Value) (l1 : Value) (l2 : Value) (x : Int32) (st : List Value) (h : Hp) (Q : Po) : wp μ d 266 753 [l0, l1, l2, .int x] st h Q = wp μ d 266 754 [l0, l1, l2, .int x] (.int x :: st) h Q := wp_nx rfl
set_option maxRecDepth 20000 in
theorem r266_754 (μ : Bool) (d : Nat) (l0 : Value) (l1 : Value) (l2 : Value) (l3 : Value) (st : List Value) (h : Hp) (Q : Po) : wp μ d 266 754 [l0, l1, l2, l3] st h Q = wp μ d 266 755 [l0, l1, l2, l3] (.int (nI 2) :: st) h Q := (wp_nx rfl).trans (congrArg (fun z => wp μ d 266 755 [l0, l1, l2, l3] (.int z :: st) h Q) (show Int32.ofInt (2) = (nI 2) by decide))
set_option maxRecDepth 20000 in
theorem r266_755 (μ : Bool) (d : Nat) (l0 : Value) (l1 : Value) (l2 : Value) (l3 : Value) (y0 y1 : Int32) (st : List Value) (h : Hp) (Q : Po) : wp μ d 266 755 [l0, l1, l2, l3] (.int y0 :: .int y1 :: st) h Q = wp μ d 266 756 [l0, l1, l2, l3] (.int (y1 + y0) :: st) h Q := wp_nx rfl
set_option maxRecDepth 20000 in
theorem r266_756 (μ : Bool) (d : Nat) (l0 : Value) (l1 : Value) (l2 : Value) (l3 : Value) (y0 : Int32) (y1 : Nat) (st : List Value) (h : Hp) (Q : Po) : wp μ d 266 756 [l0, l1, l2, l3] (.int y0 :: .ref y1 :: st) h Q = (((kdm μ h y1).1 = 20 ∧ vp_in y0 (kdm μ h y1).2) ∧ wp μ d 266 757 [l0, l1, l2, l3] (.int (gI h y1 y0.toNatClampNeg) :: st) h Q) := wp_ck _ rfl
set_option maxRecDepth 20000 in
theorem r266_756t (μ : Bool) (d : Nat) (l0 : Value) (l1 : Value) (l2 : Value) (l3 : Value) (y0 : Int32) (st : List Value) (h : Hp) (Q : Po) : wp μ d 266 756 [l0, l1, l2, l3] (.int y0 :: .retAddr 1 :: st) h Q = (vp_in y0 (hk h 0).2 ∧ wp μ d 266 757 [l0, l1, l2, l3] (.int (gI h 0 y0.toNatClampNeg) :: st) h Q) := wp_ck _ rfl
set_option maxRecDepth 20000 in
theorem r266_757 (μ : Bool) (d : Nat) (l0 : Value) (l1 : Value) (l2 : Value) (l3 : Value) (y0 : Int32) (y1 : Int32) (y2 : Nat) (h : Hp) (Q : Po) : wp μ (d + 1) 266 757 [l0, l1, l2, l3] [.int y0, .int y1, .ref y2] h Q = ((kdm μ h y2).1 = 11 ∧ cwp μ d 102 [.ref y2, .int y1, .int y0] h (fun r h' => wp μ (d + 1) 266 760 [l0, l1, l2, l3] (r.toList ++ []) h' Q)) := wp_kc _ True rfl ⟨fun q => by obtain ⟨x, q1, q2⟩ := q.2.2.1 rfl; cases q1; exact q2, fun q => ⟨Nat.le_of_ble_eq_true rfl, ⟨Nat.le_of_ble_eq_true rfl, rfl, Nat.le_of_ble_eq_true rfl⟩, fun _ => ⟨_, rfl, q⟩, fun q9 => absurd q9 (by decide)⟩⟩
set_option maxRecDepth 20000 in
theorem r266_760 (μ : Bool) (d : Nat) (l0 : Value) (l1 : Value) (l3 : Value) (x : Nat) (st : List Value) (h : Hp) (Q : Po) : wp μ d 266 760 [l0, l1, .ref x, l3] st h Q = wp μ d 266 761 [l0, l1, .ref x, l3] (.ref x :: st) h Q := wp_nx rfl
set_option maxRecDepth 20000 in
theorem r266_760n (μ : Bool) (d : Nat) (l0 : Value) (l1 : Value) (l3 : Value) (st : List Value) (h : Hp) (Q : Po) : wp μ d 266 760 [l0, l1, .null, l3] st h Q = wp μ d 266 761 [l0, l1, .null, l3] (.null :: st) h Q := wp_nx rfl
set_option maxRecDepth 20000 in
theorem r266_760t (μ : Bool) (d : Nat) (l0 : Value) (l1 : Value) (l3 : Value) (x : Nat) (st : List Value) (h : Hp) (Q : Po) : wp μ d 266 760 [l0, l1, .retAddr x, l3] st h Q = wp μ d 266 761 [l0, l1, .retAddr x, l3] (.retAddr x :: st) h Q := wp_nx rfl
set_option maxRecDepth 20000 in
theorem r266_761 (μ : Bool) (d : Nat) (l1 : Value) (l2 : Value) (l3 : Value) (x : Nat) (st : List Value) (h : Hp) (Q : Po) : wp μ d 266 761 [.ref x, l1, l2, l3] st h Q = wp μ d 266 762 [.ref x, l1, l2, l3] (.ref x :: st) h Q := wp_nx rfl
set_option maxRecDepth 20000 in
theorem r266_761t (μ : Bool) (d : Nat) (l1 : Value) (l2 : Value) (l3 : Value) (x : Nat) (st : List Value) (h : Hp) (Q : Po) : wp μ d 266 761 [.retAddr x, l1, l2, l3] st h Q = wp μ d 266 762 [.retAddr x, l1, l2, l3] (.retAddr x :: st) h Q := wp_nx rfl
set_option maxRecDepth 20000 in
theorem r266_762 (μ : Bool) (d : Nat) (l0 : Value) (l1 : Value) (l2 : Value) (x : Int32) (st : List Value) (h : Hp) (Q : Po) : wp μ d 266 762 [l0, l1, l2, .int x] st h Q = wp μ d 266 763 [l0, l1, l2, .int x] (.int x :: st) h Q := wp_nx rfl
set_option maxRecDepth 20000 in
theorem r266_763 (μ : Bool) (d : Nat) (l0 : Value) (l1 : Value) (l2 : Value) (l3 : Value) (st : List Value) (h : Hp) (Q : Po) : wp μ d 266 763 [l0, l1, l2, l3] st h Q = wp μ d 266 764 [l0, l1, l2, l3] (.int (nI 1) :: st) h Q := (wp_nx rfl).trans (congrArg (fun z => wp μ d 266 764 [l0, l1, l2, l3] (.int z :: st) h Q) (show Int32.ofInt (1) = (nI 1) by decide))
set_option maxRecDepth 20000 in
theorem r266_764 (μ : Bool) (d : Nat) (l0 : Value) (l1 : Value) (l2 : Value) (l3 : Value) (y0 y1 : Int32) (st : List Value) (h : Hp) (Q : Po) : wp μ d 266 764 [l0, l1, l2, l3] (.int y0 :: .int y1 :: st) h Q = wp μ d 266 765 [l0, l1, l2, l3] (.int (y1 + y0) :: st) h Q := wp_nx rfl
set_option maxRecDepth 20000 in
theorem r266_765 (μ : Bool) (d : Nat) (l0 : Value) (l1 : Value) (l2 : Value) (l3 : Value) (y0 : Int32) (y1 : Nat) (st : List Value) (h : Hp) (Q : Po) : wp μ d 266 765 [l0, l1, l2, l3] (.int y0 :: .ref y1 :: st) h Q = (((kdm μ h y1).1 = 20 ∧ vp_in y0 (kdm μ h y1).2) ∧ wp μ d 266 766 [l0, l1, l2, l3] (.int (gI h y1 y0.toNatClampNeg) :: st) h Q) := wp_ck _ rfl
set_option maxRecDepth 20000 in
theorem r266_765t (μ : Bool) (d : Nat) (l0 : Value) (l1 : Value) (l2 : Value) (l3 : Value) (y0 : Int32) (st : List Value) (h : Hp) (Q : Po) : wp μ d 266 765 [l0, l1, l2, l3] (.int y0 :: .retAddr 1 :: st) h Q = (vp_in y0 (hk h 0).2 ∧ wp μ d 266 766 [l0, l1, l2, l3] (.int (gI h 0 y0.toNatClampNeg) :: st) h Q) := wp_ck _ rfl
set_option maxRecDepth 20000 in
theorem r266_766 (μ : Bool) (d : Nat) (l1 : Value) (l2 : Value) (l3 : Value) (x : Nat) (st : List Value) (h : Hp) (Q : Po) : wp μ d 266 766 [.ref x, l1, l2, l3] st h Q = wp μ d 266 767 [.ref x, l1, l2, l3] (.ref x :: st) h Q := wp_nx rfl
set_option maxRecDepth 20000 in
theorem r266_766t (μ : Bool) (d : Nat) (l1 : Value) (l2 : Value) (l3 : Value) (x : Nat) (st : List Value) (h : Hp) (Q : Po) : wp μ d 266 766 [.retAddr x, l1, l2, l3] st h Q = wp μ d 266 767 [.retAddr x, l1, l2, l3] (.retAddr x :: st) h Q := wp_nx rfl
set_option maxRecDepth 20000 in
theorem r266_767 (μ : Bool) (d : Nat) (l0 : Value) (l1 : Value) (l2 : Value) (x : Int32) (st : List Value) (h : Hp) (Q : Po) : wp μ d 266 767 [l0, l1, l2, .int x] st h Q = wp μ d 266 768 [l0, l1, l2, .int x] (.int x :: st) h Q := wp_nx rfl
set_option maxRecDepth 20000 in
theorem r266_768 (μ : Bool) (d : Nat) (l0 : Value) (l1 : Value) (l2 : Value) (l3 : Value) (st : List Value) (h : Hp) (Q : Po) : wp μ d 266 768 [l0, l1, l2, l3] st h Q = wp μ d 266 769 [l0, l1, l2, l3] (.int (nI 2) :: st) h Q := (wp_nx rfl).trans (congrArg (fun z => wp μ d 266 769 [l0, l1, l2, l3] (.int z :: st) h Q) (show Int32.ofInt (2) = (nI 2) by decide))
set_option maxRecDepth 20000 in
theorem r266_769 (μ : Bool) (d : Nat) (l0 : Value) (l1 : Value) (l2 : Value) (l3 : Value) (y0 y1 : Int32) (st : List Value) (h : Hp) (Q : Po) : wp μ d 266 769 [l0, l1, l2, l3] (.int y0 :: .int y1 :: st) h Q = wp μ d 266 770 [l0, l1, l2, l3] (.int (y1 + y0) :: st) h Q := wp_nx rfl
set_option maxRecDepth 20000 in
theorem r266_770 (μ : Bool) (d : Nat) (l0 : Value) (l1 : Value) (l2 : Value) (l3 : Value) (y0 : Int32) (y1 : Nat) (st : List Value) (h : Hp) (Q : Po) : wp μ d 266 770 [l0, l1, l2, l3] (.int y0 :: .ref y1 :: st) h Q = (((kdm μ h y1).1 = 20 ∧ vp_in y0 (kdm μ h y1).2) ∧ wp μ d 266 771 [l0, l1, l2, l3] (.int (gI h y1 y0.toNatClampNeg) :: st) h Q) := wp_ck _ rfl
set_option maxRecDepth 20000 in
theorem r266_770t (μ : Bool) (d : Nat) (l0 : Value) (l1 : Value) (l2 : Value) (l3 : Value) (y0 : Int32) (st : List Value) (h : Hp) (Q : Po) : wp μ d 266 770 [l0, l1, l2, l3] (.int y0 :: .retAddr 1 :: st) h Q = (vp_in y0 (hk h 0).2 ∧ wp μ d 266 771 [l0, l1, l2, l3] (.int (gI h 0 y0.toNatClampNeg) :: st) h Q) := wp_ck _ rfl
set_option maxRecDepth 20000 in
theorem r266_771 (μ : Bool) (d : Nat) (l0 : Value) (l1 : Value) (l2 : Value) (l3 : Value) (y0 : Int32) (y1 : Int32) (y2 : Nat) (y3 : Int32) (h : Hp) (Q : Po) : wp μ (d + 1) 266 771 [l0, l1, l2, l3] [.int y0, .int y1, .ref y2, .int y3] h Q = ((kdm μ h y2).1 = 12 ∧ cwp μ d 218 [.ref y2, .int y1, .int y0] h (fun r h' => wp μ (d + 1) 266 774 [l0, l1, l2, l3] (r.toList ++ [.int y3]) h' Q)) := wp_kc _ True rfl ⟨fun q => by obtain ⟨x, q1, q2⟩ := q.2.2.1 rfl; cases q1; exact q2, fun q => ⟨Nat.le_of_ble_eq_true rfl, ⟨Nat.le_of_ble_eq_true rfl, rfl, Nat.le_of_ble_eq_true rfl⟩, fun _ => ⟨_, rfl, q⟩, fun q9 => absurd q9 (by decide)⟩⟩
set_option maxRecDepth 20000 in
theorem r266_774 (μ : Bool) (d : Nat) (l0 : Value) (l1 : Value) (l2 : Value) (l3 : Value) (y0 y1 : Int32) (st : List Value) (h : Hp) (Q : Po) : wp μ d 266 774 [l0, l1, l2, l3] (.int y0 :: .int y1 :: st) h Q = if y1 = y0 then wp μ d 266 1545 [l0, l1, l2, l3] st h Q else wp μ d 266 777 [l0, l1, l2, l3] st h Q := wp_br (y1 = y0) rfl
set_option maxRecDepth 20000 in
theorem r266_777 (μ : Bool) (d : Nat) (l0 : Value) (l1 : Value) (l2 : Value) (l3 : Value) (st : List Value) (h : Hp) (Q : Po) : wp μ d 266 777 [l0, l1, l2, l3] st h Q = wp μ d 266 778 [l0, l1, l2, l3] (.int (nI 0) :: st) h Q := (wp_nx rfl).trans (congrArg (fun z => wp μ d 266 778 [l0, l1, l2, l3] (.int z :: st) h Q) (show Int32.ofInt (0) = (nI 0) by decide))
set_option maxRecDepth 20000 in
theorem r266_778 (μ : Bool) (d : Nat) (l0 : Value) (l1 : Value) (l2 : Value) (l3 : Value) (y0 : Int32) (h : Hp) (Q : Po) : wp μ d 266 778 [l0, l1, l2, l3] [.int y0] h Q = ((y0 = nI 0 ∨ y0 = nI 1) ∧ Q (some (.int y0)) h) := (wp_rc _ rfl).trans (by rw [show retOk (rM 266) y0 = (narrow .boolean (.int y0) = .int y0) from rfl, nz_iff]; rfl)
set_option maxRecDepth 20000 in
theorem r266_779 (μ : Bool) (d : Nat) (l0 : Value) (l2 : Value) (l3 : Value) (x : Nat) (st : List Value) (h : Hp) (Q : Po) : wp μ d 266 779 [l0, .ref x, l2, l3] st h Q = wp μ d 266 780 [l0, .ref x, l2, l3] (.ref x :: st) h Q := wp_nx rfl
set_option maxRecDepth 20000 in
theorem r266_779n (μ : Bool) (d : Nat) (l0 : Value) (l2 : Value) (l3 : Value) (st : List Value) (h : Hp) (Q : Po) : wp μ d 266 779 [l0, .null, l2, l3] st h Q = wp μ d 266 780 [l0, .null, l2, l3] (.null :: st) h Q := wp_nx rfl
set_option maxRecDepth 20000 in
theorem r266_779t (μ : Bool) (d : Nat) (l0 : Value) (l2 : Value) (l3 : Value) (x : Nat) (st : List Value) (h : Hp) (Q : Po) : wp μ d 266 779 [l0, .retAddr x, l2, l3] st h Q = wp μ d 266 780 [l0, .retAddr x, l2, l3] (.retAddr x :: st) h Q := wp_nx rfl
set_option maxRecDepth 20000 in
theorem r266_780 (μ : Bool) (d : Nat) (l1 : Value) (l2 : Value) (l3 : Value) (x : Nat) (st : List Value) (h : Hp) (Q : Po) : wp μ d 266 780 [.ref x, l1, l2, l3] st h Q = wp μ d 266 781 [.ref x, l1, l2, l3] (.ref x :: st) h Q := wp_nx rfl
set_option maxRecDepth 20000 in
theorem r266_780t (μ : Bool) (d : Nat) (l1 : Value) (l2 : Value) (l3 : Value) (x : Nat) (st : List Value) (h : Hp) (Q : Po) : wp μ d 266 780 [.retAddr x, l1, l2, l3] st h Q = wp μ d 266 781 [.retAddr x, l1, l2, l3] (.retAddr x :: st) h Q := wp_nx rfl
set_option maxRecDepth 20000 in
theorem r266_781 (μ : Bool) (d : Nat) (l0 : Value) (l1 : Value) (l2 : Value) (x : Int32) (st : List Value) (h : Hp) (Q : Po) : wp μ d 266 781 [l0, l1, l2, .int x] st h Q = wp μ d 266 782 [l0, l1, l2, .int x] (.int x :: st) h Q := wp_nx rfl
set_option maxRecDepth 20000 in
theorem r266_782 (μ : Bool) (d : Nat) (l0 : Value) (l1 : Value) (l2 : Value) (l3 : Value) (st : List Value) (h : Hp) (Q : Po) : wp μ d 266 782 [l0, l1, l2, l3] st h Q = wp μ d 266 783 [l0, l1, l2, l3] (.int (nI 1) :: st) h Q := (wp_nx rfl).trans (congrArg (fun z => wp μ d 266 783 [l0, l1, l2, l3] (.int z :: st) h Q) (show Int32.ofInt (1) = (nI 1) by decide))
set_option maxRecDepth 20000 in
theorem r266_783 (μ : Bool) (d : Nat) (l0 : Value) (l1 : Value) (l2 : Value) (l3 : Value) (y0 y1 : Int32) (st : List Value) (h : Hp) (Q : Po) : wp μ d 266 783 [l0, l1, l2, l3] (.int y0 :: .int y1 :: st) h Q = wp μ d 266 784 [l0, l1, l2, l3] (.int (y1 + y0) :: st) h Q := wp_nx rfl
set_option maxRecDepth 20000 in
theorem r266_784 (μ : Bool) (d : Nat) (l0 : Value) (l1 : Value) (l2 : Value) (l3 : Value) (y0 : Int32) (y1 : Nat) (st : List Value) (h : Hp) (Q : Po) : wp μ d 266 784 [l0, l1, l2, l3] (.int y0 :: .ref y1 :: st) h Q = (((kdm μ h y1).1 = 20 ∧ vp_in y0 (kdm μ h y1).2) ∧ wp μ d 266 785 [l0, l1, l2, l3] (.int (gI h y1 y0.toNatClampNeg) :: st) h Q) := wp_ck _ rfl
set_option maxRecDepth 20000 in
theorem r266_784t (μ : Bool) (d : Nat) (l0 : Value) (l1 : Value) (l2 : Value) (l3 : Value) (y0 : Int32) (st : List Value) (h : Hp) (Q : Po) : wp μ d 266 784 [l0, l1, l2, l3] (.int y0 :: .retAddr 1 :: st) h Q = (vp_in y0 (hk h 0).2 ∧ wp μ d 266 785 [l0, l1, l2, l3] (.int (gI h 0 y0.toNatClampNeg) :: st) h Q) := wp_ck _ rfl
set_option maxRecDepth 20000 in
theorem r266_785 (μ : Bool) (d : Nat) (l0 : Value) (l1 : Value) (l2 : Value) (l3 : Value) (y0 : Int32) (y1 : Nat) (h : Hp) (Q : Po) : wp μ (d + 1) 266 785 [l0, l1, l2, l3] [.int y0, .ref y1] h Q = ((kdm μ h y1).1 = 11 ∧ cwp μ d 103 [.ref y1, .int y0] h (fun r h' => wp μ (d + 1) 266 788 [l0, l1, l2, l3] (r.toList ++ []) h' Q)) := wp_kc _ True rfl ⟨fun q => by obtain ⟨x, q1, q2⟩ := q.2.2.1 rfl; cases q1; exact q2, fun q => ⟨Nat.le_of_ble_eq_true rfl, ⟨Nat.le_of_ble_eq_true rfl, rfl, Nat.le_of_ble_eq_true rfl⟩, fun _ => ⟨_, rfl, q⟩, fun q9 => absurd q9 (by decide)⟩⟩
set_option maxRecDepth 20000 in
theorem r266_788 (μ : Bool) (d : Nat) (l0 : Value) (l1 : Value) (l3 : Value) (x : Nat) (st : List Value) (h : Hp) (Q : Po) : wp μ d 266 788 [l0, l1, .ref x, l3] st h Q = wp μ d 266 789 [l0, l1, .ref x, l3] (.ref x :: st) h Q := wp_nx rfl
set_option maxRecDepth 20000 in
theorem r266_788n (μ : Bool) (d : Nat) (l0 : Value) (l1 : Value) (l3 : Value) (st : List Value) (h : Hp) (Q : Po) : wp μ d 266 788 [l0, l1, .null, l3] st h Q = wp μ d 266 789 [l0, l1, .null, l3] (.null :: st) h Q := wp_nx rfl
set_option maxRecDepth 20000 in
theorem r266_788t (μ : Bool) (d : Nat) (l0 : Value) (l1 : Value) (l3 : Value) (x : Nat) (st : List Value) (h : Hp) (Q : Po) : wp μ d 266 788 [l0, l1, .retAddr x, l3] st h Q = wp μ d 266 789 [l0, l1, .retAddr x, l3] (.retAddr x :: st) h Q := wp_nx rfl
set_option maxRecDepth 20000 in
theorem r266_789 (μ : Bool) (d : Nat) (l1 : Value) (l2 : Value) (l3 : Value) (x : Nat) (st : List Value) (h : Hp) (Q : Po) : wp μ d 266 789 [.ref x, l1, l2, l3] st h Q = wp μ d 266 790 [.ref x, l1, l2, l3] (.ref x :: st) h Q := wp_nx rfl
set_option maxRecDepth 20000 in
theorem r266_789t (μ : Bool) (d : Nat) (l1 : Value) (l2 : Value) (l3 : Value) (x : Nat) (st : List Value) (h : Hp) (Q : Po) : wp μ d 266 789 [.retAddr x, l1, l2, l3] st h Q = wp μ d 266 790 [.retAddr x, l1, l2, l3] (.retAddr x :: st) h Q := wp_nx rfl
set_option maxRecDepth 20000 in
theorem r266_790 (μ : Bool) (d : Nat) (l0 : Value) (l1 : Value) (l2 : Value) (x : Int32) (st : List Value) (h : Hp) (Q : Po) : wp μ d 266 790 [l0, l1, l2, .int x] st h Q = wp μ d 266 791 [l0, l1, l2, .int x] (.int x :: st) h Q := wp_nx rfl
set_option maxRecDepth 20000 in
theorem r266_791 (μ : Bool) (d : Nat) (l0 : Value) (l1 : Value) (l2 : Value) (l3 : Value) (st : List Value) (h : Hp) (Q : Po) : wp μ d 266 791 [l0, l1, l2, l3] st h Q = wp μ d 266 792 [l0, l1, l2, l3] (.int (nI 1) :: st) h Q := (wp_nx rfl).trans (congrArg (fun z => wp μ d 266 792 [l0, l1, l2, l3] (.int z :: st) h Q) (show Int32.ofInt (1) = (nI 1) by decide))
set_option maxRecDepth 20000 in
theorem r266_792 (μ : Bool) (d : Nat) (l0 : Value) (l1 : Value) (l2 : Value) (l3 : Value) (y0 y1 : Int32) (st : List Value) (h : Hp) (Q : Po) : wp μ d 266 792 [l0, l1, l2, l3] (.int y0 :: .int y1 :: st) h Q = wp μ d 266 793 [l0, l1, l2, l3] (.int (y1 + y0) :: st) h Q := wp_nx rfl
set_option maxRecDepth 20000 in
theorem r266_793 (μ : Bool) (d : Nat) (l0 : Value) (l1 : Value) (l2 : Value) (l3 : Value) (y0 : Int32) (y1 : Nat) (st : List Value) (h : Hp) (Q : Po) : wp μ d 266 793 [l0, l1, l2, l3] (.int y0 :: .ref y1 :: st) h Q = (((kdm μ h y1).1 = 20 ∧ vp_in y0 (kdm μ h y1).2) ∧ wp μ d 266 794 [l0, l1, l2, l3] (.int (gI h y1 y0.toNatClampNeg) :: st) h Q) := wp_ck _ rfl
set_option maxRecDepth 20000 in
theorem r266_793t (μ : Bool) (d : Nat) (l0 : Value) (l1 : Value) (l2 : Value) (l3 : Value) (y0 : Int32) (st : List Value) (h : Hp) (Q : Po) : wp μ d 266 793 [l0, l1, l2, l3] (.int y0 :: .retAddr 1 :: st) h Q = (vp_in y0 (hk h 0).2 ∧ wp μ d 266 794 [l0, l1, l2, l3] (.int (gI h 0 y0.toNatClampNeg) :: st) h Q) := wp_ck _ rfl
set_option maxRecDepth 20000 in
theorem r266_794 (μ : Bool) (d : Nat) (l0 : Value) (l1 : Value) (l2 : Value) (l3 : Value) (y0 : Int32) (y1 : Nat) (y2 : Int32) (h : Hp) (Q : Po) : wp μ (d + 1) 266 794 [l0, l1, l2, l3] [.int y0, .ref y1, .int y2] h Q = ((kdm μ h y1).1 = 12 ∧ cwp μ d 219 [.ref y1, .int y0] h (fun r h' => wp μ (d + 1) 266 797 [l0, l1, l2, l3] (r.toList ++ [.int y2]) h' Q)) := wp_kc _ True rfl ⟨fun q => by obtain ⟨x, q1, q2⟩ := q.2.2.1 rfl; cases q1; exact q2, fun q => ⟨Nat.le_of_ble_eq_true rfl, ⟨Nat.le_of_ble_eq_true rfl, rfl, Nat.le_of_ble_eq_true rfl⟩, fun _ => ⟨_, rfl, q⟩, fun q9 => absurd q9 (by decide)⟩⟩
set_option maxRecDepth 20000 in
theorem r266_797 (μ : Bool) (d : Nat) (l0 : Value) (l1 : Value) (l2 : Value) (l3 : Value) (y0 y1 : Int32) (st : List Value) (h : Hp) (Q : Po) : wp μ d 266 797 [l0, l1, l2, l3] (.int y0 :: .int y1 :: st) h Q = if y1 = y0 then wp μ d 266 1545 [l0, l1, l2, l3] st h Q else wp μ d 266 800 [l0, l1, l2, l3] st h Q := wp_br (y1 = y0) rfl
set_option maxRecDepth 20000 in
theorem r266_800 (μ : Bool) (d : Nat) (l0 : Value) (l1 : Value) (l2 : Value) (l3 : Value) (st : List Value) (h : Hp) (Q : Po) : wp μ d 266 800 [l0, l1, l2, l3] st h Q = wp μ d 266 801 [l0, l1, l2, l3] (.int (nI 0) :: st) h Q := (wp_nx rfl).trans (congrArg (fun z => wp μ d 266 801 [l0, l1, l2, l3] (.int z :: st) h Q) (show Int32.ofInt (0) = (nI 0) by decide))
set_option maxRecDepth 20000 in
theorem r266_801 (μ : Bool) (d : Nat) (l0 : Value) (l1 : Value) (l2 : Value) (l3 : Value) (y0 : Int32) (h : Hp) (Q : Po) : wp μ d 266 801 [l0, l1, l2, l3] [.int y0] h Q = ((y0 = nI 0 ∨ y0 = nI 1) ∧ Q (some (.int y0)) h) := (wp_rc _ rfl).trans (by rw [show retOk (rM 266) y0 = (narrow .boolean (.int y0) = .int y0) from rfl, nz_iff]; rfl)
set_option maxRecDepth 20000 in
theorem r266_802 (μ : Bool) (d : Nat) (l0 : Value) (l2 : Value) (l3 : Value) (x : Nat) (st : List Value) (h : Hp) (Q : Po) : wp μ d 266 802 [l0, .ref x, l2, l3] st h Q = wp μ d 266 803 [l0, .ref x, l2, l3] (.ref x :: st) h Q := wp_nx rfl
set_option maxRecDepth 20000 in
theorem r266_802n (μ : Bool) (d : Nat) (l0 : Value) (l2 : Value) (l3 : Value) (st : List Value) (h : Hp) (Q : Po) : wp μ d 266 802 [l0, .null, l2, l3] st h Q = wp μ d 266 803 [l0, .null, l2, l3] (.null :: st) h Q := wp_nx rfl
set_option maxRecDepth 20000 in
theorem r266_802t (μ : Bool) (d : Nat) (l0 : Value) (l2 : Value) (l3 : Value) (x : Nat) (st : List Value) (h : Hp) (Q : Po) : wp μ d 266 802 [l0, .retAddr x, l2, l3] st h Q = wp μ d 266 803 [l0, .retAddr x, l2, l3] (.retAddr x :: st) h Q := wp_nx rfl
set_option maxRecDepth 20000 in
theorem r266_803 (μ : Bool) (d : Nat) (l1 : Value) (l2 : Value) (l3 : Value) (x : Nat) (st : List Value) (h : Hp) (Q : Po) : wp μ d 266 803 [.ref x, l1, l2, l3] st h Q = wp μ d 266 804 [.ref x, l1, l2, l3] (.ref x :: st) h Q := wp_nx rfl
set_option maxRecDepth 20000 in
theorem r266_803t (μ : Bool) (d : Nat) (l1 : Value) (l2 : Value) (l3 : Value) (x : Nat) (st : List Value) (h : Hp) (Q : Po) : wp μ d 266 803 [.retAddr x, l1, l2, l3] st h Q = wp μ d 266 804 [.retAddr x, l1, l2, l3] (.retAddr x :: st) h Q := wp_nx rfl
set_option maxRecDepth 20000 in
theorem r266_804 (μ : Bool) (d : Nat) (l0 : Value) (l1 : Value) (l2 : Value) (x : Int32) (st : List Value) (h : Hp) (Q : Po) : wp μ d 266 804 [l0, l1, l2, .int x] st h Q = wp μ d 266 805 [l0, l1, l2, .int x] (.int x :: st) h Q := wp_nx rfl
set_option maxRecDepth 20000 in
theorem r266_805 (μ : Bool) (d : Nat) (l0 : Value) (l1 : Value) (l2 : Value) (l3 : Value) (st : List Value) (h : Hp) (Q : Po) : wp μ d 266 805 [l0, l1, l2, l3] st h Q = wp μ d 266 806 [l0, l1, l2, l3] (.int (nI 1) :: st) h Q := (wp_nx rfl).trans (congrArg (fun z => wp μ d 266 806 [l0, l1, l2, l3] (.int z :: st) h Q) (show Int32.ofInt (1) = (nI 1) by decide))
set_option maxRecDepth 20000 in
theorem r266_806 (μ : Bool) (d : Nat) (l0 : Value) (l1 : Value) (l2 : Value) (l3 : Value) (y0 y1 : Int32) (st : List Value) (h : Hp) (Q : Po) : wp μ d 266 806 [l0, l1, l2, l3] (.int y0 :: .int y1 :: st) h Q = wp μ d 266 807 [l0, l1, l2, l3] (.int (y1 + y0) :: st) h Q := wp_nx rfl
set_option maxRecDepth 20000 in
theorem r266_807 (μ : Bool) (d : Nat) (l0 : Value) (l1 : Value) (l2 : Value) (l3 : Value) (y0 : Int32) (y1 : Nat) (st : List Value) (h : Hp) (Q : Po) : wp μ d 266 807 [l0, l1, l2, l3] (.int y0 :: .ref y1 :: st) h Q = (((kdm μ h y1).1 = 20 ∧ vp_in y0 (kdm μ h y1).2) ∧ wp μ d 266 808 [l0, l1, l2, l3] (.int (gI h y1 y0.toNatClampNeg) :: st) h Q) := wp_ck _ rfl
set_option maxRecDepth 20000 in
theorem r266_807t (μ : Bool) (d : Nat) (l0 : Value) (l1 : Value) (l2 : Value) (l3 : Value) (y0 : Int32) (st : List Value) (h : Hp) (Q : Po) : wp μ d 266 807 [l0, l1, l2, l3] (.int y0 :: .retAddr 1 :: st) h Q = (vp_in y0 (hk h 0).2 ∧ wp μ d 266 808 [l0, l1, l2, l3] (.int (gI h 0 y0.toNatClampNeg) :: st) h Q) := wp_ck _ rfl
set_option maxRecDepth 20000 in
theorem r266_808 (μ : Bool) (d : Nat) (l0 : Value) (l1 : Value) (l2 : Value) (l3 : Value) (y0 : Int32) (y1 : Nat) (h : Hp) (Q : Po) : wp μ (d + 1) 266 808 [l0, l1, l2, l3] [.int y0, .ref y1] h Q = ((kdm μ h y1).1 = 11 ∧ cwp μ d 104 [.ref y1, .int y0] h (fun r h' => wp μ (d + 1) 266 811 [l0, l1, l2, l3] (r.toList ++ []) h' Q)) := wp_kc _ True rfl ⟨fun q => by obtain ⟨x, q1, q2⟩ := q.2.2.1 rfl; cases q1; exact q2, fun q => ⟨Nat.le_of_ble_eq_true rfl, ⟨Nat.le_of_ble_eq_true rfl, rfl, Nat.le_of_ble_eq_true rfl⟩, fun _ => ⟨_, rfl, q⟩, fun q9 => absurd q9 (by decide)⟩⟩
set_option maxRecDepth 20000 in
theorem r266_811 (μ : Bool) (d : Nat) (l0 : Value) (l1 : Value) (l3 : Value) (x : Nat) (st : List Value) (h : Hp) (Q : Po) : wp μ d 266 811 [l0, l1, .ref x, l3] st h Q = wp μ d 266 812 [l0, l1, .ref x, l3] (.ref x :: st) h Q := wp_nx rfl
set_option maxRecDepth 20000 in
theorem r266_811n (μ : Bool) (d : Nat) (l0 : Value) (l1 : Value) (l3 : Value) (st : List Value) (h : Hp) (Q : Po) : wp μ d 266 811 [l0, l1, .null, l3] st h Q = wp μ d 266 812 [l0, l1, .null, l3] (.null :: st) h Q := wp_nx rfl
set_option maxRecDepth 20000 in
theorem r266_811t (μ : Bool) (d : Nat) (l0 : Value) (l1 : Value) (l3 : Value) (x : Nat) (st : List Value) (h : Hp) (Q : Po) : wp μ d 266 811 [l0, l1, .retAddr x, l3] st h Q = wp μ d 266 812 [l0, l1, .retAddr x, l3] (.retAddr x :: st) h Q := wp_nx rfl
set_option maxRecDepth 20000 in
theorem r266_812 (μ : Bool) (d : Nat) (l1 : Value) (l2 : Value) (l3 : Value) (x : Nat) (st : List Value) (h : Hp) (Q : Po) : wp μ d 266 812 [.ref x, l1, l2, l3] st h Q = wp μ d 266 813 [.ref x, l1, l2, l3] (.ref x :: st) h Q := wp_nx rfl
set_option maxRecDepth 20000 in
theorem r266_812t (μ : Bool) (d : Nat) (l1 : Value) (l2 : Value) (l3 : Value) (x : Nat) (st : List Value) (h : Hp) (Q : Po) : wp μ d 266 812 [.retAddr x, l1, l2, l3] st h Q = wp μ d 266 813 [.retAddr x, l1, l2, l3] (.retAddr x :: st) h Q := wp_nx rfl
set_option maxRecDepth 20000 in
theorem r266_813 (μ : Bool) (d : Nat) (l0 : Value) (l1 : Value) (l2 : Value) (x : Int32) (st : List Value) (h : Hp) (Q : Po) : wp μ d 266 813 [l0, l1, l2, .int x] st h Q = wp μ d 266 814 [l0, l1, l2, .int x] (.int x :: st) h Q := wp_nx rfl
set_option maxRecDepth 20000 in
theorem r266_814 (μ : Bool) (d : Nat) (l0 : Value) (l1 : Value) (l2 : Value) (l3 : Value) (st : List Value) (h : Hp) (Q : Po) : wp μ d 266 814 [l0, l1, l2, l3] st h Q = wp μ d 266 815 [l0, l1, l2, l3] (.int (nI 1) :: st) h Q := (wp_nx rfl).trans (congrArg (fun z => wp μ d 266 815 [l0, l1, l2, l3] (.int z :: st) h Q) (show Int32.ofInt (1) = (nI 1) by decide))
set_option maxRecDepth 20000 in
theorem r266_815 (μ : Bool) (d : Nat) (l0 : Value) (l1 : Value) (l2 : Value) (l3 : Value) (y0 y1 : Int32) (st : List Value) (h : Hp) (Q : Po) : wp μ d 266 815 [l0, l1, l2, l3] (.int y0 :: .int y1 :: st) h Q = wp μ d 266 816 [l0, l1, l2, l3] (.int (y1 + y0) :: st) h Q := wp_nx rfl
set_option maxRecDepth 20000 in
theorem r266_816 (μ : Bool) (d : Nat) (l0 : Value) (l1 : Value) (l2 : Value) (l3 : Value) (y0 : Int32) (y1 : Nat) (st : List Value) (h : Hp) (Q : Po) : wp μ d 266 816 [l0, l1, l2, l3] (.int y0 :: .ref y1 :: st) h Q = (((kdm μ h y1).1 = 20 ∧ vp_in y0 (kdm μ h y1).2) ∧ wp μ d 266 817 [l0, l1, l2, l3] (.int (gI h y1 y0.toNatClampNeg) :: st) h Q) := wp_ck _ rfl
set_option maxRecDepth 20000 in
theorem r266_816t (μ : Bool) (d : Nat) (l0 : Value) (l1 : Value) (l2 : Value) (l3 : Value) (y0 : Int32) (st : List Value) (h : Hp) (Q : Po) : wp μ d 266 816 [l0, l1, l2, l3] (.int y0 :: .retAddr 1 :: st) h Q = (vp_in y0 (hk h 0).2 ∧ wp μ d 266 817 [l0, l1, l2, l3] (.int (gI h 0 y0.toNatClampNeg) :: st) h Q) := wp_ck _ rfl
set_option maxRecDepth 20000 in
theorem r266_817 (μ : Bool) (d : Nat) (l0 : Value) (l1 : Value) (l2 : Value) (l3 : Value) (y0 : Int32) (y1 : Nat) (y2 : Int32) (h : Hp) (Q : Po) : wp μ (d + 1) 266 817 [l0, l1, l2, l3] [.int y0, .ref y1, .int y2] h Q = ((kdm μ h y1).1 = 12 ∧ cwp μ d 221 [.ref y1, .int y0] h (fun r h' => wp μ (d + 1) 266 820 [l0, l1, l2, l3] (r.toList ++ [.int y2]) h' Q)) := wp_kc _ True rfl ⟨fun q => by obtain ⟨x, q1, q2⟩ := q.2.2.1 rfl; cases q1; exact q2, fun q => ⟨Nat.le_of_ble_eq_true rfl, ⟨Nat.le_of_ble_eq_true rfl, rfl, Nat.le_of_ble_eq_true rfl⟩, fun _ => ⟨_, rfl, q⟩, fun q9 => absurd q9 (by decide)⟩⟩
set_option maxRecDepth 20000 in
theorem r266_820 (μ : Bool) (d : Nat) (l0 : Value) (l1 : Value) (l2 : Value) (l3 : Value) (y0 y1 : Int32) (st : List Value) (h : Hp) (Q : Po) : wp μ d 266 820 [l0, l1, l2, l3] (.int y0 :: .int y1 :: st) h Q = if y1 = y0 then wp μ d 266 1545 [l0, l1, l2, l3] st h Q else wp μ d 266 823 [l0, l1, l2, l3] st h Q := wp_br (y1 = y0) rfl
set_option maxRecDepth 20000 in
theorem r266_823 (μ : Bool) (d : Nat) (l0 : Value) (l1 : Value) (l2 : Value) (l3 : Value) (st : List Value) (h : Hp) (Q : Po) : wp μ d 266 823 [l0, l1, l2, l3] st h Q = wp μ d 266 824 [l0, l1, l2, l3] (.int (nI 0) :: st) h Q := (wp_nx rfl).trans (congrArg (fun z => wp μ d 266 824 [l0, l1, l2, l3] (.int z :: st) h Q) (show Int32.ofInt (0) = (nI 0) by decide))
set_option maxRecDepth 20000 in
theorem r266_824 (μ : Bool) (d : Nat) (l0 : Value) (l1 : Value) (l2 : Value) (l3 : Value) (y0 : Int32) (h : Hp) (Q : Po) : wp μ d 266 824 [l0, l1, l2, l3] [.int y0] h Q = ((y0 = nI 0 ∨ y0 = nI 1) ∧ Q (some (.int y0)) h) := (wp_rc _ rfl).trans (by rw [show retOk (rM 266) y0 = (narrow .boolean (.int y0) = .int y0) from rfl, nz_iff]; rfl)
set_option maxRecDepth 20000 in
theorem r266_825 (μ : Bool) (d : Nat) (l0 : Value) (l2 : Value) (l3 : Value) (x : Nat) (st : List Value) (h : Hp) (Q : Po) : wp μ d 266 825 [l0, .ref x, l2, l3] st h Q = wp μ d 266 826 [l0, .ref x, l2, l3] (.ref x :: st) h Q := wp_nx rfl
set_option maxRecDepth 20000 in
theorem r266_825n (μ : Bool) (d : Nat) (l0 : Value) (l2 : Value) (l3 : Value) (st : List Value) (h : Hp) (Q : Po) : wp μ d 266 825 [l0, .null, l2, l3] st h Q = wp μ d 266 826 [l0, .null, l2, l3] (.null :: st) h Q := wp_nx rfl
set_option maxRecDepth 20000 in
theorem r266_825t (μ : Bool) (d : Nat) (l0 : Value) (l2 : Value) (l3 : Value) (x : Nat) (st : List Value) (h : Hp) (Q : Po) : wp μ d 266 825 [l0, .retAddr x, l2, l3] st h Q = wp μ d 266 826 [l0, .retAddr x, l2, l3] (.retAddr x :: st) h Q := wp_nx rfl
set_option maxRecDepth 20000 in
theorem r266_826 (μ : Bool) (d : Nat) (l1 : Value) (l2 : Value) (l3 : Value) (x : Nat) (st : List Value) (h : Hp) (Q : Po) : wp μ d 266 826 [.ref x, l1, l2, l3] st h Q = wp μ d 266 827 [.ref x, l1, l2, l3] (.ref x :: st) h Q := wp_nx rfl
set_option maxRecDepth 20000 in
theorem r266_826t (μ : Bool) (d : Nat) (l1 : Value) (l2 : Value) (l3 : Value) (x : Nat) (st : List Value) (h : Hp) (Q : Po) : wp μ d 266 826 [.retAddr x, l1, l2, l3] st h Q = wp μ d 266 827 [.retAddr x, l1, l2, l3] (.retAddr x :: st) h Q := wp_nx rfl
set_option maxRecDepth 20000 in
theorem r266_827 (μ : Bool) (d : Nat) (l0 : Value) (l1 : Value) (l2 : Value) (x : Int32) (st : List Value) (h : Hp) (Q : Po) : wp μ d 266 827 [l0, l1, l2, .int x] st h Q = wp μ d 266 828 [l0, l1, l2, .int x] (.int x :: st) h Q := wp_nx rfl
set_option maxRecDepth 20000 in
theorem r266_828 (μ : Bool) (d : Nat) (l0 : Value) (l1 : Value) (l2 : Value) (l3 : Value) (st : List Value) (h : Hp) (Q : Po) : wp μ d 266 828 [l0, l1, l2, l3] st h Q = wp μ d 266 829 [l0, l1, l2, l3] (.int (nI 1) :: st) h Q := (wp_nx rfl).trans (congrArg (fun z => wp μ d 266 829 [l0, l1, l2, l3] (.int z :: st) h Q) (show Int32.ofInt (1) = (nI 1) by decide))
set_option maxRecDepth 20000 in
theorem r266_829 (μ : Bool) (d : Nat) (l0 : Value) (l1 : Value) (l2 : Value) (l3 : Value) (y0 y1 : Int32) (st : List Value) (h : Hp) (Q : Po) : wp μ d 266 829 [l0, l1, l2, l3] (.int y0 :: .int y1 :: st) h Q = wp μ d 266 830 [l0, l1, l2, l3] (.int (y1 + y0) :: st) h Q := wp_nx rfl
set_option maxRecDepth 20000 in
theorem r266_830 (μ : Bool) (d : Nat) (l0 : Value) (l1 : Value) (l2 : Value) (l3 : Value) (y0 : Int32) (y1 : Nat) (st : List Value) (h : Hp) (Q : Po) : wp μ d 266 830 [l0, l1, l2, l3] (.int y0 :: .ref y1 :: st) h Q = (((kdm μ h y1).1 = 20 ∧ vp_in y0 (kdm μ h y1).2) ∧ wp μ d 266 831 [l0, l1, l2, l3] (.int (gI h y1 y0.toNatClampNeg) :: st) h Q) := wp_ck _ rfl
set_option maxRecDepth 20000 in
theorem r266_830t (μ : Bool) (d : Nat) (l0 : Value) (l1 : Value) (l2 : Value) (l3 : Value) (y0 : Int32) (st : List Value) (h : Hp) (Q : Po) : wp μ d 266 830 [l0, l1, l2, l3] (.int y0 :: .retAddr 1 :: st) h Q = (vp_in y0 (hk h 0).2 ∧ wp μ d 266 831 [l0, l1, l2, l3] (.int (gI h 0 y0.toNatClampNeg) :: st) h Q) := wp_ck _ rfl
set_option maxRecDepth 20000 in
theorem r266_831 (μ : Bool) (d : Nat) (l0 : Value) (l1 : Value) (l2 : Value) (l3 : Value) (y0 : Int32) (y1 : Nat) (h : Hp) (Q : Po) : wp μ (d + 1) 266 831 [l0, l1, l2, l3] [.int y0, .ref y1] h Q = ((kdm μ h y1).1 = 11 ∧ cwp μ d 105 [.ref y1, .int y0] h (fun r h' => wp μ (d + 1) 266 834 [l0, l1, l2, l3] (r.toList ++ []) h' Q)) := wp_kc _ True rfl ⟨fun q => by obtain ⟨x, q1, q2⟩ := q.2.2.1 rfl; cases q1; exact q2, fun q => ⟨Nat.le_of_ble_eq_true rfl, ⟨Nat.le_of_ble_eq_true rfl, rfl, Nat.le_of_ble_eq_true rfl⟩, fun _ => ⟨_, rfl, q⟩, fun q9 => absurd q9 (by decide)⟩⟩
set_option maxRecDepth 20000 in
theorem r266_834 (μ : Bool) (d : Nat) (l0 : Value) (l1 : Value) (l3 : Value) (x : Nat) (st : List Value) (h : Hp) (Q : Po) : wp μ d 266 834 [l0, l1, .ref x, l3] st h Q = wp μ d 266 835 [l0, l1, .ref x, l3] (.ref x :: st) h Q := wp_nx rfl
set_option maxRecDepth 20000 in
theorem r266_834n (μ : Bool) (d : Nat) (l0 : Value) (l1 : Value) (l3 : Value) (st : List Value) (h : Hp) (Q : Po) : wp μ d 266 834 [l0, l1, .null, l3] st h Q = wp μ d 266 835 [l0, l1, .null, l3] (.null :: st) h Q := wp_nx rfl
set_option maxRecDepth 20000 in
theorem r266_834t (μ : Bool) (d : Nat) (l0 : Value) (l1 : Value) (l3 : Value) (x : Nat) (st : List Value) (h : Hp) (Q : Po) : wp μ d 266 834 [l0, l1, .retAddr x, l3] st h Q = wp μ d 266 835 [l0, l1, .retAddr x, l3] (.retAddr x :: st) h Q := wp_nx rfl
set_option maxRecDepth 20000 in
theorem r266_835 (μ : Bool) (d : Nat) (l1 : Value) (l2 : Value) (l3 : Value) (x : Nat) (st : List Value) (h : Hp) (Q : Po) : wp μ d 266 835 [.ref x, l1, l2, l3] st h Q = wp μ d 266 836 [.ref x, l1, l2, l3] (.ref x :: st) h Q := wp_nx rfl
set_option maxRecDepth 20000 in
theorem r266_835t (μ : Bool) (d : Nat) (l1 : Value) (l2 : Value) (l3 : Value) (x : Nat) (st : List Value) (h : Hp) (Q : Po) : wp μ d 266 835 [.retAddr x, l1, l2, l3] st h Q = wp μ d 266 836 [.retAddr x, l1, l2, l3] (.retAddr x :: st) h Q := wp_nx rfl
set_option maxRecDepth 20000 in
theorem r266_836 (μ : Bool) (d : Nat) (l0 : Value) (l1 : Value) (l2 : Value) (x : Int32) (st : List Value) (h : Hp) (Q : Po) : wp μ d 266 836 [l0, l1, l2, .int x] st h Q = wp μ d 266 837 [l0, l1, l2, .int x] (.int x :: st) h Q := wp_nx rfl
set_option maxRecDepth 20000 in
theorem r266_837 (μ : Bool) (d : Nat) (l0 : Value) (l1 : Value) (l2 : Value) (l3 : Value) (st : List Value) (h : Hp) (Q : Po) : wp μ d 266 837 [l0, l1, l2, l3] st h Q = wp μ d 266 838 [l0, l1, l2, l3] (.int (nI 1) :: st) h Q := (wp_nx rfl).trans (congrArg (fun z => wp μ d 266 838 [l0, l1, l2, l3] (.int z :: st) h Q) (show Int32.ofInt (1) = (nI 1) by decide))
set_option maxRecDepth 20000 in
theorem r266_838 (μ : Bool) (d : Nat) (l0 : Value) (l1 : Value) (l2 : Value) (l3 : Value) (y0 y1 : Int32) (st : List Value) (h : Hp) (Q : Po) : wp μ d 266 838 [l0, l1, l2, l3] (.int y0 :: .int y1 :: st) h Q = wp μ d 266 839 [l0, l1, l2, l3] (.int (y1 + y0) :: st) h Q := wp_nx rfl
set_option maxRecDepth 20000 in
theorem r266_839 (μ : Bool) (d : Nat) (l0 : Value) (l1 : Value) (l2 : Value) (l3 : Value) (y0 : Int32) (y1 : Nat) (st : List Value) (h : Hp) (Q : Po) : wp μ d 266 839 [l0, l1, l2, l3] (.int y0 :: .ref y1 :: st) h Q = (((kdm μ h y1).1 = 20 ∧ vp_in y0 (kdm μ h y1).2) ∧ wp μ d 266 840 [l0, l1, l2, l3] (.int (gI h y1 y0.toNatClampNeg) :: st) h Q) := wp_ck _ rfl
set_option maxRecDepth 20000 in
theorem r266_839t (μ : Bool) (d : Nat) (l0 : Value) (l1 : Value) (l2 : Value) (l3 : Value) (y0 : Int32) (st : List Value) (h : Hp) (Q : Po) : wp μ d 266 839 [l0, l1, l2, l3] (.int y0 :: .retAddr 1 :: st) h Q = (vp_in y0 (hk h 0).2 ∧ wp μ d 266 840 [l0, l1, l2, l3] (.int (gI h 0 y0.toNatClampNeg) :: st) h Q) := wp_ck _ rfl
set_option maxRecDepth 20000 in
theorem r266_840 (μ : Bool) (d : Nat) (l0 : Value) (l1 : Value) (l2 : Value) (l3 : Value) (y0 : Int32) (y1 : Nat) (y2 : Int32) (h : Hp) (Q : Po) : wp μ (d + 1) 266 840 [l0, l1, l2, l3] [.int y0, .ref y1, .int y2] h Q = ((kdm μ h y1).1 = 12 ∧ cwp μ d 222 [.ref y1, .int y0] h (fun r h' => wp μ (d + 1) 266 843 [l0, l1, l2, l3] (r.toList ++ [.int y2]) h' Q)) := wp_kc _ True rfl ⟨fun q => by obtain ⟨x, q1, q2⟩ := q.2.2.1 rfl; cases q1; exact q2, fun q => ⟨Nat.le_of_ble_eq_true rfl, ⟨Nat.le_of_ble_eq_true rfl, rfl, Nat.le_of_ble_eq_true rfl⟩, fun _ => ⟨_, rfl, q⟩, fun q9 => absurd q9 (by decide)⟩⟩
set_option maxRecDepth 20000 in
theorem r266_843 (μ : Bool) (d : Nat) (l0 : Value) (l1 : Value) (l2 : Value) (l3 : Value) (y0 y1 : Int32) (st : List Value) (h : Hp) (Q : Po) : wp μ d 266 843 [l0, l1, l2, l3] (.int y0 :: .int y1 :: st) h Q = if y1 = y0 then wp μ d 266 1545 [l0, l1, l2, l3] st h Q else wp μ d 266 846 [l0, l1, l2, l3] st h Q := wp_br (y1 = y0) rfl
set_option maxRecDepth 20000 in
theorem r266_846 (μ : Bool) (d : Nat) (l0 : Value) (l1 : Value) (l2 : Value) (l3 : Value) (st : List Value) (h : Hp) (Q : Po) : wp μ d 266 846 [l0, l1, l2, l3] st h Q = wp μ d 266 847 [l0, l1, l2, l3] (.int (nI 0) :: st) h Q := (wp_nx rfl).trans (congrArg (fun z => wp μ d 266 847 [l0, l1, l2, l3] (.int z :: st) h Q) (show Int32.ofInt (0) = (nI 0) by decide))
set_option maxRecDepth 20000 in
theorem r266_847 (μ : Bool) (d : Nat) (l0 : Value) (l1 : Value) (l2 : Value) (l3 : Value) (y0 : Int32) (h : Hp) (Q : Po) : wp μ d 266 847 [l0, l1, l2, l3] [.int y0] h Q = ((y0 = nI 0 ∨ y0 = nI 1) ∧ Q (some (.int y0)) h) := (wp_rc _ rfl).trans (by rw [show retOk (rM 266) y0 = (narrow .boolean (.int y0) = .int y0) from rfl, nz_iff]; rfl)
set_option maxRecDepth 20000 in
theorem r266_848 (μ : Bool) (d : Nat) (l0 : Value) (l2 : Value) (l3 : Value) (x : Nat) (st : List Value) (h : Hp) (Q : Po) : wp μ d 266 848 [l0, .ref x, l2, l3] st h Q = wp μ d 266 849 [l0, .ref x, l2, l3] (.ref x :: st) h Q := wp_nx rfl
set_option maxRecDepth 20000 in
theorem r266_848n (μ : Bool) (d : Nat) (l0 : Value) (l2 : Value) (l3 : Value) (st : List Value) (h : Hp) (Q : Po) : wp μ d 266 848 [l0, .null, l2, l3] st h Q = wp μ d 266 849 [l0, .null, l2, l3] (.null :: st) h Q := wp_nx rfl
set_option maxRecDepth 20000 in
theorem r266_848t (μ : Bool) (d : Nat) (l0 : Value) (l2 : Value) (l3 : Value) (x : Nat) (st : List Value) (h : Hp) (Q : Po) : wp μ d 266 848 [l0, .retAddr x, l2, l3] st h Q = wp μ d 266 849 [l0, .retAddr x, l2, l3] (.retAddr x :: st) h Q := wp_nx rfl
set_option maxRecDepth 20000 in
theorem r266_849 (μ : Bool) (d : Nat) (l1 : Value) (l2 : Value) (l3 : Value) (x : Nat) (st : List Value) (h : Hp) (Q : Po) : wp μ d 266 849 [.ref x, l1, l2, l3] st h Q = wp μ d 266 850 [.ref x, l1, l2, l3] (.ref x :: st) h Q := wp_nx rfl
set_option maxRecDepth 20000 in
theorem r266_849t (μ : Bool) (d : Nat) (l1 : Value) (l2 : Value) (l3 : Value) (x : Nat) (st : List Value) (h : Hp) (Q : Po) : wp μ d 266 849 [.retAddr x, l1, l2, l3] st h Q = wp μ d 266 850 [.retAddr x, l1, l2, l3] (.retAddr x :: st) h Q := wp_nx rfl
set_option maxRecDepth 20000 in
theorem r266_850 (μ : Bool) (d : Nat) (l0 : Value) (l1 : Value) (l2 : Value) (x : Int32) (st : List Value) (h : Hp) (Q : Po) : wp μ d 266 850 [l0, l1, l2, .int x] st h Q = wp μ d 266 851 [l0, l1, l2, .int x] (.int x :: st) h Q := wp_nx rfl
set_option maxRecDepth 20000 in
theorem r266_851 (μ : Bool) (d : Nat) (l0 : Value) (l1 : Value) (l2 : Value) (l3 : Value) (st : List Value) (h : Hp) (Q : Po) : wp μ d 266 851 [l0, l1, l2, l3] st h Q = wp μ d 266 852 [l0, l1, l2, l3] (.int (nI 1) :: st) h Q := (wp_nx rfl).trans (congrArg (fun z => wp μ d 266 852 [l0, l1, l2, l3] (.int z :: st) h Q) (show Int32.ofInt (1) = (nI 1) by decide))
set_option maxRecDepth 20000 in
theorem r266_852 (μ : Bool) (d : Nat) (l0 : Value) (l1 : Value) (l2 : Value) (l3 : Value) (y0 y1 : Int32) (st : List Value) (h : Hp) (Q : Po) : wp μ d 266 852 [l0, l1, l2, l3] (.int y0 :: .int y1 :: st) h Q = wp μ d 266 853 [l0, l1, l2, l3] (.int (y1 + y0) :: st) h Q := wp_nx rfl
set_option maxRecDepth 20000 in
theorem r266_853 (μ : Bool) (d : Nat) (l0 : Value) (l1 : Value) (l2 : Value) (l3 : Value) (y0 : Int32) (y1 : Nat) (st : List Value) (h : Hp) (Q : Po) : wp μ d 266 853 [l0, l1, l2, l3] (.int y0 :: .ref y1 :: st) h Q = (((kdm μ h y1).1 = 20 ∧ vp_in y0 (kdm μ h y1).2) ∧ wp μ d 266 854 [l0, l1, l2, l3] (.int (gI h y1 y0.toNatClampNeg) :: st) h Q) := wp_ck _ rfl
set_option maxRecDepth 20000 in
theorem r266_853t (μ : Bool) (d : Nat) (l0 : Value) (l1 : Value) (l2 : Value) (l3 : Value) (y0 : Int32) (st : List Value) (h : Hp) (Q : Po) : wp μ d 266 853 [l0, l1, l2, l3] (.int y0 :: .retAddr 1 :: st) h Q = (vp_in y0 (hk h 0).2 ∧ wp μ d 266 854 [l0, l1, l2, l3] (.int (gI h 0 y0.toNatClampNeg) :: st) h Q) := wp_ck _ rfl
set_option maxRecDepth 20000 in
theorem r266_854 (μ : Bool) (d : Nat) (l0 : Value) (l1 : Value) (l2 : Value) (l3 : Value) (y0 : Int32) (y1 : Nat) (h : Hp) (Q : Po) : wp μ (d + 1) 266 854 [l0, l1, l2, l3] [.int y0, .ref y1] h Q = ((kdm μ h y1).1 = 11 ∧ cwp μ d 106 [.ref y1, .int y0] h (fun r h' => wp μ (d + 1) 266 857 [l0, l1, l2, l3] (r.toList ++ []) h' Q)) := wp_kc _ True rfl ⟨fun q => by obtain ⟨x, q1, q2⟩ := q.2.2.1 rfl; cases q1; exact q2, fun q => ⟨Nat.le_of_ble_eq_true rfl, ⟨Nat.le_of_ble_eq_true rfl, rfl, Nat.le_of_ble_eq_true rfl⟩, fun _ => ⟨_, rfl, q⟩, fun q9 => absurd q9 (by decide)⟩⟩
set_option maxRecDepth 20000 in
theorem r266_857 (μ : Bool) (d : Nat) (l0 : Value) (l1 : Value) (l3 : Value) (x : Nat) (st : List Value) (h : Hp) (Q : Po) : wp μ d 266 857 [l0, l1, .ref x, l3] st h Q = wp μ d 266 858 [l0, l1, .ref x, l3] (.ref x :: st) h Q := wp_nx rfl
set_option maxRecDepth 20000 in
theorem r266_857n (μ : Bool) (d : Nat) (l0 : Value) (l1 : Value) (l3 : Value) (st : List Value) (h : Hp) (Q : Po) : wp μ d 266 857 [l0, l1, .null, l3] st h Q = wp μ d 266 858 [l0, l1, .null, l3] (.null :: st) h Q := wp_nx rfl
set_option maxRecDepth 20000 in
theorem r266_857t (μ : Bool) (d : Nat) (l0 : Value) (l1 : Value) (l3 : Value) (x : Nat) (st : List Value) (h : Hp) (Q : Po) : wp μ d 266 857 [l0, l1, .retAddr x, l3] st h Q = wp μ d 266 858 [l0, l1, .retAddr x, l3] (.retAddr x :: st) h Q := wp_nx rfl
set_option maxRecDepth 20000 in
theorem r266_858 (μ : Bool) (d : Nat) (l1 : Value) (l2 : Value) (l3 : Value) (x : Nat) (st : List Value) (h : Hp) (Q : Po) : wp μ d 266 858 [.ref x, l1, l2, l3] st h Q = wp μ d 266 859 [.ref x, l1, l2, l3] (.ref x :: st) h Q := wp_nx rfl
set_option maxRecDepth 20000 in
theorem r266_858t (μ : Bool) (d : Nat) (l1 : Value) (l2 : Value) (l3 : Value) (x : Nat) (st : List Value) (h : Hp) (Q : Po) : wp μ d 266 858 [.retAddr x, l1, l2, l3] st h Q = wp μ d 266 859 [.retAddr x, l1, l2, l3] (.retAddr x :: st) h Q := wp_nx rfl
set_option maxRecDepth 20000 in
theorem r266_859 (μ : Bool) (d : Nat) (l0 : Value) (l1 : Value) (l2 : Value) (x : Int32) (st : List Value) (h : Hp) (Q : Po) : wp μ d 266 859 [l0, l1, l2, .int x] st h Q = wp μ d 266 860 [l0, l1, l2, .int x] (.int x :: st) h Q := wp_nx rfl
set_option maxRecDepth 20000 in
theorem r266_860 (μ : Bool) (d : Nat) (l0 : Value) (l1 : Value) (l2 : Value) (l3 : Value) (st : List Value) (h : Hp) (Q : Po) : wp μ d 266 860 [l0, l1, l2, l3] st h Q = wp μ d 266 861 [l0, l1, l2, l3] (.int (nI 1) :: st) h Q := (wp_nx rfl).trans (congrArg (fun z => wp μ d 266 861 [l0, l1, l2, l3] (.int z :: st) h Q) (show Int32.ofInt (1) = (nI 1) by decide))
set_option maxRecDepth 20000 in
theorem r266_861 (μ : Bool) (d : Nat) (l0 : Value) (l1 : Value) (l2 : Value) (l3 : Value) (y0 y1 : Int32) (st : List Value) (h : Hp) (Q : Po) : wp μ d 266 861 [l0, l1, l2, l3] (.int y0 :: .int y1 :: st) h Q = wp μ d 266 862 [l0, l1, l2, l3] (.int (y1 + y0) :: st) h Q := wp_nx rfl
set_option maxRecDepth 20000 in
theorem r266_862 (μ : Bool) (d : Nat) (l0 : Value) (l1 : Value) (l2 : Value) (l3 : Value) (y0 : Int32) (y1 : Nat) (st : List Value) (h : Hp) (Q : Po) : wp μ d 266 862 [l0, l1, l2, l3] (.int y0 :: .ref y1 :: st) h Q = (((kdm μ h y1).1 = 20 ∧ vp_in y0 (kdm μ h y1).2) ∧ wp μ d 266 863 [l0, l1, l2, l3] (.int (gI h y1 y0.toNatClampNeg) :: st) h Q) := wp_ck _ rfl
set_option maxRecDepth 20000 in
theorem r266_862t (μ : Bool) (d : Nat) (l0 : Value) (l1 : Value) (l2 : Value) (l3 : Value) (y0 : Int32) (st : List Value) (h : Hp) (Q : Po) : wp μ d 266 862 [l0, l1, l2, l3] (.int y0 :: .retAddr 1 :: st) h Q = (vp_in y0 (hk h 0).2 ∧ wp μ d 266 863 [l0, l1, l2, l3] (.int (gI h 0 y0.toNatClampNeg) :: st) h Q) := wp_ck _ rfl
set_option maxRecDepth 20000 in
theorem r266_863 (μ : Bool) (d : Nat) (l0 : Value) (l1 : Value) (l2 : Value) (l3 : Value) (y0 : Int32) (y1 : Nat) (y2 : Int32) (h : Hp) (Q : Po) : wp μ (d + 1) 266 863 [l0, l1, l2, l3] [.int y0, .ref y1, .int y2] h Q = ((kdm μ h y1).1 = 12 ∧ cwp μ d 224 [.ref y1, .int y0] h (fun r h' => wp μ (d + 1) 266 866 [l0, l1, l2, l3] (r.toList ++ [.int y2]) h' Q)) := wp_kc _ True rfl ⟨fun q => by obtain ⟨x, q1, q2⟩ := q.2.2.1 rfl; cases q1; exact q2, fun q => ⟨Nat.le_of_ble_eq_true rfl, ⟨Nat.le_of_ble_eq_true rfl, rfl, Nat.le_of_ble_eq_true rfl⟩, fun _ => ⟨_, rfl, q⟩, fun q9 => absurd q9 (by decide)⟩⟩
set_option maxRecDepth 20000 in
theorem r266_866 (μ : Bool) (d : Nat) (l0 : Value) (l1 : Value) (l2 : Value) (l3 : Value) (y0 y1 : Int32) (st : List Value) (h : Hp) (Q : Po) : wp μ d 266 866 [l0, l1, l2, l3] (.int y0 :: .int y1 :: st) h Q = if y1 = y0 then wp μ d 266 1545 [l0, l1, l2, l3] st h Q else wp μ d 266 869 [l0, l1, l2, l3] st h Q := wp_br (y1 = y0) rfl
set_option maxRecDepth 20000 in
theorem r266_869 (μ : Bool) (d : Nat) (l0 : Value) (l1 : Value) (l2 : Value) (l3 : Value) (st : List Value) (h : Hp) (Q : Po) : wp μ d 266 869 [l0, l1, l2, l3] st h Q = wp μ d 266 870 [l0, l1, l2, l3] (.int (nI 0) :: st) h Q := (wp_nx rfl).trans (congrArg (fun z => wp μ d 266 870 [l0, l1, l2, l3] (.int z :: st) h Q) (show Int32.ofInt (0) = (nI 0) by decide))
set_option maxRecDepth 20000 in
theorem r266_870 (μ : Bool) (d : Nat) (l0 : Value) (l1 : Value) (l2 : Value) (l3 : Value) (y0 : Int32) (h : Hp) (Q : Po) : wp μ d 266 870 [l0, l1, l2, l3] [.int y0] h Q = ((y0 = nI 0 ∨ y0 = nI 1) ∧ Q (some (.int y0)) h) := (wp_rc _ rfl).trans (by rw [show retOk (rM 266) y0 = (narrow .boolean (.int y0) = .int y0) from rfl, nz_iff]; rfl)
set_option maxRecDepth 20000 in
theorem r266_871 (μ : Bool) (d : Nat) (l0 : Value) (l2 : Value) (l3 : Value) (x : Nat) (st : List Value) (h : Hp) (Q : Po) : wp μ d 266 871 [l0, .ref x, l2, l3] st h Q = wp μ d 266 872 [l0, .ref x, l2, l3] (.ref x :: st) h Q := wp_nx rfl
set_option maxRecDepth 20000 in
theorem r266_871n (μ : Bool) (d : Nat) (l0 : Value) (l2 : Value) (l3 : Value) (st : List Value) (h : Hp) (Q : Po) : wp μ d 266 871 [l0, .null, l2, l3] st h Q = wp μ d 266 872 [l0, .null, l2, l3] (.null :: st) h Q := wp_nx rfl
set_option maxRecDepth 20000 in
theorem r266_871t (μ : Bool) (d : Nat) (l0 : Value) (l2 : Value) (l3 : Value) (x : Nat) (st : List Value) (h : Hp) (Q : Po) : wp μ d 266 871 [l0, .retAddr x, l2, l3] st h Q = wp μ d 266 872 [l0, .retAddr x, l2, l3] (.retAddr x :: st) h Q := wp_nx rfl
set_option maxRecDepth 20000 in
theorem r266_872 (μ : Bool) (d : Nat) (l1 : Value) (l2 : Value) (l3 : Value) (x : Nat) (st : List Value) (h : Hp) (Q : Po) : wp μ d 266 872 [.ref x, l1, l2, l3] st h Q = wp μ d 266 873 [.ref x, l1, l2, l3] (.ref x :: st) h Q := wp_nx rfl
set_option maxRecDepth 20000 in
theorem r266_872t (μ : Bool) (d : Nat) (l1 : Value) (l2 : Value) (l3 : Value) (x : Nat) (st : List Value) (h : Hp) (Q : Po) : wp μ d 266 872 [.retAddr x, l1, l2, l3] st h Q = wp μ d 266 873 [.retAddr x, l1, l2, l3] (.retAddr x :: st) h Q := wp_nx rfl
set_option maxRecDepth 20000 in
theorem r266_873 (μ : Bool) (d : Nat) (l0 : Value) (l1 : Value) (l2 : Value) (x : Int32) (st : List Value) (h : Hp) (Q : Po) : wp μ d 266 873 [l0, l1, l2, .int x] st h Q = wp μ d 266 874 [l0, l1, l2, .int x] (.int x :: st) h Q := wp_nx rfl
set_option maxRecDepth 20000 in
theorem r266_874 (μ : Bool) (d : Nat) (l0 : Value) (l1 : Value) (l2 : Value) (l3 : Value) (st : List Value) (h : Hp) (Q : Po) : wp μ d 266 874 [l0, l1, l2, l3] st h Q = wp μ d 266 875 [l0, l1, l2, l3] (.int (nI 1) :: st) h Q := (wp_nx rfl).trans (congrArg (fun z => wp μ d 266 875 [l0, l1, l2, l3] (.int z :: st) h Q) (show Int32.ofInt (1) = (nI 1) by decide))
set_option maxRecDepth 20000 in
theorem r266_875 (μ : Bool) (d : Nat) (l0 : Value) (l1 : Value) (l2 : Value) (l3 : Value) (y0 y1 : Int32) (st : List Value) (h : Hp) (Q : Po) : wp μ d 266 875 [l0, l1, l2, l3] (.int y0 :: .int y1 :: st) h Q = wp μ d 266 876 [l0, l1, l2, l3] (.int (y1 + y0) :: st) h Q := wp_nx rfl
set_option maxRecDepth 20000 in
theorem r266_876 (μ : Bool) (d : Nat) (l0 : Value) (l1 : Value) (l2 : Value) (l3 : Value) (y0 : Int32) (y1 : Nat) (st : List Value) (h : Hp) (Q : Po) : wp μ d 266 876 [l0, l1, l2, l3] (.int y0 :: .ref y1 :: st) h Q = (((kdm μ h y1).1 = 20 ∧ vp_in y0 (kdm μ h y1).2) ∧ wp μ d 266 877 [l0, l1, l2, l3] (.int (gI h y1 y0.toNatClampNeg) :: st) h Q) := wp_ck _ rfl
set_option maxRecDepth 20000 in
theorem r266_876t (μ : Bool) (d : Nat) (l0 : Value) (l1 : Value) (l2 : Value) (l3 : Value) (y0 : Int32) (st : List Value) (h : Hp) (Q : Po) : wp μ d 266 876 [l0, l1, l2, l3] (.int y0 :: .retAddr 1 :: st) h Q = (vp_in y0 (hk h 0).2 ∧ wp μ d 266 877 [l0, l1, l2, l3] (.int (gI h 0 y0.toNatClampNeg) :: st) h Q) := wp_ck _ rfl
set_option maxRecDepth 20000 in
theorem r266_877 (μ : Bool) (d : Nat) (l0 : Value) (l1 : Value) (l2 : Value) (l3 : Value) (y0 : Int32) (y1 : Nat) (h : Hp) (Q : Po) : wp μ (d + 1) 266 877 [l0, l1, l2, l3] [.int y0, .ref y1] h Q = ((kdm μ h y1).1 = 11 ∧ cwp μ d 107 [.ref y1, .int y0] h (fun r h' => wp μ (d + 1) 266 880 [l0, l1, l2, l3] (r.toList ++ []) h' Q)) := wp_kc _ True rfl ⟨fun q => by obtain ⟨x, q1, q2⟩ := q.2.2.1 rfl; cases q1; exact q2, fun q => ⟨Nat.le_of_ble_eq_true rfl, ⟨Nat.le_of_ble_eq_true rfl, rfl, Nat.le_of_ble_eq_true rfl⟩, fun _ => ⟨_, rfl, q⟩, fun q9 => absurd q9 (by decide)⟩⟩
set_option maxRecDepth 20000 in
theorem r266_880 (μ : Bool) (d : Nat) (l0 : Value) (l1 : Value) (l3 : Value) (x : Nat) (st : List Value) (h : Hp) (Q : Po) : wp μ d 266 880 [l0, l1, .ref x, l3] st h Q = wp μ d 266 881 [l0, l1, .ref x, l3] (.ref x :: st) h Q := wp_nx rfl
set_option maxRecDepth 20000 in
theorem r266_880n (μ : Bool) (d : Nat) (l0 : Value) (l1 : Value) (l3 : Value) (st : List Value) (h : Hp) (Q : Po) : wp μ d 266 880 [l0, l1, .null, l3] st h Q = wp μ d 266 881 [l0, l1, .null, l3] (.null :: st) h Q := wp_nx rfl
set_option maxRecDepth 20000 in
theorem r266_880t (μ : Bool) (d : Nat) (l0 : Value) (l1 : Value) (l3 : Value) (x : Nat) (st : List Value) (h : Hp) (Q : Po) : wp μ d 266 880 [l0, l1, .retAddr x, l3] st h Q = wp μ d 266 881 [l0, l1, .retAddr x, l3] (.retAddr x :: st) h Q := wp_nx rfl
set_option maxRecDepth 20000 in
theorem r266_881 (μ : Bool) (d : Nat) (l1 : Value) (l2 : Value) (l3 : Value) (x : Nat) (st : List Value) (h : Hp) (Q : Po) : wp μ d 266 881 [.ref x, l1, l2, l3] st h Q = wp μ d 266 882 [.ref x, l1, l2, l3] (.ref x :: st) h Q := wp_nx rfl
set_option maxRecDepth 20000 in
theorem r266_881t (μ : Bool) (d : Nat) (l1 : Value) (l2 : Value) (l3 : Value) (x : Nat) (st : List Value) (h : Hp) (Q : Po) : wp μ d 266 881 [.retAddr x, l1, l2, l3] st h Q = wp μ d 266 882 [.retAddr x, l1, l2, l3] (.retAddr x :: st) h Q := wp_nx rfl
set_option maxRecDepth 20000 in
theorem r266_882 (μ : Bool) (d : Nat) (l0 : Value) (l1 : Value) (l2 : Value) (x : Int32) (st : List Value) (h : Hp) (Q : Po) : wp μ d 266 882 [l0, l1, l2, .int x] st h Q = wp μ d 266 883 [l0, l1, l2, .int x] (.int x :: st) h Q := wp_nx rfl
set_option maxRecDepth 20000 in
theorem r266_883 (μ : Bool) (d : Nat) (l0 : Value) (l1 : Value) (l2 : Value) (l3 : Value) (st : List Value) (h : Hp) (Q : Po) : wp μ d 266 883 [l0, l1, l2, l3] st h Q = wp μ d 266 884 [l0, l1, l2, l3] (.int (nI 1) :: st) h Q := (wp_nx rfl).trans (congrArg (fun z => wp μ d 266 884 [l0, l1, l2, l3] (.int z :: st) h Q) (show Int32.ofInt (1) = (nI 1) by decide))
set_option maxRecDepth 20000 in
theorem r266_884 (μ : Bool) (d : Nat) (l0 : Value) (l1 : Value) (l2 : Value) (l3 : Value) (y0 y1 : Int32) (st : List Value) (h : Hp) (Q : Po) : wp μ d 266 884 [l0, l1, l2, l3] (.int y0 :: .int y1 :: st) h Q = wp μ d 266 885 [l0, l1, l2, l3] (.int (y1 + y0) :: st) h Q := wp_nx rfl
set_option maxRecDepth 20000 in
theorem r266_885 (μ : Bool) (d : Nat) (l0 : Value) (l1 : Value) (l2 : Value) (l3 : Value) (y0 : Int32) (y1 : Nat) (st : List Value) (h : Hp) (Q : Po) : wp μ d 266 885 [l0, l1, l2, l3] (.int y0 :: .ref y1 :: st) h Q = (((kdm μ h y1).1 = 20 ∧ vp_in y0 (kdm μ h y1).2) ∧ wp μ d 266 886 [l0, l1, l2, l3] (.int (gI h y1 y0.toNatClampNeg) :: st) h Q) := wp_ck _ rfl
set_option maxRecDepth 20000 in
theorem r266_885t (μ : Bool) (d : Nat) (l0 : Value) (l1 : Value) (l2 : Value) (l3 : Value) (y0 : Int32) (st : List Value) (h : Hp) (Q : Po) : wp μ d 266 885 [l0, l1, l2, l3] (.int y0 :: .retAddr 1 :: st) h Q = (vp_in y0 (hk h 0).2 ∧ wp μ d 266 886 [l0, l1, l2, l3] (.int (gI h 0 y0.toNatClampNeg) :: st) h Q) := wp_ck _ rfl
set_option maxRecDepth 20000 in
theorem r266_886 (μ : Bool) (d : Nat) (l0 : Value) (l1 : Value) (l2 : Value) (l3 : Value) (y0 : Int32) (y1 : Nat) (y2 : Int32) (h : Hp) (Q : Po) : wp μ (d + 1) 266 886 [l0, l1, l2, l3] [.int y0, .ref y1, .int y2] h Q = ((kdm μ h y1).1 = 12 ∧ cwp μ d 225 [.ref y1, .int y0] h (fun r h' => wp μ (d + 1) 266 889 [l0, l1, l2, l3] (r.toList ++ [.int y2]) h' Q)) := wp_kc _ True rfl ⟨fun q => by obtain ⟨x, q1, q2⟩ := q.2.2.1 rfl; cases q1; exact q2, fun q => ⟨Nat.le_of_ble_eq_true rfl, ⟨Nat.le_of_ble_eq_true rfl, rfl, Nat.le_of_ble_eq_true rfl⟩, fun _ => ⟨_, rfl, q⟩, fun q9 => absurd q9 (by decide)⟩⟩
set_option maxRecDepth 20000 in
theorem r266_889 (μ : Bool) (d : Nat) (l0 : Value) (l1 : Value) (l2 : Value) (l3 : Value) (y0 y1 : Int32) (st : List Value) (h : Hp) (Q : Po) : wp μ d 266 889 [l0, l1, l2, l3] (.int y0 :: .int y1 :: st) h Q = if y1 = y0 then wp μ d 266 1545 [l0, l1, l2, l3] st h Q else wp μ d 266 892 [l0, l1, l2, l3] st h Q := wp_br (y1 = y0) rfl
set_option maxRecDepth 20000 in
theorem r266_892 (μ : Bool) (d : Nat) (l0 : Value) (l1 : Value) (l2 : Value) (l3 : Value) (st : List Value) (h : Hp) (Q : Po) : wp μ d 266 892 [l0, l1, l2, l3] st h Q = wp μ d 266 893 [l0, l1, l2, l3] (.int (nI 0) :: st) h Q := (wp_nx rfl).trans (congrArg (fun z => wp μ d 266 893 [l0, l1, l2, l3] (.int z :: st) h Q) (show Int32.ofInt (0) = (nI 0) by decide))
set_option maxRecDepth 20000 in
theorem r266_893 (μ : Bool) (d : Nat) (l0 : Value) (l1 : Value) (l2 : Value) (l3 : Value) (y0 : Int32) (h : Hp) (Q : Po) : wp μ d 266 893 [l0, l1, l2, l3] [.int y0] h Q = ((y0 = nI 0 ∨ y0 = nI 1) ∧ Q (some (.int y0)) h) := (wp_rc _ rfl).trans (by rw [show retOk (rM 266) y0 = (narrow .boolean (.int y0) = .int y0) from rfl, nz_iff]; rfl)
set_option maxRecDepth 20000 in
theorem r266_894 (μ : Bool) (d : Nat) (l0 : Value) (l2 : Value) (l3 : Value) (x : Nat) (st : List Value) (h : Hp) (Q : Po) : wp μ d 266 894 [l0, .ref x, l2, l3] st h Q = wp μ d 266 895 [l0, .ref x, l2, l3] (.ref x :: st) h Q := wp_nx rfl
set_option maxRecDepth 20000 in
theorem r266_894n (μ : Bool) (d : Nat) (l0 : Value) (l2 : Value) (l3 : Value) (st : List Value) (h : Hp) (Q : Po) : wp μ d 266 894 [l0, .null, l2, l3] st h Q = wp μ d 266 895 [l0, .null, l2, l3] (.null :: st) h Q := wp_nx rfl
set_option maxRecDepth 20000 in
theorem r266_894t (μ : Bool) (d : Nat) (l0 : Value) (l2 : Value) (l3 : Value) (x : Nat) (st : List Value) (h : Hp) (Q : Po) : wp μ d 266 894 [l0, .retAddr x, l2, l3] st h Q = wp μ d 266 895 [l0, .retAddr x, l2, l3] (.retAddr x :: st) h Q := wp_nx rfl
set_option maxRecDepth 20000 in
theorem r266_895 (μ : Bool) (d : Nat) (l1 : Value) (l2 : Value) (l3 : Value) (x : Nat) (st : List Value) (h : Hp) (Q : Po) : wp μ d 266 895 [.ref x, l1, l2, l3] st h Q = wp μ d 266 896 [.ref x, l1, l2, l3] (.ref x :: st) h Q := wp_nx rfl
set_option maxRecDepth 20000 in
theorem r266_895t (μ : Bool) (d : Nat) (l1 : Value) (l2 : Value) (l3 : Value) (x : Nat) (st : List Value) (h : Hp) (Q : Po) : wp μ d 266 895 [.retAddr x, l1, l2, l3] st h Q = wp μ d 266 896 [.retAddr x, l1, l2, l3] (.retAddr x :: st) h Q := wp_nx rfl
set_option maxRecDepth 20000 in
theorem r266_896 (μ : Bool) (d : Nat) (l0 : Value) (l1 : Value) (l2 : Value) (x : Int32) (st : List Value) (h : Hp) (Q : Po) : wp μ d 266 896 [l0, l1, l2, .int x] st h Q = wp μ d 266 897 [l0, l1, l2, .int x] (.int x :: st) h Q := wp_nx rfl
set_option maxRecDepth 20000 in
theorem r266_897 (μ : Bool) (d : Nat) (l0 : Value) (l1 : Value) (l2 : Value) (l3 : Value) (st : List Value) (h : Hp) (Q : Po) : wp μ d 266 897 [l0, l1, l2, l3] st h Q = wp μ d 266 898 [l0, l1, l2, l3] (.int (nI 1) :: st) h Q := (wp_nx rfl).trans (congrArg (fun z => wp μ d 266 898 [l0, l1, l2, l3] (.int z :: st) h Q) (show Int32.ofInt (1) = (nI 1) by decide))
set_option maxRecDepth 20000 in
theorem r266_898 (μ : Bool) (d : Nat) (l0 : Value) (l1 : Value) (l2 : Value) (l3 : Value) (y0 y1 : Int32) (st : List Value) (h : Hp) (Q : Po) : wp μ d 266 898 [l0, l1, l2, l3] (.int y0 :: .int y1 :: st) h Q = wp μ d 266 899 [l0, l1, l2, l3] (.int (y1 + y0) :: st) h Q := wp_nx rfl
set_option maxRecDepth 20000 in
theorem r266_899 (μ : Bool) (d : Nat) (l0 : Value) (l1 : Value) (l2 : Value) (l3 : Value) (y0 : Int32) (y1 : Nat) (st : List Value) (h : Hp) (Q : Po) : wp μ d 266 899 [l0, l1, l2, l3] (.int y0 :: .ref y1 :: st) h Q = (((kdm μ h y1).1 = 20 ∧ vp_in y0 (kdm μ h y1).2) ∧ wp μ d 266 900 [l0, l1, l2, l3] (.int (gI h y1 y0.toNatClampNeg) :: st) h Q) := wp_ck _ rfl
set_option maxRecDepth 20000 in
theorem r266_899t (μ : Bool) (d : Nat) (l0 : Value) (l1 : Value) (l2 : Value) (l3 : Value) (y0 : Int32) (st : List Value) (h : Hp) (Q : Po) : wp μ d 266 899 [l0, l1, l2, l3] (.int y0 :: .retAddr 1 :: st) h Q = (vp_in y0 (hk h 0).2 ∧ wp μ d 266 900 [l0, l1, l2, l3] (.int (gI h 0 y0.toNatClampNeg) :: st) h Q) := wp_ck _ rfl
set_option maxRecDepth 20000 in
theorem r266_900 (μ : Bool) (d : Nat) (l1 : Value) (l2 : Value) (l3 : Value) (x : Nat) (st : List Value) (h : Hp) (Q : Po) : wp μ d 266 900 [.ref x, l1, l2, l3] st h Q = wp μ d 266 901 [.ref x, l1, l2, l3] (.ref x :: st) h Q := wp_nx rfl
set_option maxRecDepth 20000 in
theorem r266_900t (μ : Bool) (d : Nat) (l1 : Value) (l2 : Value) (l3 : Value) (x : Nat) (st : List Value) (h : Hp) (Q : Po) : wp μ d 266 900 [.retAddr x, l1, l2, l3] st h Q = wp μ d 266 901 [.retAddr x, l1, l2, l3] (.retAddr x :: st) h Q := wp_nx rfl
set_option maxRecDepth 20000 in
theorem r266_901 (μ : Bool) (d : Nat) (l0 : Value) (l1 : Value) (l2 : Value) (x : Int32) (st : List Value) (h : Hp) (Q : Po) : wp μ d 266 901 [l0, l1, l2, .int x] st h Q = wp μ d 266 902 [l0, l1, l2, .int x] (.int x :: st) h Q := wp_nx rfl
set_option maxRecDepth 20000 in
theorem r266_902 (μ : Bool) (d : Nat) (l0 : Value) (l1 : Value) (l2 : Value) (l3 : Value) (st : List Value) (h : Hp) (Q : Po) : wp μ d 266 902 [l0, l1, l2, l3] st h Q = wp μ d 266 903 [l0, l1, l2, l3] (.int (nI 2) :: st) h Q := (wp_nx rfl).trans (congrArg (fun z => wp μ d 266 903 [l0, l1, l2, l3] (.int z :: st) h Q) (show Int32.ofInt (2) = (nI 2) by decide))
set_option maxRecDepth 20000 in
theorem r266_903 (μ : Bool) (d : Nat) (l0 : Value) (l1 : Value) (l2 : Value) (l3 : Value) (y0 y1 : Int32) (st : List Value) (h : Hp) (Q : Po) : wp μ d 266 903 [l0, l1, l2, l3] (.int y0 :: .int y1 :: st) h Q = wp μ d 266 904 [l0, l1, l2, l3] (.int (y1 + y0) :: st) h Q := wp_nx rfl
set_option maxRecDepth 20000 in
theorem r266_904 (μ : Bool) (d : Nat) (l0 : Value) (l1 : Value) (l2 : Value) (l3 : Value) (y0 : Int32) (y1 : Nat) (st : List Value) (h : Hp) (Q : Po) : wp μ d 266 904 [l0, l1, l2, l3] (.int y0 :: .ref y1 :: st) h Q = (((kdm μ h y1).1 = 20 ∧ vp_in y0 (kdm μ h y1).2) ∧ wp μ d 266 905 [l0, l1, l2, l3] (.int (gI h y1 y0.toNatClampNeg) :: st) h Q) := wp_ck _ rfl
set_option maxRecDepth 20000 in
theorem r266_904t (μ : Bool) (d : Nat) (l0 : Value) (l1 : Value) (l2 : Value) (l3 : Value) (y0 : Int32) (st : List Value) (h : Hp) (Q : Po) : wp μ d 266 904 [l0, l1, l2, l3] (.int y0 :: .retAddr 1 :: st) h Q = (vp_in y0 (hk h 0).2 ∧ wp μ d 266 905 [l0, l1, l2, l3] (.int (gI h 0 y0.toNatClampNeg) :: st) h Q) := wp_ck _ rfl
set_option maxRecDepth 20000 in
theorem r266_905 (μ : Bool) (d : Nat) (l1 : Value) (l2 : Value) (l3 : Value) (x : Nat) (st : List Value) (h : Hp) (Q : Po) : wp μ d 266 905 [.ref x, l1, l2, l3] st h Q = wp μ d 266 906 [.ref x, l1, l2, l3] (.ref x :: st) h Q := wp_nx rfl
set_option maxRecDepth 20000 in
theorem r266_905t (μ : Bool) (d : Nat) (l1 : Value) (l2 : Value) (l3 : Value) (x : Nat) (st : List Value) (h : Hp) (Q : Po) : wp μ d 266 905 [.retAddr x, l1, l2, l3] st h Q = wp μ d 266 906 [.retAddr x, l1, l2, l3] (.retAddr x :: st) h Q := wp_nx rfl
set_option maxRecDepth 20000 in
theorem r266_906 (μ : Bool) (d : Nat) (l0 : Value) (l1 : Value) (l2 : Value) (x : Int32) (st : List Value) (h : Hp) (Q : Po) : wp μ d 266 906 [l0, l1, l2, .int x] st h Q = wp μ d 266 907 [l0, l1, l2, .int x] (.int x :: st) h Q := wp_nx rfl
set_option maxRecDepth 20000 in
theorem r266_907 (μ : Bool) (d : Nat) (l0 : Value) (l1 : Value) (l2 : Value) (l3 : Value) (st : List Value) (h : Hp) (Q : Po) : wp μ d 266 907 [l0, l1, l2, l3] st h Q = wp μ d 266 908 [l0, l1, l2, l3] (.int (nI 3) :: st) h Q := (wp_nx rfl).trans (congrArg (fun z => wp μ d 266 908 [l0, l1, l2, l3] (.int z :: st) h Q) (show Int32.ofInt (3) = (nI 3) by decide))
set_option maxRecDepth 20000 in
theorem r266_908 (μ : Bool) (d : Nat) (l0 : Value) (l1 : Value) (l2 : Value) (l3 : Value) (y0 y1 : Int32) (st : List Value) (h : Hp) (Q : Po) : wp μ d 266 908 [l0, l1, l2, l3] (.int y0 :: .int y1 :: st) h Q = wp μ d 266 909 [l0, l1, l2, l3] (.int (y1 + y0) :: st) h Q := wp_nx rfl
set_option maxRecDepth 20000 in
theorem r266_909 (μ : Bool) (d : Nat) (l0 : Value) (l1 : Value) (l2 : Value) (l3 : Value) (y0 : Int32) (y1 : Nat) (st : List Value) (h : Hp) (Q : Po) : wp μ d 266 909 [l0, l1, l2, l3] (.int y0 :: .ref y1 :: st) h Q = (((kdm μ h y1).1 = 20 ∧ vp_in y0 (kdm μ h y1).2) ∧ wp μ d 266 910 [l0, l1, l2, l3] (.int (gI h y1 y0.toNatClampNeg) :: st) h Q) := wp_ck _ rfl
set_option maxRecDepth 20000 in
theorem r266_909t (μ : Bool) (d : Nat) (l0 : Value) (l1 : Value) (l2 : Value) (l3 : Value) (y0 : Int32) (st : List Value) (h : Hp) (Q : Po) : wp μ d 266 909 [l0, l1, l2, l3] (.int y0 :: .retAddr 1 :: st) h Q = (vp_in y0 (hk h 0).2 ∧ wp μ d 266 910 [l0, l1, l2, l3] (.int (gI h 0 y0.toNatClampNeg) :: st) h Q) := wp_ck _ rfl
set_option maxRecDepth 20000 in
theorem r266_910 (μ : Bool) (d : Nat) (l0 : Value) (l1 : Value) (l2 : Value) (l3 : Value) (y0 : Int32) (y1 : Int32) (y2 : Int32) (y3 : Nat) (h : Hp) (Q : Po) : wp μ (d + 1) 266 910 [l0, l1, l2, l3] [.int y0, .int y1, .int y2, .ref y3] h Q = ((kdm μ h y3).1 = 11 ∧ cwp μ d 108 [.ref y3, .int y2, .int y1, .int y0] h (fun r h' => wp μ (d + 1) 266 913 [l0, l1, l2, l3] (r.toList ++ []) h' Q)) := wp_kc _ True rfl ⟨fun q => by obtain ⟨x, q1, q2⟩ := q.2.2.1 rfl; cases q1; exact q2, fun q => ⟨Nat.le_of_ble_eq_true rfl, ⟨Nat.le_of_ble_eq_true rfl, rfl, Nat.le_of_ble_eq_true rfl⟩, fun _ => ⟨_, rfl, q⟩, fun q9 => absurd q9 (by decide)⟩⟩
set_option maxRecDepth 20000 in
theorem r266_913 (μ : Bool) (d : Nat) (l0 : Value) (l1 : Value) (l3 : Value) (x : Nat) (st : List Value) (h : Hp) (Q : Po) : wp μ d 266 913 [l0, l1, .ref x, l3] st h Q = wp μ d 266 914 [l0, l1, .ref x, l3] (.ref x :: st) h Q := wp_nx rfl
set_option maxRecDepth 20000 in
theorem r266_913n (μ : Bool) (d : Nat) (l0 : Value) (l1 : Value) (l3 : Value) (st : List Value) (h : Hp) (Q : Po) : wp μ d 266 913 [l0, l1, .null, l3] st h Q = wp μ d 266 914 [l0, l1, .null, l3] (.null :: st) h Q := wp_nx rfl
set_option maxRecDepth 20000 in
theorem r266_913t (μ : Bool) (d : Nat) (l0 : Value) (l1 : Value) (l3 : Value) (x : Nat) (st : List Value) (h : Hp) (Q : Po) : wp μ d 266 913 [l0, l1, .retAddr x, l3] st h Q = wp μ d 266 914 [l0, l1, .retAddr x, l3] (.retAddr x :: st) h Q := wp_nx rfl
set_option maxRecDepth 20000 in
theorem r266_914 (μ : Bool) (d : Nat) (l1 : Value) (l2 : Value) (l3 : Value) (x : Nat) (st : List Value) (h : Hp) (Q : Po) : wp μ d 266 914 [.ref x, l1, l2, l3] st h Q = wp μ d 266 915 [.ref x, l1, l2, l3] (.ref x :: st) h Q := wp_nx rfl
set_option maxRecDepth 20000 in
theorem r266_914t (μ : Bool) (d : Nat) (l1 : Value) (l2 : Value) (l3 : Value) (x : Nat) (st : List Value) (h : Hp) (Q : Po) : wp μ d 266 914 [.retAddr x, l1, l2, l3] st h Q = wp μ d 266 915 [.retAddr x, l1, l2, l3] (.retAddr x :: st) h Q := wp_nx rfl
set_option maxRecDepth 20000 in
theorem r266_915 (μ : Bool) (d : Nat) (l0 : Value) (l1 : Value) (l2 : Value) (x : Int32) (st : List Value) (h : Hp) (Q : Po) : wp μ d 266 915 [l0, l1, l2, .int x] st h Q = wp μ d 266 916 [l0, l1, l2, .int x] (.int x :: st) h Q := wp_nx rfl
set_option maxRecDepth 20000 in
theorem r266_916 (μ : Bool) (d : Nat) (l0 : Value) (l1 : Value) (l2 : Value) (l3 : Value) (st : List Value) (h : Hp) (Q : Po) : wp μ d 266 916 [l0, l1, l2, l3] st h Q = wp μ d 266 917 [l0, l1, l2, l3] (.int (nI 1) :: st) h Q := (wp_nx rfl).trans (congrArg (fun z => wp μ d 266 917 [l0, l1, l2, l3] (.int z :: st) h Q) (show Int32.ofInt (1) = (nI 1) by decide))
set_option maxRecDepth 20000 in
theorem r266_917 (μ : Bool) (d : Nat) (l0 : Value) (l1 : Value) (l2 : Value) (l3 : Value) (y0 y1 : Int32) (st : List Value) (h : Hp) (Q : Po) : wp μ d 266 917 [l0, l1, l2, l3] (.int y0 :: .int y1 :: st) h Q = wp μ d 266 918 [l0, l1, l2, l3] (.int (y1 + y0) :: st) h Q := wp_nx rfl
set_option maxRecDepth 20000 in
theorem r266_918 (μ : Bool) (d : Nat) (l0 : Value) (l1 : Value) (l2 : Value) (l3 : Value) (y0 : Int32) (y1 : Nat) (st : List Value) (h : Hp) (Q : Po) : wp μ d 266 918 [l0, l1, l2, l3] (.int y0 :: .ref y1 :: st) h Q = (((kdm μ h y1).1 = 20 ∧ vp_in y0 (kdm μ h y1).2) ∧ wp μ d 266 919 [l0, l1, l2, l3] (.int (gI h y1 y0.toNatClampNeg) :: st) h Q) := wp_ck _ rfl
set_option maxRecDepth 20000 in
theorem r266_918t (μ : Bool) (d : Nat) (l0 : Value) (l1 : Value) (l2 : Value) (l3 : Value) (y0 : Int32) (st : List Value) (h : Hp) (Q : Po) : wp μ d 266 918 [l0, l1, l2, l3] (.int y0 :: .retAddr 1 :: st) h Q = (vp_in y0 (hk h 0).2 ∧ wp μ d 266 919 [l0, l1, l2, l3] (.int (gI h 0 y0.toNatClampNeg) :: st) h Q) := wp_ck _ rfl
set_option maxRecDepth 20000 in
theorem r266_919 (μ : Bool) (d : Nat) (l1 : Value) (l2 : Value) (l3 : Value) (x : Nat) (st : List Value) (h : Hp) (Q : Po) : wp μ d 266 919 [.ref x, l1, l2, l3] st h Q = wp μ d 266 920 [.ref x, l1, l2, l3] (.ref x :: st) h Q := wp_nx rfl
set_option maxRecDepth 20000 in
theorem r266_919t (μ : Bool) (d : Nat) (l1 : Value) (l2 : Value) (l3 : Value) (x : Nat) (st : List Value) (h : Hp) (Q : Po) : wp μ d 266 919 [.retAddr x, l1, l2, l3] st h Q = wp μ d 266 920 [.retAddr x, l1, l2, l3] (.retAddr x :: st) h Q := wp_nx rfl
set_option maxRecDepth 20000 in
theorem r266_920 (μ : Bool) (d : Nat) (l0 : Value) (l1 : Value) (l2 : Value) (x : Int32) (st : List Value) (h : Hp) (Q : Po) : wp μ d 266 920 [l0, l1, l2, .int x] st h Q = wp μ d 266 921 [l0, l1, l2, .int x] (.int x :: st) h Q := wp_nx rfl
set_option maxRecDepth 20000 in
theorem r266_921 (μ : Bool) (d : Nat) (l0 : Value) (l1 : Value) (l2 : Value) (l3 : Value) (st : List Value) (h : Hp) (Q : Po) : wp μ d 266 921 [l0, l1, l2, l3] st h Q = wp μ d 266 922 [l0, l1, l2, l3] (.int (nI 2) :: st) h Q := (wp_nx rfl).trans (congrArg (fun z => wp μ d 266 922 [l0, l1, l2, l3] (.int z :: st) h Q) (show Int32.ofInt (2) = (nI 2) by decide))
set_option maxRecDepth 20000 in
theorem r266_922 (μ : Bool) (d : Nat) (l0 : Value) (l1 : Value) (l2 : Value) (l3 : Value) (y0 y1 : Int32) (st : List Value) (h : Hp) (Q : Po) : wp μ d 266 922 [l0, l1, l2, l3] (.int y0 :: .int y1 :: st) h Q = wp μ d 266 923 [l0, l1, l2, l3] (.int (y1 + y0) :: st) h Q := wp_nx rfl
set_option maxRecDepth 20000 in
theorem r266_923 (μ : Bool) (d : Nat) (l0 : Value) (l1 : Value) (l2 : Value) (l3 : Value) (y0 : Int32) (y1 : Nat) (st : List Value) (h : Hp) (Q : Po) : wp μ d 266 923 [l0, l1, l2, l3] (.int y0 :: .ref y1 :: st) h Q = (((kdm μ h y1).1 = 20 ∧ vp_in y0 (kdm μ h y1).2) ∧ wp μ d 266 924 [l0, l1, l2, l3] (.int (gI h y1 y0.toNatClampNeg) :: st) h Q) := wp_ck _ rfl
set_option maxRecDepth 20000 in
theorem r266_923t (μ : Bool) (d : Nat) (l0 : Value) (l1 : Value) (l2 : Value) (l3 : Value) (y0 : Int32) (st : List Value) (h : Hp) (Q : Po) : wp μ d 266 923 [l0, l1, l2, l3] (.int y0 :: .retAddr 1 :: st) h Q = (vp_in y0 (hk h 0).2 ∧ wp μ d 266 924 [l0, l1, l2, l3] (.int (gI h 0 y0.toNatClampNeg) :: st) h Q) := wp_ck _ rfl
set_option maxRecDepth 20000 in
theorem r266_924 (μ : Bool) (d : Nat) (l1 : Value) (l2 : Value) (l3 : Value) (x : Nat) (st : List Value) (h : Hp) (Q : Po) : wp μ d 266 924 [.ref x, l1, l2, l3] st h Q = wp μ d 266 925 [.ref x, l1, l2, l3] (.ref x :: st) h Q := wp_nx rfl
set_option maxRecDepth 20000 in
theorem r266_924t (μ : Bool) (d : Nat) (l1 : Value) (l2 : Value) (l3 : Value) (x : Nat) (st : List Value) (h : Hp) (Q : Po) : wp μ d 266 924 [.retAddr x, l1, l2, l3] st h Q = wp μ d 266 925 [.retAddr x, l1, l2, l3] (.retAddr x :: st) h Q := wp_nx rfl
set_option maxRecDepth 20000 in
theorem r266_925 (μ : Bool) (d : Nat) (l0 : Value) (l1 : Value) (l2 : Value) (x : Int32) (st : List Value) (h : Hp) (Q : Po) : wp μ d 266 925 [l0, l1, l2, .int x] st h Q = wp μ d 266 926 [l0, l1, l2, .int x] (.int x :: st) h Q := wp_nx rfl
set_option maxRecDepth 20000 in
theorem r266_926 (μ : Bool) (d : Nat) (l0 : Value) (l1 : Value) (l2 : Value) (l3 : Value) (st : List Value) (h : Hp) (Q : Po) : wp μ d 266 926 [l0, l1, l2, l3] st h Q = wp μ d 266 927 [l0, l1, l2, l3] (.int (nI 3) :: st) h Q := (wp_nx rfl).trans (congrArg (fun z => wp μ d 266 927 [l0, l1, l2, l3] (.int z :: st) h Q) (show Int32.ofInt (3) = (nI 3) by decide))
set_option maxRecDepth 20000 in
theorem r266_927 (μ : Bool) (d : Nat) (l0 : Value) (l1 : Value) (l2 : Value) (l3 : Value) (y0 y1 : Int32) (st : List Value) (h : Hp) (Q : Po) : wp μ d 266 927 [l0, l1, l2, l3] (.int y0 :: .int y1 :: st) h Q = wp μ d 266 928 [l0, l1, l2, l3] (.int (y1 + y0) :: st) h Q := wp_nx rfl
set_option maxRecDepth 20000 in
theorem r266_928 (μ : Bool) (d : Nat) (l0 : Value) (l1 : Value) (l2 : Value) (l3 : Value) (y0 : Int32) (y1 : Nat) (st : List Value) (h : Hp) (Q : Po) : wp μ d 266 928 [l0, l1, l2, l3] (.int y0 :: .ref y1 :: st) h Q = (((kdm μ h y1).1 = 20 ∧ vp_in y0 (kdm μ h y1).2) ∧ wp μ d 266 929 [l0, l1, l2, l3] (.int (gI h y1 y0.toNatClampNeg) :: st) h Q) := wp_ck _ rfl
set_option maxRecDepth 20000 in
theorem r266_928t (μ : Bool) (d : Nat) (l0 : Value) (l1 : Value) (l2 : Value) (l3 : Value) (y0 : Int32) (st : List Value) (h : Hp) (Q : Po) : wp μ d 266 928 [l0, l1, l2, l3] (.int y0 :: .retAddr 1 :: st) h Q = (vp_in y0 (hk h 0).2 ∧ wp μ d 266 929 [l0, l1, l2, l3] (.int (gI h 0 y0.toNatClampNeg) :: st) h Q) := wp_ck _ rfl
set_option maxRecDepth 20000 in
theorem r266_929 (μ : Bool) (d : Nat) (l0 : Value) (l1 : Value) (l2 : Value) (l3 : Value) (y0 : Int32) (y1 : Int32) (y2 : Int32) (y3 : Nat) (y4 : Int32) (h : Hp) (Q : Po) : wp μ (d + 1) 266 929 [l0, l1, l2, l3] [.int y0, .int y1, .int y2, .ref y3, .int y4] h Q = ((kdm μ h y3).1 = 12 ∧ cwp μ d 227 [.ref y3, .int y2, .int y1, .int y0] h (fun r h' => wp μ (d + 1) 266 932 [l0, l1, l2, l3] (r.toList ++ [.int y4]) h' Q)) := wp_kc _ True rfl ⟨fun q => by obtain ⟨x, q1, q2⟩ := q.2.2.1 rfl; cases q1; exact q2, fun q => ⟨Nat.le_of_ble_eq_true rfl, ⟨Nat.le_of_ble_eq_true rfl, rfl, Nat.le_of_ble_eq_true rfl⟩, fun _ => ⟨_, rfl, q⟩, fun q9 => absurd q9 (by decide)⟩⟩
set_option maxRecDepth 20000 in
theorem r266_932 (μ : Bool) (d : Nat) (l0 : Value) (l1 : Value) (l2 : Value) (l3 : Value) (y0 y1 : Int32) (st : List Value) (h : Hp) (Q : Po) : wp μ d 266 932 [l0, l1, l2, l3] (.int y0 :: .int y1 :: st) h Q = if y1 = y0 then wp μ d 266 1545 [l0, l1, l2, l3] st h Q else wp μ d 266 935 [l0, l1, l2, l3] st h Q := wp_br (y1 = y0) rfl
set_option maxRecDepth 20000 in
theorem r266_935 (μ : Bool) (d : Nat) (l0 : Value) (l1 : Value) (l2 : Value) (l3 : Value) (st : List Value) (h : Hp) (Q : Po) : wp μ d 266 935 [l0, l1, l2, l3] st h Q = wp μ d 266 936 [l0, l1, l2, l3] (.int (nI 0) :: st) h Q := (wp_nx rfl).trans (congrArg (fun z => wp μ d 266 936 [l0, l1, l2, l3] (.int z :: st) h Q) (show Int32.ofInt (0) = (nI 0) by decide))
set_option maxRecDepth 20000 in
theorem r266_936 (μ : Bool) (d : Nat) (l0 : Value) (l1 : Value) (l2 : Value) (l3 : Value) (y0 : Int32) (h : Hp) (Q : Po) : wp μ d 266 936 [l0, l1, l2, l3] [.int y0] h Q = ((y0 = nI 0 ∨ y0 = nI 1) ∧ Q (some (.int y0)) h) := (wp_rc _ rfl).trans (by rw [show retOk (rM 266) y0 = (narrow .boolean (.int y0) = .int y0) from rfl, nz_iff]; rfl)
set_option maxRecDepth 20000 in
theorem r266_937 (μ : Bool) (d : Nat) (l0 : Value) (l2 : Value) (l3 : Value) (x : Nat) (st : List Value) (h : Hp) (Q : Po) : wp μ d 266 937 [l0, .ref x, l2, l3] st h Q = wp μ d 266 938 [l0, .ref x, l2, l3] (.ref x :: st) h Q := wp_nx rfl
set_option maxRecDepth 20000 in
theorem r266_937n (μ : Bool) (d : Nat) (l0 : Value) (l2 : Value) (l3 : Value) (st : List Value) (h : Hp) (Q : Po) : wp μ d 266 937 [l0, .null, l2, l3] st h Q = wp μ d 266 938 [l0, .null, l2, l3] (.null :: st) h Q := wp_nx rfl
set_option maxRecDepth 20000 in
theorem r266_937t (μ : Bool) (d : Nat) (l0 : Value) (l2 : Value) (l3 : Value) (x : Nat) (st : List Value) (h : Hp) (Q : Po) : wp μ d 266 937 [l0, .retAddr x, l2, l3] st h Q = wp μ d 266 938 [l0, .retAddr x, l2, l3] (.retAddr x :: st) h Q := wp_nx rfl
set_option maxRecDepth 20000 in
theorem r266_938 (μ : Bool) (d : Nat) (l1 : Value) (l2 : Value) (l3 : Value) (x : Nat) (st : List Value) (h : Hp) (Q : Po) : wp μ d 266 938 [.ref x, l1, l2, l3] st h Q = wp μ d 266 939 [.ref x, l1, l2, l3] (.ref x :: st) h Q := wp_nx rfl
set_option maxRecDepth 20000 in
theorem r266_938t (μ : Bool) (d : Nat) (l1 : Value) (l2 : Value) (l3 : Value) (x : Nat) (st : List Value) (h : Hp) (Q : Po) : wp μ d 266 938 [.retAddr x, l1, l2, l3] st h Q = wp μ d 266 939 [.retAddr x, l1, l2, l3] (.retAddr x :: st) h Q := wp_nx rfl
set_option maxRecDepth 20000 in
theorem r266_939 (μ : Bool) (d : Nat) (l0 : Value) (l1 : Value) (l2 : Value) (x : Int32) (st : List Value) (h : Hp) (Q : Po) : wp μ d 266 939 [l0, l1, l2, .int x] st h Q = wp μ d 266 940 [l0, l1, l2, .int x] (.int x :: st) h Q := wp_nx rfl
set_option maxRecDepth 20000 in
theorem r266_940 (μ : Bool) (d : Nat) (l0 : Value) (l1 : Value) (l2 : Value) (l3 : Value) (st : List Value) (h : Hp) (Q : Po) : wp μ d 266 940 [l0, l1, l2, l3] st h Q = wp μ d 266 941 [l0, l1, l2, l3] (.int (nI 1) :: st) h Q := (wp_nx rfl).trans (congrArg (fun z => wp μ d 266 941 [l0, l1, l2, l3] (.int z :: st) h Q) (show Int32.ofInt (1) = (nI 1) by decide))
set_option maxRecDepth 20000 in
theorem r266_941 (μ : Bool) (d : Nat) (l0 : Value) (l1 : Value) (l2 : Value) (l3 : Value) (y0 y1 : Int32) (st : List Value) (h : Hp) (Q : Po) : wp μ d 266 941 [l0, l1, l2, l3] (.int y0 :: .int y1 :: st) h Q = wp μ d 266 942 [l0, l1, l2, l3] (.int (y1 + y0) :: st) h Q := wp_nx rfl
set_option maxRecDepth 20000 in
theorem r266_942 (μ : Bool) (d : Nat) (l0 : Value) (l1 : Value) (l2 : Value) (l3 : Value) (y0 : Int32) (y1 : Nat) (st : List Value) (h : Hp) (Q : Po) : wp μ d 266 942 [l0, l1, l2, l3] (.int y0 :: .ref y1 :: st) h Q = (((kdm μ h y1).1 = 20 ∧ vp_in y0 (kdm μ h y1).2) ∧ wp μ d 266 943 [l0, l1, l2, l3] (.int (gI h y1 y0.toNatClampNeg) :: st) h Q) := wp_ck _ rfl
set_option maxRecDepth 20000 in
theorem r266_942t (μ : Bool) (d : Nat) (l0 : Value) (l1 : Value) (l2 : Value) (l3 : Value) (y0 : Int32) (st : List Value) (h : Hp) (Q : Po) : wp μ d 266 942 [l0, l1, l2, l3] (.int y0 :: .retAddr 1 :: st) h Q = (vp_in y0 (hk h 0).2 ∧ wp μ d 266 943 [l0, l1, l2, l3] (.int (gI h 0 y0.toNatClampNeg) :: st) h Q) := wp_ck _ rfl
set_option maxRecDepth 20000 in
theorem r266_943 (μ : Bool) (d : Nat) (l1 : Value) (l2 : Value) (l3 : Value) (x : Nat) (st : List Value) (h : Hp) (Q : Po) : wp μ d 266 943 [.ref x, l1, l2, l3] st h Q = wp μ d 266 944 [.ref x, l1, l2, l3] (.ref x :: st) h Q := wp_nx rfl
set_option maxRecDepth 20000 in
theorem r266_943t (μ : Bool) (d : Nat) (l1 : Value) (l2 : Value) (l3 : Value) (x : Nat) (st : List Value) (h : Hp) (Q : Po) : wp μ d 266 943 [.retAddr x, l1, l2, l3] st h Q = wp μ d 266 944 [.retAddr x, l1, l2, l3] (.retAddr x :: st) h Q := wp_nx rfl
set_option maxRecDepth 20000 in
theorem r266_944 (μ : Bool) (d : Nat) (l0 : Value) (l1 : Value) (l2 : Value) (x : Int32) (st : List Value) (h : Hp) (Q : Po) : wp μ d 266 944 [l0, l1, l2, .int x] st h Q = wp μ d 266 945 [l0, l1, l2, .int x] (.int x :: st) h Q := wp_nx rfl
set_option maxRecDepth 20000 in
theorem r266_945 (μ : Bool) (d : Nat) (l0 : Value) (l1 : Value) (l2 : Value) (l3 : Value) (st : List Value) (h : Hp) (Q : Po) : wp μ d 266 945 [l0, l1, l2, l3] st h Q = wp μ d 266 946 [l0, l1, l2, l3] (.int (nI 2) :: st) h Q := (wp_nx rfl).trans (congrArg (fun z => wp μ d 266 946 [l0, l1, l2, l3] (.int z :: st) h Q) (show Int32.ofInt (2) = (nI 2) by decide))
set_option maxRecDepth 20000 in
theorem r266_946 (μ : Bool) (d : Nat) (l0 : Value) (l1 : Value) (l2 : Value) (l3 : Value) (y0 y1 : Int32) (st : List Value) (h : Hp) (Q : Po) : wp μ d 266 946 [l0, l1, l2, l3] (.int y0 :: .int y1 :: st) h Q = wp μ d 266 947 [l0, l1, l2, l3] (.int (y1 + y0) :: st) h Q := wp_nx rfl
set_option maxRecDepth 20000 in
theorem r266_947 (μ : Bool) (d : Nat) (l0 : Value) (l1 : Value) (l2 : Value) (l3 : Value) (y0 : Int32) (y1 : Nat) (st : List Value) (h : Hp) (Q : Po) : wp μ d 266 947 [l0, l1, l2, l3] (.int y0 :: .ref y1 :: st) h Q = (((kdm μ h y1).1 = 20 ∧ vp_in y0 (kdm μ h y1).2) ∧ wp μ d 266 948 [l0, l1, l2, l3] (.int (gI h y1 y0.toNatClampNeg) :: st) h Q) := wp_ck _ rfl
set_option maxRecDepth 20000 in
theorem r266_947t (μ : Bool) (d : Nat) (l0 : Value) (l1 : Value) (l2 : Value) (l3 : Value) (y0 : Int32) (st : List Value) (h : Hp) (Q : Po) : wp μ d 266 947 [l0, l1, l2, l3] (.int y0 :: .retAddr 1 :: st) h Q = (vp_in y0 (hk h 0).2 ∧ wp μ d 266 948 [l0, l1, l2, l3] (.int (gI h 0 y0.toNatClampNeg) :: st) h Q) := wp_ck _ rfl
set_option maxRecDepth 20000 in
theorem r266_948 (μ : Bool) (d : Nat) (l1 : Value) (l2 : Value) (l3 : Value) (x : Nat) (st : List Value) (h : Hp) (Q : Po) : wp μ d 266 948 [.ref x, l1, l2, l3] st h Q = wp μ d 266 949 [.ref x, l1, l2, l3] (.ref x :: st) h Q := wp_nx rfl
set_option maxRecDepth 20000 in
theorem r266_948t (μ : Bool) (d : Nat) (l1 : Value) (l2 : Value) (l3 : Value) (x : Nat) (st : List Value) (h : Hp) (Q : Po) : wp μ d 266 948 [.retAddr x, l1, l2, l3] st h Q = wp μ d 266 949 [.retAddr x, l1, l2, l3] (.retAddr x :: st) h Q := wp_nx rfl
set_option maxRecDepth 20000 in
theorem r266_949 (μ : Bool) (d : Nat) (l0 : Value) (l1 : Value) (l2 : Value) (x : Int32) (st : List Value) (h : Hp) (Q : Po) : wp μ d 266 949 [l0, l1, l2, .int x] st h Q = wp μ d 266 950 [l0, l1, l2, .int x] (.int x :: st) h Q := wp_nx rfl
set_option maxRecDepth 20000 in
theorem r266_950 (μ : Bool) (d : Nat) (l0 : Value) (l1 : Value) (l2 : Value) (l3 : Value) (st : List Value) (h : Hp) (Q : Po) : wp μ d 266 950 [l0, l1, l2, l3] st h Q = wp μ d 266 951 [l0, l1, l2, l3] (.int (nI 3) :: st) h Q := (wp_nx rfl).trans (congrArg (fun z => wp μ d 266 951 [l0, l1, l2, l3] (.int z :: st) h Q) (show Int32.ofInt (3) = (nI 3) by decide))
set_option maxRecDepth 20000 in
theorem r266_951 (μ : Bool) (d : Nat) (l0 : Value) (l1 : Value) (l2 : Value) (l3 : Value) (y0 y1 : Int32) (st : List Value) (h : Hp) (Q : Po) : wp μ d 266 951 [l0, l1, l2, l3] (.int y0 :: .int y1 :: st) h Q = wp μ d 266 952 [l0, l1, l2, l3] (.int (y1 + y0) :: st) h Q := wp_nx rfl
set_option maxRecDepth 20000 in
theorem r266_952 (μ : Bool) (d : Nat) (l0 : Value) (l1 : Value) (l2 : Value) (l3 : Value) (y0 : Int32) (y1 : Nat) (st : List Value) (h : Hp) (Q : Po) : wp μ d 266 952 [l0, l1, l2, l3] (.int y0 :: .ref y1 :: st) h Q = (((kdm μ h y1).1 = 20 ∧ vp_in y0 (kdm μ h y1).2) ∧ wp μ d 266 953 [l0, l1, l2, l3] (.int (gI h y1 y0.toNatClampNeg) :: st) h Q) := wp_ck _ rfl
set_option maxRecDepth 20000 in
theorem r266_952t (μ : Bool) (d : Nat) (l0 : Value) (l1 : Value) (l2 : Value) (l3 : Value) (y0 : Int32) (st : List Value) (h : Hp) (Q : Po) : wp μ d 266 952 [l0, l1, l2, l3] (.int y0 :: .retAddr 1 :: st) h Q = (vp_in y0 (hk h 0).2 ∧ wp μ d 266 953 [l0, l1, l2, l3] (.int (gI h 0 y0.toNatClampNeg) :: st) h Q) := wp_ck _ rfl
set_option maxRecDepth 20000 in
theorem r266_953 (μ : Bool) (d : Nat) (l0 : Value) (l1 : Value) (l2 : Value) (l3 : Value) (y0 : Int32) (y1 : Int32) (y2 : Int32) (y3 : Nat) (h : Hp) (Q : Po) : wp μ (d + 1) 266 953 [l0, l1, l2, l3] [.int y0, .int y1, .int y2, .ref y3] h Q = ((kdm μ h y3).1 = 11 ∧ cwp μ d 109 [.ref y3, .int y2, .int y1, .int y0] h (fun r h' => wp μ (d + 1) 266 956 [l0, l1, l2, l3] (r.toList ++ []) h' Q)) := wp_kc _ True rfl ⟨fun q => by obtain ⟨x, q1, q2⟩ := q.2.2.1 rfl; cases q1; exact q2, fun q => ⟨Nat.le_of_ble_eq_true rfl, ⟨Nat.le_of_ble_eq_true rfl, rfl, Nat.le_of_ble_eq_true rfl⟩, fun _ => ⟨_, rfl, q⟩, fun q9 => absurd q9 (by decide)⟩⟩
set_option maxRecDepth 20000 in
theorem r266_956 (μ : Bool) (d : Nat) (l0 : Value) (l1 : Value) (l3 : Value) (x : Nat) (st : List Value) (h : Hp) (Q : Po) : wp μ d 266 956 [l0, l1, .ref x, l3] st h Q = wp μ d 266 957 [l0, l1, .ref x, l3] (.ref x :: st) h Q := wp_nx rfl
set_option maxRecDepth 20000 in
theorem r266_956n (μ : Bool) (d : Nat) (l0 : Value) (l1 : Value) (l3 : Value) (st : List Value) (h : Hp) (Q : Po) : wp μ d 266 956 [l0, l1, .null, l3] st h Q = wp μ d 266 957 [l0, l1, .null, l3] (.null :: st) h Q := wp_nx rfl
set_option maxRecDepth 20000 in
theorem r266_956t (μ : Bool) (d : Nat) (l0 : Value) (l1 : Value) (l3 : Value) (x : Nat) (st : List Value) (h : Hp) (Q : Po) : wp μ d 266 956 [l0, l1, .retAddr x, l3] st h Q = wp μ d 266 957 [l0, l1, .retAddr x, l3] (.retAddr x :: st) h Q := wp_nx rfl
set_option maxRecDepth 20000 in
theorem r266_957 (μ : Bool) (d : Nat) (l1 : Value) (l2 : Value) (l3 : Value) (x : Nat) (st : List Value) (h : Hp) (Q : Po) : wp μ d 266 957 [.ref x, l1, l2, l3] st h Q = wp μ d 266 958 [.ref x, l1, l2, l3] (.ref x :: st) h Q := wp_nx rfl
set_option maxRecDepth 20000 in
theorem r266_957t (μ : Bool) (d : Nat) (l1 : Value) (l2 : Value) (l3 : Value) (x : Nat) (st : List Value) (h : Hp) (Q : Po) : wp μ d 266 957 [.retAddr x, l1, l2, l3] st h Q = wp μ d 266 958 [.retAddr x, l1, l2, l3] (.retAddr x :: st) h Q := wp_nx rfl
set_option maxRecDepth 20000 in
theorem r266_958 (μ : Bool) (d : Nat) (l0 : Value) (l1 : Value) (l2 : Value) (x : Int32) (st : List Value) (h : Hp) (Q : Po) : wp μ d 266 958 [l0, l1, l2, .int x] st h Q = wp μ d 266 959 [l0, l1, l2, .int x] (.int x :: st) h Q := wp_nx rfl
set_option maxRecDepth 20000 in
theorem r266_959 (μ : Bool) (d : Nat) (l0 : Value) (l1 : Value) (l2 : Value) (l3 : Value) (st : List Value) (h : Hp) (Q : Po) : wp μ d 266 959 [l0, l1, l2, l3] st h Q = wp μ d 266 960 [l0, l1, l2, l3] (.int (nI 1) :: st) h Q := (wp_nx rfl).trans (congrArg (fun z => wp μ d 266 960 [l0, l1, l2, l3] (.int z :: st) h Q) (show Int32.ofInt (1) = (nI 1) by decide))
set_option maxRecDepth 20000 in
theorem r266_960 (μ : Bool) (d : Nat) (l0 : Value) (l1 : Value) (l2 : Value) (l3 : Value) (y0 y1 : Int32) (st : List Value) (h : Hp) (Q : Po) : wp μ d 266 960 [l0, l1, l2, l3] (.int y0 :: .int y1 :: st) h Q = wp μ d 266 961 [l0, l1, l2, l3] (.int (y1 + y0) :: st) h Q := wp_nx rfl
set_option maxRecDepth 20000 in
theorem r266_961 (μ : Bool) (d : Nat) (l0 : Value) (l1 : Value) (l2 : Value) (l3 : Value) (y0 : Int32) (y1 : Nat) (st : List Value) (h : Hp) (Q : Po) : wp μ d 266 961 [l0, l1, l2, l3] (.int y0 :: .ref y1 :: st) h Q = (((kdm μ h y1).1 = 20 ∧ vp_in y0 (kdm μ h y1).2) ∧ wp μ d 266 962 [l0, l1, l2, l3] (.int (gI h y1 y0.toNatClampNeg) :: st) h Q) := wp_ck _ rfl
set_option maxRecDepth 20000 in
theorem r266_961t (μ : Bool) (d : Nat) (l0 : Value) (l1 : Value) (l2 : Value) (l3 : Value) (y0 : Int32) (st : List Value) (h : Hp) (Q : Po) : wp μ d 266 961 [l0, l1, l2, l3] (.int y0 :: .retAddr 1 :: st) h Q = (vp_in y0 (hk h 0).2 ∧ wp μ d 266 962 [l0, l1, l2, l3] (.int (gI h 0 y0.toNatClampNeg) :: st) h Q) := wp_ck _ rfl
set_option maxRecDepth 20000 in
theorem r266_962 (μ : Bool) (d : Nat) (l1 : Value) (l2 : Value) (l3 : Value) (x : Nat) (st : List Value) (h : Hp) (Q : Po) : wp μ d 266 962 [.ref x, l1, l2, l3] st h Q = wp μ d 266 963 [.ref x, l1, l2, l3] (.ref x :: st) h Q := wp_nx rfl
set_option maxRecDepth 20000 in
theorem r266_962t (μ : Bool) (d : Nat) (l1 : Value) (l2 : Value) (l3 : Value) (x : Nat) (st : List Value) (h : Hp) (Q : Po) : wp μ d 266 962 [.retAddr x, l1, l2, l3] st h Q = wp μ d 266 963 [.retAddr x, l1, l2, l3] (.retAddr x :: st) h Q := wp_nx rfl
set_option maxRecDepth 20000 in
theorem r266_963 (μ : Bool) (d : Nat) (l0 : Value) (l1 : Value) (l2 : Value) (x : Int32) (st : List Value) (h : Hp) (Q : Po) : wp μ d 266 963 [l0, l1, l2, .int x] st h Q = wp μ d 266 964 [l0, l1, l2, .int x] (.int x :: st) h Q := wp_nx rfl
set_option maxRecDepth 20000 in
theorem r266_964 (μ : Bool) (d : Nat) (l0 : Value) (l1 : Value) (l2 : Value) (l3 : Value) (st : List Value) (h : Hp) (Q : Po) : wp μ d 266 964 [l0, l1, l2, l3] st h Q = wp μ d 266 965 [l0, l1, l2, l3] (.int (nI 2) :: st) h Q := (wp_nx rfl).trans (congrArg (fun z => wp μ d 266 965 [l0, l1, l2, l3] (.int z :: st) h Q) (show Int32.ofInt (2) = (nI 2) by decide))
set_option maxRecDepth 20000 in
theorem r266_965 (μ : Bool) (d : Nat) (l0 : Value) (l1 : Value) (l2 : Value) (l3 : Value) (y0 y1 : Int32) (st : List Value) (h : Hp) (Q : Po) : wp μ d 266 965 [l0, l1, l2, l3] (.int y0 :: .int y1 :: st) h Q = wp μ d 266 966 [l0, l1, l2, l3] (.int (y1 + y0) :: st) h Q := wp_nx rfl
set_option maxRecDepth 20000 in
theorem r266_966 (μ : Bool) (d : Nat) (l0 : Value) (l1 : Value) (l2 : Value) (l3 : Value) (y0 : Int32) (y1 : Nat) (st : List Value) (h : Hp) (Q : Po) : wp μ d 266 966 [l0, l1, l2, l3] (.int y0 :: .ref y1 :: st) h Q = (((kdm μ h y1).1 = 20 ∧ vp_in y0 (kdm μ h y1).2) ∧ wp μ d 266 967 [l0, l1, l2, l3] (.int (gI h y1 y0.toNatClampNeg) :: st) h Q) := wp_ck _ rfl
set_option maxRecDepth 20000 in
theorem r266_966t (μ : Bool) (d : Nat) (l0 : Value) (l1 : Value) (l2 : Value) (l3 : Value) (y0 : Int32) (st : List Value) (h : Hp) (Q : Po) : wp μ d 266 966 [l0, l1, l2, l3] (.int y0 :: .retAddr 1 :: st) h Q = (vp_in y0 (hk h 0).2 ∧ wp μ d 266 967 [l0, l1, l2, l3] (.int (gI h 0 y0.toNatClampNeg) :: st) h Q) := wp_ck _ rfl
set_option maxRecDepth 20000 in
theorem r266_967 (μ : Bool) (d : Nat) (l1 : Value) (l2 : Value) (l3 : Value) (x : Nat) (st : List Value) (h : Hp) (Q : Po) : wp μ d 266 967 [.ref x, l1, l2, l3] st h Q = wp μ d 266 968 [.ref x, l1, l2, l3] (.ref x :: st) h Q := wp_nx rfl
set_option maxRecDepth 20000 in
theorem r266_967t (μ : Bool) (d : Nat) (l1 : Value) (l2 : Value) (l3 : Value) (x : Nat) (st : List Value) (h : Hp) (Q : Po) : wp μ d 266 967 [.retAddr x, l1, l2, l3] st h Q = wp μ d 266 968 [.retAddr x, l1, l2, l3] (.retAddr x :: st) h Q := wp_nx rfl
set_option maxRecDepth 20000 in
theorem r266_968 (μ : Bool) (d : Nat) (l0 : Value) (l1 : Value) (l2 : Value) (x : Int32) (st : List Value) (h : Hp) (Q : Po) : wp μ d 266 968 [l0, l1, l2, .int x] st h Q = wp μ d 266 969 [l0, l1, l2, .int x] (.int x :: st) h Q := wp_nx rfl
set_option maxRecDepth 20000 in
theorem r266_969 (μ : Bool) (d : Nat) (l0 : Value) (l1 : Value) (l2 : Value) (l3 : Value) (st : List Value) (h : Hp) (Q : Po) : wp μ d 266 969 [l0, l1, l2, l3] st h Q = wp μ d 266 970 [l0, l1, l2, l3] (.int (nI 3) :: st) h Q := (wp_nx rfl).trans (congrArg (fun z => wp μ d 266 970 [l0, l1, l2, l3] (.int z :: st) h Q) (show Int32.ofInt (3) = (nI 3) by decide))
set_option maxRecDepth 20000 in
theorem r266_970 (μ : Bool) (d : Nat) (l0 : Value) (l1 : Value) (l2 : Value) (l3 : Value) (y0 y1 : Int32) (st : List Value) (h : Hp) (Q : Po) : wp μ d 266 970 [l0, l1, l2, l3] (.int y0 :: .int y1 :: st) h Q = wp μ d 266 971 [l0, l1, l2, l3] (.int (y1 + y0) :: st) h Q := wp_nx rfl
set_option maxRecDepth 20000 in
theorem r266_971 (μ : Bool) (d : Nat) (l0 : Value) (l1 : Value) (l2 : Value) (l3 : Value) (y0 : Int32) (y1 : Nat) (st : List Value) (h : Hp) (Q : Po) : wp μ d 266 971 [l0, l1, l2, l3] (.int y0 :: .ref y1 :: st) h Q = (((kdm μ h y1).1 = 20 ∧ vp_in y0 (kdm μ h y1).2) ∧ wp μ d 266 972 [l0, l1, l2, l3] (.int (gI h y1 y0.toNatClampNeg) :: st) h Q) := wp_ck _ rfl
set_option maxRecDepth 20000 in
theorem r266_971t (μ : Bool) (d : Nat) (l0 : Value) (l1 : Value) (l2 : Value) (l3 : Value) (y0 : Int32) (st : List Value) (h : Hp) (Q : Po) : wp μ d 266 971 [l0, l1, l2, l3] (.int y0 :: .retAddr 1 :: st) h Q = (vp_in y0 (hk h 0).2 ∧ wp μ d 266 972 [l0, l1, l2, l3] (.int (gI h 0 y0.toNatClampNeg) :: st) h Q) := wp_ck _ rfl
set_option maxRecDepth 20000 in
theorem r266_972 (μ : Bool) (d : Nat) (l0 : Value) (l1 : Value) (l2 : Value) (l3 : Value) (y0 : Int32) (y1 : Int32) (y2 : Int32) (y3 : Nat) (y4 : Int32) (h : Hp) (Q : Po) : wp μ (d + 1) 266 972 [l0, l1, l2, l3] [.int y0, .int y1, .int y2, .ref y3, .int y4] h Q = ((kdm μ h y3).1 = 12 ∧ cwp μ d 230 [.ref y3, .int y2, .int y1, .int y0] h (fun r h' => wp μ (d + 1) 266 975 [l0, l1, l2, l3] (r.toList ++ [.int y4]) h' Q)) := wp_kc _ True rfl ⟨fun q => by obtain ⟨x, q1, q2⟩ := q.2.2.1 rfl; cases q1; exact q2, fun q => ⟨Nat.le_of_ble_eq_true rfl, ⟨Nat.le_of_ble_eq_true rfl, rfl, Nat.le_of_ble_eq_true rfl⟩, fun _ => ⟨_, rfl, q⟩, fun q9 => absurd q9 (by decide)⟩⟩
set_option maxRecDepth 20000 in
theorem r266_975 (μ : Bool) (d : Nat) (l0 : Value) (l1 : Value) (l2 : Value) (l3 : Value) (y0 y1 : Int32) (st : List Value) (h : Hp) (Q : Po) : wp μ d 266 975 [l0, l1, l2, l3] (.int y0 :: .int y1 :: st) h Q = if y1 = y0 then wp μ d 266 1545 [l0, l1, l2, l3] st h Q else wp μ d 266 978 [l0, l1, l2, l3] st h Q := wp_br (y1 = y0) rfl
set_option maxRecDepth 20000 in
theorem r266_978 (μ : Bool) (d : Nat) (l0 : Value) (l1 : Value) (l2 : Value) (l3 : Value) (st : List Value) (h : Hp) (Q : Po) : wp μ d 266 978 [l0, l1, l2, l3] st h Q = wp μ d 266 979 [l0, l1, l2, l3] (.int (nI 0) :: st) h Q := (wp_nx rfl).trans (congrArg (fun z => wp μ d 266 979 [l0, l1, l2, l3] (.int z :: st) h Q) (show Int32.ofInt (0) = (nI 0) by decide))
set_option maxRecDepth 20000 in
theorem r266_979 (μ : Bool) (d : Nat) (l0 : Value) (l1 : Value) (l2 : Value) (l3 : Value) (y0 : Int32) (h : Hp) (Q : Po) : wp μ d 266 979 [l0, l1, l2, l3] [.int y0] h Q = ((y0 = nI 0 ∨ y0 = nI 1) ∧ Q (some (.int y0)) h) := (wp_rc _ rfl).trans (by rw [show retOk (rM 266) y0 = (narrow .boolean (.int y0) = .int y0) from rfl, nz_iff]; rfl)
set_option maxRecDepth 20000 in
theorem r266_980 (μ : Bool) (d : Nat) (l0 : Value) (l2 : Value) (l3 : Value) (x : Nat) (st : List Value) (h : Hp) (Q : Po) : wp μ d 266 980 [l0, .ref x, l2, l3] st h Q = wp μ d 266 981 [l0, .ref x, l2, l3] (.ref x :: st) h Q := wp_nx rfl
set_option maxRecDepth 20000 in
theorem r266_980n (μ : Bool) (d : Nat) (l0 : Value) (l2 : Value) (l3 : Value) (st : List Value) (h : Hp) (Q : Po) : wp μ d 266 980 [l0, .null, l2, l3] st h Q = wp μ d 266 981 [l0, .null, l2, l3] (.null :: st) h Q := wp_nx rfl
set_option maxRecDepth 20000 in
theorem r266_980t (μ : Bool) (d : Nat) (l0 : Value) (l2 : Value) (l3 : Value) (x : Nat) (st : List Value) (h : Hp) (Q : Po) : wp μ d 266 980 [l0, .retAddr x, l2, l3] st h Q = wp μ d 266 981 [l0, .retAddr x, l2, l3] (.retAddr x :: st) h Q := wp_nx rfl
set_option maxRecDepth 20000 in
theorem r266_981 (μ : Bool) (d : Nat) (l1 : Value) (l2 : Value) (l3 : Value) (x : Nat) (st : List Value) (h : Hp) (Q : Po) : wp μ d 266 981 [.ref x, l1, l2, l3] st h Q = wp μ d 266 982 [.ref x, l1, l2, l3] (.ref x :: st) h Q := wp_nx rfl
set_option maxRecDepth 20000 in
theorem r266_981t (μ : Bool) (d : Nat) (l1 : Value) (l2 : Value) (l3 : Value) (x : Nat) (st : List Value) (h : Hp) (Q : Po) : wp μ d 266 981 [.retAddr x, l1, l2, l3] st h Q = wp μ d 266 982 [.retAddr x, l1, l2, l3] (.retAddr x :: st) h Q := wp_nx rfl
set_option maxRecDepth 20000 in
theorem r266_982 (μ : Bool) (d : Nat) (l0 : Value) (l1 : Value) (l2 : Value) (x : Int32) (st : List Value) (h : Hp) (Q : Po) : wp μ d 266 982 [l0, l1, l2, .int x] st h Q = wp μ d 266 983 [l0, l1, l2, .int x] (.int x :: st) h Q := wp_nx rfl
set_option maxRecDepth 20000 in
theorem r266_983 (μ : Bool) (d : Nat) (l0 : Value) (l1 : Value) (l2 : Value) (l3 : Value) (st : List Value) (h : Hp) (Q : Po) : wp μ d 266 983 [l0, l1, l2, l3] st h Q = wp μ d 266 984 [l0, l1, l2, l3] (.int (nI 1) :: st) h Q := (wp_nx rfl).trans (congrArg (fun z => wp μ d 266 984 [l0, l1, l2, l3] (.int z :: st) h Q) (show Int32.ofInt (1) = (nI 1) by decide))
set_option maxRecDepth 20000 in
theorem r266_984 (μ : Bool) (d : Nat) (l0 : Value) (l1 : Value) (l2 : Value) (l3 : Value) (y0 y1 : Int32) (st : List Value) (h : Hp) (Q : Po) : wp μ d 266 984 [l0, l1, l2, l3] (.int y0 :: .int y1 :: st) h Q = wp μ d 266 985 [l0, l1, l2, l3] (.int (y1 + y0) :: st) h Q := wp_nx rfl
set_option maxRecDepth 20000 in
theorem r266_985 (μ : Bool) (d : Nat) (l0 : Value) (l1 : Value) (l2 : Value) (l3 : Value) (y0 : Int32) (y1 : Nat) (st : List Value) (h : Hp) (Q : Po) : wp μ d 266 985 [l0, l1, l2, l3] (.int y0 :: .ref y1 :: st) h Q = (((kdm μ h y1).1 = 20 ∧ vp_in y0 (kdm μ h y1).2) ∧ wp μ d 266 986 [l0, l1, l2, l3] (.int (gI h y1 y0.toNatClampNeg) :: st) h Q) := wp_ck _ rfl
set_option maxRecDepth 20000 in
theorem r266_985t (μ : Bool) (d : Nat) (l0 : Value) (l1 : Value) (l2 : Value) (l3 : Value) (y0 : Int32) (st : List Value) (h : Hp) (Q : Po) : wp μ d 266 985 [l0, l1, l2, l3] (.int y0 :: .retAddr 1 :: st) h Q = (vp_in y0 (hk h 0).2 ∧ wp μ d 266 986 [l0, l1, l2, l3] (.int (gI h 0 y0.toNatClampNeg) :: st) h Q) := wp_ck _ rfl
set_option maxRecDepth 20000 in
theorem r266_986 (μ : Bool) (d : Nat) (l0 : Value) (l1 : Value) (l2 : Value) (l3 : Value) (y0 : Int32) (y1 : Nat) (h : Hp) (Q : Po) : wp μ (d + 1) 266 986 [l0, l1, l2, l3] [.int y0, .ref y1] h Q = ((kdm μ h y1).1 = 11 ∧ cwp μ d 110 [.ref y1, .int y0] h (fun r h' => wp μ (d + 1) 266 989 [l0, l1, l2, l3] (r.toList ++ []) h' Q)) := wp_kc _ True rfl ⟨fun q => by obtain ⟨x, q1, q2⟩ := q.2.2.1 rfl; cases q1; exact q2, fun q => ⟨Nat.le_of_ble_eq_true rfl, ⟨Nat.le_of_ble_eq_true rfl, rfl, Nat.le_of_ble_eq_true rfl⟩, fun _ => ⟨_, rfl, q⟩, fun q9 => absurd q9 (by decide)⟩⟩
set_option maxRecDepth 20000 in
theorem r266_989 (μ : Bool) (d : Nat) (l0 : Value) (l1 : Value) (l3 : Value) (x : Nat) (st : List Value) (h : Hp) (Q : Po) : wp μ d 266 989 [l0, l1, .ref x, l3] st h Q = wp μ d 266 990 [l0, l1, .ref x, l3] (.ref x :: st) h Q := wp_nx rfl
set_option maxRecDepth 20000 in
theorem r266_989n (μ : Bool) (d : Nat) (l0 : Value) (l1 : Value) (l3 : Value) (st : List Value) (h : Hp) (Q : Po) : wp μ d 266 989 [l0, l1, .null, l3] st h Q = wp μ d 266 990 [l0, l1, .null, l3] (.null :: st) h Q := wp_nx rfl
set_option maxRecDepth 20000 in
theorem r266_989t (μ : Bool) (d : Nat) (l0 : Value) (l1 : Value) (l3 : Value) (x : Nat) (st : List Value) (h : Hp) (Q : Po) : wp μ d 266 989 [l0, l1, .retAddr x, l3] st h Q = wp μ d 266 990 [l0, l1, .retAddr x, l3] (.retAddr x :: st) h Q := wp_nx rfl
set_option maxRecDepth 20000 in
theorem r266_990 (μ : Bool) (d : Nat) (l1 : Value) (l2 : Value) (l3 : Value) (x : Nat) (st : List Value) (h : Hp) (Q : Po) : wp μ d 266 990 [.ref x, l1, l2, l3] st h Q = wp μ d 266 991 [.ref x, l1, l2, l3] (.ref x :: st) h Q := wp_nx rfl
set_option maxRecDepth 20000 in
theorem r266_990t (μ : Bool) (d : Nat) (l1 : Value) (l2 : Value) (l3 : Value) (x : Nat) (st : List Value) (h : Hp) (Q : Po) : wp μ d 266 990 [.retAddr x, l1, l2, l3] st h Q = wp μ d 266 991 [.retAddr x, l1, l2, l3] (.retAddr x :: st) h Q := wp_nx rfl
set_option maxRecDepth 20000 in
theorem r266_991 (μ : Bool) (d : Nat) (l0 : Value) (l1 : Value) (l2 : Value) (x : Int32) (st : List Value) (h : Hp) (Q : Po) : wp μ d 266 991 [l0, l1, l2, .int x] st h Q = wp μ d 266 992 [l0, l1, l2, .int x] (.int x :: st) h Q := wp_nx rfl
set_option maxRecDepth 20000 in
theorem r266_992 (μ : Bool) (d : Nat) (l0 : Value) (l1 : Value) (l2 : Value) (l3 : Value) (st : List Value) (h : Hp) (Q : Po) : wp μ d 266 992 [l0, l1, l2, l3] st h Q = wp μ d 266 993 [l0, l1, l2, l3] (.int (nI 1) :: st) h Q := (wp_nx rfl).trans (congrArg (fun z => wp μ d 266 993 [l0, l1, l2, l3] (.int z :: st) h Q) (show Int32.ofInt (1) = (nI 1) by decide))
set_option maxRecDepth 20000 in
theorem r266_993 (μ : Bool) (d : Nat) (l0 : Value) (l1 : Value) (l2 : Value) (l3 : Value) (y0 y1 : Int32) (st : List Value) (h : Hp) (Q : Po) : wp μ d 266 993 [l0, l1, l2, l3] (.int y0 :: .int y1 :: st) h Q = wp μ d 266 994 [l0, l1, l2, l3] (.int (y1 + y0) :: st) h Q := wp_nx rfl
set_option maxRecDepth 20000 in
theorem r266_994 (μ : Bool) (d : Nat) (l0 : Value) (l1 : Value) (l2 : Value) (l3 : Value) (y0 : Int32) (y1 : Nat) (st : List Value) (h : Hp) (Q : Po) : wp μ d 266 994 [l0, l1, l2, l3] (.int y0 :: .ref y1 :: st) h Q = (((kdm μ h y1).1 = 20 ∧ vp_in y0 (kdm μ h y1).2) ∧ wp μ d 266 995 [l0, l1, l2, l3] (.int (gI h y1 y0.toNatClampNeg) :: st) h Q) := wp_ck _ rfl
set_option maxRecDepth 20000 in
theorem r266_994t (μ : Bool) (d : Nat) (l0 : Value) (l1 : Value) (l2 : Value) (l3 : Value) (y0 : Int32) (st : List Value) (h : Hp) (Q : Po) : wp μ d 266 994 [l0, l1, l2, l3] (.int y0 :: .retAddr 1 :: st) h Q = (vp_in y0 (hk h 0).2 ∧ wp μ d 266 995 [l0, l1, l2, l3] (.int (gI h 0 y0.toNatClampNeg) :: st) h Q) := wp_ck _ rfl
set_option maxRecDepth 20000 in
theorem r266_995 (μ : Bool) (d : Nat) (l0 : Value) (l1 : Value) (l2 : Value) (l3 : Value) (y0 : Int32) (y1 : Nat) (y2 : Int32) (h : Hp) (Q : Po) : wp μ (d + 1) 266 995 [l0, l1, l2, l3] [.int y0, .ref y1, .int y2] h Q = ((kdm μ h y1).1 = 12 ∧ cwp μ d 231 [.ref y1, .int y0] h (fun r h' => wp μ (d + 1) 266 998 [l0, l1, l2, l3] (r.toList ++ [.int y2]) h' Q)) := wp_kc _ True rfl ⟨fun q => by obtain ⟨x, q1, q2⟩ := q.2.2.1 rfl; cases q1; exact q2, fun q => ⟨Nat.le_of_ble_eq_true rfl, ⟨Nat.le_of_ble_eq_true rfl, rfl, Nat.le_of_ble_eq_true rfl⟩, fun _ => ⟨_, rfl, q⟩, fun q9 => absurd q9 (by decide)⟩⟩
set_option maxRecDepth 20000 in
theorem r266_998 (μ : Bool) (d : Nat) (l0 : Value) (l1 : Value) (l2 : Value) (l3 : Value) (y0 y1 : Int32) (st : List Value) (h : Hp) (Q : Po) : wp μ d 266 998 [l0, l1, l2, l3] (.int y0 :: .int y1 :: st) h Q = if y1 = y0 then wp μ d 266 1545 [l0, l1, l2, l3] st h Q else wp μ d 266 1001 [l0, l1, l2, l3] st h Q := wp_br (y1 = y0) rfl
set_option maxRecDepth 20000 in
theorem r266_1001 (μ : Bool) (d : Nat) (l0 : Value) (l1 : Value) (l2 : Value) (l3 : Value) (st : List Value) (h : Hp) (Q : Po) : wp μ d 266 1001 [l0, l1, l2, l3] st h Q = wp μ d 266 1002 [l0, l1, l2, l3] (.int (nI 0) :: st) h Q := (wp_nx rfl).trans (congrArg (fun z => wp μ d 266 1002 [l0, l1, l2, l3] (.int z :: st) h Q) (show Int32.ofInt (0) = (nI 0) by decide))
set_option maxRecDepth 20000 in
theorem r266_1002 (μ : Bool) (d : Nat) (l0 : Value) (l1 : Value) (l2 : Value) (l3 : Value) (y0 : Int32) (h : Hp) (Q : Po) : wp μ d 266 1002 [l0, l1, l2, l3] [.int y0] h Q = ((y0 = nI 0 ∨ y0 = nI 1) ∧ Q (some (.int y0)) h) := (wp_rc _ rfl).trans (by rw [show retOk (rM 266) y0 = (narrow .boolean (.int y0) = .int y0) from rfl, nz_iff]; rfl)
set_option maxRecDepth 20000 in
theorem r266_1003 (μ : Bool) (d : Nat) (l0 : Value) (l2 : Value) (l3 : Value) (x : Nat) (st : List Value) (h : Hp) (Q : Po) : wp μ d 266 1003 [l0, .ref x, l2, l3] st h Q = wp μ d 266 1004 [l0, .ref x, l2, l3] (.ref x :: st) h Q := wp_nx rfl
set_option maxRecDepth 20000 in
theorem r266_1003n (μ : Bool) (d : Nat) (l0 : Value) (l2 : Value) (l3 : Value) (st : List Value) (h : Hp) (Q : Po) : wp μ d 266 1003 [l0, .null, l2, l3] st h Q = wp μ d 266 1004 [l0, .null, l2, l3] (.null :: st) h Q := wp_nx rfl
set_option maxRecDepth 20000 in
theorem r266_1003t (μ : Bool) (d : Nat) (l0 : Value) (l2 : Value) (l3 : Value) (x : Nat) (st : List Value) (h : Hp) (Q : Po) : wp μ d 266 1003 [l0, .retAddr x, l2, l3] st h Q = wp μ d 266 1004 [l0, .retAddr x, l2, l3] (.retAddr x :: st) h Q := wp_nx rfl
set_option maxRecDepth 20000 in
theorem r266_1004 (μ : Bool) (d : Nat) (l1 : Value) (l2 : Value) (l3 : Value) (x : Nat) (st : List Value) (h : Hp) (Q : Po) : wp μ d 266 1004 [.ref x, l1, l2, l3] st h Q = wp μ d 266 1005 [.ref x, l1, l2, l3] (.ref x :: st) h Q := wp_nx rfl
set_option maxRecDepth 20000 in
theorem r266_1004t (μ : Bool) (d : Nat) (l1 : Value) (l2 : Value) (l3 : Value) (x : Nat) (st : List Value) (h : Hp) (Q : Po) : wp μ d 266 1004 [.retAddr x, l1, l2, l3] st h Q = wp μ d 266 1005 [.retAddr x, l1, l2, l3] (.retAddr x :: st) h Q := wp_nx rfl
set_option maxRecDepth 20000 in
theorem r266_1005 (μ : Bool) (d : Nat) (l0 : Value) (l1 : Value) (l2 : Value) (x : Int32) (st : List Value) (h : Hp) (Q : Po) : wp μ d 266 1005 [l0, l1, l2, .int x] st h Q = wp μ d 266 1006 [l0, l1, l2, .int x] (.int x :: st) h Q := wp_nx rfl
set_option maxRecDepth 20000 in
theorem r266_1006 (μ : Bool) (d : Nat) (l0 : Value) (l1 : Value) (l2 : Value) (l3 : Value) (st : List Value) (h : Hp) (Q : Po) : wp μ d 266 1006 [l0, l1, l2, l3] st h Q = wp μ d 266 1007 [l0, l1, l2, l3] (.int (nI 1) :: st) h Q := (wp_nx rfl).trans (congrArg (fun z => wp μ d 266 1007 [l0, l1, l2, l3] (.int z :: st) h Q) (show Int32.ofInt (1) = (nI 1) by decide))
set_option maxRecDepth 20000 in
theorem r266_1007 (μ : Bool) (d : Nat) (l0 : Value) (l1 : Value) (l2 : Value) (l3 : Value) (y0 y1 : Int32) (st : List Value) (h : Hp) (Q : Po) : wp μ d 266 1007 [l0, l1, l2, l3] (.int y0 :: .int y1 :: st) h Q = wp μ d 266 1008 [l0, l1, l2, l3] (.int (y1 + y0) :: st) h Q := wp_nx rfl
set_option maxRecDepth 20000 in
theorem r266_1008 (μ : Bool) (d : Nat) (l0 : Value) (l1 : Value) (l2 : Value) (l3 : Value) (y0 : Int32) (y1 : Nat) (st : List Value) (h : Hp) (Q : Po) : wp μ d 266 1008 [l0, l1, l2, l3] (.int y0 :: .ref y1 :: st) h Q = (((kdm μ h y1).1 = 20 ∧ vp_in y0 (kdm μ h y1).2) ∧ wp μ d 266 1009 [l0, l1, l2, l3] (.int (gI h y1 y0.toNatClampNeg) :: st) h Q) := wp_ck _ rfl
set_option maxRecDepth 20000 in
theorem r266_1008t (μ : Bool) (d : Nat) (l0 : Value) (l1 : Value) (l2 : Value) (l3 : Value) (y0 : Int32) (st : List Value) (h : Hp) (Q : Po) : wp μ d 266 1008 [l0, l1, l2, l3] (.int y0 :: .retAddr 1 :: st) h Q = (vp_in y0 (hk h 0).2 ∧ wp μ d 266 1009 [l0, l1, l2, l3] (.int (gI h 0 y0.toNatClampNeg) :: st) h Q) := wp_ck _ rfl
set_option maxRecDepth 20000 in
theorem r266_1009 (μ : Bool) (d : Nat) (l1 : Value) (l2 : Value) (l3 : Value) (x : Nat) (st : List Value) (h : Hp) (Q : Po) : wp μ d 266 1009 [.ref x, l1, l2, l3] st h Q = wp μ d 266 1010 [.ref x, l1, l2, l3] (.ref x :: st) h Q := wp_nx rfl
set_option maxRecDepth 20000 in
theorem r266_1009t (μ : Bool) (d : Nat) (l1 : Value) (l2 : Value) (l3 : Value) (x : Nat) (st : List Value) (h : Hp) (Q : Po) : wp μ d 266 1009 [.retAddr x, l1, l2, l3] st h Q = wp μ d 266 1010 [.retAddr x, l1, l2, l3] (.retAddr x :: st) h Q := wp_nx rfl
set_option maxRecDepth 20000 in
theorem r266_1010 (μ : Bool) (d : Nat) (l0 : Value) (l1 : Value) (l2 : Value) (x : Int32) (st : List Value) (h : Hp) (Q : Po) : wp μ d 266 1010 [l0, l1, l2, .int x] st h Q = wp μ d 266 1011 [l0, l1, l2, .int x] (.int x :: st) h Q := wp_nx rfl
set_option maxRecDepth 20000 in
theorem r266_1011 (μ : Bool) (d : Nat) (l0 : Value) (l1 : Value) (l2 : Value) (l3 : Value) (st : List Value) (h : Hp) (Q : Po) : wp μ d 266 1011 [l0, l1, l2, l3] st h Q = wp μ d 266 1012 [l0, l1, l2, l3] (.int (nI 2) :: st) h Q := (wp_nx rfl).trans (congrArg (fun z => wp μ d 266 1012 [l0, l1, l2, l3] (.int z :: st) h Q) (show Int32.ofInt (2) = (nI 2) by decide))
set_option maxRecDepth 20000 in
theorem r266_1012 (μ : Bool) (d : Nat) (l0 : Value) (l1 : Value) (l2 : Value) (l3 : Value) (y0 y1 : Int32) (st : List Value) (h : Hp) (Q : Po) : wp μ d 266 1012 [l0, l1, l2, l3] (.int y0 :: .int y1 :: st) h Q = wp μ d 266 1013 [l0, l1, l2, l3] (.int (y1 + y0) :: st) h Q := wp_nx rfl
set_option maxRecDepth 20000 in
theorem r266_1013 (μ : Bool) (d : Nat) (l0 : Value) (l1 : Value) (l2 : Value) (l3 : Value) (y0 : Int32) (y1 : Nat) (st : List Value) (h : Hp) (Q : Po) : wp μ d 266 1013 [l0, l1, l2, l3] (.int y0 :: .ref y1 :: st) h Q = (((kdm μ h y1).1 = 20 ∧ vp_in y0 (kdm μ h y1).2) ∧ wp μ d 266 1014 [l0, l1, l2, l3] (.int (gI h y1 y0.toNatClampNeg) :: st) h Q) := wp_ck _ rfl
set_option maxRecDepth 20000 in
theorem r266_1013t (μ : Bool) (d : Nat) (l0 : Value) (l1 : Value) (l2 : Value) (l3 : Value) (y0 : Int32) (st : List Value) (h : Hp) (Q : Po) : wp μ d 266 1013 [l0, l1, l2, l3] (.int y0 :: .retAddr 1 :: st) h Q = (vp_in y0 (hk h 0).2 ∧ wp μ d 266 1014 [l0, l1, l2, l3] (.int (gI h 0 y0.toNatClampNeg) :: st) h Q) := wp_ck _ rfl
set_option maxRecDepth 20000 in
theorem r266_1014 (μ : Bool) (d : Nat) (l1 : Value) (l2 : Value) (l3 : Value) (x : Nat) (st : List Value) (h : Hp) (Q : Po) : wp μ d 266 1014 [.ref x, l1, l2, l3] st h Q = wp μ d 266 1015 [.ref x, l1, l2, l3] (.ref x :: st) h Q := wp_nx rfl
set_option maxRecDepth 20000 in
theorem r266_1014t (μ : Bool) (d : Nat) (l1 : Value) (l2 : Value) (l3 : Value) (x : Nat) (st : List Value) (h : Hp) (Q : Po) : wp μ d 266 1014 [.retAddr x, l1, l2, l3] st h Q = wp μ d 266 1015 [.retAddr x, l1, l2, l3] (.retAddr x :: st) h Q := wp_nx rfl
set_option maxRecDepth 20000 in
theorem r266_1015 (μ : Bool) (d : Nat) (l0 : Value) (l1 : Value) (l2 : Value) (x : Int32) (st : List Value) (h : Hp) (Q : Po) : wp μ d 266 1015 [l0, l1, l2, .int x] st h Q = wp μ d 266 1016 [l0, l1, l2, .int x] (.int x :: st) h Q := wp_nx rfl
set_option maxRecDepth 20000 in
theorem r266_1016 (μ : Bool) (d : Nat) (l0 : Value) (l1 : Value) (l2 : Value) (l3 : Value) (st : List Value) (h : Hp) (Q : Po) : wp μ d 266 1016 [l0, l1, l2, l3] st h Q = wp μ d 266 1017 [l0, l1, l2, l3] (.int (nI 3) :: st) h Q := (wp_nx rfl).trans (congrArg (fun z => wp μ d 266 1017 [l0, l1, l2, l3] (.int z :: st) h Q) (show Int32.ofInt (3) = (nI 3) by decide))
set_option maxRecDepth 20000 in
theorem r266_1017 (μ : Bool) (d : Nat) (l0 : Value) (l1 : Value) (l2 : Value) (l3 : Value) (y0 y1 : Int32) (st : List Value) (h : Hp) (Q : Po) : wp μ d 266 1017 [l0, l1, l2, l3] (.int y0 :: .int y1 :: st) h Q = wp μ d 266 1018 [l0, l1, l2, l3] (.int (y1 + y0) :: st) h Q := wp_nx rfl
set_option maxRecDepth 20000 in
theorem r266_1018 (μ : Bool) (d : Nat) (l0 : Value) (l1 : Value) (l2 : Value) (l3 : Value) (y0 : Int32) (y1 : Nat) (st : List Value) (h : Hp) (Q : Po) : wp μ d 266 1018 [l0, l1, l2, l3] (.int y0 :: .ref y1 :: st) h Q = (((kdm μ h y1).1 = 20 ∧ vp_in y0 (kdm μ h y1).2) ∧ wp μ d 266 1019 [l0, l1, l2, l3] (.int (gI h y1 y0.toNatClampNeg) :: st) h Q) := wp_ck _ rfl
set_option maxRecDepth 20000 in
theorem r266_1018t (μ : Bool) (d : Nat) (l0 : Value) (l1 : Value) (l2 : Value) (l3 : Value) (y0 : Int32) (st : List Value) (h : Hp) (Q : Po) : wp μ d 266 1018 [l0, l1, l2, l3] (.int y0 :: .retAddr 1 :: st) h Q = (vp_in y0 (hk h 0).2 ∧ wp μ d 266 1019 [l0, l1, l2, l3] (.int (gI h 0 y0.toNatClampNeg) :: st) h Q) := wp_ck _ rfl
set_option maxRecDepth 20000 in
theorem r266_1019 (μ : Bool) (d : Nat) (l1 : Value) (l2 : Value) (l3 : Value) (x : Nat) (st : List Value) (h : Hp) (Q : Po) : wp μ d 266 1019 [.ref x, l1, l2, l3] st h Q = wp μ d 266 1020 [.ref x, l1, l2, l3] (.ref x :: st) h Q := wp_nx rfl
set_option maxRecDepth 20000 in
theorem r266_1019t (μ : Bool) (d : Nat) (l1 : Value) (l2 : Value) (l3 : Value) (x : Nat) (st : List Value) (h : Hp) (Q : Po) : wp μ d 266 1019 [.retAddr x, l1, l2, l3] st h Q = wp μ d 266 1020 [.retAddr x, l1, l2, l3] (.retAddr x :: st) h Q := wp_nx rfl
set_option maxRecDepth 20000 in
theorem r266_1020 (μ : Bool) (d : Nat) (l0 : Value) (l1 : Value) (l2 : Value) (x : Int32) (st : List Value) (h : Hp) (Q : Po) : wp μ d 266 1020 [l0, l1, l2, .int x] st h Q = wp μ d 266 1021 [l0, l1, l2, .int x] (.int x :: st) h Q := wp_nx rfl
set_option maxRecDepth 20000 in
theorem r266_1021 (μ : Bool) (d : Nat) (l0 : Value) (l1 : Value) (l2 : Value) (l3 : Value) (st : List Value) (h : Hp) (Q : Po) : wp μ d 266 1021 [l0, l1, l2, l3] st h Q = wp μ d 266 1022 [l0, l1, l2, l3] (.int (nI 4) :: st) h Q := (wp_nx rfl).trans (congrArg (fun z => wp μ d 266 1022 [l0, l1, l2, l3] (.int z :: st) h Q) (show Int32.ofInt (4) = (nI 4) by decide))
set_option maxRecDepth 20000 in
theorem r266_1022 (μ : Bool) (d : Nat) (l0 : Value) (l1 : Value) (l2 : Value) (l3 : Value) (y0 y1 : Int32) (st : List Value) (h : Hp) (Q : Po) : wp μ d 266 1022 [l0, l1, l2, l3] (.int y0 :: .int y1 :: st) h Q = wp μ d 266 1023 [l0, l1, l2, l3] (.int (y1 + y0) :: st) h Q := wp_nx rfl
set_option maxRecDepth 20000 in
theorem r266_1023 (μ : Bool) (d : Nat) (l0 : Value) (l1 : Value) (l2 : Value) (l3 : Value) (y0 : Int32) (y1 : Nat) (st : List Value) (h : Hp) (Q : Po) : wp μ d 266 1023 [l0, l1, l2, l3] (.int y0 :: .ref y1 :: st) h Q = (((kdm μ h y1).1 = 20 ∧ vp_in y0 (kdm μ h y1).2) ∧ wp μ d 266 1024 [l0, l1, l2, l3] (.int (gI h y1 y0.toNatClampNeg) :: st) h Q) := wp_ck _ rfl
set_option maxRecDepth 20000 in
theorem r266_1023t (μ : Bool) (d : Nat) (l0 : Value) (l1 : Value) (l2 : Value) (l3 : Value) (y0 : Int32) (st : List Value) (h : Hp) (Q : Po) : wp μ d 266 1023 [l0, l1, l2, l3] (.int y0 :: .retAddr 1 :: st) h Q = (vp_in y0 (hk h 0).2 ∧ wp μ d 266 1024 [l0, l1, l2, l3] (.int (gI h 0 y0.toNatClampNeg) :: st) h Q) := wp_ck _ rfl
set_option maxRecDepth 20000 in
theorem r266_1024 (μ : Bool) (d : Nat) (l1 : Value) (l2 : Value) (l3 : Value) (x : Nat) (st : List Value) (h : Hp) (Q : Po) : wp μ d 266 1024 [.ref x, l1, l2, l3] st h Q = wp μ d 266 1025 [.ref x, l1, l2, l3] (.ref x :: st) h Q := wp_nx rfl
set_option maxRecDepth 20000 in
theorem r266_1024t (μ : Bool) (d : Nat) (l1 : Value) (l2 : Value) (l3 : Value) (x : Nat) (st : List Value) (h : Hp) (Q : Po) : wp μ d 266 1024 [.retAddr x, l1, l2, l3] st h Q = wp μ d 266 1025 [.retAddr x, l1, l2, l3] (.retAddr x :: st) h Q := wp_nx rfl
set_option maxRecDepth 20000 in
theorem r266_1025 (μ : Bool) (d : Nat) (l0 : Value) (l1 : Value) (l2 : Value) (x : Int32) (st : List Value) (h : Hp) (Q : Po) : wp μ d 266 1025 [l0, l1, l2, .int x] st h Q = wp μ d 266 1026 [l0, l1, l2, .int x] (.int x :: st) h Q := wp_nx rfl
set_option maxRecDepth 20000 in
theorem r266_1026 (μ : Bool) (d : Nat) (l0 : Value) (l1 : Value) (l2 : Value) (l3 : Value) (st : List Value) (h : Hp) (Q : Po) : wp μ d 266 1026 [l0, l1, l2, l3] st h Q = wp μ d 266 1027 [l0, l1, l2, l3] (.int (nI 5) :: st) h Q := (wp_nx rfl).trans (congrArg (fun z => wp μ d 266 1027 [l0, l1, l2, l3] (.int z :: st) h Q) (show Int32.ofInt (5) = (nI 5) by decide))
set_option maxRecDepth 20000 in
theorem r266_1027 (μ : Bool) (d : Nat) (l0 : Value) (l1 : Value) (l2 : Value) (l3 : Value) (y0 y1 : Int32) (st : List Value) (h : Hp) (Q : Po) : wp μ d 266 1027 [l0, l1, l2, l3] (.int y0 :: .int y1 :: st) h Q = wp μ d 266 1028 [l0, l1, l2, l3] (.int (y1 + y0) :: st) h Q := wp_nx rfl
set_option maxRecDepth 20000 in
theorem r266_1028 (μ : Bool) (d : Nat) (l0 : Value) (l1 : Value) (l2 : Value) (l3 : Value) (y0 : Int32) (y1 : Nat) (st : List Value) (h : Hp) (Q : Po) : wp μ d 266 1028 [l0, l1, l2, l3] (.int y0 :: .ref y1 :: st) h Q = (((kdm μ h y1).1 = 20 ∧ vp_in y0 (kdm μ h y1).2) ∧ wp μ d 266 1029 [l0, l1, l2, l3] (.int (gI h y1 y0.toNatClampNeg) :: st) h Q) := wp_ck _ rfl
set_option maxRecDepth 20000 in
theorem r266_1028t (μ : Bool) (d : Nat) (l0 : Value) (l1 : Value) (l2 : Value) (l3 : Value) (y0 : Int32) (st : List Value) (h : Hp) (Q : Po) : wp μ d 266 1028 [l0, l1, l2, l3] (.int y0 :: .retAddr 1 :: st) h Q = (vp_in y0 (hk h 0).2 ∧ wp μ d 266 1029 [l0, l1, l2, l3] (.int (gI h 0 y0.toNatClampNeg) :: st) h Q) := wp_ck _ rfl
set_option maxRecDepth 20000 in
theorem r266_1029 (μ : Bool) (d : Nat) (l0 : Value) (l1 : Value) (l2 : Value) (l3 : Value) (y0 : Int32) (y1 : Int32) (y2 : Int32) (y3 : Int32) (y4 : Int32) (y5 : Nat) (h : Hp) (Q : Po) : wp μ (d + 1) 266 1029 [l0, l1, l2, l3] [.int y0, .int y1, .int y2, .int y3, .int y4, .ref y5] h Q = ((kdm μ h y5).1 = 11 ∧ cwp μ d 111 [.ref y5, .int y4, .int y3, .int y2, .int y1, .int y0] h (fun r h' => wp μ (d + 1) 266 1032 [l0, l1, l2, l3] (r.toList ++ []) h' Q)) := wp_kc _ True rfl ⟨fun q => by obtain ⟨x, q1, q2⟩ := q.2.2.1 rfl; cases q1; exact q2, fun q => ⟨Nat.le_of_ble_eq_true rfl, ⟨Nat.le_of_ble_eq_true rfl, rfl, Nat.le_of_ble_eq_true rfl⟩, fun _ => ⟨_, rfl, q⟩, fun q9 => absurd q9 (by decide)⟩⟩
set_option maxRecDepth 20000 in
theorem r266_1032 (μ : Bool) (d : Nat) (l0 : Value) (l1 : Value) (l3 : Value) (x : Nat) (st : List Value) (h : Hp) (Q : Po) : wp μ d 266 1032 [l0, l1, .ref x, l3] st h Q = wp μ d 266 1033 [l0, l1, .ref x, l3] (.ref x :: st) h Q := wp_nx rfl
set_option maxRecDepth 20000 in
theorem r266_1032n (μ : Bool) (d : Nat) (l0 : Value) (l1 : Value) (l3 : Value) (st : List Value) (h : Hp) (Q : Po) : wp μ d 266 1032 [l0, l1, .null, l3] st h Q = wp μ d 266 1033 [l0, l1, .null, l3] (.null :: st) h Q := wp_nx rfl
set_option maxRecDepth 20000 in
theorem r266_1032t (μ : Bool) (d : Nat) (l0 : Value) (l1 : Value) (l3 : Value) (x : Nat) (st : List Value) (h : Hp) (Q : Po) : wp μ d 266 1032 [l0, l1, .retAddr x, l3] st h Q = wp μ d 266 1033 [l0, l1, .retAddr x, l3] (.retAddr x :: st) h Q := wp_nx rfl
set_option maxRecDepth 20000 in
theorem r266_1033 (μ : Bool) (d : Nat) (l1 : Value) (l2 : Value) (l3 : Value) (x : Nat) (st : List Value) (h : Hp) (Q : Po) : wp μ d 266 1033 [.ref x, l1, l2, l3] st h Q = wp μ d 266 1034 [.ref x, l1, l2, l3] (.ref x :: st) h Q := wp_nx rfl
set_option maxRecDepth 20000 in
theorem r266_1033t (μ : Bool) (d : Nat) (l1 : Value) (l2 : Value) (l3 : Value) (x : Nat) (st : List Value) (h : Hp) (Q : Po) : wp μ d 266 1033 [.retAddr x, l1, l2, l3] st h Q = wp μ d 266 1034 [.retAddr x, l1, l2, l3] (.retAddr x :: st) h Q := wp_nx rfl
set_option maxRecDepth 20000 in
theorem r266_1034 (μ : Bool) (d : Nat) (l0 : Value) (l1 : Value) (l2 : Value) (x : Int32) (st : List Value) (h : Hp) (Q : Po) : wp μ d 266 1034 [l0, l1, l2, .int x] st h Q = wp μ d 266 1035 [l0, l1, l2, .int x] (.int x :: st) h Q := wp_nx rfl
set_option maxRecDepth 20000 in
theorem r266_1035 (μ : Bool) (d : Nat) (l0 : Value) (l1 : Value) (l2 : Value) (l3 : Value) (st : List Value) (h : Hp) (Q : Po) : wp μ d 266 1035 [l0, l1, l2, l3] st h Q = wp μ d 266 1036 [l0, l1, l2, l3] (.int (nI 1) :: st) h Q := (wp_nx rfl).trans (congrArg (fun z => wp μ d 266 1036 [l0, l1, l2, l3] (.int z :: st) h Q) (show Int32.ofInt (1) = (nI 1) by decide))
set_option maxRecDepth 20000 in
theorem r266_1036 (μ : Bool) (d : Nat) (l0 : Value) (l1 : Value) (l2 : Value) (l3 : Value) (y0 y1 : Int32) (st : List Value) (h : Hp) (Q : Po) : wp μ d 266 1036 [l0, l1, l2, l3] (.int y0 :: .int y1 :: st) h Q = wp μ d 266 1037 [l0, l1, l2, l3] (.int (y1 + y0) :: st) h Q := wp_nx rfl
set_option maxRecDepth 20000 in
theorem r266_1037 (μ : Bool) (d : Nat) (l0 : Value) (l1 : Value) (l2 : Value) (l3 : Value) (y0 : Int32) (y1 : Nat) (st : List Value) (h : Hp) (Q : Po) : wp μ d 266 1037 [l0, l1, l2, l3] (.int y0 :: .ref y1 :: st) h Q = (((kdm μ h y1).1 = 20 ∧ vp_in y0 (kdm μ h y1).2) ∧ wp μ d 266 1038 [l0, l1, l2, l3] (.int (gI h y1 y0.toNatClampNeg) :: st) h Q) := wp_ck _ rfl
set_option maxRecDepth 20000 in
theorem r266_1037t (μ : Bool) (d : Nat) (l0 : Value) (l1 : Value) (l2 : Value) (l3 : Value) (y0 : Int32) (st : List Value) (h : Hp) (Q : Po) : wp μ d 266 1037 [l0, l1, l2, l3] (.int y0 :: .retAddr 1 :: st) h Q = (vp_in y0 (hk h 0).2 ∧ wp μ d 266 1038 [l0, l1, l2, l3] (.int (gI h 0 y0.toNatClampNeg) :: st) h Q) := wp_ck _ rfl
set_option maxRecDepth 20000 in
theorem r266_1038 (μ : Bool) (d : Nat) (l1 : Value) (l2 : Value) (l3 : Value) (x : Nat) (st : List Value) (h : Hp) (Q : Po) : wp μ d 266 1038 [.ref x, l1, l2, l3] st h Q = wp μ d 266 1039 [.ref x, l1, l2, l3] (.ref x :: st) h Q := wp_nx rfl
set_option maxRecDepth 20000 in
theorem r266_1038t (μ : Bool) (d : Nat) (l1 : Value) (l2 : Value) (l3 : Value) (x : Nat) (st : List Value) (h : Hp) (Q : Po) : wp μ d 266 1038 [.retAddr x, l1, l2, l3] st h Q = wp μ d 266 1039 [.retAddr x, l1, l2, l3] (.retAddr x :: st) h Q := wp_nx rfl
set_option maxRecDepth 20000 in
theorem r266_1039 (μ : Bool) (d : Nat) (l0 : Value) (l1 : Value) (l2 : Value) (x : Int32) (st : List Value) (h : Hp) (Q : Po) : wp μ d 266 1039 [l0, l1, l2, .int x] st h Q = wp μ d 266 1040 [l0, l1, l2, .int x] (.int x :: st) h Q := wp_nx rfl
set_option maxRecDepth 20000 in
theorem r266_1040 (μ : Bool) (d : Nat) (l0 : Value) (l1 : Value) (l2 : Value) (l3 : Value) (st : List Value) (h : Hp) (Q : Po) : wp μ d 266 1040 [l0, l1, l2, l3] st h Q = wp μ d 266 1041 [l0, l1, l2, l3] (.int (nI 2) :: st) h Q := (wp_nx rfl).trans (congrArg (fun z => wp μ d 266 1041 [l0, l1, l2, l3] (.int z :: st) h Q) (show Int32.ofInt (2) = (nI 2) by decide))
set_option maxRecDepth 20000 in
theorem r266_1041 (μ : Bool) (d : Nat) (l0 : Value) (l1 : Value) (l2 : Value) (l3 : Value) (y0 y1 : Int32) (st : List Value) (h : Hp) (Q : Po) : wp μ d 266 1041 [l0, l1, l2, l3] (.int y0 :: .int y1 :: st) h Q = wp μ d 266 1042 [l0, l1, l2, l3] (.int (y1 + y0) :: st) h Q := wp_nx rfl
set_option maxRecDepth 20000 in
theorem r266_1042 (μ : Bool) (d : Nat) (l0 : Value) (l1 : Value) (l2 : Value) (l3 : Value) (y0 : Int32) (y1 : Nat) (st : List Value) (h : Hp) (Q : Po) : wp μ d 266 1042 [l0, l1, l2, l3] (.int y0 :: .ref y1 :: st) h Q = (((kdm μ h y1).1 = 20 ∧ vp_in y0 (kdm μ h y1).2) ∧ wp μ d 266 1043 [l0, l1, l2, l3] (.int (gI h y1 y0.toNatClampNeg) :: st) h Q) := wp_ck _ rfl
set_option maxRecDepth 20000 in
theorem r266_1042t (μ : Bool) (d : Nat) (l0 : Value) (l1 : Value) (l2 : Value) (l3 : Value) (y0 : Int32) (st : List Value) (h : Hp) (Q : Po) : wp μ d 266 1042 [l0, l1, l2, l3] (.int y0 :: .retAddr 1 :: st) h Q = (vp_in y0 (hk h 0).2 ∧ wp μ d 266 1043 [l0, l1, l2, l3] (.int (gI h 0 y0.toNatClampNeg) :: st) h Q) := wp_ck _ rfl
set_option maxRecDepth 20000 in
theorem r266_1043 (μ : Bool) (d : Nat) (l1 : Value) (l2 : Value) (l3 : Value) (x : Nat) (st : List Value) (h : Hp) (Q : Po) : wp μ d 266 1043 [.ref x, l1, l2, l3] st h Q = wp μ d 266 1044 [.ref x, l1, l2, l3] (.ref x :: st) h Q := wp_nx rfl
set_option maxRecDepth 20000 in
theorem r266_1043t (μ : Bool) (d : Nat) (l1 : Value) (l2 : Value) (l3 : Value) (x : Nat) (st : List Value) (h : Hp) (Q : Po) : wp μ d 266 1043 [.retAddr x, l1, l2, l3] st h Q = wp μ d 266 1044 [.retAddr x, l1, l2, l3] (.retAddr x :: st) h Q := wp_nx rfl
set_option maxRecDepth 20000 in
theorem r266_1044 (μ : Bool) (d : Nat) (l0 : Value) (l1 : Value) (l2 : Value) (x : Int32) (st : List Value) (h : Hp) (Q : Po) : wp μ d 266 1044 [l0, l1, l2, .int x] st h Q = wp μ d 266 1045 [l0, l1, l2, .int x] (.int x :: st) h Q := wp_nx rfl
set_option maxRecDepth 20000 in
theorem r266_1045 (μ : Bool) (d : Nat) (l0 : Value) (l1 : Value) (l2 : Value) (l3 : Value) (st : List Value) (h : Hp) (Q : Po) : wp μ d 266 1045 [l0, l1, l2, l3] st h Q = wp μ d 266 1046 [l0, l1, l2, l3] (.int (nI 3) :: st) h Q := (wp_nx rfl).trans (congrArg (fun z => wp μ d 266 1046 [l0, l1, l2, l3] (.int z :: st) h Q) (show Int32.ofInt (3) = (nI 3) by decide))
set_option maxRecDepth 20000 in
theorem r266_1046 (μ : Bool) (d : Nat) (l0 : Value) (l1 : Value) (l2 : Value) (l3 : Value) (y0 y1 : Int32) (st : List Value) (h : Hp) (Q : Po) : wp μ d 266 1046 [l0, l1, l2, l3] (.int y0 :: .int y1 :: st) h Q = wp μ d 266 1047 [l0, l1, l2, l3] (.int (y1 + y0) :: st) h Q := wp_nx rfl
set_option maxRecDepth 20000 in
theorem r266_1047 (μ : Bool) (d : Nat) (l0 : Value) (l1 : Value) (l2 : Value) (l3 : Value) (y0 : Int32) (y1 : Nat) (st : List Value) (h : Hp) (Q : Po) : wp μ d 266 1047 [l0, l1, l2, l3] (.int y0 :: .ref y1 :: st) h Q = (((kdm μ h y1).1 = 20 ∧ vp_in y0 (kdm μ h y1).2) ∧ wp μ d 266 1048 [l0, l1, l2, l3] (.int (gI h y1 y0.toNatClampNeg) :: st) h Q) := wp_ck _ rfl
set_option maxRecDepth 20000 in
theorem r266_1047t (μ : Bool) (d : Nat) (l0 : Value) (l1 : Value) (l2 : Value) (l3 : Value) (y0 : Int32) (st : List Value) (h : Hp) (Q : Po) : wp μ d 266 1047 [l0, l1, l2, l3] (.int y0 :: .retAddr 1 :: st) h Q = (vp_in y0 (hk h 0).2 ∧ wp μ d 266 1048 [l0, l1, l2, l3] (.int (gI h 0 y0.toNatClampNeg) :: st) h Q) := wp_ck _ rfl
set_option maxRecDepth 20000 in
theorem r266_1048 (μ : Bool) (d : Nat) (l1 : Value) (l2 : Value) (l3 : Value) (x : Nat) (st : List Value) (h : Hp) (Q : Po) : wp μ d 266 1048 [.ref x, l1, l2, l3] st h Q = wp μ d 266 1049 [.ref x, l1, l2, l3] (.ref x :: st) h Q := wp_nx rfl
set_option maxRecDepth 20000 in
theorem r266_1048t (μ : Bool) (d : Nat) (l1 : Value) (l2 : Value) (l3 : Value) (x : Nat) (st : List Value) (h : Hp) (Q : Po) : wp μ d 266 1048 [.retAddr x, l1, l2, l3] st h Q = wp μ d 266 1049 [.retAddr x, l1, l2, l3] (.retAddr x :: st) h Q := wp_nx rfl
set_option maxRecDepth 20000 in
theorem r266_1049 (μ : Bool) (d : Nat) (l0 : Value) (l1 : Value) (l2 : Value) (x : Int32) (st : List Value) (h : Hp) (Q : Po) : wp μ d 266 1049 [l0, l1, l2, .int x] st h Q = wp μ d 266 1050 [l0, l1, l2, .int x] (.int x :: st) h Q := wp_nx rfl
set_option maxRecDepth 20000 in
theorem r266_1050 (μ : Bool) (d : Nat) (l0 : Value) (l1 : Value) (l2 : Value) (l3 : Value) (st : List Value) (h : Hp) (Q : Po) : wp μ d 266 1050 [l0, l1, l2, l3] st h Q = wp μ d 266 1051 [l0, l1, l2, l3] (.int (nI 4) :: st) h Q := (wp_nx rfl).trans (congrArg (fun z => wp μ d 266 1051 [l0, l1, l2, l3] (.int z :: st) h Q) (show Int32.ofInt (4) = (nI 4) by decide))
set_option maxRecDepth 20000 in
theorem r266_1051 (μ : Bool) (d : Nat) (l0 : Value) (l1 : Value) (l2 : Value) (l3 : Value) (y0 y1 : Int32) (st : List Value) (h : Hp) (Q : Po) : wp μ d 266 1051 [l0, l1, l2, l3] (.int y0 :: .int y1 :: st) h Q = wp μ d 266 1052 [l0, l1, l2, l3] (.int (y1 + y0) :: st) h Q := wp_nx rfl
set_option maxRecDepth 20000 in
theorem r266_1052 (μ : Bool) (d : Nat) (l0 : Value) (l1 : Value) (l2 : Value) (l3 : Value) (y0 : Int32) (y1 : Nat) (st : List Value) (h : Hp) (Q : Po) : wp μ d 266 1052 [l0, l1, l2, l3] (.int y0 :: .ref y1 :: st) h Q = (((kdm μ h y1).1 = 20 ∧ vp_in y0 (kdm μ h y1).2) ∧ wp μ d 266 1053 [l0, l1, l2, l3] (.int (gI h y1 y0.toNatClampNeg) :: st) h Q) := wp_ck _ rfl
set_option maxRecDepth 20000 in
theorem r266_1052t (μ : Bool) (d : Nat) (l0 : Value) (l1 : Value) (l2 : Value) (l3 : Value) (y0 : Int32) (st : List Value) (h : Hp) (Q : Po) : wp μ d 266 1052 [l0, l1, l2, l3] (.int y0 :: .retAddr 1 :: st) h Q = (vp_in y0 (hk h 0).2 ∧ wp μ d 266 1053 [l0, l1, l2, l3] (.int (gI h 0 y0.toNatClampNeg) :: st) h Q) := wp_ck _ rfl
set_option maxRecDepth 20000 in
theorem r266_1053 (μ : Bool) (d : Nat) (l1 : Value) (l2 : Value) (l3 : Value) (x : Nat) (st : List Value) (h : Hp) (Q : Po) : wp μ d 266 1053 [.ref x, l1, l2, l3] st h Q = wp μ d 266 1054 [.ref x, l1, l2, l3] (.ref x :: st) h Q := wp_nx rfl
set_option maxRecDepth 20000 in
theorem r266_1053t (μ : Bool) (d : Nat) (l1 : Value) (l2 : Value) (l3 : Value) (x : Nat) (st : List Value) (h : Hp) (Q : Po) : wp μ d 266 1053 [.retAddr x, l1, l2, l3] st h Q = wp μ d 266 1054 [.retAddr x, l1, l2, l3] (.retAddr x :: st) h Q := wp_nx rfl
set_option maxRecDepth 20000 in
theorem r266_1054 (μ : Bool) (d : Nat) (l0 : Value) (l1 : Value) (l2 : Value) (x : Int32) (st : List Value) (h : Hp) (Q : Po) : wp μ d 266 1054 [l0, l1, l2, .int x] st h Q = wp μ d 266 1055 [l0, l1, l2, .int x] (.int x :: st) h Q := wp_nx rfl
set_option maxRecDepth 20000 in
theorem r266_1055 (μ : Bool) (d : Nat) (l0 : Value) (l1 : Value) (l2 : Value) (l3 : Value) (st : List Value) (h : Hp) (Q : Po) : wp μ d 266 1055 [l0, l1, l2, l3] st h Q = wp μ d 266 1056 [l0, l1, l2, l3] (.int (nI 5) :: st) h Q := (wp_nx rfl).trans (congrArg (fun z => wp μ d 266 1056 [l0, l1, l2, l3] (.int z :: st) h Q) (show Int32.ofInt (5) = (nI 5) by decide))
set_option maxRecDepth 20000 in
theorem r266_1056 (μ : Bool) (d : Nat) (l0 : Value) (l1 : Value) (l2 : Value) (l3 : Value) (y0 y1 : Int32) (st : List Value) (h : Hp) (Q : Po) : wp μ d 266 1056 [l0, l1, l2, l3] (.int y0 :: .int y1 :: st) h Q = wp μ d 266 1057 [l0, l1, l2, l3] (.int (y1 + y0) :: st) h Q := wp_nx rfl
set_option maxRecDepth 20000 in
theorem r266_1057 (μ : Bool) (d : Nat) (l0 : Value) (l1 : Value) (l2 : Value) (l3 : Value) (y0 : Int32) (y1 : Nat) (st : List Value) (h : Hp) (Q : Po) : wp μ d 266 1057 [l0, l1, l2, l3] (.int y0 :: .ref y1 :: st) h Q = (((kdm μ h y1).1 = 20 ∧ vp_in y0 (kdm μ h y1).2) ∧ wp μ d 266 1058 [l0, l1, l2, l3] (.int (gI h y1 y0.toNatClampNeg) :: st) h Q) := wp_ck _ rfl
set_option maxRecDepth 20000 in
theorem r266_1057t (μ : Bool) (d : Nat) (l0 : Value) (l1 : Value) (l2 : Value) (l3 : Value) (y0 : Int32) (st : List Value) (h : Hp) (Q : Po) : wp μ d 266 1057 [l0, l1, l2, l3] (.int y0 :: .retAddr 1 :: st) h Q = (vp_in y0 (hk h 0).2 ∧ wp μ d 266 1058 [l0, l1, l2, l3] (.int (gI h 0 y0.toNatClampNeg) :: st) h Q) := wp_ck _ rfl
set_option maxRecDepth 20000 in
theorem r266_1058 (μ : Bool) (d : Nat) (l0 : Value) (l1 : Value) (l2 : Value) (l3 : Value) (y0 : Int32) (y1 : Int32) (y2 : Int32) (y3 : Int32) (y4 : Int32) (y5 : Nat) (y6 : Int32) (h : Hp) (Q : Po) : wp μ (d + 1) 266 1058 [l0, l1, l2, l3] [.int y0, .int y1, .int y2, .int y3, .int y4, .ref y5, .int y6] h Q = ((kdm μ h y5).1 = 12 ∧ cwp μ d 238 [.ref y5, .int y4, .int y3, .int y2, .int y1, .int y0] h (fun r h' => wp μ (d + 1) 266 1061 [l0, l1, l2, l3] (r.toList ++ [.int y6]) h' Q)) := wp_kc _ True rfl ⟨fun q => by obtain ⟨x, q1, q2⟩ := q.2.2.1 rfl; cases q1; exact q2, fun q => ⟨Nat.le_of_ble_eq_true rfl, ⟨Nat.le_of_ble_eq_true rfl, rfl, Nat.le_of_ble_eq_true rfl⟩, fun _ => ⟨_, rfl, q⟩, fun q9 => absurd q9 (by decide)⟩⟩
set_option maxRecDepth 20000 in
theorem r266_1061 (μ : Bool) (d : Nat) (l0 : Value) (l1 : Value) (l2 : Value) (l3 : Value) (y0 y1 : Int32) (st : List Value) (h : Hp) (Q : Po) : wp μ d 266 1061 [l0, l1, l2, l3] (.int y0 :: .int y1 :: st) h Q = if y1 = y0 then wp μ d 266 1545 [l0, l1, l2, l3] st h Q else wp μ d 266 1064 [l0, l1, l2, l3] st h Q := wp_br (y1 = y0) rfl
set_option maxRecDepth 20000 in
theorem r266_1064 (μ : Bool) (d : Nat) (l0 : Value) (l1 : Value) (l2 : Value) (l3 : Value) (st : List Value) (h : Hp) (Q : Po) : wp μ d 266 1064 [l0, l1, l2, l3] st h Q = wp μ d 266 1065 [l0, l1, l2, l3] (.int (nI 0) :: st) h Q := (wp_nx rfl).trans (congrArg (fun z => wp μ d 266 1065 [l0, l1, l2, l3] (.int z :: st) h Q) (show Int32.ofInt (0) = (nI 0) by decide))
set_option maxRecDepth 20000 in
theorem r266_1065 (μ : Bool) (d : Nat) (l0 : Value) (l1 : Value) (l2 : Value) (l3 : Value) (y0 : Int32) (h : Hp) (Q : Po) : wp μ d 266 1065 [l0, l1, l2, l3] [.int y0] h Q = ((y0 = nI 0 ∨ y0 = nI 1) ∧ Q (some (.int y0)) h) := (wp_rc _ rfl).trans (by rw [show retOk (rM 266) y0 = (narrow .boolean (.int y0) = .int y0) from rfl, nz_iff]; rfl)
set_option maxRecDepth 20000 in
theorem r266_1066 (μ : Bool) (d : Nat) (l0 : Value) (l2 : Value) (l3 : Value) (x : Nat) (st : List Value) (h : Hp) (Q : Po) : wp μ d 266 1066 [l0, .ref x, l2, l3] st h Q = wp μ d 266 1067 [l0, .ref x, l2, l3] (.ref x :: st) h Q := wp_nx rfl
set_option maxRecDepth 20000 in
theorem r266_1066n (μ : Bool) (d : Nat) (l0 : Value) (l2 : Value) (l3 : Value) (st : List Value) (h : Hp) (Q : Po) : wp μ d 266 1066 [l0, .null, l2, l3] st h Q = wp μ d 266 1067 [l0, .null, l2, l3] (.null :: st) h Q := wp_nx rfl
set_option maxRecDepth 20000 in
theorem r266_1066t (μ : Bool) (d : Nat) (l0 : Value) (l2 : Value) (l3 : Value) (x : Nat) (st : List Value) (h : Hp) (Q : Po) : wp μ d 266 1066 [l0, .retAddr x, l2, l3] st h Q = wp μ d 266 1067 [l0, .retAddr x, l2, l3] (.retAddr x :: st) h Q := wp_nx rfl
set_option maxRecDepth 20000 in
theorem r266_1067 (μ : Bool) (d : Nat) (l1 : Value) (l2 : Value) (l3 : Value) (x : Nat) (st : List Value) (h : Hp) (Q : Po) : wp μ d 266 1067 [.ref x, l1, l2, l3] st h Q = wp μ d 266 1068 [.ref x, l1, l2, l3] (.ref x :: st) h Q := wp_nx rfl
set_option maxRecDepth 20000 in
theorem r266_1067t (μ : Bool) (d : Nat) (l1 : Value) (l2 : Value) (l3 : Value) (x : Nat) (st : List Value) (h : Hp) (Q : Po) : wp μ d 266 1067 [.retAddr x, l1, l2, l3] st h Q = wp μ d 266 1068 [.retAddr x, l1, l2, l3] (.retAddr x :: st) h Q := wp_nx rfl
set_option maxRecDepth 20000 in
theorem r266_1068 (μ : Bool) (d : Nat) (l0 : Value) (l1 : Value) (l2 : Value) (x : Int32) (st : List Value) (h : Hp) (Q : Po) : wp μ d 266 1068 [l0, l1, l2, .int x] st h Q = wp μ d 266 1069 [l0, l1, l2, .int x] (.int x :: st) h Q := wp_nx rfl
set_option maxRecDepth 20000 in
theorem r266_1069 (μ : Bool) (d : Nat) (l0 : Value) (l1 : Value) (l2 : Value) (l3 : Value) (st : List Value) (h : Hp) (Q : Po) : wp μ d 266 1069 [l0, l1, l2, l3] st h Q = wp μ d 266 1070 [l0, l1, l2, l3] (.int (nI 1) :: st) h Q := (wp_nx rfl).trans (congrArg (fun z => wp μ d 266 1070 [l0, l1, l2, l3] (.int z :: st) h Q) (show Int32.ofInt (1) = (nI 1) by decide))
set_option maxRecDepth 20000 in
theorem r266_1070 (μ : Bool) (d : Nat) (l0 : Value) (l1 : Value) (l2 : Value) (l3 : Value) (y0 y1 : Int32) (st : List Value) (h : Hp) (Q : Po) : wp μ d 266 1070 [l0, l1, l2, l3] (.int y0 :: .int y1 :: st) h Q = wp μ d 266 1071 [l0, l1, l2, l3] (.int (y1 + y0) :: st) h Q := wp_nx rfl
set_option maxRecDepth 20000 in
theorem r266_1071 (μ : Bool) (d : Nat) (l0 : Value) (l1 : Value) (l2 : Value) (l3 : Value) (y0 : Int32) (y1 : Nat) (st : List Value) (h : Hp) (Q : Po) : wp μ d 266 1071 [l0, l1, l2, l3] (.int y0 :: .ref y1 :: st) h Q = (((kdm μ h y1).1 = 20 ∧ vp_in y0 (kdm μ h y1).2) ∧ wp μ d 266 1072 [l0, l1, l2, l3] (.int (gI h y1 y0.toNatClampNeg) :: st) h Q) := wp_ck _ rfl
set_option maxRecDepth 20000 in
theorem r266_1071t (μ : Bool) (d : Nat) (l0 : Value) (l1 : Value) (l2 : Value) (l3 : Value) (y0 : Int32) (st : List Value) (h : Hp) (Q : Po) : wp μ d 266 1071 [l0, l1, l2, l3] (.int y0 :: .retAddr 1 :: st) h Q = (vp_in y0 (hk h 0).2 ∧ wp μ d 266 1072 [l0, l1, l2, l3] (.int (gI h 0 y0.toNatClampNeg) :: st) h Q) := wp_ck _ rfl
set_option maxRecDepth 20000 in
theorem r266_1072 (μ : Bool) (d : Nat) (l1 : Value) (l2 : Value) (l3 : Value) (x : Nat) (st : List Value) (h : Hp) (Q : Po) : wp μ d 266 1072 [.ref x, l1, l2, l3] st h Q = wp μ d 266 1073 [.ref x, l1, l2, l3] (.ref x :: st) h Q := wp_nx rfl
set_option maxRecDepth 20000 in
theorem r266_1072t (μ : Bool) (d : Nat) (l1 : Value) (l2 : Value) (l3 : Value) (x : Nat) (st : List Value) (h : Hp) (Q : Po) : wp μ d 266 1072 [.retAddr x, l1, l2, l3] st h Q = wp μ d 266 1073 [.retAddr x, l1, l2, l3] (.retAddr x :: st) h Q := wp_nx rfl
set_option maxRecDepth 20000 in
theorem r266_1073 (μ : Bool) (d : Nat) (l0 : Value) (l1 : Value) (l2 : Value) (x : Int32) (st : List Value) (h : Hp) (Q : Po) : wp μ d 266 1073 [l0, l1, l2, .int x] st h Q = wp μ d 266 1074 [l0, l1, l2, .int x] (.int x :: st) h Q := wp_nx rfl
set_option maxRecDepth 20000 in
theorem r266_1074 (μ : Bool) (d : Nat) (l0 : Value) (l1 : Value) (l2 : Value) (l3 : Value) (st : List Value) (h : Hp) (Q : Po) : wp μ d 266 1074 [l0, l1, l2, l3] st h Q = wp μ d 266 1075 [l0, l1, l2, l3] (.int (nI 2) :: st) h Q := (wp_nx rfl).trans (congrArg (fun z => wp μ d 266 1075 [l0, l1, l2, l3] (.int z :: st) h Q) (show Int32.ofInt (2) = (nI 2) by decide))
set_option maxRecDepth 20000 in
theorem r266_1075 (μ : Bool) (d : Nat) (l0 : Value) (l1 : Value) (l2 : Value) (l3 : Value) (y0 y1 : Int32) (st : List Value) (h : Hp) (Q : Po) : wp μ d 266 1075 [l0, l1, l2, l3] (.int y0 :: .int y1 :: st) h Q = wp μ d 266 1076 [l0, l1, l2, l3] (.int (y1 + y0) :: st) h Q := wp_nx rfl
set_option maxRecDepth 20000 in
theorem r266_1076 (μ : Bool) (d : Nat) (l0 : Value) (l1 : Value) (l2 : Value) (l3 : Value) (y0 : Int32) (y1 : Nat) (st : List Value) (h : Hp) (Q : Po) : wp μ d 266 1076 [l0, l1, l2, l3] (.int y0 :: .ref y1 :: st) h Q = (((kdm μ h y1).1 = 20 ∧ vp_in y0 (kdm μ h y1).2) ∧ wp μ d 266 1077 [l0, l1, l2, l3] (.int (gI h y1 y0.toNatClampNeg) :: st) h Q) := wp_ck _ rfl
set_option maxRecDepth 20000 in
theorem r266_1076t (μ : Bool) (d : Nat) (l0 : Value) (l1 : Value) (l2 : Value) (l3 : Value) (y0 : Int32) (st : List Value) (h : Hp) (Q : Po) : wp μ d 266 1076 [l0, l1, l2, l3] (.int y0 :: .retAddr 1 :: st) h Q = (vp_in y0 (hk h 0).2 ∧ wp μ d 266 1077 [l0, l1, l2, l3] (.int (gI h 0 y0.toNatClampNeg) :: st) h Q) := wp_ck _ rfl
set_option maxRecDepth 20000 in
theorem r266_1077 (μ : Bool) (d : Nat) (l1 : Value) (l2 : Value) (l3 : Value) (x : Nat) (st : List Value) (h : Hp) (Q : Po) : wp μ d 266 1077 [.ref x, l1, l2, l3] st h Q = wp μ d 266 1078 [.ref x, l1, l2, l3] (.ref x :: st) h Q := wp_nx rfl
set_option maxRecDepth 20000 in
theorem r266_1077t (μ : Bool) (d : Nat) (l1 : Value) (l2 : Value) (l3 : Value) (x : Nat) (st : List Value) (h : Hp) (Q : Po) : wp μ d 266 1077 [.retAddr x, l1, l2, l3] st h Q = wp μ d 266 1078 [.retAddr x, l1, l2, l3] (.retAddr x :: st) h Q := wp_nx rfl
set_option maxRecDepth 20000 in
theorem r266_1078 (μ : Bool) (d : Nat) (l0 : Value) (l1 : Value) (l2 : Value) (x : Int32) (st : List Value) (h : Hp) (Q : Po) : wp μ d 266 1078 [l0, l1, l2, .int x] st h Q = wp μ d 266 1079 [l0, l1, l2, .int x] (.int x :: st) h Q := wp_nx rfl
set_option maxRecDepth 20000 in
theorem r266_1079 (μ : Bool) (d : Nat) (l0 : Value) (l1 : Value) (l2 : Value) (l3 : Value) (st : List Value) (h : Hp) (Q : Po) : wp μ d 266 1079 [l0, l1, l2, l3] st h Q = wp μ d 266 1080 [l0, l1, l2, l3] (.int (nI 3) :: st) h Q := (wp_nx rfl).trans (congrArg (fun z => wp μ d 266 1080 [l0, l1, l2, l3] (.int z :: st) h Q) (show Int32.ofInt (3) = (nI 3) by decide))
set_option maxRecDepth 20000 in
theorem r266_1080 (μ : Bool) (d : Nat) (l0 : Value) (l1 : Value) (l2 : Value) (l3 : Value) (y0 y1 : Int32) (st : List Value) (h : Hp) (Q : Po) : wp μ d 266 1080 [l0, l1, l2, l3] (.int y0 :: .int y1 :: st) h Q = wp μ d 266 1081 [l0, l1, l2, l3] (.int (y1 + y0) :: st) h Q := wp_nx rfl
set_option maxRecDepth 20000 in
theorem r266_1081 (μ : Bool) (d : Nat) (l0 : Value) (l1 : Value) (l2 : Value) (l3 : Value) (y0 : Int32) (y1 : Nat) (st : List Value) (h : Hp) (Q : Po) : wp μ d 266 1081 [l0, l1, l2, l3] (.int y0 :: .ref y1 :: st) h Q = (((kdm μ h y1).1 = 20 ∧ vp_in y0 (kdm μ h y1).2) ∧ wp μ d 266 1082 [l0, l1, l2, l3] (.int (gI h y1 y0.toNatClampNeg) :: st) h Q) := wp_ck _ rfl
set_option maxRecDepth 20000 in
theorem r266_1081t (μ : Bool) (d : Nat) (l0 : Value) (l1 : Value) (l2 : Value) (l3 : Value) (y0 : Int32) (st : List Value) (h : Hp) (Q : Po) : wp μ d 266 1081 [l0, l1, l2, l3] (.int y0 :: .retAddr 1 :: st) h Q = (vp_in y0 (hk h 0).2 ∧ wp μ d 266 1082 [l0, l1, l2, l3] (.int (gI h 0 y0.toNatClampNeg) :: st) h Q) := wp_ck _ rfl
set_option maxRecDepth 20000 in
theorem r266_1082 (μ : Bool) (d : Nat) (l1 : Value) (l2 : Value) (l3 : Value) (x : Nat) (st : List Value) (h : Hp) (Q : Po) : wp μ d 266 1082 [.ref x, l1, l2, l3] st h Q = wp μ d 266 1083 [.ref x, l1, l2, l3] (.ref x :: st) h Q := wp_nx rfl
set_option maxRecDepth 20000 in
theorem r266_1082t (μ : Bool) (d : Nat) (l1 : Value) (l2 : Value) (l3 : Value) (x : Nat) (st : List Value) (h : Hp) (Q : Po) : wp μ d 266 1082 [.retAddr x, l1, l2, l3] st h Q = wp μ d 266 1083 [.retAddr x, l1, l2, l3] (.retAddr x :: st) h Q := wp_nx rfl
set_option maxRecDepth 20000 in
theorem r266_1083 (μ : Bool) (d : Nat) (l0 : Value) (l1 : Value) (l2 : Value) (x : Int32) (st : List Value) (h : Hp) (Q : Po) : wp μ d 266 1083 [l0, l1, l2, .int x] st h Q = wp μ d 266 1084 [l0, l1, l2, .int x] (.int x :: st) h Q := wp_nx rfl
set_option maxRecDepth 20000 in
theorem r266_1084 (μ : Bool) (d : Nat) (l0 : Value) (l1 : Value) (l2 : Value) (l3 : Value) (st : List Value) (h : Hp) (Q : Po) : wp μ d 266 1084 [l0, l1, l2, l3] st h Q = wp μ d 266 1085 [l0, l1, l2, l3] (.int (nI 4) :: st) h Q := (wp_nx rfl).trans (congrArg (fun z => wp μ d 266 1085 [l0, l1, l2, l3] (.int z :: st) h Q) (show Int32.ofInt (4) = (nI 4) by decide))
set_option maxRecDepth 20000 in
theorem r266_1085 (μ : Bool) (d : Nat) (l0 : Value) (l1 : Value) (l2 : Value) (l3 : Value) (y0 y1 : Int32) (st : List Value) (h : Hp) (Q : Po) : wp μ d 266 1085 [l0, l1, l2, l3] (.int y0 :: .int y1 :: st) h Q = wp μ d 266 1086 [l0, l1, l2, l3] (.int (y1 + y0) :: st) h Q := wp_nx rfl
set_option maxRecDepth 20000 in
theorem r266_1086 (μ : Bool) (d : Nat) (l0 : Value) (l1 : Value) (l2 : Value) (l3 : Value) (y0 : Int32) (y1 : Nat) (st : List Value) (h : Hp) (Q : Po) : wp μ d 266 1086 [l0, l1, l2, l3] (.int y0 :: .ref y1 :: st) h Q = (((kdm μ h y1).1 = 20 ∧ vp_in y0 (kdm μ h y1).2) ∧ wp μ d 266 1087 [l0, l1, l2, l3] (.int (gI h y1 y0.toNatClampNeg) :: st) h Q) := wp_ck _ rfl
set_option maxRecDepth 20000 in
theorem r266_1086t (μ : Bool) (d : Nat) (l0 : Value) (l1 : Value) (l2 : Value) (l3 : Value) (y0 : Int32) (st : List Value) (h : Hp) (Q : Po) : wp μ d 266 1086 [l0, l1, l2, l3] (.int y0 :: .retAddr 1 :: st) h Q = (vp_in y0 (hk h 0).2 ∧ wp μ d 266 1087 [l0, l1, l2, l3] (.int (gI h 0 y0.toNatClampNeg) :: st) h Q) := wp_ck _ rfl
set_option maxRecDepth 20000 in
theorem r266_1087 (μ : Bool) (d : Nat) (l1 : Value) (l2 : Value) (l3 : Value) (x : Nat) (st : List Value) (h : Hp) (Q : Po) : wp μ d 266 1087 [.ref x, l1, l2, l3] st h Q = wp μ d 266 1088 [.ref x, l1, l2, l3] (.ref x :: st) h Q := wp_nx rfl
set_option maxRecDepth 20000 in
theorem r266_1087t (μ : Bool) (d : Nat) (l1 : Value) (l2 : Value) (l3 : Value) (x : Nat) (st : List Value) (h : Hp) (Q : Po) : wp μ d 266 1087 [.retAddr x, l1, l2, l3] st h Q = wp μ d 266 1088 [.retAddr x, l1, l2, l3] (.retAddr x :: st) h Q := wp_nx rfl
set_option maxRecDepth 20000 in
theorem r266_1088 (μ : Bool) (d : Nat) (l0 : Value) (l1 : Value) (l2 : Value) (x : Int32) (st : List Value) (h : Hp) (Q : Po) : wp μ d 266 1088 [l0, l1, l2, .int x] st h Q = wp μ d 266 1089 [l0, l1, l2, .int x] (.int x :: st) h Q := wp_nx rfl
set_option maxRecDepth 20000 in
theorem r266_1089 (μ : Bool) (d : Nat) (l0 : Value) (l1 : Value) (l2 : Value) (l3 : Value) (st : List Value) (h : Hp) (Q : Po) : wp μ d 266 1089 [l0, l1, l2, l3] st h Q = wp μ d 266 1090 [l0, l1, l2, l3] (.int (nI 5) :: st) h Q := (wp_nx rfl).trans (congrArg (fun z => wp μ d 266 1090 [l0, l1, l2, l3] (.int z :: st) h Q) (show Int32.ofInt (5) = (nI 5) by decide))
set_option maxRecDepth 20000 in
theorem r266_1090 (μ : Bool) (d : Nat) (l0 : Value) (l1 : Value) (l2 : Value) (l3 : Value) (y0 y1 : Int32) (st : List Value) (h : Hp) (Q : Po) : wp μ d 266 1090 [l0, l1, l2, l3] (.int y0 :: .int y1 :: st) h Q = wp μ d 266 1091 [l0, l1, l2, l3] (.int (y1 + y0) :: st) h Q := wp_nx rfl
set_option maxRecDepth 20000 in
theorem r266_1091 (μ : Bool) (d : Nat) (l0 : Value) (l1 : Value) (l2 : Value) (l3 : Value) (y0 : Int32) (y1 : Nat) (st : List Value) (h : Hp) (Q : Po) : wp μ d 266 1091 [l0, l1, l2, l3] (.int y0 :: .ref y1 :: st) h Q = (((kdm μ h y1).1 = 20 ∧ vp_in y0 (kdm μ h y1).2) ∧ wp μ d 266 1092 [l0, l1, l2, l3] (.int (gI h y1 y0.toNatClampNeg) :: st) h Q) := wp_ck _ rfl
set_option maxRecDepth 20000 in
theorem r266_1091t (μ : Bool) (d : Nat) (l0 : Value) (l1 : Value) (l2 : Value) (l3 : Value) (y0 : Int32) (st : List Value) (h : Hp) (Q : Po) : wp μ d 266 1091 [l0, l1, l2, l3] (.int y0 :: .retAddr 1 :: st) h Q = (vp_in y0 (hk h 0).2 ∧ wp μ d 266 1092 [l0, l1, l2, l3] (.int (gI h 0 y0.toNatClampNeg) :: st) h Q) := wp_ck _ rfl
set_option maxRecDepth 20000 in
theorem r266_1092 (μ : Bool) (d : Nat) (l0 : Value) (l1 : Value) (l2 : Value) (l3 : Value) (y0 : Int32) (y1 : Int32) (y2 : Int32) (y3 : Int32) (y4 : Int32) (y5 : Nat) (h : Hp) (Q : Po) : wp μ (d + 1) 266 1092 [l0, l1, l2, l3] [.int y0, .int y1, .int y2, .int y3, .int y4, .ref y5] h Q = ((kdm μ h y5).1 = 11 ∧ cwp μ d 112 [.ref y5, .int y4, .int y3, .int y2, .int y1, .int y0] h (fun r h' => wp μ (d + 1) 266 1095 [l0, l1, l2, l3] (r.toList ++ []) h' Q)) := wp_kc _ True rfl ⟨fun q => by obtain ⟨x, q1, q2⟩ := q.2.2.1 rfl; cases q1; exact q2, fun q => ⟨Nat.le_of_ble_eq_true rfl, ⟨Nat.le_of_ble_eq_true rfl, rfl, Nat.le_of_ble_eq_true rfl⟩, fun _ => ⟨_, rfl, q⟩, fun q9 => absurd q9 (by decide)⟩⟩
set_option maxRecDepth 20000 in
theorem r266_1095 (μ : Bool) (d : Nat) (l0 : Value) (l1 : Value) (l3 : Value) (x : Nat) (st : List Value) (h : Hp) (Q : Po) : wp μ d 266 1095 [l0, l1, .ref x, l3] st h Q = wp μ d 266 1096 [l0, l1, .ref x, l3] (.ref x :: st) h Q := wp_nx rfl
set_option maxRecDepth 20000 in
theorem r266_1095n (μ : Bool) (d : Nat) (l0 : Value) (l1 : Value) (l3 : Value) (st : List Value) (h : Hp) (Q : Po) : wp μ d 266 1095 [l0, l1, .null, l3] st h Q = wp μ d 266 1096 [l0, l1, .null, l3] (.null :: st) h Q := wp_nx rfl
set_option maxRecDepth 20000 in
theorem r266_1095t (μ : Bool) (d : Nat) (l0 : Value) (l1 : Value) (l3 : Value) (x : Nat) (st : List Value) (h : Hp) (Q : Po) : wp μ d 266 1095 [l0, l1, .retAddr x, l3] st h Q = wp μ d 266 1096 [l0, l1, .retAddr x, l3] (.retAddr x :: st) h Q := wp_nx rfl
set_option maxRecDepth 20000 in
theorem r266_1096 (μ : Bool) (d : Nat) (l1 : Value) (l2 : Value) (l3 : Value) (x : Nat) (st : List Value) (h : Hp) (Q : Po) : wp μ d 266 1096 [.ref x, l1, l2, l3] st h Q = wp μ d 266 1097 [.ref x, l1, l2, l3] (.ref x :: st) h Q := wp_nx rfl
set_option maxRecDepth 20000 in
theorem r266_1096t (μ : Bool) (d : Nat) (l1 : Value) (l2 : Value) (l3 : Value) (x : Nat) (st : List Value) (h : Hp) (Q : Po) : wp μ d 266 1096 [.retAddr x, l1, l2, l3] st h Q = wp μ d 266 1097 [.retAddr x, l1, l2, l3] (.retAddr x :: st) h Q := wp_nx rfl
set_option maxRecDepth 20000 in
theorem r266_1097 (μ : Bool) (d : Nat) (l0 : Value) (l1 : Value) (l2 : Value) (x : Int32) (st : List Value) (h : Hp) (Q : Po) : wp μ d 266 1097 [l0, l1, l2, .int x] st h Q = wp μ d 266 1098 [l0, l1, l2, .int x] (.int x :: st) h Q := wp_nx rfl
set_option maxRecDepth 20000 in
theorem r266_1098 (μ : Bool) (d : Nat) (l0 : Value) (l1 : Value) (l2 : Value) (l3 : Value) (st : List Value) (h : Hp) (Q : Po) : wp μ d 266 1098 [l0, l1, l2, l3] st h Q = wp μ d 266 1099 [l0, l1, l2, l3] (.int (nI 1) :: st) h Q := (wp_nx rfl).trans (congrArg (fun z => wp μ d 266 1099 [l0, l1, l2, l3] (.int z :: st) h Q) (show Int32.ofInt (1) = (nI 1) by decide))
set_option maxRecDepth 20000 in
theorem r266_1099 (μ : Bool) (d : Nat) (l0 : Value) (l1 : Value) (l2 : Value) (l3 : Value) (y0 y1 : Int32) (st : List Value) (h : Hp) (Q : Po) : wp μ d 266 1099 [l0, l1, l2, l3] (.int y0 :: .int y1 :: st) h Q = wp μ d 266 1100 [l0, l1, l2, l3] (.int (y1 + y0) :: st) h Q := wp_nx rfl
set_option maxRecDepth 20000 in
theorem r266_1100 (μ : Bool) (d : Nat) (l0 : Value) (l1 : Value) (l2 : Value) (l3 : Value) (y0 : Int32) (y1 : Nat) (st : List Value) (h : Hp) (Q : Po) : wp μ d 266 1100 [l0, l1, l2, l3] (.int y0 :: .ref y1 :: st) h Q = (((kdm μ h y1).1 = 20 ∧ vp_in y0 (kdm μ h y1).2) ∧ wp μ d 266 1101 [l0, l1, l2, l3] (.int (gI h y1 y0.toNatClampNeg) :: st) h Q) := wp_ck _ rfl
set_option maxRecDepth 20000 in
theorem r266_1100t (μ : Bool) (d : Nat) (l0 : Value) (l1 : Value) (l2 : Value) (l3 : Value) (y0 : Int32) (st : List Value) (h : Hp) (Q : Po) : wp μ d 266 1100 [l0, l1, l2, l3] (.int y0 :: .retAddr 1 :: st) h Q = (vp_in y0 (hk h 0).2 ∧ wp μ d 266 1101 [l0, l1, l2, l3] (.int (gI h 0 y0.toNatClampNeg) :: st) h Q) := wp_ck _ rfl
set_option maxRecDepth 20000 in
theorem r266_1101 (μ : Bool) (d : Nat) (l1 : Value) (l2 : Value) (l3 : Value) (x : Nat) (st : List Value) (h : Hp) (Q : Po) : wp μ d 266 1101 [.ref x, l1, l2, l3] st h Q = wp μ d 266 1102 [.ref x, l1, l2, l3] (.ref x :: st) h Q := wp_nx rfl
set_option maxRecDepth 20000 in
theorem r266_1101t (μ : Bool) (d : Nat) (l1 : Value) (l2 : Value) (l3 : Value) (x : Nat) (st : List Value) (h : Hp) (Q : Po) : wp μ d 266 1101 [.retAddr x, l1, l2, l3] st h Q = wp μ d 266 1102 [.retAddr x, l1, l2, l3] (.retAddr x :: st) h Q := wp_nx rfl
set_option maxRecDepth 20000 in
theorem r266_1102 (μ : Bool) (d : Nat) (l0 : Value) (l1 : Value) (l2 : Value) (x : Int32) (st : List Value) (h : Hp) (Q : Po) : wp μ d 266 1102 [l0, l1, l2, .int x] st h Q = wp μ d 266 1103 [l0, l1, l2, .int x] (.int x :: st) h Q := wp_nx rfl
set_option maxRecDepth 20000 in
theorem r266_1103 (μ : Bool) (d : Nat) (l0 : Value) (l1 : Value) (l2 : Value) (l3 : Value) (st : List Value) (h : Hp) (Q : Po) : wp μ d 266 1103 [l0, l1, l2, l3] st h Q = wp μ d 266 1104 [l0, l1, l2, l3] (.int (nI 2) :: st) h Q := (wp_nx rfl).trans (congrArg (fun z => wp μ d 266 1104 [l0, l1, l2, l3] (.int z :: st) h Q) (show Int32.ofInt (2) = (nI 2) by decide))
set_option maxRecDepth 20000 in
theorem r266_1104 (μ : Bool) (d : Nat) (l0 : Value) (l1 : Value) (l2 : Value) (l3 : Value) (y0 y1 : Int32) (st : List Value) (h : Hp) (Q : Po) : wp μ d 266 1104 [l0, l1, l2, l3] (.int y0 :: .int y1 :: st) h Q = wp μ d 266 1105 [l0, l1, l2, l3] (.int (y1 + y0) :: st) h Q := wp_nx rfl
set_option maxRecDepth 20000 in
theorem r266_1105 (μ : Bool) (d : Nat) (l0 : Value) (l1 : Value) (l2 : Value) (l3 : Value) (y0 : Int32) (y1 : Nat) (st : List Value) (h : Hp) (Q : Po) : wp μ d 266 1105 [l0, l1, l2, l3] (.int y0 :: .ref y1 :: st) h Q = (((kdm μ h y1).1 = 20 ∧ vp_in y0 (kdm μ h y1).2) ∧ wp μ d 266 1106 [l0, l1, l2, l3] (.int (gI h y1 y0.toNatClampNeg) :: st) h Q) := wp_ck _ rfl
set_option maxRecDepth 20000 in
theorem r266_1105t (μ : Bool) (d : Nat) (l0 : Value) (l1 : Value) (l2 : Value) (l3 : Value) (y0 : Int32) (st : List Value) (h : Hp) (Q : Po) : wp μ d 266 1105 [l0, l1, l2, l3] (.int y0 :: .retAddr 1 :: st) h Q = (vp_in y0 (hk h 0).2 ∧ wp μ d 266 1106 [l0, l1, l2, l3] (.int (gI h 0 y0.toNatClampNeg) :: st) h Q) := wp_ck _ rfl
set_option maxRecDepth 20000 in
theorem r266_1106 (μ : Bool) (d : Nat) (l1 : Value) (l2 : Value) (l3 : Value) (x : Nat) (st : List Value) (h : Hp) (Q : Po) : wp μ d 266 1106 [.ref x, l1, l2, l3] st h Q = wp μ d 266 1107 [.ref x, l1, l2, l3] (.ref x :: st) h Q := wp_nx rfl
set_option maxRecDepth 20000 in
theorem r266_1106t (μ : Bool) (d : Nat) (l1 : Value) (l2 : Value) (l3 : Value) (x : Nat) (st : List Value) (h : Hp) (Q : Po) : wp μ d 266 1106 [.retAddr x, l1, l2, l3] st h Q = wp μ d 266 1107 [.retAddr x, l1, l2, l3] (.retAddr x :: st) h Q := wp_nx rfl
set_option maxRecDepth 20000 in
theorem r266_1107 (μ : Bool) (d : Nat) (l0 : Value) (l1 : Value) (l2 : Value) (x : Int32) (st : List Value) (h : Hp) (Q : Po) : wp μ d 266 1107 [l0, l1, l2, .int x] st h Q = wp μ d 266 1108 [l0, l1, l2, .int x] (.int x :: st) h Q := wp_nx rfl
set_option maxRecDepth 20000 in
theorem r266_1108 (μ : Bool) (d : Nat) (l0 : Value) (l1 : Value) (l2 : Value) (l3 : Value) (st : List Value) (h : Hp) (Q : Po) : wp μ d 266 1108 [l0, l1, l2, l3] st h Q = wp μ d 266 1109 [l0, l1, l2, l3] (.int (nI 3) :: st) h Q := (wp_nx rfl).trans (congrArg (fun z => wp μ d 266 1109 [l0, l1, l2, l3] (.int z :: st) h Q) (show Int32.ofInt (3) = (nI 3) by decide))
set_option maxRecDepth 20000 in
theorem r266_1109 (μ : Bool) (d : Nat) (l0 : Value) (l1 : Value) (l2 : Value) (l3 : Value) (y0 y1 : Int32) (st : List Value) (h : Hp) (Q : Po) : wp μ d 266 1109 [l0, l1, l2, l3] (.int y0 :: .int y1 :: st) h Q = wp μ d 266 1110 [l0, l1, l2, l3] (.int (y1 + y0) :: st) h Q := wp_nx rfl
set_option maxRecDepth 20000 in
theorem r266_1110 (μ : Bool) (d : Nat) (l0 : Value) (l1 : Value) (l2 : Value) (l3 : Value) (y0 : Int32) (y1 : Nat) (st : List Value) (h : Hp) (Q : Po) : wp μ d 266 1110 [l0, l1, l2, l3] (.int y0 :: .ref y1 :: st) h Q = (((kdm μ h y1).1 = 20 ∧ vp_in y0 (kdm μ h y1).2) ∧ wp μ d 266 1111 [l0, l1, l2, l3] (.int (gI h y1 y0.toNatClampNeg) :: st) h Q) := wp_ck _ rfl
set_option maxRecDepth 20000 in
theorem r266_1110t (μ : Bool) (d : Nat) (l0 : Value) (l1 : Value) (l2 : Value) (l3 : Value) (y0 : Int32) (st : List Value) (h : Hp) (Q : Po) : wp μ d 266 1110 [l0, l1, l2, l3] (.int y0 :: .retAddr 1 :: st) h Q = (vp_in y0 (hk h 0).2 ∧ wp μ d 266 1111 [l0, l1, l2, l3] (.int (gI h 0 y0.toNatClampNeg) :: st) h Q) := wp_ck _ rfl
set_option maxRecDepth 20000 in
theorem r266_1111 (μ : Bool) (d : Nat) (l1 : Value) (l2 : Value) (l3 : Value) (x : Nat) (st : List Value) (h : Hp) (Q : Po) : wp μ d 266 1111 [.ref x, l1, l2, l3] st h Q = wp μ d 266 1112 [.ref x, l1, l2, l3] (.ref x :: st) h Q := wp_nx rfl
set_option maxRecDepth 20000 in
theorem r266_1111t (μ : Bool) (d : Nat) (l1 : Value) (l2 : Value) (l3 : Value) (x : Nat) (st : List Value) (h : Hp) (Q : Po) : wp μ d 266 1111 [.retAddr x, l1, l2, l3] st h Q = wp μ d 266 1112 [.retAddr x, l1, l2, l3] (.retAddr x :: st) h Q := wp_nx rfl
set_option maxRecDepth 20000 in
theorem r266_1112 (μ : Bool) (d : Nat) (l0 : Value) (l1 : Value) (l2 : Value) (x : Int32) (st : List Value) (h : Hp) (Q : Po) : wp μ d 266 1112 [l0, l1, l2, .int x] st h Q = wp μ d 266 1113 [l0, l1, l2, .int x] (.int x :: st) h Q := wp_nx rfl
set_option maxRecDepth 20000 in
theorem r266_1113 (μ : Bool) (d : Nat) (l0 : Value) (l1 : Value) (l2 : Value) (l3 : Value) (st : List Value) (h : Hp) (Q : Po) : wp μ d 266 1113 [l0, l1, l2, l3] st h Q = wp μ d 266 1114 [l0, l1, l2, l3] (.int (nI 4) :: st) h Q := (wp_nx rfl).trans (congrArg (fun z => wp μ d 266 1114 [l0, l1, l2, l3] (.int z :: st) h Q) (show Int32.ofInt (4) = (nI 4) by decide))
set_option maxRecDepth 20000 in
theorem r266_1114 (μ : Bool) (d : Nat) (l0 : Value) (l1 : Value) (l2 : Value) (l3 : Value) (y0 y1 : Int32) (st : List Value) (h : Hp) (Q : Po) : wp μ d 266 1114 [l0, l1, l2, l3] (.int y0 :: .int y1 :: st) h Q = wp μ d 266 1115 [l0, l1, l2, l3] (.int (y1 + y0) :: st) h Q := wp_nx rfl
set_option maxRecDepth 20000 in
theorem r266_1115 (μ : Bool) (d : Nat) (l0 : Value) (l1 : Value) (l2 : Value) (l3 : Value) (y0 : Int32) (y1 : Nat) (st : List Value) (h : Hp) (Q : Po) : wp μ d 266 1115 [l0, l1, l2, l3] (.int y0 :: .ref y1 :: st) h Q = (((kdm μ h y1).1 = 20 ∧ vp_in y0 (kdm μ h y1).2) ∧ wp μ d 266 1116 [l0, l1, l2, l3] (.int (gI h y1 y0.toNatClampNeg) :: st) h Q) := wp_ck _ rfl
set_option maxRecDepth 20000 in
theorem r266_1115t (μ : Bool) (d : Nat) (l0 : Value) (l1 : Value) (l2 : Value) (l3 : Value) (y0 : Int32) (st : List Value) (h : Hp) (Q : Po) : wp μ d 266 1115 [l0, l1, l2, l3] (.int y0 :: .retAddr 1 :: st) h Q = (vp_in y0 (hk h 0).2 ∧ wp μ d 266 1116 [l0, l1, l2, l3] (.int (gI h 0 y0.toNatClampNeg) :: st) h Q) := wp_ck _ rfl
set_option maxRecDepth 20000 in
theorem r266_1116 (μ : Bool) (d : Nat) (l1 : Value) (l2 : Value) (l3 : Value) (x : Nat) (st : List Value) (h : Hp) (Q : Po) : wp μ d 266 1116 [.ref x, l1, l2, l3] st h Q = wp μ d 266 1117 [.ref x, l1, l2, l3] (.ref x :: st) h Q := wp_nx rfl
set_option maxRecDepth 20000 in
theorem r266_1116t (μ : Bool) (d : Nat) (l1 : Value) (l2 : Value) (l3 : Value) (x : Nat) (st : List Value) (h : Hp) (Q : Po) : wp μ d 266 1116 [.retAddr x, l1, l2, l3] st h Q = wp μ d 266 1117 [.retAddr x, l1, l2, l3] (.retAddr x :: st) h Q := wp_nx rfl
set_option maxRecDepth 20000 in
theorem r266_1117 (μ : Bool) (d : Nat) (l0 : Value) (l1 : Value) (l2 : Value) (x : Int32) (st : List Value) (h : Hp) (Q : Po) : wp μ d 266 1117 [l0, l1, l2, .int x] st h Q = wp μ d 266 1118 [l0, l1, l2, .int x] (.int x :: st) h Q := wp_nx rfl
set_option maxRecDepth 20000 in
theorem r266_1118 (μ : Bool) (d : Nat) (l0 : Value) (l1 : Value) (l2 : Value) (l3 : Value) (st : List Value) (h : Hp) (Q : Po) : wp μ d 266 1118 [l0, l1, l2, l3] st h Q = wp μ d 266 1119 [l0, l1, l2, l3] (.int (nI 5) :: st) h Q := (wp_nx rfl).trans (congrArg (fun z => wp μ d 266 1119 [l0, l1, l2, l3] (.int z :: st) h Q) (show Int32.ofInt (5) = (nI 5) by decide))
set_option maxRecDepth 20000 in
theorem r266_1119 (μ : Bool) (d : Nat) (l0 : Value) (l1 : Value) (l2 : Value) (l3 : Value) (y0 y1 : Int32) (st : List Value) (h : Hp) (Q : Po) : wp μ d 266 1119 [l0, l1, l2, l3] (.int y0 :: .int y1 :: st) h Q = wp μ d 266 1120 [l0, l1, l2, l3] (.int (y1 + y0) :: st) h Q := wp_nx rfl
set_option maxRecDepth 20000 in
theorem r266_1120 (μ : Bool) (d : Nat) (l0 : Value) (l1 : Value) (l2 : Value) (l3 : Value) (y0 : Int32) (y1 : Nat) (st : List Value) (h : Hp) (Q : Po) : wp μ d 266 1120 [l0, l1, l2, l3] (.int y0 :: .ref y1 :: st) h Q = (((kdm μ h y1).1 = 20 ∧ vp_in y0 (kdm μ h y1).2) ∧ wp μ d 266 1121 [l0, l1, l2, l3] (.int (gI h y1 y0.toNatClampNeg) :: st) h Q) := wp_ck _ rfl
set_option maxRecDepth 20000 in
theorem r266_1120t (μ : Bool) (d : Nat) (l0 : Value) (l1 : Value) (l2 : Value) (l3 : Value) (y0 : Int32) (st : List Value) (h : Hp) (Q : Po) : wp μ d 266 1120 [l0, l1, l2, l3] (.int y0 :: .retAddr 1 :: st) h Q = (vp_in y0 (hk h 0).2 ∧ wp μ d 266 1121 [l0, l1, l2, l3] (.int (gI h 0 y0.toNatClampNeg) :: st) h Q) := wp_ck _ rfl
set_option maxRecDepth 20000 in
theorem r266_1121 (μ : Bool) (d : Nat) (l0 : Value) (l1 : Value) (l2 : Value) (l3 : Value) (y0 : Int32) (y1 : Int32) (y2 : Int32) (y3 : Int32) (y4 : Int32) (y5 : Nat) (y6 : Int32) (h : Hp) (Q : Po) : wp μ (d + 1) 266 1121 [l0, l1, l2, l3] [.int y0, .int y1, .int y2, .int y3, .int y4, .ref y5, .int y6] h Q = ((kdm μ h y5).1 = 12 ∧ cwp μ d 239 [.ref y5, .int y4, .int y3, .int y2, .int y1, .int y0] h (fun r h' => wp μ (d + 1) 266 1124 [l0, l1, l2, l3] (r.toList ++ [.int y6]) h' Q)) := wp_kc _ True rfl ⟨fun q => by obtain ⟨x, q1, q2⟩ := q.2.2.1 rfl; cases q1; exact q2, fun q => ⟨Nat.le_of_ble_eq_true rfl, ⟨Nat.le_of_ble_eq_true rfl, rfl, Nat.le_of_ble_eq_true rfl⟩, fun _ => ⟨_, rfl, q⟩, fun q9 => absurd q9 (by decide)⟩⟩
set_option maxRecDepth 20000 in
theorem r266_1124 (μ : Bool) (d : Nat) (l0 : Value) (l1 : Value) (l2 : Value) (l3 : Value) (y0 y1 : Int32) (st : List Value) (h : Hp) (Q : Po) : wp μ d 266 1124 [l0, l1, l2, l3] (.int y0 :: .int y1 :: st) h Q = if y1 = y0 then wp μ d 266 1545 [l0, l1, l2, l3] st h Q else wp μ d 266 1127 [l0, l1, l2, l3] st h Q := wp_br (y1 = y0) rfl
set_option maxRecDepth 20000 in
theorem r266_1127 (μ : Bool) (d : Nat) (l0 : Value) (l1 : Value) (l2 : Value) (l3 : Value) (st : List Value) (h : Hp) (Q : Po) : wp μ d 266 1127 [l0, l1, l2, l3] st h Q = wp μ d 266 1128 [l0, l1, l2, l3] (.int (nI 0) :: st) h Q := (wp_nx rfl).trans (congrArg (fun z => wp μ d 266 1128 [l0, l1, l2, l3] (.int z :: st) h Q) (show Int32.ofInt (0) = (nI 0) by decide))
set_option maxRecDepth 20000 in
theorem r266_1128 (μ : Bool) (d : Nat) (l0 : Value) (l1 : Value) (l2 : Value) (l3 : Value) (y0 : Int32) (h : Hp) (Q : Po) : wp μ d 266 1128 [l0, l1, l2, l3] [.int y0] h Q = ((y0 = nI 0 ∨ y0 = nI 1) ∧ Q (some (.int y0)) h) := (wp_rc _ rfl).trans (by rw [show retOk (rM 266) y0 = (narrow .boolean (.int y0) = .int y0) from rfl, nz_iff]; rfl)
set_option maxRecDepth 20000 in
theorem r266_1129 (μ : Bool) (d : Nat) (l0 : Value) (l2 : Value) (l3 : Value) (x : Nat) (st : List Value) (h : Hp) (Q : Po) : wp μ d 266 1129 [l0, .ref x, l2, l3] st h Q = wp μ d 266 1130 [l0, .ref x, l2, l3] (.ref x :: st) h Q := wp_nx rfl
set_option maxRecDepth 20000 in
theorem r266_1129n (μ : Bool) (d : Nat) (l0 : Value) (l2 : Value) (l3 : Value) (st : List Value) (h : Hp) (Q : Po) : wp μ d 266 1129 [l0, .null, l2, l3] st h Q = wp μ d 266 1130 [l0, .null, l2, l3] (.null :: st) h Q := wp_nx rfl
set_option maxRecDepth 20000 in
theorem r266_1129t (μ : Bool) (d : Nat) (l0 : Value) (l2 : Value) (l3 : Value) (x : Nat) (st : List Value) (h : Hp) (Q : Po) : wp μ d 266 1129 [l0, .retAddr x, l2, l3] st h Q = wp μ d 266 1130 [l0, .retAddr x, l2, l3] (.retAddr x :: st) h Q := wp_nx rfl
set_option maxRecDepth 20000 in
theorem r266_1130 (μ : Bool) (d : Nat) (l1 : Value) (l2 : Value) (l3 : Value) (x : Nat) (st : List Value) (h : Hp) (Q : Po) : wp μ d 266 1130 [.ref x, l1, l2, l3] st h Q = wp μ d 266 1131 [.ref x, l1, l2, l3] (.ref x :: st) h Q := wp_nx rfl
set_option maxRecDepth 20000 in
theorem r266_1130t (μ : Bool) (d : Nat) (l1 : Value) (l2 : Value) (l3 : Value) (x : Nat) (st : List Value) (h : Hp) (Q : Po) : wp μ d 266 1130 [.retAddr x, l1, l2, l3] st h Q = wp μ d 266 1131 [.retAddr x, l1, l2, l3] (.retAddr x :: st) h Q := wp_nx rfl
set_option maxRecDepth 20000 in
theorem r266_1131 (μ : Bool) (d : Nat) (l0 : Value) (l1 : Value) (l2 : Value) (x : Int32) (st : List Value) (h : Hp) (Q : Po) : wp μ d 266 1131 [l0, l1, l2, .int x] st h Q = wp μ d 266 1132 [l0, l1, l2, .int x] (.int x :: st) h Q := wp_nx rfl
set_option maxRecDepth 20000 in
theorem r266_1132 (μ : Bool) (d : Nat) (l0 : Value) (l1 : Value) (l2 : Value) (l3 : Value) (st : List Value) (h : Hp) (Q : Po) : wp μ d 266 1132 [l0, l1, l2, l3] st h Q = wp μ d 266 1133 [l0, l1, l2, l3] (.int (nI 1) :: st) h Q := (wp_nx rfl).trans (congrArg (fun z => wp μ d 266 1133 [l0, l1, l2, l3] (.int z :: st) h Q) (show Int32.ofInt (1) = (nI 1) by decide))
set_option maxRecDepth 20000 in
theorem r266_1133 (μ : Bool) (d : Nat) (l0 : Value) (l1 : Value) (l2 : Value) (l3 : Value) (y0 y1 : Int32) (st : List Value) (h : Hp) (Q : Po) : wp μ d 266 1133 [l0, l1, l2, l3] (.int y0 :: .int y1 :: st) h Q = wp μ d 266 1134 [l0, l1, l2, l3] (.int (y1 + y0) :: st) h Q := wp_nx rfl
set_option maxRecDepth 20000 in
theorem r266_1134 (μ : Bool) (d : Nat) (l0 : Value) (l1 : Value) (l2 : Value) (l3 : Value) (y0 : Int32) (y1 : Nat) (st : List Value) (h : Hp) (Q : Po) : wp μ d 266 1134 [l0, l1, l2, l3] (.int y0 :: .ref y1 :: st) h Q = (((kdm μ h y1).1 = 20 ∧ vp_in y0 (kdm μ h y1).2) ∧ wp μ d 266 1135 [l0, l1, l2, l3] (.int (gI h y1 y0.toNatClampNeg) :: st) h Q) := wp_ck _ rfl
set_option maxRecDepth 20000 in
theorem r266_1134t (μ : Bool) (d : Nat) (l0 : Value) (l1 : Value) (l2 : Value) (l3 : Value) (y0 : Int32) (st : List Value) (h : Hp) (Q : Po) : wp μ d 266 1134 [l0, l1, l2, l3] (.int y0 :: .retAddr 1 :: st) h Q = (vp_in y0 (hk h 0).2 ∧ wp μ d 266 1135 [l0, l1, l2, l3] (.int (gI h 0 y0.toNatClampNeg) :: st) h Q) := wp_ck _ rfl
set_option maxRecDepth 20000 in
theorem r266_1135 (μ : Bool) (d : Nat) (l1 : Value) (l2 : Value) (l3 : Value) (x : Nat) (st : List Value) (h : Hp) (Q : Po) : wp μ d 266 1135 [.ref x, l1, l2, l3] st h Q = wp μ d 266 1136 [.ref x, l1, l2, l3] (.ref x :: st) h Q := wp_nx rfl
set_option maxRecDepth 20000 in
theorem r266_1135t (μ : Bool) (d : Nat) (l1 : Value) (l2 : Value) (l3 : Value) (x : Nat) (st : List Value) (h : Hp) (Q : Po) : wp μ d 266 1135 [.retAddr x, l1, l2, l3] st h Q = wp μ d 266 1136 [.retAddr x, l1, l2, l3] (.retAddr x :: st) h Q := wp_nx rfl
set_option maxRecDepth 20000 in
theorem r266_1136 (μ : Bool) (d : Nat) (l0 : Value) (l1 : Value) (l2 : Value) (x : Int32) (st : List Value) (h : Hp) (Q : Po) : wp μ d 266 1136 [l0, l1, l2, .int x] st h Q = wp μ d 266 1137 [l0, l1, l2, .int x] (.int x :: st) h Q := wp_nx rfl
set_option maxRecDepth 20000 in
theorem r266_1137 (μ : Bool) (d : Nat) (l0 : Value) (l1 : Value) (l2 : Value) (l3 : Value) (st : List Value) (h : Hp) (Q : Po) : wp μ d 266 1137 [l0, l1, l2, l3] st h Q = wp μ d 266 1138 [l0, l1, l2, l3] (.int (nI 2) :: st) h Q := (wp_nx rfl).trans (congrArg (fun z => wp μ d 266 1138 [l0, l1, l2, l3] (.int z :: st) h Q) (show Int32.ofInt (2) = (nI 2) by decide))
set_option maxRecDepth 20000 in
theorem r266_1138 (μ : Bool) (d : Nat) (l0 : Value) (l1 : Value) (l2 : Value) (l3 : Value) (y0 y1 : Int32) (st : List Value) (h : Hp) (Q : Po) : wp μ d 266 1138 [l0, l1, l2, l3] (.int y0 :: .int y1 :: st) h Q = wp μ d 266 1139 [l0, l1, l2, l3] (.int (y1 + y0) :: st) h Q := wp_nx rfl
set_option maxRecDepth 20000 in
theorem r266_1139 (μ : Bool) (d : Nat) (l0 : Value) (l1 : Value) (l2 : Value) (l3 : Value) (y0 : Int32) (y1 : Nat) (st : List Value) (h : Hp) (Q : Po) : wp μ d 266 1139 [l0, l1, l2, l3] (.int y0 :: .ref y1 :: st) h Q = (((kdm μ h y1).1 = 20 ∧ vp_in y0 (kdm μ h y1).2) ∧ wp μ d 266 1140 [l0, l1, l2, l3] (.int (gI h y1 y0.toNatClampNeg) :: st) h Q) := wp_ck _ rfl
set_option maxRecDepth 20000 in
theorem r266_1139t (μ : Bool) (d : Nat) (l0 : Value) (l1 : Value) (l2 : Value) (l3 : Value) (y0 : Int32) (st : List Value) (h : Hp) (Q : Po) : wp μ d 266 1139 [l0, l1, l2, l3] (.int y0 :: .retAddr 1 :: st) h Q = (vp_in y0 (hk h 0).2 ∧ wp μ d 266 1140 [l0, l1, l2, l3] (.int (gI h 0 y0.toNatClampNeg) :: st) h Q) := wp_ck _ rfl
set_option maxRecDepth 20000 in
theorem r266_1140 (μ : Bool) (d : Nat) (l0 : Value) (l1 : Value) (l2 : Value) (l3 : Value) (y0 : Int32) (y1 : Int32) (y2 : Nat) (h : Hp) (Q : Po) : wp μ (d + 1) 266 1140 [l0, l1, l2, l3] [.int y0, .int y1, .ref y2] h Q = ((kdm μ h y2).1 = 11 ∧ cwp μ d 113 [.ref y2, .int y1, .int y0] h (fun r h' => wp μ (d + 1) 266 1143 [l0, l1, l2, l3] (r.toList ++ []) h' Q)) := wp_kc _ True rfl ⟨fun q => by obtain ⟨x, q1, q2⟩ := q.2.2.1 rfl; cases q1; exact q2, fun q => ⟨Nat.le_of_ble_eq_true rfl, ⟨Nat.le_of_ble_eq_true rfl, rfl, Nat.le_of_ble_eq_true rfl⟩, fun _ => ⟨_, rfl, q⟩, fun q9 => absurd q9 (by decide)⟩⟩
set_option maxRecDepth 20000 in
theorem r266_1143 (μ : Bool) (d : Nat) (l0 : Value) (l1 : Value) (l3 : Value) (x : Nat) (st : List Value) (h : Hp) (Q : Po) : wp μ d 266 1143 [l0, l1, .ref x, l3] st h Q = wp μ d 266 1144 [l0, l1, .ref x, l3] (.ref x :: st) h Q := wp_nx rfl
set_option maxRecDepth 20000 in
theorem r266_1143n (μ : Bool) (d : Nat) (l0 : Value) (l1 : Value) (l3 : Value) (st : List Value) (h : Hp) (Q : Po) : wp μ d 266 1143 [l0, l1, .null, l3] st h Q = wp μ d 266 1144 [l0, l1, .null, l3] (.null :: st) h Q := wp_nx rfl
set_option maxRecDepth 20000 in
theorem r266_1143t (μ : Bool) (d : Nat) (l0 : Value) (l1 : Value) (l3 : Value) (x : Nat) (st : List Value) (h : Hp) (Q : Po) : wp μ d 266 1143 [l0, l1, .retAddr x, l3] st h Q = wp μ d 266 1144 [l0, l1, .retAddr x, l3] (.retAddr x :: st) h Q := wp_nx rfl
set_option maxRecDepth 20000 in
theorem r266_1144 (μ : Bool) (d : Nat) (l1 : Value) (l2 : Value) (l3 : Value) (x : Nat) (st : List Value) (h : Hp) (Q : Po) : wp μ d 266 1144 [.ref x, l1, l2, l3] st h Q = wp μ d 266 1145 [.ref x, l1, l2, l3] (.ref x :: st) h Q := wp_nx rfl
set_option maxRecDepth 20000 in
theorem r266_1144t (μ : Bool) (d : Nat) (l1 : Value) (l2 : Value) (l3 : Value) (x : Nat) (st : List Value) (h : Hp) (Q : Po) : wp μ d 266 1144 [.retAddr x, l1, l2, l3] st h Q = wp μ d 266 1145 [.retAddr x, l1, l2, l3] (.retAddr x :: st) h Q := wp_nx rfl
set_option maxRecDepth 20000 in
theorem r266_1145 (μ : Bool) (d : Nat) (l0 : Value) (l1 : Value) (l2 : Value) (x : Int32) (st : List Value) (h : Hp) (Q : Po) : wp μ d 266 1145 [l0, l1, l2, .int x] st h Q = wp μ d 266 1146 [l0, l1, l2, .int x] (.int x :: st) h Q := wp_nx rfl
set_option maxRecDepth 20000 in
theorem r266_1146 (μ : Bool) (d : Nat) (l0 : Value) (l1 : Value) (l2 : Value) (l3 : Value) (st : List Value) (h : Hp) (Q : Po) : wp μ d 266 1146 [l0, l1, l2, l3] st h Q = wp μ d 266 1147 [l0, l1, l2, l3] (.int (nI 1) :: st) h Q := (wp_nx rfl).trans (congrArg (fun z => wp μ d 266 1147 [l0, l1, l2, l3] (.int z :: st) h Q) (show Int32.ofInt (1) = (nI 1) by decide))
set_option maxRecDepth 20000 in
theorem r266_1147 (μ : Bool) (d : Nat) (l0 : Value) (l1 : Value) (l2 : Value) (l3 : Value) (y0 y1 : Int32) (st : List Value) (h : Hp) (Q : Po) : wp μ d 266 1147 [l0, l1, l2, l3] (.int y0 :: .int y1 :: st) h Q = wp μ d 266 1148 [l0, l1, l2, l3] (.int (y1 + y0) :: st) h Q := wp_nx rfl
set_option maxRecDepth 20000 in
theorem r266_1148 (μ : Bool) (d : Nat) (l0 : Value) (l1 : Value) (l2 : Value) (l3 : Value) (y0 : Int32) (y1 : Nat) (st : List Value) (h : Hp) (Q : Po) : wp μ d 266 1148 [l0, l1, l2, l3] (.int y0 :: .ref y1 :: st) h Q = (((kdm μ h y1).1 = 20 ∧ vp_in y0 (kdm μ h y1).2) ∧ wp μ d 266 1149 [l0, l1, l2, l3] (.int (gI h y1 y0.toNatClampNeg) :: st) h Q) := wp_ck _ rfl
set_option maxRecDepth 20000 in
theorem r266_1148t (μ : Bool) (d : Nat) (l0 : Value) (l1 : Value) (l2 : Value) (l3 : Value) (y0 : Int32) (st : List Value) (h : Hp) (Q : Po) : wp μ d 266 1148 [l0, l1, l2, l3] (.int y0 :: .retAddr 1 :: st) h Q = (vp_in y0 (hk h 0).2 ∧ wp μ d 266 1149 [l0, l1, l2, l3] (.int (gI h 0 y0.toNatClampNeg) :: st) h Q) := wp_ck _ rfl
set_option maxRecDepth 20000 in
theorem r266_1149 (μ : Bool) (d : Nat) (l1 : Value) (l2 : Value) (l3 : Value) (x : Nat) (st : List Value) (h : Hp) (Q : Po) : wp μ d 266 1149 [.ref x, l1, l2, l3] st h Q = wp μ d 266 1150 [.ref x, l1, l2, l3] (.ref x :: st) h Q := wp_nx rfl
set_option maxRecDepth 20000 in
theorem r266_1149t (μ : Bool) (d : Nat) (l1 : Value) (l2 : Value) (l3 : Value) (x : Nat) (st : List Value) (h : Hp) (Q : Po) : wp μ d 266 1149 [.retAddr x, l1, l2, l3] st h Q = wp μ d 266 1150 [.retAddr x, l1, l2, l3] (.retAddr x :: st) h Q := wp_nx rfl
set_option maxRecDepth 20000 in
theorem r266_1150 (μ : Bool) (d : Nat) (l0 : Value) (l1 : Value) (l2 : Value) (x : Int32) (st : List Value) (h : Hp) (Q : Po) : wp μ d 266 1150 [l0, l1, l2, .int x] st h Q = wp μ d 266 1151 [l0, l1, l2, .int x] (.int x :: st) h Q := wp_nx rfl
set_option maxRecDepth 20000 in
theorem r266_1151 (μ : Bool) (d : Nat) (l0 : Value) (l1 : Value) (l2 : Value) (l3 : Value) (st : List Value) (h : Hp) (Q : Po) : wp μ d 266 1151 [l0, l1, l2, l3] st h Q = wp μ d 266 1152 [l0, l1, l2, l3] (.int (nI 2) :: st) h Q := (wp_nx rfl).trans (congrArg (fun z => wp μ d 266 1152 [l0, l1, l2, l3] (.int z :: st) h Q) (show Int32.ofInt (2) = (nI 2) by decide))
set_option maxRecDepth 20000 in
theorem r266_1152 (μ : Bool) (d : Nat) (l0 : Value) (l1 : Value) (l2 : Value) (l3 : Value) (y0 y1 : Int32) (st : List Value) (h : Hp) (Q : Po) : wp μ d 266 1152 [l0, l1, l2, l3] (.int y0 :: .int y1 :: st) h Q = wp μ d 266 1153 [l0, l1, l2, l3] (.int (y1 + y0) :: st) h Q := wp_nx rfl
set_option maxRecDepth 20000 in
theorem r266_1153 (μ : Bool) (d : Nat) (l0 : Value) (l1 : Value) (l2 : Value) (l3 : Value) (y0 : Int32) (y1 : Nat) (st : List Value) (h : Hp) (Q : Po) : wp μ d 266 1153 [l0, l1, l2, l3] (.int y0 :: .ref y1 :: st) h Q = (((kdm μ h y1).1 = 20 ∧ vp_in y0 (kdm μ h y1).2) ∧ wp μ d 266 1154 [l0, l1, l2, l3] (.int (gI h y1 y0.toNatClampNeg) :: st) h Q) := wp_ck _ rfl
set_option maxRecDepth 20000 in
theorem r266_1153t (μ : Bool) (d : Nat) (l0 : Value) (l1 : Value) (l2 : Value) (l3 : Value) (y0 : Int32) (st : List Value) (h : Hp) (Q : Po) : wp μ d 266 1153 [l0, l1, l2, l3] (.int y0 :: .retAddr 1 :: st) h Q = (vp_in y0 (hk h 0).2 ∧ wp μ d 266 1154 [l0, l1, l2, l3] (.int (gI h 0 y0.toNatClampNeg) :: st) h Q) := wp_ck _ rfl
set_option maxRecDepth 20000 in
theorem r266_1154 (μ : Bool) (d : Nat) (l0 : Value) (l1 : Value) (l2 : Value) (l3 : Value) (y0 : Int32) (y1 : Int32) (y2 : Nat) (y3 : Int32) (h : Hp) (Q : Po) : wp μ (d + 1) 266 1154 [l0, l1, l2, l3] [.int y0, .int y1, .ref y2, .int y3] h Q = ((kdm μ h y2).1 = 12 ∧ cwp μ d 240 [.ref y2, .int y1, .int y0] h (fun r h' => wp μ (d + 1) 266 1157 [l0, l1, l2, l3] (r.toList ++ [.int y3]) h' Q)) := wp_kc _ True rfl ⟨fun q => by obtain ⟨x, q1, q2⟩ := q.2.2.1 rfl; cases q1; exact q2, fun q => ⟨Nat.le_of_ble_eq_true rfl, ⟨Nat.le_of_ble_eq_true rfl, rfl, Nat.le_of_ble_eq_true rfl⟩, fun _ => ⟨_, rfl, q⟩, fun q9 => absurd q9 (by decide)⟩⟩
set_option maxRecDepth 20000 in
theorem r266_1157 (μ : Bool) (d : Nat) (l0 : Value) (l1 : Value) (l2 : Value) (l3 : Value) (y0 y1 : Int32) (st : List Value) (h : Hp) (Q : Po) : wp μ d 266 1157 [l0, l1, l2, l3] (.int y0 :: .int y1 :: st) h Q = if y1 = y0 then wp μ d 266 1545 [l0, l1, l2, l3] st h Q else wp μ d 266 1160 [l0, l1, l2, l3] st h Q := wp_br (y1 = y0) rfl
set_option maxRecDepth 20000 in
theorem r266_1160 (μ : Bool) (d : Nat) (l0 : Value) (l1 : Value) (l2 : Value) (l3 : Value) (st : List Value) (h : Hp) (Q : Po) : wp μ d 266 1160 [l0, l1, l2, l3] st h Q = wp μ d 266 1161 [l0, l1, l2, l3] (.int (nI 0) :: st) h Q := (wp_nx rfl).trans (congrArg (fun z => wp μ d 266 1161 [l0, l1, l2, l3] (.int z :: st) h Q) (show Int32.ofInt (0) = (nI 0) by decide))
set_option maxRecDepth 20000 in
theorem r266_1161 (μ : Bool) (d : Nat) (l0 : Value) (l1 : Value) (l2 : Value) (l3 : Value) (y0 : Int32) (h : Hp) (Q : Po) : wp μ d 266 1161 [l0, l1, l2, l3] [.int y0] h Q = ((y0 = nI 0 ∨ y0 = nI 1) ∧ Q (some (.int y0)) h) := (wp_rc _ rfl).trans (by rw [show retOk (rM 266) y0 = (narrow .boolean (.int y0) = .int y0) from rfl, nz_iff]; rfl)
set_option maxRecDepth 20000 in
theorem r266_1162 (μ : Bool) (d : Nat) (l0 : Value) (l2 : Value) (l3 : Value) (x : Nat) (st : List Value) (h : Hp) (Q : Po) : wp μ d 266 1162 [l0, .ref x, l2, l3] st h Q = wp μ d 266 1163 [l0, .ref x, l2, l3] (.ref x :: st) h Q := wp_nx rfl
set_option maxRecDepth 20000 in
theorem r266_1162n (μ : Bool) (d : Nat) (l0 : Value) (l2 : Value) (l3 : Value) (st : List Value) (h : Hp) (Q : Po) : wp μ d 266 1162 [l0, .null, l2, l3] st h Q = wp μ d 266 1163 [l0, .null, l2, l3] (.null :: st) h Q := wp_nx rfl
set_option maxRecDepth 20000 in
theorem r266_1162t (μ : Bool) (d : Nat) (l0 : Value) (l2 : Value) (l3 : Value) (x : Nat) (st : List Value) (h : Hp) (Q : Po) : wp μ d 266 1162 [l0, .retAddr x, l2, l3] st h Q = wp μ d 266 1163 [l0, .retAddr x, l2, l3] (.retAddr x :: st) h Q := wp_nx rfl
set_option maxRecDepth 20000 in
theorem r266_1163 (μ : Bool) (d : Nat) (l1 : Value) (l2 : Value) (l3 : Value) (x : Nat) (st : List Value) (h : Hp) (Q : Po) : wp μ d 266 1163 [.ref x, l1, l2, l3] st h Q = wp μ d 266 1164 [.ref x, l1, l2, l3] (.ref x :: st) h Q := wp_nx rfl
set_option maxRecDepth 20000 in
theorem r266_1163t (μ : Bool) (d : Nat) (l1 : Value) (l2 : Value) (l3 : Value) (x : Nat) (st : List Value) (h : Hp) (Q : Po) : wp μ d 266 1163 [.retAddr x, l1, l2, l3] st h Q = wp μ d 266 1164 [.retAddr x, l1, l2, l3] (.retAddr x :: st) h Q := wp_nx rfl
set_option maxRecDepth 20000 in
theorem r266_1164 (μ : Bool) (d : Nat) (l0 : Value) (l1 : Value) (l2 : Value) (x : Int32) (st : List Value) (h : Hp) (Q : Po) : wp μ d 266 1164 [l0, l1, l2, .int x] st h Q = wp μ d 266 1165 [l0, l1, l2, .int x] (.int x :: st) h Q := wp_nx rfl
set_option maxRecDepth 20000 in
theorem r266_1165 (μ : Bool) (d : Nat) (l0 : Value) (l1 : Value) (l2 : Value) (l3 : Value) (st : List Value) (h : Hp) (Q : Po) : wp μ d 266 1165 [l0, l1, l2, l3] st h Q = wp μ d 266 1166 [l0, l1, l2, l3] (.int (nI 1) :: st) h Q := (wp_nx rfl).trans (congrArg (fun z => wp μ d 266 1166 [l0, l1, l2, l3] (.int z :: st) h Q) (show Int32.ofInt (1) = (nI 1) by decide))
set_option maxRecDepth 20000 in
theorem r266_1166 (μ : Bool) (d : Nat) (l0 : Value) (l1 : Value) (l2 : Value) (l3 : Value) (y0 y1 : Int32) (st : List Value) (h : Hp) (Q : Po) : wp μ d 266 1166 [l0, l1, l2, l3] (.int y0 :: .int y1 :: st) h Q = wp μ d 266 1167 [l0, l1, l2, l3] (.int (y1 + y0) :: st) h Q := wp_nx rfl
set_option maxRecDepth 20000 in
theorem r266_1167 (μ : Bool) (d : Nat) (l0 : Value) (l1 : Value) (l2 : Value) (l3 : Value) (y0 : Int32) (y1 : Nat) (st : List Value) (h : Hp) (Q : Po) : wp μ d 266 1167 [l0, l1, l2, l3] (.int y0 :: .ref y1 :: st) h Q = (((kdm μ h y1).1 = 20 ∧ vp_in y0 (kdm μ h y1).2) ∧ wp μ d 266 1168 [l0, l1, l2, l3] (.int (gI h y1 y0.toNatClampNeg) :: st) h Q) := wp_ck _ rfl
set_option maxRecDepth 20000 in
theorem r266_1167t (μ : Bool) (d : Nat) (l0 : Value) (l1 : Value) (l2 : Value) (l3 : Value) (y0 : Int32) (st : List Value) (h : Hp) (Q : Po) : wp μ d 266 1167 [l0, l1, l2, l3] (.int y0 :: .retAddr 1 :: st) h Q = (vp_in y0 (hk h 0).2 ∧ wp μ d 266 1168 [l0, l1, l2, l3] (.int (gI h 0 y0.toNatClampNeg) :: st) h Q) := wp_ck _ rfl
set_option maxRecDepth 20000 in
theorem r266_1168 (μ : Bool) (d : Nat) (l1 : Value) (l2 : Value) (l3 : Value) (x : Nat) (st : List Value) (h : Hp) (Q : Po) : wp μ d 266 1168 [.ref x, l1, l2, l3] st h Q = wp μ d 266 1169 [.ref x, l1, l2, l3] (.ref x :: st) h Q := wp_nx rfl
set_option maxRecDepth 20000 in
theorem r266_1168t (μ : Bool) (d : Nat) (l1 : Value) (l2 : Value) (l3 : Value) (x : Nat) (st : List Value) (h : Hp) (Q : Po) : wp μ d 266 1168 [.retAddr x, l1, l2, l3] st h Q = wp μ d 266 1169 [.retAddr x, l1, l2, l3] (.retAddr x :: st) h Q := wp_nx rfl
set_option maxRecDepth 20000 in
theorem r266_1169 (μ : Bool) (d : Nat) (l0 : Value) (l1 : Value) (l2 : Value) (x : Int32) (st : List Value) (h : Hp) (Q : Po) : wp μ d 266 1169 [l0, l1, l2, .int x] st h Q = wp μ d 266 1170 [l0, l1, l2, .int x] (.int x :: st) h Q := wp_nx rfl
set_option maxRecDepth 20000 in
theorem r266_1170 (μ : Bool) (d : Nat) (l0 : Value) (l1 : Value) (l2 : Value) (l3 : Value) (st : List Value) (h : Hp) (Q : Po) : wp μ d 266 1170 [l0, l1, l2, l3] st h Q = wp μ d 266 1171 [l0, l1, l2, l3] (.int (nI 2) :: st) h Q := (wp_nx rfl).trans (congrArg (fun z => wp μ d 266 1171 [l0, l1, l2, l3] (.int z :: st) h Q) (show Int32.ofInt (2) = (nI 2) by decide))
set_option maxRecDepth 20000 in
theorem r266_1171 (μ : Bool) (d : Nat) (l0 : Value) (l1 : Value) (l2 : Value) (l3 : Value) (y0 y1 : Int32) (st : List Value) (h : Hp) (Q : Po) : wp μ d 266 1171 [l0, l1, l2, l3] (.int y0 :: .int y1 :: st) h Q = wp μ d 266 1172 [l0, l1, l2, l3] (.int (y1 + y0) :: st) h Q := wp_nx rfl
set_option maxRecDepth 20000 in
theorem r266_1172 (μ : Bool) (d : Nat) (l0 : Value) (l1 : Value) (l2 : Value) (l3 : Value) (y0 : Int32) (y1 : Nat) (st : List Value) (h : Hp) (Q : Po) : wp μ d 266 1172 [l0, l1, l2, l3] (.int y0 :: .ref y1 :: st) h Q = (((kdm μ h y1).1 = 20 ∧ vp_in y0 (kdm μ h y1).2) ∧ wp μ d 266 1173 [l0, l1, l2, l3] (.int (gI h y1 y0.toNatClampNeg) :: st) h Q) := wp_ck _ rfl
set_option maxRecDepth 20000 in
theorem r266_1172t (μ : Bool) (d : Nat) (l0 : Value) (l1 : Value) (l2 : Value) (l3 : Value) (y0 : Int32) (st : List Value) (h : Hp) (Q : Po) : wp μ d 266 1172 [l0, l1, l2, l3] (.int y0 :: .retAddr 1 :: st) h Q = (vp_in y0 (hk h 0).2 ∧ wp μ d 266 1173 [l0, l1, l2, l3] (.int (gI h 0 y0.toNatClampNeg) :: st) h Q) := wp_ck _ rfl
set_option maxRecDepth 20000 in
theorem r266_1173 (μ : Bool) (d : Nat) (l1 : Value) (l2 : Value) (l3 : Value) (x : Nat) (st : List Value) (h : Hp) (Q : Po) : wp μ d 266 1173 [.ref x, l1, l2, l3] st h Q = wp μ d 266 1174 [.ref x, l1, l2, l3] (.ref x :: st) h Q := wp_nx rfl
set_option maxRecDepth 20000 in
theorem r266_1173t (μ : Bool) (d : Nat) (l1 : Value) (l2 : Value) (l3 : Value) (x : Nat) (st : List Value) (h : Hp) (Q : Po) : wp μ d 266 1173 [.retAddr x, l1, l2, l3] st h Q = wp μ d 266 1174 [.retAddr x, l1, l2, l3] (.retAddr x :: st) h Q := wp_nx rfl
set_option maxRecDepth 20000 in
theorem r266_1174 (μ : Bool) (d : Nat) (l0 : Value) (l1 : Value) (l2 : Value) (x : Int32) (st : List Value) (h : Hp) (Q : Po) : wp μ d 266 1174 [l0, l1, l2, .int x] st h Q = wp μ d 266 1175 [l0, l1, l2, .int x] (.int x :: st) h Q := wp_nx rfl
set_option maxRecDepth 20000 in
theorem r266_1175 (μ : Bool) (d : Nat) (l0 : Value) (l1 : Value) (l2 : Value) (l3 : Value) (st : List Value) (h : Hp) (Q : Po) : wp μ d 266 1175 [l0, l1, l2, l3] st h Q = wp μ d 266 1176 [l0, l1, l2, l3] (.int (nI 3) :: st) h Q := (wp_nx rfl).trans (congrArg (fun z => wp μ d 266 1176 [l0, l1, l2, l3] (.int z :: st) h Q) (show Int32.ofInt (3) = (nI 3) by decide))
set_option maxRecDepth 20000 in
theorem r266_1176 (μ : Bool) (d : Nat) (l0 : Value) (l1 : Value) (l2 : Value) (l3 : Value) (y0 y1 : Int32) (st : List Value) (h : Hp) (Q : Po) : wp μ d 266 1176 [l0, l1, l2, l3] (.int y0 :: .int y1 :: st) h Q = wp μ d 266 1177 [l0, l1, l2, l3] (.int (y1 + y0) :: st) h Q := wp_nx rfl
set_option maxRecDepth 20000 in
theorem r266_1177 (μ : Bool) (d : Nat) (l0 : Value) (l1 : Value) (l2 : Value) (l3 : Value) (y0 : Int32) (y1 : Nat) (st : List Value) (h : Hp) (Q : Po) : wp μ d 266 1177 [l0, l1, l2, l3] (.int y0 :: .ref y1 :: st) h Q = (((kdm μ h y1).1 = 20 ∧ vp_in y0 (kdm μ h y1).2) ∧ wp μ d 266 1178 [l0, l1, l2, l3] (.int (gI h y1 y0.toNatClampNeg) :: st) h Q) := wp_ck _ rfl
set_option maxRecDepth 20000 in
theorem r266_1177t (μ : Bool) (d : Nat) (l0 : Value) (l1 : Value) (l2 : Value) (l3 : Value) (y0 : Int32) (st : List Value) (h : Hp) (Q : Po) : wp μ d 266 1177 [l0, l1, l2, l3] (.int y0 :: .retAddr 1 :: st) h Q = (vp_in y0 (hk h 0).2 ∧ wp μ d 266 1178 [l0, l1, l2, l3] (.int (gI h 0 y0.toNatClampNeg) :: st) h Q) := wp_ck _ rfl
set_option maxRecDepth 20000 in
theorem r266_1178 (μ : Bool) (d : Nat) (l0 : Value) (l1 : Value) (l2 : Value) (l3 : Value) (y0 : Int32) (y1 : Int32) (y2 : Int32) (y3 : Nat) (h : Hp) (Q : Po) : wp μ (d + 1) 266 1178 [l0, l1, l2, l3] [.int y0, .int y1, .int y2, .ref y3] h Q = ((kdm μ h y3).1 = 11 ∧ cwp μ d 114 [.ref y3, .int y2, .int y1, .int y0] h (fun r h' => wp μ (d + 1) 266 1181 [l0, l1, l2, l3] (r.toList ++ []) h' Q)) := wp_kc _ True rfl ⟨fun q => by obtain ⟨x, q1, q2⟩ := q.2.2.1 rfl; cases q1; exact q2, fun q => ⟨Nat.le_of_ble_eq_true rfl, ⟨Nat.le_of_ble_eq_true rfl, rfl, Nat.le_of_ble_eq_true rfl⟩, fun _ => ⟨_, rfl, q⟩, fun q9 => absurd q9 (by decide)⟩⟩
set_option maxRecDepth 20000 in
theorem r266_1181 (μ : Bool) (d : Nat) (l0 : Value) (l1 : Value) (l3 : Value) (x : Nat) (st : List Value) (h : Hp) (Q : Po) : wp μ d 266 1181 [l0, l1, .ref x, l3] st h Q = wp μ d 266 1182 [l0, l1, .ref x, l3] (.ref x :: st) h Q := wp_nx rfl
set_option maxRecDepth 20000 in
theorem r266_1181n (μ : Bool) (d : Nat) (l0 : Value) (l1 : Value) (l3 : Value) (st : List Value) (h : Hp) (Q : Po) : wp μ d 266 1181 [l0, l1, .null, l3] st h Q = wp μ d 266 1182 [l0, l1, .null, l3] (.null :: st) h Q := wp_nx rfl
set_option maxRecDepth 20000 in
theorem r266_1181t (μ : Bool) (d : Nat) (l0 : Value) (l1 : Value) (l3 : Value) (x : Nat) (st : List Value) (h : Hp) (Q : Po) : wp μ d 266 1181 [l0, l1, .retAddr x, l3] st h Q = wp μ d 266 1182 [l0, l1, .retAddr x, l3] (.retAddr x :: st) h Q := wp_nx rfl
set_option maxRecDepth 20000 in
theorem r266_1182 (μ : Bool) (d : Nat) (l1 : Value) (l2 : Value) (l3 : Value) (x : Nat) (st : List Value) (h : Hp) (Q : Po) : wp μ d 266 1182 [.ref x, l1, l2, l3] st h Q = wp μ d 266 1183 [.ref x, l1, l2, l3] (.ref x :: st) h Q := wp_nx rfl
set_option maxRecDepth 20000 in
theorem r266_1182t (μ : Bool) (d : Nat) (l1 : Value) (l2 : Value) (l3 : Value) (x : Nat) (st : List Value) (h : Hp) (Q : Po) : wp μ d 266 1182 [.retAddr x, l1, l2, l3] st h Q = wp μ d 266 1183 [.retAddr x, l1, l2, l3] (.retAddr x :: st) h Q := wp_nx rfl
set_option maxRecDepth 20000 in
theorem r266_1183 (μ : Bool) (d : Nat) (l0 : Value) (l1 : Value) (l2 : Value) (x : Int32) (st : List Value) (h : Hp) (Q : Po) : wp μ d 266 1183 [l0, l1, l2, .int x] st h Q = wp μ d 266 1184 [l0, l1, l2, .int x] (.int x :: st) h Q := wp_nx rfl
set_option maxRecDepth 20000 in
theorem r266_1184 (μ : Bool) (d : Nat) (l0 : Value) (l1 : Value) (l2 : Value) (l3 : Value) (st : List Value) (h : Hp) (Q : Po) : wp μ d 266 1184 [l0, l1, l2, l3] st h Q = wp μ d 266 1185 [l0, l1, l2, l3] (.int (nI 1) :: st) h Q := (wp_nx rfl).trans (congrArg (fun z => wp μ d 266 1185 [l0, l1, l2, l3] (.int z :: st) h Q) (show Int32.ofInt (1) = (nI 1) by decide))
set_option maxRecDepth 20000 in
theorem r266_1185 (μ : Bool) (d : Nat) (l0 : Value) (l1 : Value) (l2 : Value) (l3 : Value) (y0 y1 : Int32) (st : List Value) (h : Hp) (Q : Po) : wp μ d 266 1185 [l0, l1, l2, l3] (.int y0 :: .int y1 :: st) h Q = wp μ d 266 1186 [l0, l1, l2, l3] (.int (y1 + y0) :: st) h Q := wp_nx rfl
set_option maxRecDepth 20000 in
theorem r266_1186 (μ : Bool) (d : Nat) (l0 : Value) (l1 : Value) (l2 : Value) (l3 : Value) (y0 : Int32) (y1 : Nat) (st : List Value) (h : Hp) (Q : Po) : wp μ d 266 1186 [l0, l1, l2, l3] (.int y0 :: .ref y1 :: st) h Q = (((kdm μ h y1).1 = 20 ∧ vp_in y0 (kdm μ h y1).2) ∧ wp μ d 266 1187 [l0, l1, l2, l3] (.int (gI h y1 y0.toNatClampNeg) :: st) h Q) := wp_ck _ rfl
set_option maxRecDepth 20000 in
theorem r266_1186t (μ : Bool) (d : Nat) (l0 : Value) (l1 : Value) (l2 : Value) (l3 : Value) (y0 : Int32) (st : List Value) (h : Hp) (Q : Po) : wp μ d 266 1186 [l0, l1, l2, l3] (.int y0 :: .retAddr 1 :: st) h Q = (vp_in y0 (hk h 0).2 ∧ wp μ d 266 1187 [l0, l1, l2, l3] (.int (gI h 0 y0.toNatClampNeg) :: st) h Q) := wp_ck _ rfl
set_option maxRecDepth 20000 in
theorem r266_1187 (μ : Bool) (d : Nat) (l1 : Value) (l2 : Value) (l3 : Value) (x : Nat) (st : List Value) (h : Hp) (Q : Po) : wp μ d 266 1187 [.ref x, l1, l2, l3] st h Q = wp μ d 266 1188 [.ref x, l1, l2, l3] (.ref x :: st) h Q := wp_nx rfl
set_option maxRecDepth 20000 in
theorem r266_1187t (μ : Bool) (d : Nat) (l1 : Value) (l2 : Value) (l3 : Value) (x : Nat) (st : List Value) (h : Hp) (Q : Po) : wp μ d 266 1187 [.retAddr x, l1, l2, l3] st h Q = wp μ d 266 1188 [.retAddr x, l1, l2, l3] (.retAddr x :: st) h Q := wp_nx rfl
set_option maxRecDepth 20000 in
theorem r266_1188 (μ : Bool) (d : Nat) (l0 : Value) (l1 : Value) (l2 : Value) (x : Int32) (st : List Value) (h : Hp) (Q : Po) : wp μ d 266 1188 [l0, l1, l2, .int x] st h Q = wp μ d 266 1189 [l0, l1, l2, .int x] (.int x :: st) h Q := wp_nx rfl
set_option maxRecDepth 20000 in
theorem r266_1189 (μ : Bool) (d : Nat) (l0 : Value) (l1 : Value) (l2 : Value) (l3 : Value) (st : List Value) (h : Hp) (Q : Po) : wp μ d 266 1189 [l0, l1, l2, l3] st h Q = wp μ d 266 1190 [l0, l1, l2, l3] (.int (nI 2) :: st) h Q := (wp_nx rfl).trans (congrArg (fun z => wp μ d 266 1190 [l0, l1, l2, l3] (.int z :: st) h Q) (show Int32.ofInt (2) = (nI 2) by decide))
set_option maxRecDepth 20000 in
theorem r266_1190 (μ : Bool) (d : Nat) (l0 : Value) (l1 : Value) (l2 : Value) (l3 : Value) (y0 y1 : Int32) (st : List Value) (h : Hp) (Q : Po) : wp μ d 266 1190 [l0, l1, l2, l3] (.int y0 :: .int y1 :: st) h Q = wp μ d 266 1191 [l0, l1, l2, l3] (.int (y1 + y0) :: st) h Q := wp_nx rfl
set_option maxRecDepth 20000 in
theorem r266_1191 (μ : Bool) (d : Nat) (l0 : Value) (l1 : Value) (l2 : Value) (l3 : Value) (y0 : Int32) (y1 : Nat) (st : List Value) (h : Hp) (Q : Po) : wp μ d 266 1191 [l0, l1, l2, l3] (.int y0 :: .ref y1 :: st) h Q = (((kdm μ h y1).1 = 20 ∧ vp_in y0 (kdm μ h y1).2) ∧ wp μ d 266 1192 [l0, l1, l2, l3] (.int (gI h y1 y0.toNatClampNeg) :: st) h Q) := wp_ck _ rfl
set_option maxRecDepth 20000 in
theorem r266_1191t (μ : Bool) (d : Nat) (l0 : Value) (l1 : Value) (l2 : Value) (l3 : Value) (y0 : Int32) (st : List Value) (h : Hp) (Q : Po) : wp μ d 266 1191 [l0, l1, l2, l3] (.int y0 :: .retAddr 1 :: st) h Q = (vp_in y0 (hk h 0).2 ∧ wp μ d 266 1192 [l0, l1, l2, l3] (.int (gI h 0 y0.toNatClampNeg) :: st) h Q) := wp_ck _ rfl
set_option maxRecDepth 20000 in
theorem r266_1192 (μ : Bool) (d : Nat) (l1 : Value) (l2 : Value) (l3 : Value) (x : Nat) (st : List Value) (h : Hp) (Q : Po) : wp μ d 266 1192 [.ref x, l1, l2, l3] st h Q = wp μ d 266 1193 [.ref x, l1, l2, l3] (.ref x :: st) h Q := wp_nx rfl
set_option maxRecDepth 20000 in
theorem r266_1192t (μ : Bool) (d : Nat) (l1 : Value) (l2 : Value) (l3 : Value) (x : Nat) (st : List Value) (h : Hp) (Q : Po) : wp μ d 266 1192 [.retAddr x, l1, l2, l3] st h Q = wp μ d 266 1193 [.retAddr x, l1, l2, l3] (.retAddr x :: st) h Q := wp_nx rfl
set_option maxRecDepth 20000 in
theorem r266_1193 (μ : Bool) (d : Nat) (l0 : Value) (l1 : Value) (l2 : Value) (x : Int32) (st : List Value) (h : Hp) (Q : Po) : wp μ d 266 1193 [l0, l1, l2, .int x] st h Q = wp μ d 266 1194 [l0, l1, l2, .int x] (.int x :: st) h Q := wp_nx rfl
set_option maxRecDepth 20000 in
theorem r266_1194 (μ : Bool) (d : Nat) (l0 : Value) (l1 : Value) (l2 : Value) (l3 : Value) (st : List Value) (h : Hp) (Q : Po) : wp μ d 266 1194 [l0, l1, l2, l3] st h Q = wp μ d 266 1195 [l0, l1, l2, l3] (.int (nI 3) :: st) h Q := (wp_nx rfl).trans (congrArg (fun z => wp μ d 266 1195 [l0, l1, l2, l3] (.int z :: st) h Q) (show Int32.ofInt (3) = (nI 3) by decide))
set_option maxRecDepth 20000 in
theorem r266_1195 (μ : Bool) (d : Nat) (l0 : Value) (l1 : Value) (l2 : Value) (l3 : Value) (y0 y1 : Int32) (st : List Value) (h : Hp) (Q : Po) : wp μ d 266 1195 [l0, l1, l2, l3] (.int y0 :: .int y1 :: st) h Q = wp μ d 266 1196 [l0, l1, l2, l3] (.int (y1 + y0) :: st) h Q := wp_nx rfl
set_option maxRecDepth 20000 in
theorem r266_1196 (μ : Bool) (d : Nat) (l0 : Value) (l1 : Value) (l2 : Value) (l3 : Value) (y0 : Int32) (y1 : Nat) (st : List Value) (h : Hp) (Q : Po) : wp μ d 266 1196 [l0, l1, l2, l3] (.int y0 :: .ref y1 :: st) h Q = (((kdm μ h y1).1 = 20 ∧ vp_in y0 (kdm μ h y1).2) ∧ wp μ d 266 1197 [l0, l1, l2, l3] (.int (gI h y1 y0.toNatClampNeg) :: st) h Q) := wp_ck _ rfl
set_option maxRecDepth 20000 in
theorem r266_1196t (μ : Bool) (d : Nat) (l0 : Value) (l1 : Value) (l2 : Value) (l3 : Value) (y0 : Int32) (st : List Value) (h : Hp) (Q : Po) : wp μ d 266 1196 [l0, l1, l2, l3] (.int y0 :: .retAddr 1 :: st) h Q = (vp_in y0 (hk h 0).2 ∧ wp μ d 266 1197 [l0, l1, l2, l3] (.int (gI h 0 y0.toNatClampNeg) :: st) h Q) := wp_ck _ rfl
set_option maxRecDepth 20000 in
theorem r266_1197 (μ : Bool) (d : Nat) (l0 : Value) (l1 : Value) (l2 : Value) (l3 : Value) (y0 : Int32) (y1 : Int32) (y2 : Int32) (y3 : Nat) (y4 : Int32) (h : Hp) (Q : Po) : wp μ (d + 1) 266 1197 [l0, l1, l2, l3] [.int y0, .int y1, .int y2, .ref y3, .int y4] h Q = ((kdm μ h y3).1 = 12 ∧ cwp μ d 248 [.ref y3, .int y2, .int y1, .int y0] h (fun r h' => wp μ (d + 1) 266 1200 [l0, l1, l2, l3] (r.toList ++ [.int y4]) h' Q)) := wp_kc _ True rfl ⟨fun q => by obtain ⟨x, q1, q2⟩ := q.2.2.1 rfl; cases q1; exact q2, fun q => ⟨Nat.le_of_ble_eq_true rfl, ⟨Nat.le_of_ble_eq_true rfl, rfl, Nat.le_of_ble_eq_true rfl⟩, fun _ => ⟨_, rfl, q⟩, fun q9 => absurd q9 (by decide)⟩⟩
set_option maxRecDepth 20000 in
theorem r266_1200 (μ : Bool) (d : Nat) (l0 : Value) (l1 : Value) (l2 : Value) (l3 : Value) (y0 y1 : Int32) (st : List Value) (h : Hp) (Q : Po) : wp μ d 266 1200 [l0, l1, l2, l3] (.int y0 :: .int y1 :: st) h Q = if y1 = y0 then wp μ d 266 1545 [l0, l1, l2, l3] st h Q else wp μ d 266 1203 [l0, l1, l2, l3] st h Q := wp_br (y1 = y0) rfl
set_option maxRecDepth 20000 in
theorem r266_1203 (μ : Bool) (d : Nat) (l0 : Value) (l1 : Value) (l2 : Value) (l3 : Value) (st : List Value) (h : Hp) (Q : Po) : wp μ d 266 1203 [l0, l1, l2, l3] st h Q = wp μ d 266 1204 [l0, l1, l2, l3] (.int (nI 0) :: st) h Q := (wp_nx rfl).trans (congrArg (fun z => wp μ d 266 1204 [l0, l1, l2, l3] (.int z :: st) h Q) (show Int32.ofInt (0) = (nI 0) by decide))
set_option maxRecDepth 20000 in
theorem r266_1204 (μ : Bool) (d : Nat) (l0 : Value) (l1 : Value) (l2 : Value) (l3 : Value) (y0 : Int32) (h : Hp) (Q : Po) : wp μ d 266 1204 [l0, l1, l2, l3] [.int y0] h Q = ((y0 = nI 0 ∨ y0 = nI 1) ∧ Q (some (.int y0)) h) := (wp_rc _ rfl).trans (by rw [show retOk (rM 266) y0 = (narrow .boolean (.int y0) = .int y0) from rfl, nz_iff]; rfl)
set_option maxRecDepth 20000 in
theorem r266_1205 (μ : Bool) (d : Nat) (l0 : Value) (l2 : Value) (l3 : Value) (x : Nat) (st : List Value) (h : Hp) (Q : Po) : wp μ d 266 1205 [l0, .ref x, l2, l3] st h Q = wp μ d 266 1206 [l0, .ref x, l2, l3] (.ref x :: st) h Q := wp_nx rfl
set_option maxRecDepth 20000 in
theorem r266_1205n (μ : Bool) (d : Nat) (l0 : Value) (l2 : Value) (l3 : Value) (st : List Value) (h : Hp) (Q : Po) : wp μ d 266 1205 [l0, .null, l2, l3] st h Q = wp μ d 266 1206 [l0, .null, l2, l3] (.null :: st) h Q := wp_nx rfl
set_option maxRecDepth 20000 in
theorem r266_1205t (μ : Bool) (d : Nat) (l0 : Value) (l2 : Value) (l3 : Value) (x : Nat) (st : List Value) (h : Hp) (Q : Po) : wp μ d 266 1205 [l0, .retAddr x, l2, l3] st h Q = wp μ d 266 1206 [l0, .retAddr x, l2, l3] (.retAddr x :: st) h Q := wp_nx rfl
set_option maxRecDepth 20000 in
theorem r266_1206 (μ : Bool) (d : Nat) (l1 : Value) (l2 : Value) (l3 : Value) (x : Nat) (st : List Value) (h : Hp) (Q : Po) : wp μ d 266 1206 [.ref x, l1, l2, l3] st h Q = wp μ d 266 1207 [.ref x, l1, l2, l3] (.ref x :: st) h Q := wp_nx rfl
set_option maxRecDepth 20000 in
theorem r266_1206t (μ : Bool) (d : Nat) (l1 : Value) (l2 : Value) (l3 : Value) (x : Nat) (st : List Value) (h : Hp) (Q : Po) : wp μ d 266 1206 [.retAddr x, l1, l2, l3] st h Q = wp μ d 266 1207 [.retAddr x, l1, l2, l3] (.retAddr x :: st) h Q := wp_nx rfl
set_option maxRecDepth 20000 in
theorem r266_1207 (μ : Bool) (d : Nat) (l0 : Value) (l1 : Value) (l2 : Value) (x : Int32) (st : List Value) (h : Hp) (Q : Po) : wp μ d 266 1207 [l0, l1, l2, .int x] st h Q = wp μ d 266 1208 [l0, l1, l2, .int x] (.int x :: st) h Q := wp_nx rfl
set_option maxRecDepth 20000 in
theorem r266_1208 (μ : Bool) (d : Nat) (l0 : Value) (l1 : Value) (l2 : Value) (l3 : Value) (st : List Value) (h : Hp) (Q : Po) : wp μ d 266 1208 [l0, l1, l2, l3] st h Q = wp μ d 266 1209 [l0, l1, l2, l3] (.int (nI 1) :: st) h Q := (wp_nx rfl).trans (congrArg (fun z => wp μ d 266 1209 [l0, l1, l2, l3] (.int z :: st) h Q) (show Int32.ofInt (1) = (nI 1) by decide))
set_option maxRecDepth 20000 in
theorem r266_1209 (μ : Bool) (d : Nat) (l0 : Value) (l1 : Value) (l2 : Value) (l3 : Value) (y0 y1 : Int32) (st : List Value) (h : Hp) (Q : Po) : wp μ d 266 1209 [l0, l1, l2, l3] (.int y0 :: .int y1 :: st) h Q = wp μ d 266 1210 [l0, l1, l2, l3] (.int (y1 + y0) :: st) h Q := wp_nx rfl
set_option maxRecDepth 20000 in
theorem r266_1210 (μ : Bool) (d : Nat) (l0 : Value) (l1 : Value) (l2 : Value) (l3 : Value) (y0 : Int32) (y1 : Nat) (st : List Value) (h : Hp) (Q : Po) : wp μ d 266 1210 [l0, l1, l2, l3] (.int y0 :: .ref y1 :: st) h Q = (((kdm μ h y1).1 = 20 ∧ vp_in y0 (kdm μ h y1).2) ∧ wp μ d 266 1211 [l0, l1, l2, l3] (.int (gI h y1 y0.toNatClampNeg) :: st) h Q) := wp_ck _ rfl
set_option maxRecDepth 20000 in
theorem r266_1210t (μ : Bool) (d : Nat) (l0 : Value) (l1 : Value) (l2 : Value) (l3 : Value) (y0 : Int32) (st : List Value) (h : Hp) (Q : Po) : wp μ d 266 1210 [l0, l1, l2, l3] (.int y0 :: .retAddr 1 :: st) h Q = (vp_in y0 (hk h 0).2 ∧ wp μ d 266 1211 [l0, l1, l2, l3] (.int (gI h 0 y0.toNatClampNeg) :: st) h Q) := wp_ck _ rfl
set_option maxRecDepth 20000 in
theorem r266_1211 (μ : Bool) (d : Nat) (l1 : Value) (l2 : Value) (l3 : Value) (x : Nat) (st : List Value) (h : Hp) (Q : Po) : wp μ d 266 1211 [.ref x, l1, l2, l3] st h Q = wp μ d 266 1212 [.ref x, l1, l2, l3] (.ref x :: st) h Q := wp_nx rfl
set_option maxRecDepth 20000 in
theorem r266_1211t (μ : Bool) (d : Nat) (l1 : Value) (l2 : Value) (l3 : Value) (x : Nat) (st : List Value) (h : Hp) (Q : Po) : wp μ d 266 1211 [.retAddr x, l1, l2, l3] st h Q = wp μ d 266 1212 [.retAddr x, l1, l2, l3] (.retAddr x :: st) h Q := wp_nx rfl
set_option maxRecDepth 20000 in
theorem r266_1212 (μ : Bool) (d : Nat) (l0 : Value) (l1 : Value) (l2 : Value) (x : Int32) (st : List Value) (h : Hp) (Q : Po) : wp μ d 266 1212 [l0, l1, l2, .int x] st h Q = wp μ d 266 1213 [l0, l1, l2, .int x] (.int x :: st) h Q := wp_nx rfl
set_option maxRecDepth 20000 in
theorem r266_1213 (μ : Bool) (d : Nat) (l0 : Value) (l1 : Value) (l2 : Value) (l3 : Value) (st : List Value) (h : Hp) (Q : Po) : wp μ d 266 1213 [l0, l1, l2, l3] st h Q = wp μ d 266 1214 [l0, l1, l2, l3] (.int (nI 2) :: st) h Q := (wp_nx rfl).trans (congrArg (fun z => wp μ d 266 1214 [l0, l1, l2, l3] (.int z :: st) h Q) (show Int32.ofInt (2) = (nI 2) by decide))
set_option maxRecDepth 20000 in
theorem r266_1214 (μ : Bool) (d : Nat) (l0 : Value) (l1 : Value) (l2 : Value) (l3 : Value) (y0 y1 : Int32) (st : List Value) (h : Hp) (Q : Po) : wp μ d 266 1214 [l0, l1, l2, l3] (.int y0 :: .int y1 :: st) h Q = wp μ d 266 1215 [l0, l1, l2, l3] (.int (y1 + y0) :: st) h Q := wp_nx rfl
set_option maxRecDepth 20000 in
theorem r266_1215 (μ : Bool) (d : Nat) (l0 : Value) (l1 : Value) (l2 : Value) (l3 : Value) (y0 : Int32) (y1 : Nat) (st : List Value) (h : Hp) (Q : Po) : wp μ d 266 1215 [l0, l1, l2, l3] (.int y0 :: .ref y1 :: st) h Q = (((kdm μ h y1).1 = 20 ∧ vp_in y0 (kdm μ h y1).2) ∧ wp μ d 266 1216 [l0, l1, l2, l3] (.int (gI h y1 y0.toNatClampNeg) :: st) h Q) := wp_ck _ rfl
set_option maxRecDepth 20000 in
theorem r266_1215t (μ : Bool) (d : Nat) (l0 : Value) (l1 : Value) (l2 : Value) (l3 : Value) (y0 : Int32) (st : List Value) (h : Hp) (Q : Po) : wp μ d 266 1215 [l0, l1, l2, l3] (.int y0 :: .retAddr 1 :: st) h Q = (vp_in y0 (hk h 0).2 ∧ wp μ d 266 1216 [l0, l1, l2, l3] (.int (gI h 0 y0.toNatClampNeg) :: st) h Q) := wp_ck _ rfl
set_option maxRecDepth 20000 in
theorem r266_1216 (μ : Bool) (d : Nat) (l1 : Value) (l2 : Value) (l3 : Value) (x : Nat) (st : List Value) (h : Hp) (Q : Po) : wp μ d 266 1216 [.ref x, l1, l2, l3] st h Q = wp μ d 266 1217 [.ref x, l1, l2, l3] (.ref x :: st) h Q := wp_nx rfl
set_option maxRecDepth 20000 in
theorem r266_1216t (μ : Bool) (d : Nat) (l1 : Value) (l2 : Value) (l3 : Value) (x : Nat) (st : List Value) (h : Hp) (Q : Po) : wp μ d 266 1216 [.retAddr x, l1, l2, l3] st h Q = wp μ d 266 1217 [.retAddr x, l1, l2, l3] (.retAddr x :: st) h Q := wp_nx rfl
set_option maxRecDepth 20000 in
theorem r266_1217 (μ : Bool) (d : Nat) (l0 : Value) (l1 : Value) (l2 : Value) (x : Int32) (st : List Value) (h : Hp) (Q : Po) : wp μ d 266 1217 [l0, l1, l2, .int x] st h Q = wp μ d 266 1218 [l0, l1, l2, .int x] (.int x :: st) h Q := wp_nx rfl
set_option maxRecDepth 20000 in
theorem r266_1218 (μ : Bool) (d : Nat) (l0 : Value) (l1 : Value) (l2 : Value) (l3 : Value) (st : List Value) (h : Hp) (Q : Po) : wp μ d 266 1218 [l0, l1, l2, l3] st h Q = wp μ d 266 1219 [l0, l1, l2, l3] (.int (nI 3) :: st) h Q := (wp_nx rfl).trans (congrArg (fun z => wp μ d 266 1219 [l0, l1, l2, l3] (.int z :: st) h Q) (show Int32.ofInt (3) = (nI 3) by decide))
set_option maxRecDepth 20000 in
theorem r266_1219 (μ : Bool) (d : Nat) (l0 : Value) (l1 : Value) (l2 : Value) (l3 : Value) (y0 y1 : Int32) (st : List Value) (h : Hp) (Q : Po) : wp μ d 266 1219 [l0, l1, l2, l3] (.int y0 :: .int y1 :: st) h Q = wp μ d 266 1220 [l0, l1, l2, l3] (.int (y1 + y0) :: st) h Q := wp_nx rfl
set_option maxRecDepth 20000 in
theorem r266_1220 (μ : Bool) (d : Nat) (l0 : Value) (l1 : Value) (l2 : Value) (l3 : Value) (y0 : Int32) (y1 : Nat) (st : List Value) (h : Hp) (Q : Po) : wp μ d 266 1220 [l0, l1, l2, l3] (.int y0 :: .ref y1 :: st) h Q = (((kdm μ h y1).1 = 20 ∧ vp_in y0 (kdm μ h y1).2) ∧ wp μ d 266 1221 [l0, l1, l2, l3] (.int (gI h y1 y0.toNatClampNeg) :: st) h Q) := wp_ck _ rfl
set_option maxRecDepth 20000 in
theorem r266_1220t (μ : Bool) (d : Nat) (l0 : Value) (l1 : Value) (l2 : Value) (l3 : Value) (y0 : Int32) (st : List Value) (h : Hp) (Q : Po) : wp μ d 266 1220 [l0, l1, l2, l3] (.int y0 :: .retAddr 1 :: st) h Q = (vp_in y0 (hk h 0).2 ∧ wp μ d 266 1221 [l0, l1, l2, l3] (.int (gI h 0 y0.toNatClampNeg) :: st) h Q) := wp_ck _ rfl
set_option maxRecDepth 20000 in
theorem r266_1221 (μ : Bool) (d : Nat) (l1 : Value) (l2 : Value) (l3 : Value) (x : Nat) (st : List Value) (h : Hp) (Q : Po) : wp μ d 266 1221 [.ref x, l1, l2, l3] st h Q = wp μ d 266 1222 [.ref x, l1, l2, l3] (.ref x :: st) h Q := wp_nx rfl
set_option maxRecDepth 20000 in
theorem r266_1221t (μ : Bool) (d : Nat) (l1 : Value) (l2 : Value) (l3 : Value) (x : Nat) (st : List Value) (h : Hp) (Q : Po) : wp μ d 266 1221 [.retAddr x, l1, l2, l3] st h Q = wp μ d 266 1222 [.retAddr x, l1, l2, l3] (.retAddr x :: st) h Q := wp_nx rfl
set_option maxRecDepth 20000 in
theorem r266_1222 (μ : Bool) (d : Nat) (l0 : Value) (l1 : Value) (l2 : Value) (x : Int32) (st : List Value) (h : Hp) (Q : Po) : wp μ d 266 1222 [l0, l1, l2, .int x] st h Q = wp μ d 266 1223 [l0, l1, l2, .int x] (.int x :: st) h Q := wp_nx rfl
set_option maxRecDepth 20000 in
theorem r266_1223 (μ : Bool) (d : Nat) (l0 : Value) (l1 : Value) (l2 : Value) (l3 : Value) (st : List Value) (h : Hp) (Q : Po) : wp μ d 266 1223 [l0, l1, l2, l3] st h Q = wp μ d 266 1224 [l0, l1, l2, l3] (.int (nI 4) :: st) h Q := (wp_nx rfl).trans (congrArg (fun z => wp μ d 266 1224 [l0, l1, l2, l3] (.int z :: st) h Q) (show Int32.ofInt (4) = (nI 4) by decide))
set_option maxRecDepth 20000 in
theorem r266_1224 (μ : Bool) (d : Nat) (l0 : Value) (l1 : Value) (l2 : Value) (l3 : Value) (y0 y1 : Int32) (st : List Value) (h : Hp) (Q : Po) : wp μ d 266 1224 [l0, l1, l2, l3] (.int y0 :: .int y1 :: st) h Q = wp μ d 266 1225 [l0, l1, l2, l3] (.int (y1 + y0) :: st) h Q := wp_nx rfl
set_option maxRecDepth 20000 in
theorem r266_1225 (μ : Bool) (d : Nat) (l0 : Value) (l1 : Value) (l2 : Value) (l3 : Value) (y0 : Int32) (y1 : Nat) (st : List Value) (h : Hp) (Q : Po) : wp μ d 266 1225 [l0, l1, l2, l3] (.int y0 :: .ref y1 :: st) h Q = (((kdm μ h y1).1 = 20 ∧ vp_in y0 (kdm μ h y1).2) ∧ wp μ d 266 1226 [l0, l1, l2, l3] (.int (gI h y1 y0.toNatClampNeg) :: st) h Q) := wp_ck _ rfl
set_option maxRecDepth 20000 in
theorem r266_1225t (μ : Bool) (d : Nat) (l0 : Value) (l1 : Value) (l2 : Value) (l3 : Value) (y0 : Int32) (st : List Value) (h : Hp) (Q : Po) : wp μ d 266 1225 [l0, l1, l2, l3] (.int y0 :: .retAddr 1 :: st) h Q = (vp_in y0 (hk h 0).2 ∧ wp μ d 266 1226 [l0, l1, l2, l3] (.int (gI h 0 y0.toNatClampNeg) :: st) h Q) := wp_ck _ rfl
set_option maxRecDepth 20000 in
theorem r266_1226 (μ : Bool) (d : Nat) (l0 : Value) (l1 : Value) (l2 : Value) (l3 : Value) (y0 : Int32) (y1 : Int32) (y2 : Int32) (y3 : Int32) (y4 : Nat) (h : Hp) (Q : Po) : wp μ (d + 1) 266 1226 [l0, l1, l2, l3] [.int y0, .int y1, .int y2, .int y3, .ref y4] h Q = ((kdm μ h y4).1 = 11 ∧ cwp μ d 115 [.ref y4, .int y3, .int y2, .int y1, .int y0] h (fun r h' => wp μ (d + 1) 266 1229 [l0, l1, l2, l3] (r.toList ++ []) h' Q)) := wp_kc _ True rfl ⟨fun q => by obtain ⟨x, q1, q2⟩ := q.2.2.1 rfl; cases q1; exact q2, fun q => ⟨Nat.le_of_ble_eq_true rfl, ⟨Nat.le_of_ble_eq_true rfl, rfl, Nat.le_of_ble_eq_true rfl⟩, fun _ => ⟨_, rfl, q⟩, fun q9 => absurd q9 (by decide)⟩⟩
set_option maxRecDepth 20000 in
theorem r266_1229 (μ : Bool) (d : Nat) (l0 : Value) (l1 : Value) (l3 : Value) (x : Nat) (st : List Value) (h : Hp) (Q : Po) : wp μ d 266 1229 [l0, l1, .ref x, l3] st h Q = wp μ d 266 1230 [l0, l1, .ref x, l3] (.ref x :: st) h Q := wp_nx rfl
set_option maxRecDepth 20000 in
theorem r266_1229n (μ : Bool) (d : Nat) (l0 : Value) (l1 : Value) (l3 : Value) (st : List Value) (h : Hp) (Q : Po) : wp μ d 266 1229 [l0, l1, .null, l3] st h Q = wp μ d 266 1230 [l0, l1, .null, l3] (.null :: st) h Q := wp_nx rfl
set_option maxRecDepth 20000 in
theorem r266_1229t (μ : Bool) (d : Nat) (l0 : Value) (l1 : Value) (l3 : Value) (x : Nat) (st : List Value) (h : Hp) (Q : Po) : wp μ d 266 1229 [l0, l1, .retAddr x, l3] st h Q = wp μ d 266 1230 [l0, l1, .retAddr x, l3] (.retAddr x :: st) h Q := wp_nx rfl
set_option maxRecDepth 20000 in
theorem r266_1230 (μ : Bool) (d : Nat) (l1 : Value) (l2 : Value) (l3 : Value) (x : Nat) (st : List Value) (h : Hp) (Q : Po) : wp μ d 266 1230 [.ref x, l1, l2, l3] st h Q = wp μ d 266 1231 [.ref x, l1, l2, l3] (.ref x :: st) h Q := wp_nx rfl
set_option maxRecDepth 20000 in
theorem r266_1230t (μ : Bool) (d : Nat) (l1 : Value) (l2 : Value) (l3 : Value) (x : Nat) (st : List Value) (h : Hp) (Q : Po) : wp μ d 266 1230 [.retAddr x, l1, l2, l3] st h Q = wp μ d 266 1231 [.retAddr x, l1, l2, l3] (.retAddr x :: st) h Q := wp_nx rfl
set_option maxRecDepth 20000 in
theorem r266_1231 (μ : Bool) (d : Nat) (l0 : Value) (l1 : Value) (l2 : Value) (x : Int32) (st : List Value) (h : Hp) (Q : Po) : wp μ d 266 1231 [l0, l1, l2, .int x] st h Q = wp μ d 266 1232 [l0, l1, l2, .int x] (.int x :: st) h Q := wp_nx rfl
set_option maxRecDepth 20000 in
theorem r266_1232 (μ : Bool) (d : Nat) (l0 : Value) (l1 : Value) (l2 : Value) (l3 : Value) (st : List Value) (h : Hp) (Q : Po) : wp μ d 266 1232 [l0, l1, l2, l3] st h Q = wp μ d 266 1233 [l0, l1, l2, l3] (.int (nI 1) :: st) h Q := (wp_nx rfl).trans (congrArg (fun z => wp μ d 266 1233 [l0, l1, l2, l3] (.int z :: st) h Q) (show Int32.ofInt (1) = (nI 1) by decide))
set_option maxRecDepth 20000 in
theorem r266_1233 (μ : Bool) (d : Nat) (l0 : Value) (l1 : Value) (l2 : Value) (l3 : Value) (y0 y1 : Int32) (st : List Value) (h : Hp) (Q : Po) : wp μ d 266 1233 [l0, l1, l2, l3] (.int y0 :: .int y1 :: st) h Q = wp μ d 266 1234 [l0, l1, l2, l3] (.int (y1 + y0) :: st) h Q := wp_nx rfl
set_option maxRecDepth 20000 in
theorem r266_1234 (μ : Bool) (d : Nat) (l0 : Value) (l1 : Value) (l2 : Value) (l3 : Value) (y0 : Int32) (y1 : Nat) (st : List Value) (h : Hp) (Q : Po) : wp μ d 266 1234 [l0, l1, l2, l3] (.int y0 :: .ref y1 :: st) h Q = (((kdm μ h y1).1 = 20 ∧ vp_in y0 (kdm μ h y1).2) ∧ wp μ d 266 1235 [l0, l1, l2, l3] (.int (gI h y1 y0.toNatClampNeg) :: st) h Q) := wp_ck _ rfl
set_option maxRecDepth 20000 in
theorem r266_1234t (μ : Bool) (d : Nat) (l0 : Value) (l1 : Value) (l2 : Value) (l3 : Value) (y0 : Int32) (st : List Value) (h : Hp) (Q : Po) : wp μ d 266 1234 [l0, l1, l2, l3] (.int y0 :: .retAddr 1 :: st) h Q = (vp_in y0 (hk h 0).2 ∧ wp μ d 266 1235 [l0, l1, l2, l3] (.int (gI h 0 y0.toNatClampNeg) :: st) h Q) := wp_ck _ rfl
set_option maxRecDepth 20000 in
theorem r266_1235 (μ : Bool) (d : Nat) (l1 : Value) (l2 : Value) (l3 : Value) (x : Nat) (st : List Value) (h : Hp) (Q : Po) : wp μ d 266 1235 [.ref x, l1, l2, l3] st h Q = wp μ d 266 1236 [.ref x, l1, l2, l3] (.ref x :: st) h Q := wp_nx rfl
set_option maxRecDepth 20000 in
theorem r266_1235t (μ : Bool) (d : Nat) (l1 : Value) (l2 : Value) (l3 : Value) (x : Nat) (st : List Value) (h : Hp) (Q : Po) : wp μ d 266 1235 [.retAddr x, l1, l2, l3] st h Q = wp μ d 266 1236 [.retAddr x, l1, l2, l3] (.retAddr x :: st) h Q := wp_nx rfl
set_option maxRecDepth 20000 in
theorem r266_1236 (μ : Bool) (d : Nat) (l0 : Value) (l1 : Value) (l2 : Value) (x : Int32) (st : List Value) (h : Hp) (Q : Po) : wp μ d 266 1236 [l0, l1, l2, .int x] st h Q = wp μ d 266 1237 [l0, l1, l2, .int x] (.int x :: st) h Q := wp_nx rfl
set_option maxRecDepth 20000 in
theorem r266_1237 (μ : Bool) (d : Nat) (l0 : Value) (l1 : Value) (l2 : Value) (l3 : Value) (st : List Value) (h : Hp) (Q : Po) : wp μ d 266 1237 [l0, l1, l2, l3] st h Q = wp μ d 266 1238 [l0, l1, l2, l3] (.int (nI 2) :: st) h Q := (wp_nx rfl).trans (congrArg (fun z => wp μ d 266 1238 [l0, l1, l2, l3] (.int z :: st) h Q) (show Int32.ofInt (2) = (nI 2) by decide))
set_option maxRecDepth 20000 in
theorem r266_1238 (μ : Bool) (d : Nat) (l0 : Value) (l1 : Value) (l2 : Value) (l3 : Value) (y0 y1 : Int32) (st : List Value) (h : Hp) (Q : Po) : wp μ d 266 1238 [l0, l1, l2, l3] (.int y0 :: .int y1 :: st) h Q = wp μ d 266 1239 [l0, l1, l2, l3] (.int (y1 + y0) :: st) h Q := wp_nx rfl
set_option maxRecDepth 20000 in
theorem r266_1239 (μ : Bool) (d : Nat) (l0 : Value) (l1 : Value) (l2 : Value) (l3 : Value) (y0 : Int32) (y1 : Nat) (st : List Value) (h : Hp) (Q : Po) : wp μ d 266 1239 [l0, l1, l2, l3] (.int y0 :: .ref y1 :: st) h Q = (((kdm μ h y1).1 = 20 ∧ vp_in y0 (kdm μ h y1).2) ∧ wp μ d 266 1240 [l0, l1, l2, l3] (.int (gI h y1 y0.toNatClampNeg) :: st) h Q) := wp_ck _ rfl
set_option maxRecDepth 20000 in
theorem r266_1239t (μ : Bool) (d : Nat) (l0 : Value) (l1 : Value) (l2 : Value) (l3 : Value) (y0 : Int32) (st : List Value) (h : Hp) (Q : Po) : wp μ d 266 1239 [l0, l1, l2, l3] (.int y0 :: .retAddr 1 :: st) h Q = (vp_in y0 (hk h 0).2 ∧ wp μ d 266 1240 [l0, l1, l2, l3] (.int (gI h 0 y0.toNatClampNeg) :: st) h Q) := wp_ck _ rfl
set_option maxRecDepth 20000 in
theorem r266_1240 (μ : Bool) (d : Nat) (l1 : Value) (l2 : Value) (l3 : Value) (x : Nat) (st : List Value) (h : Hp) (Q : Po) : wp μ d 266 1240 [.ref x, l1, l2, l3] st h Q = wp μ d 266 1241 [.ref x, l1, l2, l3] (.ref x :: st) h Q := wp_nx rfl
set_option maxRecDepth 20000 in
theorem r266_1240t (μ : Bool) (d : Nat) (l1 : Value) (l2 : Value) (l3 : Value) (x : Nat) (st : List Value) (h : Hp) (Q : Po) : wp μ d 266 1240 [.retAddr x, l1, l2, l3] st h Q = wp μ d 266 1241 [.retAddr x, l1, l2, l3] (.retAddr x :: st) h Q := wp_nx rfl
set_option maxRecDepth 20000 in
theorem r266_1241 (μ : Bool) (d : Nat) (l0 : Value) (l1 : Value) (l2 : Value) (x : Int32) (st : List Value) (h : Hp) (Q : Po) : wp μ d 266 1241 [l0, l1, l2, .int x] st h Q = wp μ d 266 1242 [l0, l1, l2, .int x] (.int x :: st) h Q := wp_nx rfl
set_option maxRecDepth 20000 in
theorem r266_1242 (μ : Bool) (d : Nat) (l0 : Value) (l1 : Value) (l2 : Value) (l3 : Value) (st : List Value) (h : Hp) (Q : Po) : wp μ d 266 1242 [l0, l1, l2, l3] st h Q = wp μ d 266 1243 [l0, l1, l2, l3] (.int (nI 3) :: st) h Q := (wp_nx rfl).trans (congrArg (fun z => wp μ d 266 1243 [l0, l1, l2, l3] (.int z :: st) h Q) (show Int32.ofInt (3) = (nI 3) by decide))
set_option maxRecDepth 20000 in
theorem r266_1243 (μ : Bool) (d : Nat) (l0 : Value) (l1 : Value) (l2 : Value) (l3 : Value) (y0 y1 : Int32) (st : List Value) (h : Hp) (Q : Po) : wp μ d 266 1243 [l0, l1, l2, l3] (.int y0 :: .int y1 :: st) h Q = wp μ d 266 1244 [l0, l1, l2, l3] (.int (y1 + y0) :: st) h Q := wp_nx rfl
set_option maxRecDepth 20000 in
theorem r266_1244 (μ : Bool) (d : Nat) (l0 : Value) (l1 : Value) (l2 : Value) (l3 : Value) (y0 : Int32) (y1 : Nat) (st : List Value) (h : Hp) (Q : Po) : wp μ d 266 1244 [l0, l1, l2, l3] (.int y0 :: .ref y1 :: st) h Q = (((kdm μ h y1).1 = 20 ∧ vp_in y0 (kdm μ h y1).2) ∧ wp μ d 266 1245 [l0, l1, l2, l3] (.int (gI h y1 y0.toNatClampNeg) :: st) h Q) := wp_ck _ rfl
set_option maxRecDepth 20000 in
theorem r266_1244t (μ : Bool) (d : Nat) (l0 : Value) (l1 : Value) (l2 : Value) (l3 : Value) (y0 : Int32) (st : List Value) (h : Hp) (Q : Po) : wp μ d 266 1244 [l0, l1, l2, l3] (.int y0 :: .retAddr 1 :: st) h Q = (vp_in y0 (hk h 0).2 ∧ wp μ d 266 1245 [l0, l1, l2, l3] (.int (gI h 0 y0.toNatClampNeg) :: st) h Q) := wp_ck _ rfl
set_option maxRecDepth 20000 in
theorem r266_1245 (μ : Bool) (d : Nat) (l1 : Value) (l2 : Value) (l3 : Value) (x : Nat) (st : List Value) (h : Hp) (Q : Po) : wp μ d 266 1245 [.ref x, l1, l2, l3] st h Q = wp μ d 266 1246 [.ref x, l1, l2, l3] (.ref x :: st) h Q := wp_nx rfl
set_option maxRecDepth 20000 in
theorem r266_1245t (μ : Bool) (d : Nat) (l1 : Value) (l2 : Value) (l3 : Value) (x : Nat) (st : List Value) (h : Hp) (Q : Po) : wp μ d 266 1245 [.retAddr x, l1, l2, l3] st h Q = wp μ d 266 1246 [.retAddr x, l1, l2, l3] (.retAddr x :: st) h Q := wp_nx rfl
set_option maxRecDepth 20000 in
theorem r266_1246 (μ : Bool) (d : Nat) (l0 : Value) (l1 : Value) (l2 : Value) (x : Int32) (st : List Value) (h : Hp) (Q : Po) : wp μ d 266 1246 [l0, l1, l2, .int x] st h Q = wp μ d 266 1247 [l0, l1, l2, .int x] (.int x :: st) h Q := wp_nx rfl
set_option maxRecDepth 20000 in
theorem r266_1247 (μ : Bool) (d : Nat) (l0 : Value) (l1 : Value) (l2 : Value) (l3 : Value) (st : List Value) (h : Hp) (Q : Po) : wp μ d 266 1247 [l0, l1, l2, l3] st h Q = wp μ d 266 1248 [l0, l1, l2, l3] (.int (nI 4) :: st) h Q := (wp_nx rfl).trans (congrArg (fun z => wp μ d 266 1248 [l0, l1, l2, l3] (.int z :: st) h Q) (show Int32.ofInt (4) = (nI 4) by decide))
set_option maxRecDepth 20000 in
theorem r266_1248 (μ : Bool) (d : Nat) (l0 : Value) (l1 : Value) (l2 : Value) (l3 : Value) (y0 y1 : Int32) (st : List Value) (h : Hp) (Q : Po) : wp μ d 266 1248 [l0, l1, l2, l3] (.int y0 :: .int y1 :: st) h Q = wp μ d 266 1249 [l0, l1, l2, l3] (.int (y1 + y0) :: st) h Q := wp_nx rfl
set_option maxRecDepth 20000 in
theorem r266_1249 (μ : Bool) (d : Nat) (l0 : Value) (l1 : Value) (l2 : Value) (l3 : Value) (y0 : Int32) (y1 : Nat) (st : List Value) (h : Hp) (Q : Po) : wp μ d 266 1249 [l0, l1, l2, l3] (.int y0 :: .ref y1 :: st) h Q = (((kdm μ h y1).1 = 20 ∧ vp_in y0 (kdm μ h y1).2) ∧ wp μ d 266 1250 [l0, l1, l2, l3] (.int (gI h y1 y0.toNatClampNeg) :: st) h Q) := wp_ck _ rfl
set_option maxRecDepth 20000 in
theorem r266_1249t (μ : Bool) (d : Nat) (l0 : Value) (l1 : Value) (l2 : Value) (l3 : Value) (y0 : Int32) (st : List Value) (h : Hp) (Q : Po) : wp μ d 266 1249 [l0, l1, l2, l3] (.int y0 :: .retAddr 1 :: st) h Q = (vp_in y0 (hk h 0).2 ∧ wp μ d 266 1250 [l0, l1, l2, l3] (.int (gI h 0 y0.toNatClampNeg) :: st) h Q) := wp_ck _ rfl
set_option maxRecDepth 20000 in
theorem r266_1250 (μ : Bool) (d : Nat) (l0 : Value) (l1 : Value) (l2 : Value) (l3 : Value) (y0 : Int32) (y1 : Int32) (y2 : Int32) (y3 : Int32) (y4 : Nat) (y5 : Int32) (h : Hp) (Q : Po) : wp μ (d + 1) 266 1250 [l0, l1, l2, l3] [.int y0, .int y1, .int y2, .int y3, .ref y4, .int y5] h Q = ((kdm μ h y4).1 = 12 ∧ cwp μ d 249 [.ref y4, .int y3, .int y2, .int y1, .int y0] h (fun r h' => wp μ (d + 1) 266 1253 [l0, l1, l2, l3] (r.toList ++ [.int y5]) h' Q)) := wp_kc _ True rfl ⟨fun q => by obtain ⟨x, q1, q2⟩ := q.2.2.1 rfl; cases q1; exact q2, fun q => ⟨Nat.le_of_ble_eq_true rfl, ⟨Nat.le_of_ble_eq_true rfl, rfl, Nat.le_of_ble_eq_true rfl⟩, fun _ => ⟨_, rfl, q⟩, fun q9 => absurd q9 (by decide)⟩⟩
set_option maxRecDepth 20000 in
theorem r266_1253 (μ : Bool) (d : Nat) (l0 : Value) (l1 : Value) (l2 : Value) (l3 : Value) (y0 y1 : Int32) (st : List Value) (h : Hp) (Q : Po) : wp μ d 266 1253 [l0, l1, l2, l3] (.int y0 :: .int y1 :: st) h Q = if y1 = y0 then wp μ d 266 1545 [l0, l1, l2, l3] st h Q else wp μ d 266 1256 [l0, l1, l2, l3] st h Q := wp_br (y1 = y0) rfl
set_option maxRecDepth 20000 in
theorem r266_1256 (μ : Bool) (d : Nat) (l0 : Value) (l1 : Value) (l2 : Value) (l3 : Value) (st : List Value) (h : Hp) (Q : Po) : wp μ d 266 1256 [l0, l1, l2, l3] st h Q = wp μ d 266 1257 [l0, l1, l2, l3] (.int (nI 0) :: st) h Q := (wp_nx rfl).trans (congrArg (fun z => wp μ d 266 1257 [l0, l1, l2, l3] (.int z :: st) h Q) (show Int32.ofInt (0) = (nI 0) by decide))
set_option maxRecDepth 20000 in
theorem r266_1257 (μ : Bool) (d : Nat) (l0 : Value) (l1 : Value) (l2 : Value) (l3 : Value) (y0 : Int32) (h : Hp) (Q : Po) : wp μ d 266 1257 [l0, l1, l2, l3] [.int y0] h Q = ((y0 = nI 0 ∨ y0 = nI 1) ∧ Q (some (.int y0)) h) := (wp_rc _ rfl).trans (by rw [show retOk (rM 266) y0 = (narrow .boolean (.int y0) = .int y0) from rfl, nz_iff]; rfl)
set_option maxRecDepth 20000 in
theorem r266_1258 (μ : Bool) (d : Nat) (l0 : Value) (l2 : Value) (l3 : Value) (x : Nat) (st : List Value) (h : Hp) (Q : Po) : wp μ d 266 1258 [l0, .ref x, l2, l3] st h Q = wp μ d 266 1259 [l0, .ref x, l2, l3] (.ref x :: st) h Q := wp_nx rfl
set_option maxRecDepth 20000 in
theorem r266_1258n (μ : Bool) (d : Nat) (l0 : Value) (l2 : Value) (l3 : Value) (st : List Value) (h : Hp) (Q : Po) : wp μ d 266 1258 [l0, .null, l2, l3] st h Q = wp μ d 266 1259 [l0, .null, l2, l3] (.null :: st) h Q := wp_nx rfl
set_option maxRecDepth 20000 in
theorem r266_1258t (μ : Bool) (d : Nat) (l0 : Value) (l2 : Value) (l3 : Value) (x : Nat) (st : List Value) (h : Hp) (Q : Po) : wp μ d 266 1258 [l0, .retAddr x, l2, l3] st h Q = wp μ d 266 1259 [l0, .retAddr x, l2, l3] (.retAddr x :: st) h Q := wp_nx rfl
set_option maxRecDepth 20000 in
theorem r266_1259 (μ : Bool) (d : Nat) (l1 : Value) (l2 : Value) (l3 : Value) (x : Nat) (st : List Value) (h : Hp) (Q : Po) : wp μ d 266 1259 [.ref x, l1, l2, l3] st h Q = wp μ d 266 1260 [.ref x, l1, l2, l3] (.ref x :: st) h Q := wp_nx rfl
set_option maxRecDepth 20000 in
theorem r266_1259t (μ : Bool) (d : Nat) (l1 : Value) (l2 : Value) (l3 : Value) (x : Nat) (st : List Value) (h : Hp) (Q : Po) : wp μ d 266 1259 [.retAddr x, l1, l2, l3] st h Q = wp μ d 266 1260 [.retAddr x, l1, l2, l3] (.retAddr x :: st) h Q := wp_nx rfl
set_option maxRecDepth 20000 in
theorem r266_1260 (μ : Bool) (d : Nat) (l0 : Value) (l1 : Value) (l2 : Value) (x : Int32) (st : List Value) (h : Hp) (Q : Po) : wp μ d 266 1260 [l0, l1, l2, .int x] st h Q = wp μ d 266 1261 [l0, l1, l2, .int x] (.int x :: st) h Q := wp_nx rfl
set_option maxRecDepth 20000 in
theorem r266_1261 (μ : Bool) (d : Nat) (l0 : Value) (l1 : Value) (l2 : Value) (l3 : Value) (st : List Value) (h : Hp) (Q : Po) : wp μ d 266 1261 [l0, l1, l2, l3] st h Q = wp μ d 266 1262 [l0, l1, l2, l3] (.int (nI 1) :: st) h Q := (wp_nx rfl).trans (congrArg (fun z => wp μ d 266 1262 [l0, l1, l2, l3] (.int z :: st) h Q) (show Int32.ofInt (1) = (nI 1) by decide))
set_option maxRecDepth 20000 in
theorem r266_1262 (μ : Bool) (d : Nat) (l0 : Value) (l1 : Value) (l2 : Value) (l3 : Value) (y0 y1 : Int32) (st : List Value) (h : Hp) (Q : Po) : wp μ d 266 1262 [l0, l1, l2, l3] (.int y0 :: .int y1 :: st) h Q = wp μ d 266 1263 [l0, l1, l2, l3] (.int (y1 + y0) :: st) h Q := wp_nx rfl
set_option maxRecDepth 20000 in
theorem r266_1263 (μ : Bool) (d : Nat) (l0 : Value) (l1 : Value) (l2 : Value) (l3 : Value) (y0 : Int32) (y1 : Nat) (st : List Value) (h : Hp) (Q : Po) : wp μ d 266 1263 [l0, l1, l2, l3] (.int y0 :: .ref y1 :: st) h Q = (((kdm μ h y1).1 = 20 ∧ vp_in y0 (kdm μ h y1).2) ∧ wp μ d 266 1264 [l0, l1, l2, l3] (.int (gI h y1 y0.toNatClampNeg) :: st) h Q) := wp_ck _ rfl
set_option maxRecDepth 20000 in
theorem r266_1263t (μ : Bool) (d : Nat) (l0 : Value) (l1 : Value) (l2 : Value) (l3 : Value) (y0 : Int32) (st : List Value) (h : Hp) (Q : Po) : wp μ d 266 1263 [l0, l1, l2, l3] (.int y0 :: .retAddr 1 :: st) h Q = (vp_in y0 (hk h 0).2 ∧ wp μ d 266 1264 [l0, l1, l2, l3] (.int (gI h 0 y0.toNatClampNeg) :: st) h Q) := wp_ck _ rfl
set_option maxRecDepth 20000 in
theorem r266_1264 (μ : Bool) (d : Nat) (l1 : Value) (l2 : Value) (l3 : Value) (x : Nat) (st : List Value) (h : Hp) (Q : Po) : wp μ d 266 1264 [.ref x, l1, l2, l3] st h Q = wp μ d 266 1265 [.ref x, l1, l2, l3] (.ref x :: st) h Q := wp_nx rfl
set_option maxRecDepth 20000 in
theorem r266_1264t (μ : Bool) (d : Nat) (l1 : Value) (l2 : Value) (l3 : Value) (x : Nat) (st : List Value) (h : Hp) (Q : Po) : wp μ d 266 1264 [.retAddr x, l1, l2, l3] st h Q = wp μ d 266 1265 [.retAddr x, l1, l2, l3] (.retAddr x :: st) h Q := wp_nx rfl
set_option maxRecDepth 20000 in
theorem r266_1265 (μ : Bool) (d : Nat) (l0 : Value) (l1 : Value) (l2 : Value) (x : Int32) (st : List Value) (h : Hp) (Q : Po) : wp μ d 266 1265 [l0, l1, l2, .int x] st h Q = wp μ d 266 1266 [l0, l1, l2, .int x] (.int x :: st) h Q := wp_nx rfl
set_option maxRecDepth 20000 in
theorem r266_1266 (μ : Bool) (d : Nat) (l0 : Value) (l1 : Value) (l2 : Value) (l3 : Value) (st : List Value) (h : Hp) (Q : Po) : wp μ d 266 1266 [l0, l1, l2, l3] st h Q = wp μ d 266 1267 [l0, l1, l2, l3] (.int (nI 2) :: st) h Q := (wp_nx rfl).trans (congrArg (fun z => wp μ d 266 1267 [l0, l1, l2, l3] (.int z :: st) h Q) (show Int32.ofInt (2) = (nI 2) by decide))
set_option maxRecDepth 20000 in
theorem r266_1267 (μ : Bool) (d : Nat) (l0 : Value) (l1 : Value) (l2 : Value) (l3 : Value) (y0 y1 : Int32) (st : List Value) (h : Hp) (Q : Po) : wp μ d 266 1267 [l0, l1, l2, l3] (.int y0 :: .int y1 :: st) h Q = wp μ d 266 1268 [l0, l1, l2, l3] (.int (y1 + y0) :: st) h Q := wp_nx rfl
set_option maxRecDepth 20000 in
theorem r266_1268 (μ : Bool) (d : Nat) (l0 : Value) (l1 : Value) (l2 : Value) (l3 : Value) (y0 : Int32) (y1 : Nat) (st : List Value) (h : Hp) (Q : Po) : wp μ d 266 1268 [l0, l1, l2, l3] (.int y0 :: .ref y1 :: st) h Q = (((kdm μ h y1).1 = 20 ∧ vp_in y0 (kdm μ h y1).2) ∧ wp μ d 266 1269 [l0, l1, l2, l3] (.int (gI h y1 y0.toNatClampNeg) :: st) h Q) := wp_ck _ rfl
set_option maxRecDepth 20000 in
theorem r266_1268t (μ : Bool) (d : Nat) (l0 : Value) (l1 : Value) (l2 : Value) (l3 : Value) (y0 : Int32) (st : List Value) (h : Hp) (Q : Po) : wp μ d 266 1268 [l0, l1, l2, l3] (.int y0 :: .retAddr 1 :: st) h Q = (vp_in y0 (hk h 0).2 ∧ wp μ d 266 1269 [l0, l1, l2, l3] (.int (gI h 0 y0.toNatClampNeg) :: st) h Q) := wp_ck _ rfl
set_option maxRecDepth 20000 in
theorem r266_1269 (μ : Bool) (d : Nat) (l0 : Value) (l1 : Value) (l2 : Value) (l3 : Value) (y0 : Int32) (y1 : Int32) (y2 : Nat) (h : Hp) (Q : Po) : wp μ (d + 1) 266 1269 [l0, l1, l2, l3] [.int y0, .int y1, .ref y2] h Q = ((kdm μ h y2).1 = 11 ∧ cwp μ d 116 [.ref y2, .int y1, .int y0] h (fun r h' => wp μ (d + 1) 266 1272 [l0, l1, l2, l3] (r.toList ++ []) h' Q)) := wp_kc _ True rfl ⟨fun q => by obtain ⟨x, q1, q2⟩ := q.2.2.1 rfl; cases q1; exact q2, fun q => ⟨Nat.le_of_ble_eq_true rfl, ⟨Nat.le_of_ble_eq_true rfl, rfl, Nat.le_of_ble_eq_true rfl⟩, fun _ => ⟨_, rfl, q⟩, fun q9 => absurd q9 (by decide)⟩⟩
set_option maxRecDepth 20000 in
theorem r266_1272 (μ : Bool) (d : Nat) (l0 : Value) (l1 : Value) (l3 : Value) (x : Nat) (st : List Value) (h : Hp) (Q : Po) : wp μ d 266 1272 [l0, l1, .ref x, l3] st h Q = wp μ d 266 1273 [l0, l1, .ref x, l3] (.ref x :: st) h Q := wp_nx rfl
set_option maxRecDepth 20000 in
theorem r266_1272n (μ : Bool) (d : Nat) (l0 : Value) (l1 : Value) (l3 : Value) (st : List Value) (h : Hp) (Q : Po) : wp μ d 266 1272 [l0, l1, .null, l3] st h Q = wp μ d 266 1273 [l0, l1, .null, l3] (.null :: st) h Q := wp_nx rfl
set_option maxRecDepth 20000 in
theorem r266_1272t (μ : Bool) (d : Nat) (l0 : Value) (l1 : Value) (l3 : Value) (x : Nat) (st : List Value) (h : Hp) (Q : Po) : wp μ d 266 1272 [l0, l1, .retAddr x, l3] st h Q = wp μ d 266 1273 [l0, l1, .retAddr x, l3] (.retAddr x :: st) h Q := wp_nx rfl
set_option maxRecDepth 20000 in
theorem r266_1273 (μ : Bool) (d : Nat) (l1 : Value) (l2 : Value) (l3 : Value) (x : Nat) (st : List Value) (h : Hp) (Q : Po) : wp μ d 266 1273 [.ref x, l1, l2, l3] st h Q = wp μ d 266 1274 [.ref x, l1, l2, l3] (.ref x :: st) h Q := wp_nx rfl
set_option maxRecDepth 20000 in
theorem r266_1273t (μ : Bool) (d : Nat) (l1 : Value) (l2 : Value) (l3 : Value) (x : Nat) (st : List Value) (h : Hp) (Q : Po) : wp μ d 266 1273 [.retAddr x, l1, l2, l3] st h Q = wp μ d 266 1274 [.retAddr x, l1, l2, l3] (.retAddr x :: st) h Q := wp_nx rfl
set_option maxRecDepth 20000 in
theorem r266_1274 (μ : Bool) (d : Nat) (l0 : Value) (l1 : Value) (l2 : Value) (x : Int32) (st : List Value) (h : Hp) (Q : Po) : wp μ d 266 1274 [l0, l1, l2, .int x] st h Q = wp μ d 266 1275 [l0, l1, l2, .int x] (.int x :: st) h Q := wp_nx rfl
set_option maxRecDepth 20000 in
theorem r266_1275 (μ : Bool) (d : Nat) (l0 : Value) (l1 : Value) (l2 : Value) (l3 : Value) (st : List Value) (h : Hp) (Q : Po) : wp μ d 266 1275 [l0, l1, l2, l3] st h Q = wp μ d 266 1276 [l0, l1, l2, l3] (.int (nI 1) :: st) h Q := (wp_nx rfl).trans (congrArg (fun z => wp μ d 266 1276 [l0, l1, l2, l3] (.int z :: st) h Q) (show Int32.ofInt (1) = (nI 1) by decide))
set_option maxRecDepth 20000 in
theorem r266_1276 (μ : Bool) (d : Nat) (l0 : Value) (l1 : Value) (l2 : Value) (l3 : Value) (y0 y1 : Int32) (st : List Value) (h : Hp) (Q : Po) : wp μ d 266 1276 [l0, l1, l2, l3] (.int y0 :: .int y1 :: st) h Q = wp μ d 266 1277 [l0, l1, l2, l3] (.int (y1 + y0) :: st) h Q := wp_nx rfl
set_option maxRecDepth 20000 in
theorem r266_1277 (μ : Bool) (d : Nat) (l0 : Value) (l1 : Value) (l2 : Value) (l3 : Value) (y0 : Int32) (y1 : Nat) (st : List Value) (h : Hp) (Q : Po) : wp μ d 266 1277 [l0, l1, l2, l3] (.int y0 :: .ref y1 :: st) h Q = (((kdm μ h y1).1 = 20 ∧ vp_in y0 (kdm μ h y1).2) ∧ wp μ d 266 1278 [l0, l1, l2, l3] (.int (gI h y1 y0.toNatClampNeg) :: st) h Q) := wp_ck _ rfl
set_option maxRecDepth 20000 in
theorem r266_1277t (μ : Bool) (d : Nat) (l0 : Value) (l1 : Value) (l2 : Value) (l3 : Value) (y0 : Int32) (st : List Value) (h : Hp) (Q : Po) : wp μ d 266 1277 [l0, l1, l2, l3] (.int y0 :: .retAddr 1 :: st) h Q = (vp_in y0 (hk h 0).2 ∧ wp μ d 266 1278 [l0, l1, l2, l3] (.int (gI h 0 y0.toNatClampNeg) :: st) h Q) := wp_ck _ rfl
set_option maxRecDepth 20000 in
theorem r266_1278 (μ : Bool) (d : Nat) (l1 : Value) (l2 : Value) (l3 : Value) (x : Nat) (st : List Value) (h : Hp) (Q : Po) : wp μ d 266 1278 [.ref x, l1, l2, l3] st h Q = wp μ d 266 1279 [.ref x, l1, l2, l3] (.ref x :: st) h Q := wp_nx rfl
set_option maxRecDepth 20000 in
theorem r266_1278t (μ : Bool) (d : Nat) (l1 : Value) (l2 : Value) (l3 : Value) (x : Nat) (st : List Value) (h : Hp) (Q : Po) : wp μ d 266 1278 [.retAddr x, l1, l2, l3] st h Q = wp μ d 266 1279 [.retAddr x, l1, l2, l3] (.retAddr x :: st) h Q := wp_nx rfl
set_option maxRecDepth 20000 in
theorem r266_1279 (μ : Bool) (d : Nat) (l0 : Value) (l1 : Value) (l2 : Value) (x : Int32) (st : List Value) (h : Hp) (Q : Po) : wp μ d 266 1279 [l0, l1, l2, .int x] st h Q = wp μ d 266 1280 [l0, l1, l2, .int x] (.int x :: st) h Q := wp_nx rfl
set_option maxRecDepth 20000 in
theorem r266_1280 (μ : Bool) (d : Nat) (l0 : Value) (l1 : Value) (l2 : Value) (l3 : Value) (st : List Value) (h : Hp) (Q : Po) : wp μ d 266 1280 [l0, l1, l2, l3] st h Q = wp μ d 266 1281 [l0, l1, l2, l3] (.int (nI 2) :: st) h Q := (wp_nx rfl).trans (congrArg (fun z => wp μ d 266 1281 [l0, l1, l2, l3] (.int z :: st) h Q) (show Int32.ofInt (2) = (nI 2) by decide))
set_option maxRecDepth 20000 in
theorem r266_1281 (μ : Bool) (d : Nat) (l0 : Value) (l1 : Value) (l2 : Value) (l3 : Value) (y0 y1 : Int32) (st : List Value) (h : Hp) (Q : Po) : wp μ d 266 1281 [l0, l1, l2, l3] (.int y0 :: .int y1 :: st) h Q = wp μ d 266 1282 [l0, l1, l2, l3] (.int (y1 + y0) :: st) h Q := wp_nx rfl
set_option maxRecDepth 20000 in
theorem r266_1282 (μ : Bool) (d : Nat) (l0 : Value) (l1 : Value) (l2 : Value) (l3 : Value) (y0 : Int32) (y1 : Nat) (st : List Value) (h : Hp) (Q : Po) : wp μ d 266 1282 [l0, l1, l2, l3] (.int y0 :: .ref y1 :: st) h Q = (((kdm μ h y1).1 = 20 ∧ vp_in y0 (kdm μ h y1).2) ∧ wp μ d 266 1283 [l0, l1, l2, l3] (.int (gI h y1 y0.toNatClampNeg) :: st) h Q) := wp_ck _ rfl
set_option maxRecDepth 20000 in
theorem r266_1282t (μ : Bool) (d : Nat) (l0 : Value) (l1 : Value) (l2 : Value) (l3 : Value) (y0 : Int32) (st : List Value) (h : Hp) (Q : Po) : wp μ d 266 1282 [l0, l1, l2, l3] (.int y0 :: .retAddr 1 :: st) h Q = (vp_in y0 (hk h 0).2 ∧ wp μ d 266 1283 [l0, l1, l2, l3] (.int (gI h 0 y0.toNatClampNeg) :: st) h Q) := wp_ck _ rfl
set_option maxRecDepth 20000 in
theorem r266_1283 (μ : Bool) (d : Nat) (l0 : Value) (l1 : Value) (l2 : Value) (l3 : Value) (y0 : Int32) (y1 : Int32) (y2 : Nat) (y3 : Int32) (h : Hp) (Q : Po) : wp μ (d + 1) 266 1283 [l0, l1, l2, l3] [.int y0, .int y1, .ref y2, .int y3] h Q = ((kdm μ h y2).1 = 12 ∧ cwp μ d 252 [.ref y2, .int y1, .int y0] h (fun r h' => wp μ (d + 1) 266 1286 [l0, l1, l2, l3] (r.toList ++ [.int y3]) h' Q)) := wp_kc _ True rfl ⟨fun q => by obtain ⟨x, q1, q2⟩ := q.2.2.1 rfl; cases q1; exact q2, fun q => ⟨Nat.le_of_ble_eq_true rfl, ⟨Nat.le_of_ble_eq_true rfl, rfl, Nat.le_of_ble_eq_true rfl⟩, fun _ => ⟨_, rfl, q⟩, fun q9 => absurd q9 (by decide)⟩⟩
set_option maxRecDepth 20000 in
theorem r266_1286 (μ : Bool) (d : Nat) (l0 : Value) (l1 : Value) (l2 : Value) (l3 : Value) (y0 y1 : Int32) (st : List Value) (h : Hp) (Q : Po) : wp μ d 266 1286 [l0, l1, l2, l3] (.int y0 :: .int y1 :: st) h Q = if y1 = y0 then wp μ d 266 1545 [l0, l1, l2, l3] st h Q else wp μ d 266 1289 [l0, l1, l2, l3] st h Q := wp_br (y1 = y0) rfl
set_option maxRecDepth 20000 in
theorem r266_1289 (μ : Bool) (d : Nat) (l0 : Value) (l1 : Value) (l2 : Value) (l3 : Value) (st : List Value) (h : Hp) (Q : Po) : wp μ d 266 1289 [l0, l1, l2, l3] st h Q = wp μ d 266 1290 [l0, l1, l2, l3] (.int (nI 0) :: st) h Q := (wp_nx rfl).trans (congrArg (fun z => wp μ d 266 1290 [l0, l1, l2, l3] (.int z :: st) h Q) (show Int32.ofInt (0) = (nI 0) by decide))
set_option maxRecDepth 20000 in
theorem r266_1290 (μ : Bool) (d : Nat) (l0 : Value) (l1 : Value) (l2 : Value) (l3 : Value) (y0 : Int32) (h : Hp) (Q : Po) : wp μ d 266 1290 [l0, l1, l2, l3] [.int y0] h Q = ((y0 = nI 0 ∨ y0 = nI 1) ∧ Q (some (.int y0)) h) := (wp_rc _ rfl).trans (by rw [show retOk (rM 266) y0 = (narrow .boolean (.int y0) = .int y0) from rfl, nz_iff]; rfl)
set_option maxRecDepth 20000 in
theorem r266_1291 (μ : Bool) (d : Nat) (l0 : Value) (l2 : Value) (l3 : Value) (x : Nat) (st : List Value) (h : Hp) (Q : Po) : wp μ d 266 1291 [l0, .ref x, l2, l3] st h Q = wp μ d 266 1292 [l0, .ref x, l2, l3] (.ref x :: st) h Q := wp_nx rfl
set_option maxRecDepth 20000 in
theorem r266_1291n (μ : Bool) (d : Nat) (l0 : Value) (l2 : Value) (l3 : Value) (st : List Value) (h : Hp) (Q : Po) : wp μ d 266 1291 [l0, .null, l2, l3] st h Q = wp μ d 266 1292 [l0, .null, l2, l3] (.null :: st) h Q := wp_nx rfl
set_option maxRecDepth 20000 in
theorem r266_1291t (μ : Bool) (d : Nat) (l0 : Value) (l2 : Value) (l3 : Value) (x : Nat) (st : List Value) (h : Hp) (Q : Po) : wp μ d 266 1291 [l0, .retAddr x, l2, l3] st h Q = wp μ d 266 1292 [l0, .retAddr x, l2, l3] (.retAddr x :: st) h Q := wp_nx rfl
set_option maxRecDepth 20000 in
theorem r266_1292 (μ : Bool) (d : Nat) (l1 : Value) (l2 : Value) (l3 : Value) (x : Nat) (st : List Value) (h : Hp) (Q : Po) : wp μ d 266 1292 [.ref x, l1, l2, l3] st h Q = wp μ d 266 1293 [.ref x, l1, l2, l3] (.ref x :: st) h Q := wp_nx rfl
set_option maxRecDepth 20000 in
theorem r266_1292t (μ : Bool) (d : Nat) (l1 : Value) (l2 : Value) (l3 : Value) (x : Nat) (st : List Value) (h : Hp) (Q : Po) : wp μ d 266 1292 [.retAddr x, l1, l2, l3] st h Q = wp μ d 266 1293 [.retAddr x, l1, l2, l3] (.retAddr x :: st) h Q := wp_nx rfl
set_option maxRecDepth 20000 in
theorem r266_1293 (μ : Bool) (d : Nat) (l0 : Value) (l1 : Value) (l2 : Value) (x : Int32) (st : List Value) (h : Hp) (Q : Po) : wp μ d 266 1293 [l0, l1, l2, .int x] st h Q = wp μ d 266 1294 [l0, l1, l2, .int x] (.int x :: st) h Q := wp_nx rfl
set_option maxRecDepth 20000 in
theorem r266_1294 (μ : Bool) (d : Nat) (l0 : Value) (l1 : Value) (l2 : Value) (l3 : Value) (st : List Value) (h : Hp) (Q : Po) : wp μ d 266 1294 [l0, l1, l2, l3] st h Q = wp μ d 266 1295 [l0, l1, l2, l3] (.int (nI 1) :: st) h Q := (wp_nx rfl).trans (congrArg (fun z => wp μ d 266 1295 [l0, l1, l2, l3] (.int z :: st) h Q) (show Int32.ofInt (1) = (nI 1) by decide))
set_option maxRecDepth 20000 in
theorem r266_1295 (μ : Bool) (d : Nat) (l0 : Value) (l1 : Value) (l2 : Value) (l3 : Value) (y0 y1 : Int32) (st : List Value) (h : Hp) (Q : Po) : wp μ d 266 1295 [l0, l1, l2, l3] (.int y0 :: .int y1 :: st) h Q = wp μ d 266 1296 [l0, l1, l2, l3] (.int (y1 + y0) :: st) h Q := wp_nx rfl
set_option maxRecDepth 20000 in
theorem r266_1296 (μ : Bool) (d : Nat) (l0 : Value) (l1 : Value) (l2 : Value) (l3 : Value) (y0 : Int32) (y1 : Nat) (st : List Value) (h : Hp) (Q : Po) : wp μ d 266 1296 [l0, l1, l2, l3] (.int y0 :: .ref y1 :: st) h Q = (((kdm μ h y1).1 = 20 ∧ vp_in y0 (kdm μ h y1).2) ∧ wp μ d 266 1297 [l0, l1, l2, l3] (.int (gI h y1 y0.toNatClampNeg) :: st) h Q) := wp_ck _ rfl
set_option maxRecDepth 20000 in
theorem r266_1296t (μ : Bool) (d : Nat) (l0 : Value) (l1 : Value) (l2 : Value) (l3 : Value) (y0 : Int32) (st : List Value) (h : Hp) (Q : Po) : wp μ d 266 1296 [l0, l1, l2, l3] (.int y0 :: .retAddr 1 :: st) h Q = (vp_in y0 (hk h 0).2 ∧ wp μ d 266 1297 [l0, l1, l2, l3] (.int (gI h 0 y0.toNatClampNeg) :: st) h Q) := wp_ck _ rfl
set_option maxRecDepth 20000 in
theorem r266_1297 (μ : Bool) (d : Nat) (l1 : Value) (l2 : Value) (l3 : Value) (x : Nat) (st : List Value) (h : Hp) (Q : Po) : wp μ d 266 1297 [.ref x, l1, l2, l3] st h Q = wp μ d 266 1298 [.ref x, l1, l2, l3] (.ref x :: st) h Q := wp_nx rfl
set_option maxRecDepth 20000 in
theorem r266_1297t (μ : Bool) (d : Nat) (l1 : Value) (l2 : Value) (l3 : Value) (x : Nat) (st : List Value) (h : Hp) (Q : Po) : wp μ d 266 1297 [.retAddr x, l1, l2, l3] st h Q = wp μ d 266 1298 [.retAddr x, l1, l2, l3] (.retAddr x :: st) h Q := wp_nx rfl
set_option maxRecDepth 20000 in
theorem r266_1298 (μ : Bool) (d : Nat) (l0 : Value) (l1 : Value) (l2 : Value) (x : Int32) (st : List Value) (h : Hp) (Q : Po) : wp μ d 266 1298 [l0, l1, l2, .int x] st h Q = wp μ d 266 1299 [l0, l1, l2, .int x] (.int x :: st) h Q := wp_nx rfl
set_option maxRecDepth 20000 in
theorem r266_1299 (μ : Bool) (d : Nat) (l0 : Value) (l1 : Value) (l2 : Value) (l3 : Value) (st : List Value) (h : Hp) (Q : Po) : wp μ d 266 1299 [l0, l1, l2, l3] st h Q = wp μ d 266 1300 [l0, l1, l2, l3] (.int (nI 2) :: st) h Q := (wp_nx rfl).trans (congrArg (fun z => wp μ d 266 1300 [l0, l1, l2, l3] (.int z :: st) h Q) (show Int32.ofInt (2) = (nI 2) by decide))
set_option maxRecDepth 20000 in
theorem r266_1300 (μ : Bool) (d : Nat) (l0 : Value) (l1 : Value) (l2 : Value) (l3 : Value) (y0 y1 : Int32) (st : List Value) (h : Hp) (Q : Po) : wp μ d 266 1300 [l0, l1, l2, l3] (.int y0 :: .int y1 :: st) h Q = wp μ d 266 1301 [l0, l1, l2, l3] (.int (y1 + y0) :: st) h Q := wp_nx rfl
set_option maxRecDepth 20000 in
theorem r266_1301 (μ : Bool) (d : Nat) (l0 : Value) (l1 : Value) (l2 : Value) (l3 : Value) (y0 : Int32) (y1 : Nat) (st : List Value) (h : Hp) (Q : Po) : wp μ d 266 1301 [l0, l1, l2, l3] (.int y0 :: .ref y1 :: st) h Q = (((kdm μ h y1).1 = 20 ∧ vp_in y0 (kdm μ h y1).2) ∧ wp μ d 266 1302 [l0, l1, l2, l3] (.int (gI h y1 y0.toNatClampNeg) :: st) h Q) := wp_ck _ rfl
set_option maxRecDepth 20000 in
theorem r266_1301t (μ : Bool) (d : Nat) (l0 : Value) (l1 : Value) (l2 : Value) (l3 : Value) (y0 : Int32) (st : List Value) (h : Hp) (Q : Po) : wp μ d 266 1301 [l0, l1, l2, l3] (.int y0 :: .retAddr 1 :: st) h Q = (vp_in y0 (hk h 0).2 ∧ wp μ d 266 1302 [l0, l1, l2, l3] (.int (gI h 0 y0.toNatClampNeg) :: st) h Q) := wp_ck _ rfl
set_option maxRecDepth 20000 in
theorem r266_1302 (μ : Bool) (d : Nat) (l1 : Value) (l2 : Value) (l3 : Value) (x : Nat) (st : List Value) (h : Hp) (Q : Po) : wp μ d 266 1302 [.ref x, l1, l2, l3] st h Q = wp μ d 266 1303 [.ref x, l1, l2, l3] (.ref x :: st) h Q := wp_nx rfl
set_option maxRecDepth 20000 in
theorem r266_1302t (μ : Bool) (d : Nat) (l1 : Value) (l2 : Value) (l3 : Value) (x : Nat) (st : List Value) (h : Hp) (Q : Po) : wp μ d 266 1302 [.retAddr x, l1, l2, l3] st h Q = wp μ d 266 1303 [.retAddr x, l1, l2, l3] (.retAddr x :: st) h Q := wp_nx rfl
set_option maxRecDepth 20000 in
theorem r266_1303 (μ : Bool) (d : Nat) (l0 : Value) (l1 : Value) (l2 : Value) (x : Int32) (st : List Value) (h : Hp) (Q : Po) : wp μ d 266 1303 [l0, l1, l2, .int x] st h Q = wp μ d 266 1304 [l0, l1, l2, .int x] (.int x :: st) h Q := wp_nx rfl
set_option maxRecDepth 20000 in
theorem r266_1304 (μ : Bool) (d : Nat) (l0 : Value) (l1 : Value) (l2 : Value) (l3 : Value) (st : List Value) (h : Hp) (Q : Po) : wp μ d 266 1304 [l0, l1, l2, l3] st h Q = wp μ d 266 1305 [l0, l1, l2, l3] (.int (nI 3) :: st) h Q := (wp_nx rfl).trans (congrArg (fun z => wp μ d 266 1305 [l0, l1, l2, l3] (.int z :: st) h Q) (show Int32.ofInt (3) = (nI 3) by decide))
set_option maxRecDepth 20000 in
theorem r266_1305 (μ : Bool) (d : Nat) (l0 : Value) (l1 : Value) (l2 : Value) (l3 : Value) (y0 y1 : Int32) (st : List Value) (h : Hp) (Q : Po) : wp μ d 266 1305 [l0, l1, l2, l3] (.int y0 :: .int y1 :: st) h Q = wp μ d 266 1306 [l0, l1, l2, l3] (.int (y1 + y0) :: st) h Q := wp_nx rfl
set_option maxRecDepth 20000 in
theorem r266_1306 (μ : Bool) (d : Nat) (l0 : Value) (l1 : Value) (l2 : Value) (l3 : Value) (y0 : Int32) (y1 : Nat) (st : List Value) (h : Hp) (Q : Po) : wp μ d 266 1306 [l0, l1, l2, l3] (.int y0 :: .ref y1 :: st) h Q = (((kdm μ h y1).1 = 20 ∧ vp_in y0 (kdm μ h y1).2) ∧ wp μ d 266 1307 [l0, l1, l2, l3] (.int (gI h y1 y0.toNatClampNeg) :: st) h Q) := wp_ck _ rfl
set_option maxRecDepth 20000 in
theorem r266_1306t (μ : Bool) (d : Nat) (l0 : Value) (l1 : Value) (l2 : Value) (l3 : Value) (y0 : Int32) (st : List Value) (h : Hp) (Q : Po) : wp μ d 266 1306 [l0, l1, l2, l3] (.int y0 :: .retAddr 1 :: st) h Q = (vp_in y0 (hk h 0).2 ∧ wp μ d 266 1307 [l0, l1, l2, l3] (.int (gI h 0 y0.toNatClampNeg) :: st) h Q) := wp_ck _ rfl
set_option maxRecDepth 20000 in
theorem r266_1307 (μ : Bool) (d : Nat) (l0 : Value) (l1 : Value) (l2 : Value) (l3 : Value) (y0 : Int32) (y1 : Int32) (y2 : Int32) (y3 : Nat) (h : Hp) (Q : Po) : wp μ (d + 1) 266 1307 [l0, l1, l2, l3] [.int y0, .int y1, .int y2, .ref y3] h Q = ((kdm μ h y3).1 = 11 ∧ cwp μ d 117 [.ref y3, .int y2, .int y1, .int y0] h (fun r h' => wp μ (d + 1) 266 1310 [l0, l1, l2, l3] (r.toList ++ []) h' Q)) := wp_kc _ True rfl ⟨fun q => by obtain ⟨x, q1, q2⟩ := q.2.2.1 rfl; cases q1; exact q2, fun q => ⟨Nat.le_of_ble_eq_true rfl, ⟨Nat.le_of_ble_eq_true rfl, rfl, Nat.le_of_ble_eq_true rfl⟩, fun _ => ⟨_, rfl, q⟩, fun q9 => absurd q9 (by decide)⟩⟩
set_option maxRecDepth 20000 in
theorem r266_1310 (μ : Bool) (d : Nat) (l0 : Value) (l1 : Value) (l3 : Value) (x : Nat) (st : List Value) (h : Hp) (Q : Po) : wp μ d 266 1310 [l0, l1, .ref x, l3] st h Q = wp μ d 266 1311 [l0, l1, .ref x, l3] (.ref x :: st) h Q := wp_nx rfl
set_option maxRecDepth 20000 in
theorem r266_1310n (μ : Bool) (d : Nat) (l0 : Value) (l1 : Value) (l3 : Value) (st : List Value) (h : Hp) (Q : Po) : wp μ d 266 1310 [l0, l1, .null, l3] st h Q = wp μ d 266 1311 [l0, l1, .null, l3] (.null :: st) h Q := wp_nx rfl
set_option maxRecDepth 20000 in
theorem r266_1310t (μ : Bool) (d : Nat) (l0 : Value) (l1 : Value) (l3 : Value) (x : Nat) (st : List Value) (h : Hp) (Q : Po) : wp μ d 266 1310 [l0, l1, .retAddr x, l3] st h Q = wp μ d 266 1311 [l0, l1, .retAddr x, l3] (.retAddr x :: st) h Q := wp_nx rfl
set_option maxRecDepth 20000 in
theorem r266_1311 (μ : Bool) (d : Nat) (l1 : Value) (l2 : Value) (l3 : Value) (x : Nat) (st : List Value) (h : Hp) (Q : Po) : wp μ d 266 1311 [.ref x, l1, l2, l3] st h Q = wp μ d 266 1312 [.ref x, l1, l2, l3] (.ref x :: st) h Q := wp_nx rfl
set_option maxRecDepth 20000 in
theorem r266_1311t (μ : Bool) (d : Nat) (l1 : Value) (l2 : Value) (l3 : Value) (x : Nat) (st : List Value) (h : Hp) (Q : Po) : wp μ d 266 1311 [.retAddr x, l1, l2, l3] st h Q = wp μ d 266 1312 [.retAddr x, l1, l2, l3] (.retAddr x :: st) h Q := wp_nx rfl
set_option maxRecDepth 20000 in
theorem r266_1312 (μ : Bool) (d : Nat) (l0 : Value) (l1 : Value) (l2 : Value) (x : Int32) (st : List Value) (h : Hp) (Q : Po) : wp μ d 266 1312 [l0, l1, l2, .int x] st h Q = wp μ d 266 1313 [l0, l1, l2, .int x] (.int x :: st) h Q := wp_nx rfl
set_option maxRecDepth 20000 in
theorem r266_1313 (μ : Bool) (d : Nat) (l0 : Value) (l1 : Value) (l2 : Value) (l3 : Value) (st : List Value) (h : Hp) (Q : Po) : wp μ d 266 1313 [l0, l1, l2, l3] st h Q = wp μ d 266 1314 [l0, l1, l2, l3] (.int (nI 1) :: st) h Q := (wp_nx rfl).trans (congrArg (fun z => wp μ d 266 1314 [l0, l1, l2, l3] (.int z :: st) h Q) (show Int32.ofInt (1) = (nI 1) by decide))
set_option maxRecDepth 20000 in
theorem r266_1314 (μ : Bool) (d : Nat) (l0 : Value) (l1 : Value) (l2 : Value) (l3 : Value) (y0 y1 : Int32) (st : List Value) (h : Hp) (Q : Po) : wp μ d 266 1314 [l0, l1, l2, l3] (.int y0 :: .int y1 :: st) h Q = wp μ d 266 1315 [l0, l1, l2, l3] (.int (y1 + y0) :: st) h Q := wp_nx rfl
set_option maxRecDepth 20000 in
theorem r266_1315 (μ : Bool) (d : Nat) (l0 : Value) (l1 : Value) (l2 : Value) (l3 : Value) (y0 : Int32) (y1 : Nat) (st : List Value) (h : Hp) (Q : Po) : wp μ d 266 1315 [l0, l1, l2, l3] (.int y0 :: .ref y1 :: st) h Q = (((kdm μ h y1).1 = 20 ∧ vp_in y0 (kdm μ h y1).2) ∧ wp μ d 266 1316 [l0, l1, l2, l3] (.int (gI h y1 y0.toNatClampNeg) :: st) h Q) := wp_ck _ rfl
set_option maxRecDepth 20000 in
theorem r266_1315t (μ : Bool) (d : Nat) (l0 : Value) (l1 : Value) (l2 : Value) (l3 : Value) (y0 : Int32) (st : List Value) (h : Hp) (Q : Po) : wp μ d 266 1315 [l0, l1, l2, l3] (.int y0 :: .retAddr 1 :: st) h Q = (vp_in y0 (hk h 0).2 ∧ wp μ d 266 1316 [l0, l1, l2, l3] (.int (gI h 0 y0.toNatClampNeg) :: st) h Q) := wp_ck _ rfl
set_option maxRecDepth 20000 in
theorem r266_1316 (μ : Bool) (d : Nat) (l1 : Value) (l2 : Value) (l3 : Value) (x : Nat) (st : List Value) (h : Hp) (Q : Po) : wp μ d 266 1316 [.ref x, l1, l2, l3] st h Q = wp μ d 266 1317 [.ref x, l1, l2, l3] (.ref x :: st) h Q := wp_nx rfl
set_option maxRecDepth 20000 in
theorem r266_1316t (μ : Bool) (d : Nat) (l1 : Value) (l2 : Value) (l3 : Value) (x : Nat) (st : List Value) (h : Hp) (Q : Po) : wp μ d 266 1316 [.retAddr x, l1, l2, l3] st h Q = wp μ d 266 1317 [.retAddr x, l1, l2, l3] (.retAddr x :: st) h Q := wp_nx rfl
set_option maxRecDepth 20000 in
theorem r266_1317 (μ : Bool) (d : Nat) (l0 : Value) (l1 : Value) (l2 : Value) (x : Int32) (st : List Value) (h : Hp) (Q : Po) : wp μ d 266 1317 [l0, l1, l2, .int x] st h Q = wp μ d 266 1318 [l0, l1, l2, .int x] (.int x :: st) h Q := wp_nx rfl
set_option maxRecDepth 20000 in
theorem r266_1318 (μ : Bool) (d : Nat) (l0 : Value) (l1 : Value) (l2 : Value) (l3 : Value) (st : List Value) (h : Hp) (Q : Po) : wp μ d 266 1318 [l0, l1, l2, l3] st h Q = wp μ d 266 1319 [l0, l1, l2, l3] (.int (nI 2) :: st) h Q := (wp_nx rfl).trans (congrArg (fun z => wp μ d 266 1319 [l0, l1, l2, l3] (.int z :: st) h Q) (show Int32.ofInt (2) = (nI 2) by decide))
set_option maxRecDepth 20000 in
theorem r266_1319 (μ : Bool) (d : Nat) (l0 : Value) (l1 : Value) (l2 : Value) (l3 : Value) (y0 y1 : Int32) (st : List Value) (h : Hp) (Q : Po) : wp μ d 266 1319 [l0, l1, l2, l3] (.int y0 :: .int y1 :: st) h Q = wp μ d 266 1320 [l0, l1, l2, l3] (.int (y1 + y0) :: st) h Q := wp_nx rfl
set_option maxRecDepth 20000 in
theorem r266_1320 (μ : Bool) (d : Nat) (l0 : Value) (l1 : Value) (l2 : Value) (l3 : Value) (y0 : Int32) (y1 : Nat) (st : List Value) (h : Hp) (Q : Po) : wp μ d 266 1320 [l0, l1, l2, l3] (.int y0 :: .ref y1 :: st) h Q = (((kdm μ h y1).1 = 20 ∧ vp_in y0 (kdm μ h y1).2) ∧ wp μ d 266 1321 [l0, l1, l2, l3] (.int (gI h y1 y0.toNatClampNeg) :: st) h Q) := wp_ck _ rfl
set_option maxRecDepth 20000 in
theorem r266_1320t (μ : Bool) (d : Nat) (l0 : Value) (l1 : Value) (l2 : Value) (l3 : Value) (y0 : Int32) (st : List Value) (h : Hp) (Q : Po) : wp μ d 266 1320 [l0, l1, l2, l3] (.int y0 :: .retAddr 1 :: st) h Q = (vp_in y0 (hk h 0).2 ∧ wp μ d 266 1321 [l0, l1, l2, l3] (.int (gI h 0 y0.toNatClampNeg) :: st) h Q) := wp_ck _ rfl
set_option maxRecDepth 20000 in
theorem r266_1321 (μ : Bool) (d : Nat) (l1 : Value) (l2 : Value) (l3 : Value) (x : Nat) (st : List Value) (h : Hp) (Q : Po) : wp μ d 266 1321 [.ref x, l1, l2, l3] st h Q = wp μ d 266 1322 [.ref x, l1, l2, l3] (.ref x :: st) h Q := wp_nx rfl
set_option maxRecDepth 20000 in
theorem r266_1321t (μ : Bool) (d : Nat) (l1 : Value) (l2 : Value) (l3 : Value) (x : Nat) (st : List Value) (h : Hp) (Q : Po) : wp μ d 266 1321 [.retAddr x, l1, l2, l3] st h Q = wp μ d 266 1322 [.retAddr x, l1, l2, l3] (.retAddr x :: st) h Q := wp_nx rfl
set_option maxRecDepth 20000 in
theorem r266_1322 (μ : Bool) (d : Nat) (l0 : Value) (l1 : Value) (l2 : Value) (x : Int32) (st : List Value) (h : Hp) (Q : Po) : wp μ d 266 1322 [l0, l1, l2, .int x] st h Q = wp μ d 266 1323 [l0, l1, l2, .int x] (.int x :: st) h Q := wp_nx rfl
set_option maxRecDepth 20000 in
theorem r266_1323 (μ : Bool) (d : Nat) (l0 : Value) (l1 : Value) (l2 : Value) (l3 : Value) (st : List Value) (h : Hp) (Q : Po) : wp μ d 266 1323 [l0, l1, l2, l3] st h Q = wp μ d 266 1324 [l0, l1, l2, l3] (.int (nI 3) :: st) h Q := (wp_nx rfl).trans (congrArg (fun z => wp μ d 266 1324 [l0, l1, l2, l3] (.int z :: st) h Q) (show Int32.ofInt (3) = (nI 3) by decide))
set_option maxRecDepth 20000 in
theorem r266_1324 (μ : Bool) (d : Nat) (l0 : Value) (l1 : Value) (l2 : Value) (l3 : Value) (y0 y1 : Int32) (st : List Value) (h : Hp) (Q : Po) : wp μ d 266 1324 [l0, l1, l2, l3] (.int y0 :: .int y1 :: st) h Q = wp μ d 266 1325 [l0, l1, l2, l3] (.int (y1 + y0) :: st) h Q := wp_nx rfl
set_option maxRecDepth 20000 in
theorem r266_1325 (μ : Bool) (d : Nat) (l0 : Value) (l1 : Value) (l2 : Value) (l3 : Value) (y0 : Int32) (y1 : Nat) (st : List Value) (h : Hp) (Q : Po) : wp μ d 266 1325 [l0, l1, l2, l3] (.int y0 :: .ref y1 :: st) h Q = (((kdm μ h y1).1 = 20 ∧ vp_in y0 (kdm μ h y1).2) ∧ wp μ d 266 1326 [l0, l1, l2, l3] (.int (gI h y1 y0.toNatClampNeg) :: st) h Q) := wp_ck _ rfl
set_option maxRecDepth 20000 in
theorem r266_1325t (μ : Bool) (d : Nat) (l0 : Value) (l1 : Value) (l2 : Value) (l3 : Value) (y0 : Int32) (st : List Value) (h : Hp) (Q : Po) : wp μ d 266 1325 [l0, l1, l2, l3] (.int y0 :: .retAddr 1 :: st) h Q = (vp_in y0 (hk h 0).2 ∧ wp μ d 266 1326 [l0, l1, l2, l3] (.int (gI h 0 y0.toNatClampNeg) :: st) h Q) := wp_ck _ rfl
set_option maxRecDepth 20000 in
theorem r266_1326 (μ : Bool) (d : Nat) (l0 : Value) (l1 : Value) (l2 : Value) (l3 : Value) (y0 : Int32) (y1 : Int32) (y2 : Int32) (y3 : Nat) (y4 : Int32) (h : Hp) (Q : Po) : wp μ (d + 1) 266 1326 [l0, l1, l2, l3] [.int y0, .int y1, .int y2, .ref y3, .int y4] h Q = ((kdm μ h y3).1 = 12 ∧ cwp μ d 253 [.ref y3, .int y2, .int y1, .int y0] h (fun r h' => wp μ (d + 1) 266 1329 [l0, l1, l2, l3] (r.toList ++ [.int y4]) h' Q)) := wp_kc _ True rfl ⟨fun q => by obtain ⟨x, q1, q2⟩ := q.2.2.1 rfl; cases q1; exact q2, fun q => ⟨Nat.le_of_ble_eq_true rfl, ⟨Nat.le_of_ble_eq_true rfl, rfl, Nat.le_of_ble_eq_true rfl⟩, fun _ => ⟨_, rfl, q⟩, fun q9 => absurd q9 (by decide)⟩⟩
set_option maxRecDepth 20000 in
theorem r266_1329 (μ : Bool) (d : Nat) (l0 : Value) (l1 : Value) (l2 : Value) (l3 : Value) (y0 y1 : Int32) (st : List Value) (h : Hp) (Q : Po) : wp μ d 266 1329 [l0, l1, l2, l3] (.int y0 :: .int y1 :: st) h Q = if y1 = y0 then wp μ d 266 1545 [l0, l1, l2, l3] st h Q else wp μ d 266 1332 [l0, l1, l2, l3] st h Q := wp_br (y1 = y0) rfl
set_option maxRecDepth 20000 in
theorem r266_1332 (μ : Bool) (d : Nat) (l0 : Value) (l1 : Value) (l2 : Value) (l3 : Value) (st : List Value) (h : Hp) (Q : Po) : wp μ d 266 1332 [l0, l1, l2, l3] st h Q = wp μ d 266 1333 [l0, l1, l2, l3] (.int (nI 0) :: st) h Q := (wp_nx rfl).trans (congrArg (fun z => wp μ d 266 1333 [l0, l1, l2, l3] (.int z :: st) h Q) (show Int32.ofInt (0) = (nI 0) by decide))
set_option maxRecDepth 20000 in
theorem r266_1333 (μ : Bool) (d : Nat) (l0 : Value) (l1 : Value) (l2 : Value) (l3 : Value) (y0 : Int32) (h : Hp) (Q : Po) : wp μ d 266 1333 [l0, l1, l2, l3] [.int y0] h Q = ((y0 = nI 0 ∨ y0 = nI 1) ∧ Q (some (.int y0)) h) := (wp_rc _ rfl).trans (by rw [show retOk (rM 266) y0 = (narrow .boolean (.int y0) = .int y0) from rfl, nz_iff]; rfl)
set_option maxRecDepth 20000 in
theorem r266_1334 (μ : Bool) (d : Nat) (l0 : Value) (l2 : Value) (l3 : Value) (x : Nat) (st : List Value) (h : Hp) (Q : Po) : wp μ d 266 1334 [l0, .ref x, l2, l3] st h Q = wp μ d 266 1335 [l0, .ref x, l2, l3] (.ref x :: st) h Q := wp_nx rfl
set_option maxRecDepth 20000 in
theorem r266_1334n (μ : Bool) (d : Nat) (l0 : Value) (l2 : Value) (l3 : Value) (st : List Value) (h : Hp) (Q : Po) : wp μ d 266 1334 [l0, .null, l2, l3] st h Q = wp μ d 266 1335 [l0, .null, l2, l3] (.null :: st) h Q := wp_nx rfl
set_option maxRecDepth 20000 in
theorem r266_1334t (μ : Bool) (d : Nat) (l0 : Value) (l2 : Value) (l3 : Value) (x : Nat) (st : List Value) (h : Hp) (Q : Po) : wp μ d 266 1334 [l0, .retAddr x, l2, l3] st h Q = wp μ d 266 1335 [l0, .retAddr x, l2, l3] (.retAddr x :: st) h Q := wp_nx rfl
set_option maxRecDepth 20000 in
theorem r266_1335 (μ : Bool) (d : Nat) (l1 : Value) (l2 : Value) (l3 : Value) (x : Nat) (st : List Value) (h : Hp) (Q : Po) : wp μ d 266 1335 [.ref x, l1, l2, l3] st h Q = wp μ d 266 1336 [.ref x, l1, l2, l3] (.ref x :: st) h Q := wp_nx rfl
set_option maxRecDepth 20000 in
theorem r266_1335t (μ : Bool) (d : Nat) (l1 : Value) (l2 : Value) (l3 : Value) (x : Nat) (st : List Value) (h : Hp) (Q : Po) : wp μ d 266 1335 [.retAddr x, l1, l2, l3] st h Q = wp μ d 266 1336 [.retAddr x, l1, l2, l3] (.retAddr x :: st) h Q := wp_nx rfl
set_option maxRecDepth 20000 in
theorem r266_1336 (μ : Bool) (d : Nat) (l0 : Value) (l1 : Value) (l2 : Value) (x : Int32) (st : List Value) (h : Hp) (Q : Po) : wp μ d 266 1336 [l0, l1, l2, .int x] st h Q = wp μ d 266 1337 [l0, l1, l2, .int x] (.int x :: st) h Q := wp_nx rfl
set_option maxRecDepth 20000 in
theorem r266_1337 (μ : Bool) (d : Nat) (l0 : Value) (l1 : Value) (l2 : Value) (l3 : Value) (st : List Value) (h : Hp) (Q : Po) : wp μ d 266 1337 [l0, l1, l2, l3] st h Q = wp μ d 266 1338 [l0, l1, l2, l3] (.int (nI 1) :: st) h Q := (wp_nx rfl).trans (congrArg (fun z => wp μ d 266 1338 [l0, l1, l2, l3] (.int z :: st) h Q) (show Int32.ofInt (1) = (nI 1) by decide))
set_option maxRecDepth 20000 in
theorem r266_1338 (μ : Bool) (d : Nat) (l0 : Value) (l1 : Value) (l2 : Value) (l3 : Value) (y0 y1 : Int32) (st : List Value) (h : Hp) (Q : Po) : wp μ d 266 1338 [l0, l1, l2, l3] (.int y0 :: .int y1 :: st) h Q = wp μ d 266 1339 [l0, l1, l2, l3] (.int (y1 + y0) :: st) h Q := wp_nx rfl
set_option maxRecDepth 20000 in
theorem r266_1339 (μ : Bool) (d : Nat) (l0 : Value) (l1 : Value) (l2 : Value) (l3 : Value) (y0 : Int32) (y1 : Nat) (st : List Value) (h : Hp) (Q : Po) : wp μ d 266 1339 [l0, l1, l2, l3] (.int y0 :: .ref y1 :: st) h Q = (((kdm μ h y1).1 = 20 ∧ vp_in y0 (kdm μ h y1).2) ∧ wp μ d 266 1340 [l0, l1, l2, l3] (.int (gI h y1 y0.toNatClampNeg) :: st) h Q) := wp_ck _ rfl
set_option maxRecDepth 20000 in
theorem r266_1339t (μ : Bool) (d : Nat) (l0 : Value) (l1 : Value) (l2 : Value) (l3 : Value) (y0 : Int32) (st : List Value) (h : Hp) (Q : Po) : wp μ d 266 1339 [l0, l1, l2, l3] (.int y0 :: .retAddr 1 :: st) h Q = (vp_in y0 (hk h 0).2 ∧ wp μ d 266 1340 [l0, l1, l2, l3] (.int (gI h 0 y0.toNatClampNeg) :: st) h Q) := wp_ck _ rfl
set_option maxRecDepth 20000 in
theorem r266_1340 (μ : Bool) (d : Nat) (l1 : Value) (l2 : Value) (l3 : Value) (x : Nat) (st : List Value) (h : Hp) (Q : Po) : wp μ d 266 1340 [.ref x, l1, l2, l3] st h Q = wp μ d 266 1341 [.ref x, l1, l2, l3] (.ref x :: st) h Q := wp_nx rfl
set_option maxRecDepth 20000 in
theorem r266_1340t (μ : Bool) (d : Nat) (l1 : Value) (l2 : Value) (l3 : Value) (x : Nat) (st : List Value) (h : Hp) (Q : Po) : wp μ d 266 1340 [.retAddr x, l1, l2, l3] st h Q = wp μ d 266 1341 [.retAddr x, l1, l2, l3] (.retAddr x :: st) h Q := wp_nx rfl
set_option maxRecDepth 20000 in
theorem r266_1341 (μ : Bool) (d : Nat) (l0 : Value) (l1 : Value) (l2 : Value) (x : Int32) (st : List Value) (h : Hp) (Q : Po) : wp μ d 266 1341 [l0, l1, l2, .int x] st h Q = wp μ d 266 1342 [l0, l1, l2, .int x] (.int x :: st) h Q := wp_nx rfl
set_option maxRecDepth 20000 in
theorem r266_1342 (μ : Bool) (d : Nat) (l0 : Value) (l1 : Value) (l2 : Value) (l3 : Value) (st : List Value) (h : Hp) (Q : Po) : wp μ d 266 1342 [l0, l1, l2, l3] st h Q = wp μ d 266 1343 [l0, l1, l2, l3] (.int (nI 2) :: st) h Q := (wp_nx rfl).trans (congrArg (fun z => wp μ d 266 1343 [l0, l1, l2, l3] (.int z :: st) h Q) (show Int32.ofInt (2) = (nI 2) by decide))
set_option maxRecDepth 20000 in
theorem r266_1343 (μ : Bool) (d : Nat) (l0 : Value) (l1 : Value) (l2 : Value) (l3 : Value) (y0 y1 : Int32) (st : List Value) (h : Hp) (Q : Po) : wp μ d 266 1343 [l0, l1, l2, l3] (.int y0 :: .int y1 :: st) h Q = wp μ d 266 1344 [l0, l1, l2, l3] (.int (y1 + y0) :: st) h Q := wp_nx rfl
set_option maxRecDepth 20000 in
theorem r266_1344 (μ : Bool) (d : Nat) (l0 : Value) (l1 : Value) (l2 : Value) (l3 : Value) (y0 : Int32) (y1 : Nat) (st : List Value) (h : Hp) (Q : Po) : wp μ d 266 1344 [l0, l1, l2, l3] (.int y0 :: .ref y1 :: st) h Q = (((kdm μ h y1).1 = 20 ∧ vp_in y0 (kdm μ h y1).2) ∧ wp μ d 266 1345 [l0, l1, l2, l3] (.int (gI h y1 y0.toNatClampNeg) :: st) h Q) := wp_ck _ rfl
set_option maxRecDepth 20000 in
theorem r266_1344t (μ : Bool) (d : Nat) (l0 : Value) (l1 : Value) (l2 : Value) (l3 : Value) (y0 : Int32) (st : List Value) (h : Hp) (Q : Po) : wp μ d 266 1344 [l0, l1, l2, l3] (.int y0 :: .retAddr 1 :: st) h Q = (vp_in y0 (hk h 0).2 ∧ wp μ d 266 1345 [l0, l1, l2, l3] (.int (gI h 0 y0.toNatClampNeg) :: st) h Q) := wp_ck _ rfl
set_option maxRecDepth 20000 in
theorem r266_1345 (μ : Bool) (d : Nat) (l1 : Value) (l2 : Value) (l3 : Value) (x : Nat) (st : List Value) (h : Hp) (Q : Po) : wp μ d 266 1345 [.ref x, l1, l2, l3] st h Q = wp μ d 266 1346 [.ref x, l1, l2, l3] (.ref x :: st) h Q := wp_nx rfl
set_option maxRecDepth 20000 in
theorem r266_1345t (μ : Bool) (d : Nat) (l1 : Value) (l2 : Value) (l3 : Value) (x : Nat) (st : List Value) (h : Hp) (Q : Po) : wp μ d 266 1345 [.retAddr x, l1, l2, l3] st h Q = wp μ d 266 1346 [.retAddr x, l1, l2, l3] (.retAddr x :: st) h Q := wp_nx rfl
set_option maxRecDepth 20000 in
theorem r266_1346 (μ : Bool) (d : Nat) (l0 : Value) (l1 : Value) (l2 : Value) (x : Int32) (st : List Value) (h : Hp) (Q : Po) : wp μ d 266 1346 [l0, l1, l2, .int x] st h Q = wp μ d 266 1347 [l0, l1, l2, .int x] (.int x :: st) h Q := wp_nx rfl
set_option maxRecDepth 20000 in
theorem r266_1347 (μ : Bool) (d : Nat) (l0 : Value) (l1 : Value) (l2 : Value) (l3 : Value) (st : List Value) (h : Hp) (Q : Po) : wp μ d 266 1347 [l0, l1, l2, l3] st h Q = wp μ d 266 1348 [l0, l1, l2, l3] (.int (nI 3) :: st) h Q := (wp_nx rfl).trans (congrArg (fun z => wp μ d 266 1348 [l0, l1, l2, l3] (.int z :: st) h Q) (show Int32.ofInt (3) = (nI 3) by decide))
set_option maxRecDepth 20000 in
theorem r266_1348 (μ : Bool) (d : Nat) (l0 : Value) (l1 : Value) (l2 : Value) (l3 : Value) (y0 y1 : Int32) (st : List Value) (h : Hp) (Q : Po) : wp μ d 266 1348 [l0, l1, l2, l3] (.int y0 :: .int y1 :: st) h Q = wp μ d 266 1349 [l0, l1, l2, l3] (.int (y1 + y0) :: st) h Q := wp_nx rfl
set_option maxRecDepth 20000 in
theorem r266_1349 (μ : Bool) (d : Nat) (l0 : Value) (l1 : Value) (l2 : Value) (l3 : Value) (y0 : Int32) (y1 : Nat) (st : List Value) (h : Hp) (Q : Po) : wp μ d 266 1349 [l0, l1, l2, l3] (.int y0 :: .ref y1 :: st) h Q = (((kdm μ h y1).1 = 20 ∧ vp_in y0 (kdm μ h y1).2) ∧ wp μ d 266 1350 [l0, l1, l2, l3] (.int (gI h y1 y0.toNatClampNeg) :: st) h Q) := wp_ck _ rfl
set_option maxRecDepth 20000 in
theorem r266_1349t (μ : Bool) (d : Nat) (l0 : Value) (l1 : Value) (l2 : Value) (l3 : Value) (y0 : Int32) (st : List Value) (h : Hp) (Q : Po) : wp μ d 266 1349 [l0, l1, l2, l3] (.int y0 :: .retAddr 1 :: st) h Q = (vp_in y0 (hk h 0).2 ∧ wp μ d 266 1350 [l0, l1, l2, l3] (.int (gI h 0 y0.toNatClampNeg) :: st) h Q) := wp_ck _ rfl
set_option maxRecDepth 20000 in
theorem r266_1350 (μ : Bool) (d : Nat) (l0 : Value) (l1 : Value) (l2 : Value) (l3 : Value) (y0 : Int32) (y1 : Int32) (y2 : Int32) (y3 : Nat) (h : Hp) (Q : Po) : wp μ (d + 1) 266 1350 [l0, l1, l2, l3] [.int y0, .int y1, .int y2, .ref y3] h Q = ((kdm μ h y3).1 = 11 ∧ cwp μ d 118 [.ref y3, .int y2, .int y1, .int y0] h (fun r h' => wp μ (d + 1) 266 1353 [l0, l1, l2, l3] (r.toList ++ []) h' Q)) := wp_kc _ True rfl ⟨fun q => by obtain ⟨x, q1, q2⟩ := q.2.2.1 rfl; cases q1; exact q2, fun q => ⟨Nat.le_of_ble_eq_true rfl, ⟨Nat.le_of_ble_eq_true rfl, rfl, Nat.le_of_ble_eq_true rfl⟩, fun _ => ⟨_, rfl, q⟩, fun q9 => absurd q9 (by decide)⟩⟩
set_option maxRecDepth 20000 in
theorem r266_1353 (μ : Bool) (d : Nat) (l0 : Value) (l1 : Value) (l3 : Value) (x : Nat) (st : List Value) (h : Hp) (Q : Po) : wp μ d 266 1353 [l0, l1, .ref x, l3] st h Q = wp μ d 266 1354 [l0, l1, .ref x, l3] (.ref x :: st) h Q := wp_nx rfl
set_option maxRecDepth 20000 in
theorem r266_1353n (μ : Bool) (d : Nat) (l0 : Value) (l1 : Value) (l3 : Value) (st : List Value) (h : Hp) (Q : Po) : wp μ d 266 1353 [l0, l1, .null, l3] st h Q = wp μ d 266 1354 [l0, l1, .null, l3] (.null :: st) h Q := wp_nx rfl
set_option maxRecDepth 20000 in
theorem r266_1353t (μ : Bool) (d : Nat) (l0 : Value) (l1 : Value) (l3 : Value) (x : Nat) (st : List Value) (h : Hp) (Q : Po) : wp μ d 266 1353 [l0, l1, .retAddr x, l3] st h Q = wp μ d 266 1354 [l0, l1, .retAddr x, l3] (.retAddr x :: st) h Q := wp_nx rfl
set_option maxRecDepth 20000 in
theorem r266_1354 (μ : Bool) (d : Nat) (l1 : Value) (l2 : Value) (l3 : Value) (x : Nat) (st : List Value) (h : Hp) (Q : Po) : wp μ d 266 1354 [.ref x, l1, l2, l3] st h Q = wp μ d 266 1355 [.ref x, l1, l2, l3] (.ref x :: st) h Q := wp_nx rfl
set_option maxRecDepth 20000 in
theorem r266_1354t (μ : Bool) (d : Nat) (l1 : Value) (l2 : Value) (l3 : Value) (x : Nat) (st : List Value) (h : Hp) (Q : Po) : wp μ d 266 1354 [.retAddr x, l1, l2, l3] st h Q = wp μ d 266 1355 [.retAddr x, l1, l2, l3] (.retAddr x :: st) h Q := wp_nx rfl
set_option maxRecDepth 20000 in
theorem r266_1355 (μ : Bool) (d : Nat) (l0 : Value) (l1 : Value) (l2 : Value) (x : Int32) (st : List Value) (h : Hp) (Q : Po) : wp μ d 266 1355 [l0, l1, l2, .int x] st h Q = wp μ d 266 1356 [l0, l1, l2, .int x] (.int x :: st) h Q := wp_nx rfl
set_option maxRecDepth 20000 in
theorem r266_1356 (μ : Bool) (d : Nat) (l0 : Value) (l1 : Value) (l2 : Value) (l3 : Value) (st : List Value) (h : Hp) (Q : Po) : wp μ d 266 1356 [l0, l1, l2, l3] st h Q = wp μ d 266 1357 [l0, l1, l2, l3] (.int (nI 1) :: st) h Q := (wp_nx rfl).trans (congrArg (fun z => wp μ d 266 1357 [l0, l1, l2, l3] (.int z :: st) h Q) (show Int32.ofInt (1) = (nI 1) by decide))
set_option maxRecDepth 20000 in
theorem r266_1357 (μ : Bool) (d : Nat) (l0 : Value) (l1 : Value) (l2 : Value) (l3 : Value) (y0 y1 : Int32) (st : List Value) (h : Hp) (Q : Po) : wp μ d 266 1357 [l0, l1, l2, l3] (.int y0 :: .int y1 :: st) h Q = wp μ d 266 1358 [l0, l1, l2, l3] (.int (y1 + y0) :: st) h Q := wp_nx rfl
set_option maxRecDepth 20000 in
theorem r266_1358 (μ : Bool) (d : Nat) (l0 : Value) (l1 : Value) (l2 : Value) (l3 : Value) (y0 : Int32) (y1 : Nat) (st : List Value) (h : Hp) (Q : Po) : wp μ d 266 1358 [l0, l1, l2, l3] (.int y0 :: .ref y1 :: st) h Q = (((kdm μ h y1).1 = 20 ∧ vp_in y0 (kdm μ h y1).2) ∧ wp μ d 266 1359 [l0, l1, l2, l3] (.int (gI h y1 y0.toNatClampNeg) :: st) h Q) := wp_ck _ rfl
set_option maxRecDepth 20000 in
theorem r266_1358t (μ : Bool) (d : Nat) (l0 : Value) (l1 : Value) (l2 : Value) (l3 : Value) (y0 : Int32) (st : List Value) (h : Hp) (Q : Po) : wp μ d 266 1358 [l0, l1, l2, l3] (.int y0 :: .retAddr 1 :: st) h Q = (vp_in y0 (hk h 0).2 ∧ wp μ d 266 1359 [l0, l1, l2, l3] (.int (gI h 0 y0.toNatClampNeg) :: st) h Q) := wp_ck _ rfl
set_option maxRecDepth 20000 in
theorem r266_1359 (μ : Bool) (d : Nat) (l1 : Value) (l2 : Value) (l3 : Value) (x : Nat) (st : List Value) (h : Hp) (Q : Po) : wp μ d 266 1359 [.ref x, l1, l2, l3] st h Q = wp μ d 266 1360 [.ref x, l1, l2, l3] (.ref x :: st) h Q := wp_nx rfl
set_option maxRecDepth 20000 in
theorem r266_1359t (μ : Bool) (d : Nat) (l1 : Value) (l2 : Value) (l3 : Value) (x : Nat) (st : List Value) (h : Hp) (Q : Po) : wp μ d 266 1359 [.retAddr x, l1, l2, l3] st h Q = wp μ d 266 1360 [.retAddr x, l1, l2, l3] (.retAddr x :: st) h Q := wp_nx rfl
set_option maxRecDepth 20000 in
theorem r266_1360 (μ : Bool) (d : Nat) (l0 : Value) (l1 : Value) (l2 : Value) (x : Int32) (st : List Value) (h : Hp) (Q : Po) : wp μ d 266 1360 [l0, l1, l2, .int x] st h Q = wp μ d 266 1361 [l0, l1, l2, .int x] (.int x :: st) h Q := wp_nx rfl
set_option maxRecDepth 20000 in
theorem r266_1361 (μ : Bool) (d : Nat) (l0 : Value) (l1 : Value) (l2 : Value) (l3 : Value) (st : List Value) (h : Hp) (Q : Po) : wp μ d 266 1361 [l0, l1, l2, l3] st h Q = wp μ d 266 1362 [l0, l1, l2, l3] (.int (nI 2) :: st) h Q := (wp_nx rfl).trans (congrArg (fun z => wp μ d 266 1362 [l0, l1, l2, l3] (.int z :: st) h Q) (show Int32.ofInt (2) = (nI 2) by decide))
set_option maxRecDepth 20000 in
theorem r266_1362 (μ : Bool) (d : Nat) (l0 : Value) (l1 : Value) (l2 : Value) (l3 : Value) (y0 y1 : Int32) (st : List Value) (h : Hp) (Q : Po) : wp μ d 266 1362 [l0, l1, l2, l3] (.int y0 :: .int y1 :: st) h Q = wp μ d 266 1363 [l0, l1, l2, l3] (.int (y1 + y0) :: st) h Q := wp_nx rfl
set_option maxRecDepth 20000 in
theorem r266_1363 (μ : Bool) (d : Nat) (l0 : Value) (l1 : Value) (l2 : Value) (l3 : Value) (y0 : Int32) (y1 : Nat) (st : List Value) (h : Hp) (Q : Po) : wp μ d 266 1363 [l0, l1, l2, l3] (.int y0 :: .ref y1 :: st) h Q = (((kdm μ h y1).1 = 20 ∧ vp_in y0 (kdm μ h y1).2) ∧ wp μ d 266 1364 [l0, l1, l2, l3] (.int (gI h y1 y0.toNatClampNeg) :: st) h Q) := wp_ck _ rfl
set_option maxRecDepth 20000 in
theorem r266_1363t (μ : Bool) (d : Nat) (l0 : Value) (l1 : Value) (l2 : Value) (l3 : Value) (y0 : Int32) (st : List Value) (h : Hp) (Q : Po) : wp μ d 266 1363 [l0, l1, l2, l3] (.int y0 :: .retAddr 1 :: st) h Q = (vp_in y0 (hk h 0).2 ∧ wp μ d 266 1364 [l0, l1, l2, l3] (.int (gI h 0 y0.toNatClampNeg) :: st) h Q) := wp_ck _ rfl
set_option maxRecDepth 20000 in
theorem r266_1364 (μ : Bool) (d : Nat) (l1 : Value) (l2 : Value) (l3 : Value) (x : Nat) (st : List Value) (h : Hp) (Q : Po) : wp μ d 266 1364 [.ref x, l1, l2, l3] st h Q = wp μ d 266 1365 [.ref x, l1, l2, l3] (.ref x :: st) h Q := wp_nx rfl
set_option maxRecDepth 20000 in
theorem r266_1364t (μ : Bool) (d : Nat) (l1 : Value) (l2 : Value) (l3 : Value) (x : Nat) (st : List Value) (h : Hp) (Q : Po) : wp μ d 266 1364 [.retAddr x, l1, l2, l3] st h Q = wp μ d 266 1365 [.retAddr x, l1, l2, l3] (.retAddr x :: st) h Q := wp_nx rfl
set_option maxRecDepth 20000 in
theorem r266_1365 (μ : Bool) (d : Nat) (l0 : Value) (l1 : Value) (l2 : Value) (x : Int32) (st : List Value) (h : Hp) (Q : Po) : wp μ d 266 1365 [l0, l1, l2, .int x] st h Q = wp μ d 266 1366 [l0, l1, l2, .int x] (.int x :: st) h Q := wp_nx rfl
set_option maxRecDepth 20000 in
theorem r266_1366 (μ : Bool) (d : Nat) (l0 : Value) (l1 : Value) (l2 : Value) (l3 : Value) (st : List Value) (h : Hp) (Q : Po) : wp μ d 266 1366 [l0, l1, l2, l3] st h Q = wp μ d 266 1367 [l0, l1, l2, l3] (.int (nI 3) :: st) h Q := (wp_nx rfl).trans (congrArg (fun z => wp μ d 266 1367 [l0, l1, l2, l3] (.int z :: st) h Q) (show Int32.ofInt (3) = (nI 3) by decide))
set_option maxRecDepth 20000 in
theorem r266_1367 (μ : Bool) (d : Nat) (l0 : Value) (l1 : Value) (l2 : Value) (l3 : Value) (y0 y1 : Int32) (st : List Value) (h : Hp) (Q : Po) : wp μ d 266 1367 [l0, l1, l2, l3] (.int y0 :: .int y1 :: st) h Q = wp μ d 266 1368 [l0, l1, l2, l3] (.int (y1 + y0) :: st) h Q := wp_nx rfl
set_option maxRecDepth 20000 in
theorem r266_1368 (μ : Bool) (d : Nat) (l0 : Value) (l1 : Value) (l2 : Value) (l3 : Value) (y0 : Int32) (y1 : Nat) (st : List Value) (h : Hp) (Q : Po) : wp μ d 266 1368 [l0, l1, l2, l3] (.int y0 :: .ref y1 :: st) h Q = (((kdm μ h y1).1 = 20 ∧ vp_in y0 (kdm μ h y1).2) ∧ wp μ d 266 1369 [l0, l1, l2, l3] (.int (gI h y1 y0.toNatClampNeg) :: st) h Q) := wp_ck _ rfl
set_option maxRecDepth 20000 in
theorem r266_1368t (μ : Bool) (d : Nat) (l0 : Value) (l1 : Value) (l2 : Value) (l3 : Value) (y0 : Int32) (st : List Value) (h : Hp) (Q : Po) : wp μ d 266 1368 [l0, l1, l2, l3] (.int y0 :: .retAddr 1 :: st) h Q = (vp_in y0 (hk h 0).2 ∧ wp μ d 266 1369 [l0, l1, l2, l3] (.int (gI h 0 y0.toNatClampNeg) :: st) h Q) := wp_ck _ rfl
set_option maxRecDepth 20000 in
theorem r266_1369 (μ : Bool) (d : Nat) (l0 : Value) (l1 : Value) (l2 : Value) (l3 : Value) (y0 : Int32) (y1 : Int32) (y2 : Int32) (y3 : Nat) (y4 : Int32) (h : Hp) (Q : Po) : wp μ (d + 1) 266 1369 [l0, l1, l2, l3] [.int y0, .int y1, .int y2, .ref y3, .int y4] h Q = ((kdm μ h y3).1 = 12 ∧ cwp μ d 256 [.ref y3, .int y2, .int y1, .int y0] h (fun r h' => wp μ (d + 1) 266 1372 [l0, l1, l2, l3] (r.toList ++ [.int y4]) h' Q)) := wp_kc _ True rfl ⟨fun q => by obtain ⟨x, q1, q2⟩ := q.2.2.1 rfl; cases q1; exact q2, fun q => ⟨Nat.le_of_ble_eq_true rfl, ⟨Nat.le_of_ble_eq_true rfl, rfl, Nat.le_of_ble_eq_true rfl⟩, fun _ => ⟨_, rfl, q⟩, fun q9 => absurd q9 (by decide)⟩⟩
set_option maxRecDepth 20000 in
theorem r266_1372 (μ : Bool) (d : Nat) (l0 : Value) (l1 : Value) (l2 : Value) (l3 : Value) (y0 y1 : Int32) (st : List Value) (h : Hp) (Q : Po) : wp μ d 266 1372 [l0, l1, l2, l3] (.int y0 :: .int y1 :: st) h Q = if y1 = y0 then wp μ d 266 1545 [l0, l1, l2, l3] st h Q else wp μ d 266 1375 [l0, l1, l2, l3] st h Q := wp_br (y1 = y0) rfl
set_option maxRecDepth 20000 in
theorem r266_1375 (μ : Bool) (d : Nat) (l0 : Value) (l1 : Value) (l2 : Value) (l3 : Value) (st : List Value) (h : Hp) (Q : Po) : wp μ d 266 1375 [l0, l1, l2, l3] st h Q = wp μ d 266 1376 [l0, l1, l2, l3] (.int (nI 0) :: st) h Q := (wp_nx rfl).trans (congrArg (fun z => wp μ d 266 1376 [l0, l1, l2, l3] (.int z :: st) h Q) (show Int32.ofInt (0) = (nI 0) by decide))
set_option maxRecDepth 20000 in
theorem r266_1376 (μ : Bool) (d : Nat) (l0 : Value) (l1 : Value) (l2 : Value) (l3 : Value) (y0 : Int32) (h : Hp) (Q : Po) : wp μ d 266 1376 [l0, l1, l2, l3] [.int y0] h Q = ((y0 = nI 0 ∨ y0 = nI 1) ∧ Q (some (.int y0)) h) := (wp_rc _ rfl).trans (by rw [show retOk (rM 266) y0 = (narrow .boolean (.int y0) = .int y0) from rfl, nz_iff]; rfl)
set_option maxRecDepth 20000 in
theorem r266_1377 (μ : Bool) (d : Nat) (l0 : Value) (l2 : Value) (l3 : Value) (x : Nat) (st : List Value) (h : Hp) (Q : Po) : wp μ d 266 1377 [l0, .ref x, l2, l3] st h Q = wp μ d 266 1378 [l0, .ref x, l2, l3] (.ref x :: st) h Q := wp_nx rfl
set_option maxRecDepth 20000 in
theorem r266_1377n (μ : Bool) (d : Nat) (l0 : Value) (l2 : Value) (l3 : Value) (st : List Value) (h : Hp) (Q : Po) : wp μ d 266 1377 [l0, .null, l2, l3] st h Q = wp μ d 266 1378 [l0, .null, l2, l3] (.null :: st) h Q := wp_nx rfl
set_option maxRecDepth 20000 in
theorem r266_1377t (μ : Bool) (d : Nat) (l0 : Value) (l2 : Value) (l3 : Value) (x : Nat) (st : List Value) (h : Hp) (Q : Po) : wp μ d 266 1377 [l0, .retAddr x, l2, l3] st h Q = wp μ d 266 1378 [l0, .retAddr x, l2, l3] (.retAddr x :: st) h Q := wp_nx rfl
set_option maxRecDepth 20000 in
theorem r266_1378 (μ : Bool) (d : Nat) (l1 : Value) (l2 : Value) (l3 : Value) (x : Nat) (st : List Value) (h : Hp) (Q : Po) : wp μ d 266 1378 [.ref x, l1, l2, l3] st h Q = wp μ d 266 1379 [.ref x, l1, l2, l3] (.ref x :: st) h Q := wp_nx rfl
set_option maxRecDepth 20000 in
theorem r266_1378t (μ : Bool) (d : Nat) (l1 : Value) (l2 : Value) (l3 : Value) (x : Nat) (st : List Value) (h : Hp) (Q : Po) : wp μ d 266 1378 [.retAddr x, l1, l2, l3] st h Q = wp μ d 266 1379 [.retAddr x, l1, l2, l3] (.retAddr x :: st) h Q := wp_nx rfl
set_option maxRecDepth 20000 in
theorem r266_1379 (μ : Bool) (d : Nat) (l0 : Value) (l1 : Value) (l2 : Value) (x : Int32) (st : List Value) (h : Hp) (Q : Po) : wp μ d 266 1379 [l0, l1, l2, .int x] st h Q = wp μ d 266 1380 [l0, l1, l2, .int x] (.int x :: st) h Q := wp_nx rfl
set_option maxRecDepth 20000 in
theorem r266_1380 (μ : Bool) (d : Nat) (l0 : Value) (l1 : Value) (l2 : Value) (l3 : Value) (st : List Value) (h : Hp) (Q : Po) : wp μ d 266 1380 [l0, l1, l2, l3] st h Q = wp μ d 266 1381 [l0, l1, l2, l3] (.int (nI 1) :: st) h Q := (wp_nx rfl).trans (congrArg (fun z => wp μ d 266 1381 [l0, l1, l2, l3] (.int z :: st) h Q) (show Int32.ofInt (1) = (nI 1) by decide))
set_option maxRecDepth 20000 in
theorem r266_1381 (μ : Bool) (d : Nat) (l0 : Value) (l1 : Value) (l2 : Value) (l3 : Value) (y0 y1 : Int32) (st : List Value) (h : Hp) (Q : Po) : wp μ d 266 1381 [l0, l1, l2, l3] (.int y0 :: .int y1 :: st) h Q = wp μ d 266 1382 [l0, l1, l2, l3] (.int (y1 + y0) :: st) h Q := wp_nx rfl
set_option maxRecDepth 20000 in
theorem r266_1382 (μ : Bool) (d : Nat) (l0 : Value) (l1 : Value) (l2 : Value) (l3 : Value) (y0 : Int32) (y1 : Nat) (st : List Value) (h : Hp) (Q : Po) : wp μ d 266 1382 [l0, l1, l2, l3] (.int y0 :: .ref y1 :: st) h Q = (((kdm μ h y1).1 = 20 ∧ vp_in y0 (kdm μ h y1).2) ∧ wp μ d 266 1383 [l0, l1, l2, l3] (.int (gI h y1 y0.toNatClampNeg) :: st) h Q) := wp_ck _ rfl
set_option maxRecDepth 20000 in
theorem r266_1382t (μ : Bool) (d : Nat) (l0 : Value) (l1 : Value) (l2 : Value) (l3 : Value) (y0 : Int32) (st : List Value) (h : Hp) (Q : Po) : wp μ d 266 1382 [l0, l1, l2, l3] (.int y0 :: .retAddr 1 :: st) h Q = (vp_in y0 (hk h 0).2 ∧ wp μ d 266 1383 [l0, l1, l2, l3] (.int (gI h 0 y0.toNatClampNeg) :: st) h Q) := wp_ck _ rfl
set_option maxRecDepth 20000 in
theorem r266_1383 (μ : Bool) (d : Nat) (l1 : Value) (l2 : Value) (l3 : Value) (x : Nat) (st : List Value) (h : Hp) (Q : Po) : wp μ d 266 1383 [.ref x, l1, l2, l3] st h Q = wp μ d 266 1384 [.ref x, l1, l2, l3] (.ref x :: st) h Q := wp_nx rfl
set_option maxRecDepth 20000 in
theorem r266_1383t (μ : Bool) (d : Nat) (l1 : Value) (l2 : Value) (l3 : Value) (x : Nat) (st : List Value) (h : Hp) (Q : Po) : wp μ d 266 1383 [.retAddr x, l1, l2, l3] st h Q = wp μ d 266 1384 [.retAddr x, l1, l2, l3] (.retAddr x :: st) h Q := wp_nx rfl
set_option maxRecDepth 20000 in
theorem r266_1384 (μ : Bool) (d : Nat) (l0 : Value) (l1 : Value) (l2 : Value) (x : Int32) (st : List Value) (h : Hp) (Q : Po) : wp μ d 266 1384 [l0, l1, l2, .int x] st h Q = wp μ d 266 1385 [l0, l1, l2, .int x] (.int x :: st) h Q := wp_nx rfl
set_option maxRecDepth 20000 in
theorem r266_1385 (μ : Bool) (d : Nat) (l0 : Value) (l1 : Value) (l2 : Value) (l3 : Value) (st : List Value) (h : Hp) (Q : Po) : wp μ d 266 1385 [l0, l1, l2, l3] st h Q = wp μ d 266 1386 [l0, l1, l2, l3] (.int (nI 2) :: st) h Q := (wp_nx rfl).trans (congrArg (fun z => wp μ d 266 1386 [l0, l1, l2, l3] (.int z :: st) h Q) (show Int32.ofInt (2) = (nI 2) by decide))
set_option maxRecDepth 20000 in
theorem r266_1386 (μ : Bool) (d : Nat) (l0 : Value) (l1 : Value) (l2 : Value) (l3 : Value) (y0 y1 : Int32) (st : List Value) (h : Hp) (Q : Po) : wp μ d 266 1386 [l0, l1, l2, l3] (.int y0 :: .int y1 :: st) h Q = wp μ d 266 1387 [l0, l1, l2, l3] (.int (y1 + y0) :: st) h Q := wp_nx rfl
set_option maxRecDepth 20000 in
theorem r266_1387 (μ : Bool) (d : Nat) (l0 : Value) (l1 : Value) (l2 : Value) (l3 : Value) (y0 : Int32) (y1 : Nat) (st : List Value) (h : Hp) (Q : Po) : wp μ d 266 1387 [l0, l1, l2, l3] (.int y0 :: .ref y1 :: st) h Q = (((kdm μ h y1).1 = 20 ∧ vp_in y0 (kdm μ h y1).2) ∧ wp μ d 266 1388 [l0, l1, l2, l3] (.int (gI h y1 y0.toNatClampNeg) :: st) h Q) := wp_ck _ rfl
set_option maxRecDepth 20000 in
theorem r266_1387t (μ : Bool) (d : Nat) (l0 : Value) (l1 : Value) (l2 : Value) (l3 : Value) (y0 : Int32) (st : List Value) (h : Hp) (Q : Po) : wp μ d 266 1387 [l0, l1, l2, l3] (.int y0 :: .retAddr 1 :: st) h Q = (vp_in y0 (hk h 0).2 ∧ wp μ d 266 1388 [l0, l1, l2, l3] (.int (gI h 0 y0.toNatClampNeg) :: st) h Q) := wp_ck _ rfl
set_option maxRecDepth 20000 in
theorem r266_1388 (μ : Bool) (d : Nat) (l0 : Value) (l1 : Value) (l2 : Value) (l3 : Value) (y0 : Int32) (y1 : Int32) (y2 : Nat) (h : Hp) (Q : Po) : wp μ (d + 1) 266 1388 [l0, l1, l2, l3] [.int y0, .int y1, .ref y2] h Q = ((kdm μ h y2).1 = 11 ∧ cwp μ d 119 [.ref y2, .int y1, .int y0] h (fun r h' => wp μ (d + 1) 266 1391 [l0, l1, l2, l3] (r.toList ++ []) h' Q)) := wp_kc _ True rfl ⟨fun q => by obtain ⟨x, q1, q2⟩ := q.2.2.1 rfl; cases q1; exact q2, fun q => ⟨Nat.le_of_ble_eq_true rfl, ⟨Nat.le_of_ble_eq_true rfl, rfl, Nat.le_of_ble_eq_true rfl⟩, fun _ => ⟨_, rfl, q⟩, fun q9 => absurd q9 (by decide)⟩⟩
set_option maxRecDepth 20000 in
theorem r266_1391 (μ : Bool) (d : Nat) (l0 : Value) (l1 : Value) (l3 : Value) (x : Nat) (st : List Value) (h : Hp) (Q : Po) : wp μ d 266 1391 [l0, l1, .ref x, l3] st h Q = wp μ d 266 1392 [l0, l1, .ref x, l3] (.ref x :: st) h Q := wp_nx rfl
set_option maxRecDepth 20000 in
theorem r266_1391n (μ : Bool) (d : Nat) (l0 : Value) (l1 : Value) (l3 : Value) (st : List Value) (h : Hp) (Q : Po) : wp μ d 266 1391 [l0, l1, .null, l3] st h Q = wp μ d 266 1392 [l0, l1, .null, l3] (.null :: st) h Q := wp_nx rfl
set_option maxRecDepth 20000 in
theorem r266_1391t (μ : Bool) (d : Nat) (l0 : Value) (l1 : Value) (l3 : Value) (x : Nat) (st : List Value) (h : Hp) (Q : Po) : wp μ d 266 1391 [l0, l1, .retAddr x, l3] st h Q = wp μ d 266 1392 [l0, l1, .retAddr x, l3] (.retAddr x :: st) h Q := wp_nx rfl
set_option maxRecDepth 20000 in
theorem r266_1392 (μ : Bool) (d : Nat) (l1 : Value) (l2 : Value) (l3 : Value) (x : Nat) (st : List Value) (h : Hp) (Q : Po) : wp μ d 266 1392 [.ref x, l1, l2, l3] st h Q = wp μ d 266 1393 [.ref x, l1, l2, l3] (.ref x :: st) h Q := wp_nx rfl
set_option maxRecDepth 20000 in
theorem r266_1392t (μ : Bool) (d : Nat) (l1 : Value) (l2 : Value) (l3 : Value) (x : Nat) (st : List Value) (h : Hp) (Q : Po) : wp μ d 266 1392 [.retAddr x, l1, l2, l3] st h Q = wp μ d 266 1393 [.retAddr x, l1, l2, l3] (.retAddr x :: st) h Q := wp_nx rfl
set_option maxRecDepth 20000 in
theorem r266_1393 (μ : Bool) (d : Nat) (l0 : Value) (l1 : Value) (l2 : Value) (x : Int32) (st : List Value) (h : Hp) (Q : Po) : wp μ d 266 1393 [l0, l1, l2, .int x] st h Q = wp μ d 266 1394 [l0, l1, l2, .int x] (.int x :: st) h Q := wp_nx rfl
set_option maxRecDepth 20000 in
theorem r266_1394 (μ : Bool) (d : Nat) (l0 : Value) (l1 : Value) (l2 : Value) (l3 : Value) (st : List Value) (h : Hp) (Q : Po) : wp μ d 266 1394 [l0, l1, l2, l3] st h Q = wp μ d 266 1395 [l0, l1, l2, l3] (.int (nI 1) :: st) h Q := (wp_nx rfl).trans (congrArg (fun z => wp μ d 266 1395 [l0, l1, l2, l3] (.int z :: st) h Q) (show Int32.ofInt (1) = (nI 1) by decide))
set_option maxRecDepth 20000 in
theorem r266_1395 (μ : Bool) (d : Nat) (l0 : Value) (l1 : Value) (l2 : Value) (l3 : Value) (y0 y1 : Int32) (st : List Value) (h : Hp) (Q : Po) : wp μ d 266 1395 [l0, l1, l2, l3] (.int y0 :: .int y1 :: st) h Q = wp μ d 266 1396 [l0, l1, l2, l3] (.int (y1 + y0) :: st) h Q := wp_nx rfl
set_option maxRecDepth 20000 in
theorem r266_1396 (μ : Bool) (d : Nat) (l0 : Value) (l1 : Value) (l2 : Value) (l3 : Value) (y0 : Int32) (y1 : Nat) (st : List Value) (h : Hp) (Q : Po) : wp μ d 266 1396 [l0, l1, l2, l3] (.int y0 :: .ref y1 :: st) h Q = (((kdm μ h y1).1 = 20 ∧ vp_in y0 (kdm μ h y1).2) ∧ wp μ d 266 1397 [l0, l1, l2, l3] (.int (gI h y1 y0.toNatClampNeg) :: st) h Q) := wp_ck _ rfl
set_option maxRecDepth 20000 in
theorem r266_1396t (μ : Bool) (d : Nat) (l0 : Value) (l1 : Value) (l2 : Value) (l3 : Value) (y0 : Int32) (st : List Value) (h : Hp) (Q : Po) : wp μ d 266 1396 [l0, l1, l2, l3] (.int y0 :: .retAddr 1 :: st) h Q = (vp_in y0 (hk h 0).2 ∧ wp μ d 266 1397 [l0, l1, l2, l3] (.int (gI h 0 y0.toNatClampNeg) :: st) h Q) := wp_ck _ rfl
set_option maxRecDepth 20000 in
theorem r266_1397 (μ : Bool) (d : Nat) (l1 : Value) (l2 : Value) (l3 : Value) (x : Nat) (st : List Value) (h : Hp) (Q : Po) : wp μ d 266 1397 [.ref x, l1, l2, l3] st h Q = wp μ d 266 1398 [.ref x, l1, l2, l3] (.ref x :: st) h Q := wp_nx rfl
set_option maxRecDepth 20000 in
theorem r266_1397t (μ : Bool) (d : Nat) (l1 : Value) (l2 : Value) (l3 : Value) (x : Nat) (st : List Value) (h : Hp) (Q : Po) : wp μ d 266 1397 [.retAddr x, l1, l2, l3] st h Q = wp μ d 266 1398 [.retAddr x, l1, l2, l3] (.retAddr x :: st) h Q := wp_nx rfl
set_option maxRecDepth 20000 in
theorem r266_1398 (μ : Bool) (d : Nat) (l0 : Value) (l1 : Value) (l2 : Value) (x : Int32) (st : List Value) (h : Hp) (Q : Po) : wp μ d 266 1398 [l0, l1, l2, .int x] st h Q = wp μ d 266 1399 [l0, l1, l2, .int x] (.int x :: st) h Q := wp_nx rfl
set_option maxRecDepth 20000 in
theorem r266_1399 (μ : Bool) (d : Nat) (l0 : Value) (l1 : Value) (l2 : Value) (l3 : Value) (st : List Value) (h : Hp) (Q : Po) : wp μ d 266 1399 [l0, l1, l2, l3] st h Q = wp μ d 266 1400 [l0, l1, l2, l3] (.int (nI 2) :: st) h Q := (wp_nx rfl).trans (congrArg (fun z => wp μ d 266 1400 [l0, l1, l2, l3] (.int z :: st) h Q) (show Int32.ofInt (2) = (nI 2) by decide))
set_option maxRecDepth 20000 in
theorem r266_1400 (μ : Bool) (d : Nat) (l0 : Value) (l1 : Value) (l2 : Value) (l3 : Value) (y0 y1 : Int32) (st : List Value) (h : Hp) (Q : Po) : wp μ d 266 1400 [l0, l1, l2, l3] (.int y0 :: .int y1 :: st) h Q = wp μ d 266 1401 [l0, l1, l2, l3] (.int (y1 + y0) :: st) h Q := wp_nx rfl
set_option maxRecDepth 20000 in
theorem r266_1401 (μ : Bool) (d : Nat) (l0 : Value) (l1 : Value) (l2 : Value) (l3 : Value) (y0 : Int32) (y1 : Nat) (st : List Value) (h : Hp) (Q : Po) : wp μ d 266 1401 [l0, l1, l2, l3] (.int y0 :: .ref y1 :: st) h Q = (((kdm μ h y1).1 = 20 ∧ vp_in y0 (kdm μ h y1).2) ∧ wp μ d 266 1402 [l0, l1, l2, l3] (.int (gI h y1 y0.toNatClampNeg) :: st) h Q) := wp_ck _ rfl
set_option maxRecDepth 20000 in
theorem r266_1401t (μ : Bool) (d : Nat) (l0 : Value) (l1 : Value) (l2 : Value) (l3 : Value) (y0 : Int32) (st : List Value) (h : Hp) (Q : Po) : wp μ d 266 1401 [l0, l1, l2, l3] (.int y0 :: .retAddr 1 :: st) h Q = (vp_in y0 (hk h 0).2 ∧ wp μ d 266 1402 [l0, l1, l2, l3] (.int (gI h 0 y0.toNatClampNeg) :: st) h Q) := wp_ck _ rfl
set_option maxRecDepth 20000 in
theorem r266_1402 (μ : Bool) (d : Nat) (l0 : Value) (l1 : Value) (l2 : Value) (l3 : Value) (y0 : Int32) (y1 : Int32) (y2 : Nat) (y3 : Int32) (h : Hp) (Q : Po) : wp μ (d + 1) 266 1402 [l0, l1, l2, l3] [.int y0, .int y1, .ref y2, .int y3] h Q = ((kdm μ h y2).1 = 12 ∧ cwp μ d 257 [.ref y2, .int y1, .int y0] h (fun r h' => wp μ (d + 1) 266 1405 [l0, l1, l2, l3] (r.toList ++ [.int y3]) h' Q)) := wp_kc _ True rfl ⟨fun q => by obtain ⟨x, q1, q2⟩ := q.2.2.1 rfl; cases q1; exact q2, fun q => ⟨Nat.le_of_ble_eq_true rfl, ⟨Nat.le_of_ble_eq_true rfl, rfl, Nat.le_of_ble_eq_true rfl⟩, fun _ => ⟨_, rfl, q⟩, fun q9 => absurd q9 (by decide)⟩⟩
set_option maxRecDepth 20000 in
theorem r266_1405 (μ : Bool) (d : Nat) (l0 : Value) (l1 : Value) (l2 : Value) (l3 : Value) (y0 y1 : Int32) (st : List Value) (h : Hp) (Q : Po) : wp μ d 266 1405 [l0, l1, l2, l3] (.int y0 :: .int y1 :: st) h Q = if y1 = y0 then wp μ d 266 1545 [l0, l1, l2, l3] st h Q else wp μ d 266 1408 [l0, l1, l2, l3] st h Q := wp_br (y1 = y0) rfl
set_option maxRecDepth 20000 in
theorem r266_1408 (μ : Bool) (d : Nat) (l0 : Value) (l1 : Value) (l2 : Value) (l3 : Value) (st : List Value) (h : Hp) (Q : Po) : wp μ d 266 1408 [l0, l1, l2, l3] st h Q = wp μ d 266 1409 [l0, l1, l2, l3] (.int (nI 0) :: st) h Q := (wp_nx rfl).trans (congrArg (fun z => wp μ d 266 1409 [l0, l1, l2, l3] (.int z :: st) h Q) (show Int32.ofInt (0) = (nI 0) by decide))
set_option maxRecDepth 20000 in
theorem r266_1409 (μ : Bool) (d : Nat) (l0 : Value) (l1 : Value) (l2 : Value) (l3 : Value) (y0 : Int32) (h : Hp) (Q : Po) : wp μ d 266 1409 [l0, l1, l2, l3] [.int y0] h Q = ((y0 = nI 0 ∨ y0 = nI 1) ∧ Q (some (.int y0)) h) := (wp_rc _ rfl).trans (by rw [show retOk (rM 266) y0 = (narrow .boolean (.int y0) = .int y0) from rfl, nz_iff]; rfl)
set_option maxRecDepth 20000 in
theorem r266_1410 (μ : Bool) (d : Nat) (l0 : Value) (l2 : Value) (l3 : Value) (x : Nat) (st : List Value) (h : Hp) (Q : Po) : wp μ d 266 1410 [l0, .ref x, l2, l3] st h Q = wp μ d 266 1411 [l0, .ref x, l2, l3] (.ref x :: st) h Q := wp_nx rfl
set_option maxRecDepth 20000 in
theorem r266_1410n (μ : Bool) (d : Nat) (l0 : Value) (l2 : Value) (l3 : Value) (st : List Value) (h : Hp) (Q : Po) : wp μ d 266 1410 [l0, .null, l2, l3] st h Q = wp μ d 266 1411 [l0, .null, l2, l3] (.null :: st) h Q := wp_nx rfl
set_option maxRecDepth 20000 in
theorem r266_1410t (μ : Bool) (d : Nat) (l0 : Value) (l2 : Value) (l3 : Value) (x : Nat) (st : List Value) (h : Hp) (Q : Po) : wp μ d 266 1410 [l0, .retAddr x, l2, l3] st h Q = wp μ d 266 1411 [l0, .retAddr x, l2, l3] (.retAddr x :: st) h Q := wp_nx rfl
set_option maxRecDepth 20000 in
theorem r266_1411 (μ : Bool) (d : Nat) (l1 : Value) (l2 : Value) (l3 : Value) (x : Nat) (st : List Value) (h : Hp) (Q : Po) : wp μ d 266 1411 [.ref x, l1, l2, l3] st h Q = wp μ d 266 1412 [.ref x, l1, l2, l3] (.ref x :: st) h Q := wp_nx rfl
set_option maxRecDepth 20000 in
theorem r266_1411t (μ : Bool) (d : Nat) (l1 : Value) (l2 : Value) (l3 : Value) (x : Nat) (st : List Value) (h : Hp) (Q : Po) : wp μ d 266 1411 [.retAddr x, l1, l2, l3] st h Q = wp μ d 266 1412 [.retAddr x, l1, l2, l3] (.retAddr x :: st) h Q := wp_nx rfl
set_option maxRecDepth 20000 in
theorem r266_1412 (μ : Bool) (d : Nat) (l0 : Value) (l1 : Value) (l2 : Value) (x : Int32) (st : List Value) (h : Hp) (Q : Po) : wp μ d 266 1412 [l0, l1, l2, .int x] st h Q = wp μ d 266 1413 [l0, l1, l2, .int x] (.int x :: st) h Q := wp_nx rfl
set_option maxRecDepth 20000 in
theorem r266_1413 (μ : Bool) (d : Nat) (l0 : Value) (l1 : Value) (l2 : Value) (l3 : Value) (st : List Value) (h : Hp) (Q : Po) : wp μ d 266 1413 [l0, l1, l2, l3] st h Q = wp μ d 266 1414 [l0, l1, l2, l3] (.int (nI 1) :: st) h Q := (wp_nx rfl).trans (congrArg (fun z => wp μ d 266 1414 [l0, l1, l2, l3] (.int z :: st) h Q) (show Int32.ofInt (1) = (nI 1) by decide))
set_option maxRecDepth 20000 in
theorem r266_1414 (μ : Bool) (d : Nat) (l0 : Value) (l1 : Value) (l2 : Value) (l3 : Value) (y0 y1 : Int32) (st : List Value) (h : Hp) (Q : Po) : wp μ d 266 1414 [l0, l1, l2, l3] (.int y0 :: .int y1 :: st) h Q = wp μ d 266 1415 [l0, l1, l2, l3] (.int (y1 + y0) :: st) h Q := wp_nx rfl
set_option maxRecDepth 20000 in
theorem r266_1415 (μ : Bool) (d : Nat) (l0 : Value) (l1 : Value) (l2 : Value) (l3 : Value) (y0 : Int32) (y1 : Nat) (st : List Value) (h : Hp) (Q : Po) : wp μ d 266 1415 [l0, l1, l2, l3] (.int y0 :: .ref y1 :: st) h Q = (((kdm μ h y1).1 = 20 ∧ vp_in y0 (kdm μ h y1).2) ∧ wp μ d 266 1416 [l0, l1, l2, l3] (.int (gI h y1 y0.toNatClampNeg) :: st) h Q) := wp_ck _ rfl
set_option maxRecDepth 20000 in
theorem r266_1415t (μ : Bool) (d : Nat) (l0 : Value) (l1 : Value) (l2 : Value) (l3 : Value) (y0 : Int32) (st : List Value) (h : Hp) (Q : Po) : wp μ d 266 1415 [l0, l1, l2, l3] (.int y0 :: .retAddr 1 :: st) h Q = (vp_in y0 (hk h 0).2 ∧ wp μ d 266 1416 [l0, l1, l2, l3] (.int (gI h 0 y0.toNatClampNeg) :: st) h Q) := wp_ck _ rfl
set_option maxRecDepth 20000 in
theorem r266_1416 (μ : Bool) (d : Nat) (l1 : Value) (l2 : Value) (l3 : Value) (x : Nat) (st : List Value) (h : Hp) (Q : Po) : wp μ d 266 1416 [.ref x, l1, l2, l3] st h Q = wp μ d 266 1417 [.ref x, l1, l2, l3] (.ref x :: st) h Q := wp_nx rfl
set_option maxRecDepth 20000 in
theorem r266_1416t (μ : Bool) (d : Nat) (l1 : Value) (l2 : Value) (l3 : Value) (x : Nat) (st : List Value) (h : Hp) (Q : Po) : wp μ d 266 1416 [.retAddr x, l1, l2, l3] st h Q = wp μ d 266 1417 [.retAddr x, l1, l2, l3] (.retAddr x :: st) h Q := wp_nx rfl
set_option maxRecDepth 20000 in
theorem r266_1417 (μ : Bool) (d : Nat) (l0 : Value) (l1 : Value) (l2 : Value) (x : Int32) (st : List Value) (h : Hp) (Q : Po) : wp μ d 266 1417 [l0, l1, l2, .int x] st h Q = wp μ d 266 1418 [l0, l1, l2, .int x] (.int x :: st) h Q := wp_nx rfl
set_option maxRecDepth 20000 in
theorem r266_1418 (μ : Bool) (d : Nat) (l0 : Value) (l1 : Value) (l2 : Value) (l3 : Value) (st : List Value) (h : Hp) (Q : Po) : wp μ d 266 1418 [l0, l1, l2, l3] st h Q = wp μ d 266 1419 [l0, l1, l2, l3] (.int (nI 2) :: st) h Q := (wp_nx rfl).trans (congrArg (fun z => wp μ d 266 1419 [l0, l1, l2, l3] (.int z :: st) h Q) (show Int32.ofInt (2) = (nI 2) by decide))
set_option maxRecDepth 20000 in
theorem r266_1419 (μ : Bool) (d : Nat) (l0 : Value) (l1 : Value) (l2 : Value) (l3 : Value) (y0 y1 : Int32) (st : List Value) (h : Hp) (Q : Po) : wp μ d 266 1419 [l0, l1, l2, l3] (.int y0 :: .int y1 :: st) h Q = wp μ d 266 1420 [l0, l1, l2, l3] (.int (y1 + y0) :: st) h Q := wp_nx rfl
set_option maxRecDepth 20000 in
theorem r266_1420 (μ : Bool) (d : Nat) (l0 : Value) (l1 : Value) (l2 : Value) (l3 : Value) (y0 : Int32) (y1 : Nat) (st : List Value) (h : Hp) (Q : Po) : wp μ d 266 1420 [l0, l1, l2, l3] (.int y0 :: .ref y1 :: st) h Q = (((kdm μ h y1).1 = 20 ∧ vp_in y0 (kdm μ h y1).2) ∧ wp μ d 266 1421 [l0, l1, l2, l3] (.int (gI h y1 y0.toNatClampNeg) :: st) h Q) := wp_ck _ rfl
set_option maxRecDepth 20000 in
theorem r266_1420t (μ : Bool) (d : Nat) (l0 : Value) (l1 : Value) (l2 : Value) (l3 : Value) (y0 : Int32) (st : List Value) (h : Hp) (Q : Po) : wp μ d 266 1420 [l0, l1, l2, l3] (.int y0 :: .retAddr 1 :: st) h Q = (vp_in y0 (hk h 0).2 ∧ wp μ d 266 1421 [l0, l1, l2, l3] (.int (gI h 0 y0.toNatClampNeg) :: st) h Q) := wp_ck _ rfl
set_option maxRecDepth 20000 in
theorem r266_1421 (μ : Bool) (d : Nat) (l1 : Value) (l2 : Value) (l3 : Value) (x : Nat) (st : List Value) (h : Hp) (Q : Po) : wp μ d 266 1421 [.ref x, l1, l2, l3] st h Q = wp μ d 266 1422 [.ref x, l1, l2, l3] (.ref x :: st) h Q := wp_nx rfl
set_option maxRecDepth 20000 in
theorem r266_1421t (μ : Bool) (d : Nat) (l1 : Value) (l2 : Value) (l3 : Value) (x : Nat) (st : List Value) (h : Hp) (Q : Po) : wp μ d 266 1421 [.retAddr x, l1, l2, l3] st h Q = wp μ d 266 1422 [.retAddr x, l1, l2, l3] (.retAddr x :: st) h Q := wp_nx rfl
set_option maxRecDepth 20000 in
theorem r266_1422 (μ : Bool) (d : Nat) (l0 : Value) (l1 : Value) (l2 : Value) (x : Int32) (st : List Value) (h : Hp) (Q : Po) : wp μ d 266 1422 [l0, l1, l2, .int x] st h Q = wp μ d 266 1423 [l0, l1, l2, .int x] (.int x :: st) h Q := wp_nx rfl
set_option maxRecDepth 20000 in
theorem r266_1423 (μ : Bool) (d : Nat) (l0 : Value) (l1 : Value) (l2 : Value) (l3 : Value) (st : List Value) (h : Hp) (Q : Po) : wp μ d 266 1423 [l0, l1, l2, l3] st h Q = wp μ d 266 1424 [l0, l1, l2, l3] (.int (nI 3) :: st) h Q := (wp_nx rfl).trans (congrArg (fun z => wp μ d 266 1424 [l0, l1, l2, l3] (.int z :: st) h Q) (show Int32.ofInt (3) = (nI 3) by decide))
set_option maxRecDepth 20000 in
theorem r266_1424 (μ : Bool) (d : Nat) (l0 : Value) (l1 : Value) (l2 : Value) (l3 : Value) (y0 y1 : Int32) (st : List Value) (h : Hp) (Q : Po) : wp μ d 266 1424 [l0, l1, l2, l3] (.int y0 :: .int y1 :: st) h Q = wp μ d 266 1425 [l0, l1, l2, l3] (.int (y1 + y0) :: st) h Q := wp_nx rfl
set_option maxRecDepth 20000 in
theorem r266_1425 (μ : Bool) (d : Nat) (l0 : Value) (l1 : Value) (l2 : Value) (l3 : Value) (y0 : Int32) (y1 : Nat) (st : List Value) (h : Hp) (Q : Po) : wp μ d 266 1425 [l0, l1, l2, l3] (.int y0 :: .ref y1 :: st) h Q = (((kdm μ h y1).1 = 20 ∧ vp_in y0 (kdm μ h y1).2) ∧ wp μ d 266 1426 [l0, l1, l2, l3] (.int (gI h y1 y0.toNatClampNeg) :: st) h Q) := wp_ck _ rfl
set_option maxRecDepth 20000 in
theorem r266_1425t (μ : Bool) (d : Nat) (l0 : Value) (l1 : Value) (l2 : Value) (l3 : Value) (y0 : Int32) (st : List Value) (h : Hp) (Q : Po) : wp μ d 266 1425 [l0, l1, l2, l3] (.int y0 :: .retAddr 1 :: st) h Q = (vp_in y0 (hk h 0).2 ∧ wp μ d 266 1426 [l0, l1, l2, l3] (.int (gI h 0 y0.toNatClampNeg) :: st) h Q) := wp_ck _ rfl
set_option maxRecDepth 20000 in
theorem r266_1426 (μ : Bool) (d : Nat) (l1 : Value) (l2 : Value) (l3 : Value) (x : Nat) (st : List Value) (h : Hp) (Q : Po) : wp μ d 266 1426 [.ref x, l1, l2, l3] st h Q = wp μ d 266 1427 [.ref x, l1, l2, l3] (.ref x :: st) h Q := wp_nx rfl
set_option maxRecDepth 20000 in
theorem r266_1426t (μ : Bool) (d : Nat) (l1 : Value) (l2 : Value) (l3 : Value) (x : Nat) (st : List Value) (h : Hp) (Q : Po) : wp μ d 266 1426 [.retAddr x, l1, l2, l3] st h Q = wp μ d 266 1427 [.retAddr x, l1, l2, l3] (.retAddr x :: st) h Q := wp_nx rfl
set_option maxRecDepth 20000 in
theorem r266_1427 (μ : Bool) (d : Nat) (l0 : Value) (l1 : Value) (l2 : Value) (x : Int32) (st : List Value) (h : Hp) (Q : Po) : wp μ d 266 1427 [l0, l1, l2, .int x] st h Q = wp μ d 266 1428 [l0, l1, l2, .int x] (.int x :: st) h Q := wp_nx rfl
set_option maxRecDepth 20000 in
theorem r266_1428 (μ : Bool) (d : Nat) (l0 : Value) (l1 : Value) (l2 : Value) (l3 : Value) (st : List Value) (h : Hp) (Q : Po) : wp μ d 266 1428 [l0, l1, l2, l3] st h Q = wp μ d 266 1429 [l0, l1, l2, l3] (.int (nI 4) :: st) h Q := (wp_nx rfl).trans (congrArg (fun z => wp μ d 266 1429 [l0, l1, l2, l3] (.int z :: st) h Q) (show Int32.ofInt (4) = (nI 4) by decide))
set_option maxRecDepth 20000 in
theorem r266_1429 (μ : Bool) (d : Nat) (l0 : Value) (l1 : Value) (l2 : Value) (l3 : Value) (y0 y1 : Int32) (st : List Value) (h : Hp) (Q : Po) : wp μ d 266 1429 [l0, l1, l2, l3] (.int y0 :: .int y1 :: st) h Q = wp μ d 266 1430 [l0, l1, l2, l3] (.int (y1 + y0) :: st) h Q := wp_nx rfl
set_option maxRecDepth 20000 in
theorem r266_1430 (μ : Bool) (d : Nat) (l0 : Value) (l1 : Value) (l2 : Value) (l3 : Value) (y0 : Int32) (y1 : Nat) (st : List Value) (h : Hp) (Q : Po) : wp μ d 266 1430 [l0, l1, l2, l3] (.int y0 :: .ref y1 :: st) h Q = (((kdm μ h y1).1 = 20 ∧ vp_in y0 (kdm μ h y1).2) ∧ wp μ d 266 1431 [l0, l1, l2, l3] (.int (gI h y1 y0.toNatClampNeg) :: st) h Q) := wp_ck _ rfl
set_option maxRecDepth 20000 in
theorem r266_1430t (μ : Bool) (d : Nat) (l0 : Value) (l1 : Value) (l2 : Value) (l3 : Value) (y0 : Int32) (st : List Value) (h : Hp) (Q : Po) : wp μ d 266 1430 [l0, l1, l2, l3] (.int y0 :: .retAddr 1 :: st) h Q = (vp_in y0 (hk h 0).2 ∧ wp μ d 266 1431 [l0, l1, l2, l3] (.int (gI h 0 y0.toNatClampNeg) :: st) h Q) := wp_ck _ rfl
set_option maxRecDepth 20000 in
theorem r266_1431 (μ : Bool) (d : Nat) (l0 : Value) (l1 : Value) (l2 : Value) (l3 : Value) (y0 : Int32) (y1 : Int32) (y2 : Int32) (y3 : Int32) (y4 : Nat) (h : Hp) (Q : Po) : wp μ (d + 1) 266 1431 [l0, l1, l2, l3] [.int y0, .int y1, .int y2, .int y3, .ref y4] h Q = ((kdm μ h y4).1 = 11 ∧ cwp μ d 120 [.ref y4, .int y3, .int y2, .int y1, .int y0] h (fun r h' => wp μ (d + 1) 266 1434 [l0, l1, l2, l3] (r.toList ++ []) h' Q)) := wp_kc _ True rfl ⟨fun q => by obtain ⟨x, q1, q2⟩ := q.2.2.1 rfl; cases q1; exact q2, fun q => ⟨Nat.le_of_ble_eq_true rfl, ⟨Nat.le_of_ble_eq_true rfl, rfl, Nat.le_of_ble_eq_true rfl⟩, fun _ => ⟨_, rfl, q⟩, fun q9 => absurd q9 (by decide)⟩⟩
set_option maxRecDepth 20000 in
theorem r266_1434 (μ : Bool) (d : Nat) (l0 : Value) (l1 : Value) (l3 : Value) (x : Nat) (st : List Value) (h : Hp) (Q : Po) : wp μ d 266 1434 [l0, l1, .ref x, l3] st h Q = wp μ d 266 1435 [l0, l1, .ref x, l3] (.ref x :: st) h Q := wp_nx rfl
set_option maxRecDepth 20000 in
theorem r266_1434n (μ : Bool) (d : Nat) (l0 : Value) (l1 : Value) (l3 : Value) (st : List Value) (h : Hp) (Q : Po) : wp μ d 266 1434 [l0, l1, .null, l3] st h Q = wp μ d 266 1435 [l0, l1, .null, l3] (.null :: st) h Q := wp_nx rfl
set_option maxRecDepth 20000 in
theorem r266_1434t (μ : Bool) (d : Nat) (l0 : Value) (l1 : Value) (l3 : Value) (x : Nat) (st : List Value) (h : Hp) (Q : Po) : wp μ d 266 1434 [l0, l1, .retAddr x, l3] st h Q = wp μ d 266 1435 [l0, l1, .retAddr x, l3] (.retAddr x :: st) h Q := wp_nx rfl
set_option maxRecDepth 20000 in
theorem r266_1435 (μ : Bool) (d : Nat) (l1 : Value) (l2 : Value) (l3 : Value) (x : Nat) (st : List Value) (h : Hp) (Q : Po) : wp μ d 266 1435 [.ref x, l1, l2, l3] st h Q = wp μ d 266 1436 [.ref x, l1, l2, l3] (.ref x :: st) h Q := wp_nx rfl
set_option maxRecDepth 20000 in
theorem r266_1435t (μ : Bool) (d : Nat) (l1 : Value) (l2 : Value) (l3 : Value) (x : Nat) (st : List Value) (h : Hp) (Q : Po) : wp μ d 266 1435 [.retAddr x, l1, l2, l3] st h Q = wp μ d 266 1436 [.retAddr x, l1, l2, l3] (.retAddr x :: st) h Q := wp_nx rfl
set_option maxRecDepth 20000 in
theorem r266_1436 (μ : Bool) (d : Nat) (l0 : Value) (l1 : Value) (l2 : Value) (x : Int32) (st : List Value) (h : Hp) (Q : Po) : wp μ d 266 1436 [l0, l1, l2, .int x] st h Q = wp μ d 266 1437 [l0, l1, l2, .int x] (.int x :: st) h Q := wp_nx rfl
set_option maxRecDepth 20000 in
theorem r266_1437 (μ : Bool) (d : Nat) (l0 : Value) (l1 : Value) (l2 : Value) (l3 : Value) (st : List Value) (h : Hp) (Q : Po) : wp μ d 266 1437 [l0, l1, l2, l3] st h Q = wp μ d 266 1438 [l0, l1, l2, l3] (.int (nI 1) :: st) h Q := (wp_nx rfl).trans (congrArg (fun z => wp μ d 266 1438 [l0, l1, l2, l3] (.int z :: st) h Q) (show Int32.ofInt (1) = (nI 1) by decide))
set_option maxRecDepth 20000 in
theorem r266_1438 (μ : Bool) (d : Nat) (l0 : Value) (l1 : Value) (l2 : Value) (l3 : Value) (y0 y1 : Int32) (st : List Value) (h : Hp) (Q : Po) : wp μ d 266 1438 [l0, l1, l2, l3] (.int y0 :: .int y1 :: st) h Q = wp μ d 266 1439 [l0, l1, l2, l3] (.int (y1 + y0) :: st) h Q := wp_nx rfl
set_option maxRecDepth 20000 in
theorem r266_1439 (μ : Bool) (d : Nat) (l0 : Value) (l1 : Value) (l2 : Value) (l3 : Value) (y0 : Int32) (y1 : Nat) (st : List Value) (h : Hp) (Q : Po) : wp μ d 266 1439 [l0, l1, l2, l3] (.int y0 :: .ref y1 :: st) h Q = (((kdm μ h y1).1 = 20 ∧ vp_in y0 (kdm μ h y1).2) ∧ wp μ d 266 1440 [l0, l1, l2, l3] (.int (gI h y1 y0.toNatClampNeg) :: st) h Q) := wp_ck _ rfl
set_option maxRecDepth 20000 in
theorem r266_1439t (μ : Bool) (d : Nat) (l0 : Value) (l1 : Value) (l2 : Value) (l3 : Value) (y0 : Int32) (st : List Value) (h : Hp) (Q : Po) : wp μ d 266 1439 [l0, l1, l2, l3] (.int y0 :: .retAddr 1 :: st) h Q = (vp_in y0 (hk h 0).2 ∧ wp μ d 266 1440 [l0, l1, l2, l3] (.int (gI h 0 y0.toNatClampNeg) :: st) h Q) := wp_ck _ rfl
set_option maxRecDepth 20000 in
theorem r266_1440 (μ : Bool) (d : Nat) (l1 : Value) (l2 : Value) (l3 : Value) (x : Nat) (st : List Value) (h : Hp) (Q : Po) : wp μ d 266 1440 [.ref x, l1, l2, l3] st h Q = wp μ d 266 1441 [.ref x, l1, l2, l3] (.ref x :: st) h Q := wp_nx rfl
set_option maxRecDepth 20000 in
theorem r266_1440t (μ : Bool) (d : Nat) (l1 : Value) (l2 : Value) (l3 : Value) (x : Nat) (st : List Value) (h : Hp) (Q : Po) : wp μ d 266 1440 [.retAddr x, l1, l2, l3] st h Q = wp μ d 266 1441 [.retAddr x, l1, l2, l3] (.retAddr x :: st) h Q := wp_nx rfl
set_option maxRecDepth 20000 in
theorem r266_1441 (μ : Bool) (d : Nat) (l0 : Value) (l1 : Value) (l2 : Value) (x : Int32) (st : List Value) (h : Hp) (Q : Po) : wp μ d 266 1441 [l0, l1, l2, .int x] st h Q = wp μ d 266 1442 [l0, l1, l2, .int x] (.int x :: st) h Q := wp_nx rfl
set_option maxRecDepth 20000 in
theorem r266_1442 (μ : Bool) (d : Nat) (l0 : Value) (l1 : Value) (l2 : Value) (l3 : Value) (st : List Value) (h : Hp) (Q : Po) : wp μ d 266 1442 [l0, l1, l2, l3] st h Q = wp μ d 266 1443 [l0, l1, l2, l3] (.int (nI 2) :: st) h Q := (wp_nx rfl).trans (congrArg (fun z => wp μ d 266 1443 [l0, l1, l2, l3] (.int z :: st) h Q) (show Int32.ofInt (2) = (nI 2) by decide))
set_option maxRecDepth 20000 in
theorem r266_1443 (μ : Bool) (d : Nat) (l0 : Value) (l1 : Value) (l2 : Value) (l3 : Value) (y0 y1 : Int32) (st : List Value) (h : Hp) (Q : Po) : wp μ d 266 1443 [l0, l1, l2, l3] (.int y0 :: .int y1 :: st) h Q = wp μ d 266 1444 [l0, l1, l2, l3] (.int (y1 + y0) :: st) h Q := wp_nx rfl
set_option maxRecDepth 20000 in
theorem r266_1444 (μ : Bool) (d : Nat) (l0 : Value) (l1 : Value) (l2 : Value) (l3 : Value) (y0 : Int32) (y1 : Nat) (st : List Value) (h : Hp) (Q : Po) : wp μ d 266 1444 [l0, l1, l2, l3] (.int y0 :: .ref y1 :: st) h Q = (((kdm μ h y1).1 = 20 ∧ vp_in y0 (kdm μ h y1).2) ∧ wp μ d 266 1445 [l0, l1, l2, l3] (.int (gI h y1 y0.toNatClampNeg) :: st) h Q) := wp_ck _ rfl
set_option maxRecDepth 20000 in
theorem r266_1444t (μ : Bool) (d : Nat) (l0 : Value) (l1 : Value) (l2 : Value) (l3 : Value) (y0 : Int32) (st : List Value) (h : Hp) (Q : Po) : wp μ d 266 1444 [l0, l1, l2, l3] (.int y0 :: .retAddr 1 :: st) h Q = (vp_in y0 (hk h 0).2 ∧ wp μ d 266 1445 [l0, l1, l2, l3] (.int (gI h 0 y0.toNatClampNeg) :: st) h Q) := wp_ck _ rfl
set_option maxRecDepth 20000 in
theorem r266_1445 (μ : Bool) (d : Nat) (l1 : Value) (l2 : Value) (l3 : Value) (x : Nat) (st : List Value) (h : Hp) (Q : Po) : wp μ d 266 1445 [.ref x, l1, l2, l3] st h Q = wp μ d 266 1446 [.ref x, l1, l2, l3] (.ref x :: st) h Q := wp_nx rfl
set_option maxRecDepth 20000 in
theorem r266_1445t (μ : Bool) (d : Nat) (l1 : Value) (l2 : Value) (l3 : Value) (x : Nat) (st : List Value) (h : Hp) (Q : Po) : wp μ d 266 1445 [.retAddr x, l1, l2, l3] st h Q = wp μ d 266 1446 [.retAddr x, l1, l2, l3] (.retAddr x :: st) h Q := wp_nx rfl
set_option maxRecDepth 20000 in
theorem r266_1446 (μ : Bool) (d : Nat) (l0 : Value) (l1 : Value) (l2 : Value) (x : Int32) (st : List Value) (h : Hp) (Q : Po) : wp μ d 266 1446 [l0, l1, l2, .int x] st h Q = wp μ d 266 1447 [l0, l1, l2, .int x] (.int x :: st) h Q := wp_nx rfl
set_option maxRecDepth 20000 in
theorem r266_1447 (μ : Bool) (d : Nat) (l0 : Value) (l1 : Value) (l2 : Value) (l3 : Value) (st : List Value) (h : Hp) (Q : Po) : wp μ d 266 1447 [l0, l1, l2, l3] st h Q = wp μ d 266 1448 [l0, l1, l2, l3] (.int (nI 3) :: st) h Q := (wp_nx rfl).trans (congrArg (fun z => wp μ d 266 1448 [l0, l1, l2, l3] (.int z :: st) h Q) (show Int32.ofInt (3) = (nI 3) by decide))
set_option maxRecDepth 20000 in
theorem r266_1448 (μ : Bool) (d : Nat) (l0 : Value) (l1 : Value) (l2 : Value) (l3 : Value) (y0 y1 : Int32) (st : List Value) (h : Hp) (Q : Po) : wp μ d 266 1448 [l0, l1, l2, l3] (.int y0 :: .int y1 :: st) h Q = wp μ d 266 1449 [l0, l1, l2, l3] (.int (y1 + y0) :: st) h Q := wp_nx rfl
set_option maxRecDepth 20000 in
theorem r266_1449 (μ : Bool) (d : Nat) (l0 : Value) (l1 : Value) (l2 : Value) (l3 : Value) (y0 : Int32) (y1 : Nat) (st : List Value) (h : Hp) (Q : Po) : wp μ d 266 1449 [l0, l1, l2, l3] (.int y0 :: .ref y1 :: st) h Q = (((kdm μ h y1).1 = 20 ∧ vp_in y0 (kdm μ h y1).2) ∧ wp μ d 266 1450 [l0, l1, l2, l3] (.int (gI h y1 y0.toNatClampNeg) :: st) h Q) := wp_ck _ rfl
set_option maxRecDepth 20000 in
theorem r266_1449t (μ : Bool) (d : Nat) (l0 : Value) (l1 : Value) (l2 : Value) (l3 : Value) (y0 : Int32) (st : List Value) (h : Hp) (Q : Po) : wp μ d 266 1449 [l0, l1, l2, l3] (.int y0 :: .retAddr 1 :: st) h Q = (vp_in y0 (hk h 0).2 ∧ wp μ d 266 1450 [l0, l1, l2, l3] (.int (gI h 0 y0.toNatClampNeg) :: st) h Q) := wp_ck _ rfl
set_option maxRecDepth 20000 in
theorem r266_1450 (μ : Bool) (d : Nat) (l1 : Value) (l2 : Value) (l3 : Value) (x : Nat) (st : List Value) (h : Hp) (Q : Po) : wp μ d 266 1450 [.ref x, l1, l2, l3] st h Q = wp μ d 266 1451 [.ref x, l1, l2, l3] (.ref x :: st) h Q := wp_nx rfl
set_option maxRecDepth 20000 in
theorem r266_1450t (μ : Bool) (d : Nat) (l1 : Value) (l2 : Value) (l3 : Value) (x : Nat) (st : List Value) (h : Hp) (Q : Po) : wp μ d 266 1450 [.retAddr x, l1, l2, l3] st h Q = wp μ d 266 1451 [.retAddr x, l1, l2, l3] (.retAddr x :: st) h Q := wp_nx rfl
set_option maxRecDepth 20000 in
theorem r266_1451 (μ : Bool) (d : Nat) (l0 : Value) (l1 : Value) (l2 : Value) (x : Int32) (st : List Value) (h : Hp) (Q : Po) : wp μ d 266 1451 [l0, l1, l2, .int x] st h Q = wp μ d 266 1452 [l0, l1, l2, .int x] (.int x :: st) h Q := wp_nx rfl
set_option maxRecDepth 20000 in
theorem r266_1452 (μ : Bool) (d : Nat) (l0 : Value) (l1 : Value) (l2 : Value) (l3 : Value) (st : List Value) (h : Hp) (Q : Po) : wp μ d 266 1452 [l0, l1, l2, l3] st h Q = wp μ d 266 1453 [l0, l1, l2, l3] (.int (nI 4) :: st) h Q := (wp_nx rfl).trans (congrArg (fun z => wp μ d 266 1453 [l0, l1, l2, l3] (.int z :: st) h Q) (show Int32.ofInt (4) = (nI 4) by decide))
set_option maxRecDepth 20000 in
theorem r266_1453 (μ : Bool) (d : Nat) (l0 : Value) (l1 : Value) (l2 : Value) (l3 : Value) (y0 y1 : Int32) (st : List Value) (h : Hp) (Q : Po) : wp μ d 266 1453 [l0, l1, l2, l3] (.int y0 :: .int y1 :: st) h Q = wp μ d 266 1454 [l0, l1, l2, l3] (.int (y1 + y0) :: st) h Q := wp_nx rfl
set_option maxRecDepth 20000 in
theorem r266_1454 (μ : Bool) (d : Nat) (l0 : Value) (l1 : Value) (l2 : Value) (l3 : Value) (y0 : Int32) (y1 : Nat) (st : List Value) (h : Hp) (Q : Po) : wp μ d 266 1454 [l0, l1, l2, l3] (.int y0 :: .ref y1 :: st) h Q = (((kdm μ h y1).1 = 20 ∧ vp_in y0 (kdm μ h y1).2) ∧ wp μ d 266 1455 [l0, l1, l2, l3] (.int (gI h y1 y0.toNatClampNeg) :: st) h Q) := wp_ck _ rfl
set_option maxRecDepth 20000 in
theorem r266_1454t (μ : Bool) (d : Nat) (l0 : Value) (l1 : Value) (l2 : Value) (l3 : Value) (y0 : Int32) (st : List Value) (h : Hp) (Q : Po) : wp μ d 266 1454 [l0, l1, l2, l3] (.int y0 :: .retAddr 1 :: st) h Q = (vp_in y0 (hk h 0).2 ∧ wp μ d 266 1455 [l0, l1, l2, l3] (.int (gI h 0 y0.toNatClampNeg) :: st) h Q) := wp_ck _ rfl
set_option maxRecDepth 20000 in
theorem r266_1455 (μ : Bool) (d : Nat) (l0 : Value) (l1 : Value) (l2 : Value) (l3 : Value) (y0 : Int32) (y1 : Int32) (y2 : Int32) (y3 : Int32) (y4 : Nat) (y5 : Int32) (h : Hp) (Q : Po) : wp μ (d + 1) 266 1455 [l0, l1, l2, l3] [.int y0, .int y1, .int y2, .int y3, .ref y4, .int y5] h Q = ((kdm μ h y4).1 = 12 ∧ cwp μ d 258 [.ref y4, .int y3, .int y2, .int y1, .int y0] h (fun r h' => wp μ (d + 1) 266 1458 [l0, l1, l2, l3] (r.toList ++ [.int y5]) h' Q)) := wp_kc _ True rfl ⟨fun q => by obtain ⟨x, q1, q2⟩ := q.2.2.1 rfl; cases q1; exact q2, fun q => ⟨Nat.le_of_ble_eq_true rfl, ⟨Nat.le_of_ble_eq_true rfl, rfl, Nat.le_of_ble_eq_true rfl⟩, fun _ => ⟨_, rfl, q⟩, fun q9 => absurd q9 (by decide)⟩⟩
set_option maxRecDepth 20000 in
theorem r266_1458 (μ : Bool) (d : Nat) (l0 : Value) (l1 : Value) (l2 : Value) (l3 : Value) (y0 y1 : Int32) (st : List Value) (h : Hp) (Q : Po) : wp μ d 266 1458 [l0, l1, l2, l3] (.int y0 :: .int y1 :: st) h Q = if y1 = y0 then wp μ d 266 1545 [l0, l1, l2, l3] st h Q else wp μ d 266 1461 [l0, l1, l2, l3] st h Q := wp_br (y1 = y0) rfl
set_option maxRecDepth 20000 in
theorem r266_1461 (μ : Bool) (d : Nat) (l0 : Value) (l1 : Value) (l2 : Value) (l3 : Value) (st : List Value) (h : Hp) (Q : Po) : wp μ d 266 1461 [l0, l1, l2, l3] st h Q = wp μ d 266 1462 [l0, l1, l2, l3] (.int (nI 0) :: st) h Q := (wp_nx rfl).trans (congrArg (fun z => wp μ d 266 1462 [l0, l1, l2, l3] (.int z :: st) h Q) (show Int32.ofInt (0) = (nI 0) by decide))
set_option maxRecDepth 20000 in
theorem r266_1462 (μ : Bool) (d : Nat) (l0 : Value) (l1 : Value) (l2 : Value) (l3 : Value) (y0 : Int32) (h : Hp) (Q : Po) : wp μ d 266 1462 [l0, l1, l2, l3] [.int y0] h Q = ((y0 = nI 0 ∨ y0 = nI 1) ∧ Q (some (.int y0)) h) := (wp_rc _ rfl).trans (by rw [show retOk (rM 266) y0 = (narrow .boolean (.int y0) = .int y0) from rfl, nz_iff]; rfl)
set_option maxRecDepth 20000 in
theorem r266_1463 (μ : Bool) (d : Nat) (l0 : Value) (l2 : Value) (l3 : Value) (x : Nat) (st : List Value) (h : Hp) (Q : Po) : wp μ d 266 1463 [l0, .ref x, l2, l3] st h Q = wp μ d 266 1464 [l0, .ref x, l2, l3] (.ref x :: st) h Q := wp_nx rfl
set_option maxRecDepth 20000 in
theorem r266_1463n (μ : Bool) (d : Nat) (l0 : Value) (l2 : Value) (l3 : Value) (st : List Value) (h : Hp) (Q : Po) : wp μ d 266 1463 [l0, .null, l2, l3] st h Q = wp μ d 266 1464 [l0, .null, l2, l3] (.null :: st) h Q := wp_nx rfl
set_option maxRecDepth 20000 in
theorem r266_1463t (μ : Bool) (d : Nat) (l0 : Value) (l2 : Value) (l3 : Value) (x : Nat) (st : List Value) (h : Hp) (Q : Po) : wp μ d 266 1463 [l0, .retAddr x, l2, l3] st h Q = wp μ d 266 1464 [l0, .retAddr x, l2, l3] (.retAddr x :: st) h Q := wp_nx rfl
set_option maxRecDepth 20000 in
theorem r266_1464 (μ : Bool) (d : Nat) (l1 : Value) (l2 : Value) (l3 : Value) (x : Nat) (st : List Value) (h : Hp) (Q : Po) : wp μ d 266 1464 [.ref x, l1, l2, l3] st h Q = wp μ d 266 1465 [.ref x, l1, l2, l3] (.ref x :: st) h Q := wp_nx rfl
set_option maxRecDepth 20000 in
theorem r266_1464t (μ : Bool) (d : Nat) (l1 : Value) (l2 : Value) (l3 : Value) (x : Nat) (st : List Value) (h : Hp) (Q : Po) : wp μ d 266 1464 [.retAddr x, l1, l2, l3] st h Q = wp μ d 266 1465 [.retAddr x, l1, l2, l3] (.retAddr x :: st) h Q := wp_nx rfl
set_option maxRecDepth 20000 in
theorem r266_1465 (μ : Bool) (d : Nat) (l0 : Value) (l1 : Value) (l2 : Value) (x : Int32) (st : List Value) (h : Hp) (Q : Po) : wp μ d 266 1465 [l0, l1, l2, .int x] st h Q = wp μ d 266 1466 [l0, l1, l2, .int x] (.int x :: st) h Q := wp_nx rfl
set_option maxRecDepth 20000 in
theorem r266_1466 (μ : Bool) (d : Nat) (l0 : Value) (l1 : Value) (l2 : Value) (l3 : Value) (st : List Value) (h : Hp) (Q : Po) : wp μ d 266 1466 [l0, l1, l2, l3] st h Q = wp μ d 266 1467 [l0, l1, l2, l3] (.int (nI 1) :: st) h Q := (wp_nx rfl).trans (congrArg (fun z => wp μ d 266 1467 [l0, l1, l2, l3] (.int z :: st) h Q) (show Int32.ofInt (1) = (nI 1) by decide))
set_option maxRecDepth 20000 in
theorem r266_1467 (μ : Bool) (d : Nat) (l0 : Value) (l1 : Value) (l2 : Value) (l3 : Value) (y0 y1 : Int32) (st : List Value) (h : Hp) (Q : Po) : wp μ d 266 1467 [l0, l1, l2, l3] (.int y0 :: .int y1 :: st) h Q = wp μ d 266 1468 [l0, l1, l2, l3] (.int (y1 + y0) :: st) h Q := wp_nx rfl
set_option maxRecDepth 20000 in
theorem r266_1468 (μ : Bool) (d : Nat) (l0 : Value) (l1 : Value) (l2 : Value) (l3 : Value) (y0 : Int32) (y1 : Nat) (st : List Value) (h : Hp) (Q : Po) : wp μ d 266 1468 [l0, l1, l2, l3] (.int y0 :: .ref y1 :: st) h Q = (((kdm μ h y1).1 = 20 ∧ vp_in y0 (kdm μ h y1).2) ∧ wp μ d 266 1469 [l0, l1, l2, l3] (.int (gI h y1 y0.toNatClampNeg) :: st) h Q) := wp_ck _ rfl
set_option maxRecDepth 20000 in
theorem r266_1468t (μ : Bool) (d : Nat) (l0 : Value) (l1 : Value) (l2 : Value) (l3 : Value) (y0 : Int32) (st : List Value) (h : Hp) (Q : Po) : wp μ d 266 1468 [l0, l1, l2, l3] (.int y0 :: .retAddr 1 :: st) h Q = (vp_in y0 (hk h 0).2 ∧ wp μ d 266 1469 [l0, l1, l2, l3] (.int (gI h 0 y0.toNatClampNeg) :: st) h Q) := wp_ck _ rfl
set_option maxRecDepth 20000 in
theorem r266_1469 (μ : Bool) (d : Nat) (l0 : Value) (l1 : Value) (l2 : Value) (l3 : Value) (y0 : Int32) (y1 : Nat) (h : Hp) (Q : Po) : wp μ (d + 1) 266 1469 [l0, l1, l2, l3] [.int y0, .ref y1] h Q = ((kdm μ h y1).1 = 11 ∧ cwp μ d 121 [.ref y1, .int y0] h (fun r h' => wp μ (d + 1) 266 1472 [l0, l1, l2, l3] (r.toList ++ []) h' Q)) := wp_kc _ True rfl ⟨fun q => by obtain ⟨x, q1, q2⟩ := q.2.2.1 rfl; cases q1; exact q2, fun q => ⟨Nat.le_of_ble_eq_true rfl, ⟨Nat.le_of_ble_eq_true rfl, rfl, Nat.le_of_ble_eq_true rfl⟩, fun _ => ⟨_, rfl, q⟩, fun q9 => absurd q9 (by decide)⟩⟩
set_option maxRecDepth 20000 in
theorem r266_1472 (μ : Bool) (d : Nat) (l0 : Value) (l1 : Value) (l3 : Value) (x : Nat) (st : List Value) (h : Hp) (Q : Po) : wp μ d 266 1472 [l0, l1, .ref x, l3] st h Q = wp μ d 266 1473 [l0, l1, .ref x, l3] (.ref x :: st) h Q := wp_nx rfl
set_option maxRecDepth 20000 in
theorem r266_1472n (μ : Bool) (d : Nat) (l0 : Value) (l1 : Value) (l3 : Value) (st : List Value) (h : Hp) (Q : Po) : wp μ d 266 1472 [l0, l1, .null, l3] st h Q = wp μ d 266 1473 [l0, l1, .null, l3] (.null :: st) h Q := wp_nx rfl
set_option maxRecDepth 20000 in
theorem r266_1472t (μ : Bool) (d : Nat) (l0 : Value) (l1 : Value) (l3 : Value) (x : Nat) (st : List Value) (h : Hp) (Q : Po) : wp μ d 266 1472 [l0, l1, .retAddr x, l3] st h Q = wp μ d 266 1473 [l0, l1, .retAddr x, l3] (.retAddr x :: st) h Q := wp_nx rfl
set_option maxRecDepth 20000 in
theorem r266_1473 (μ : Bool) (d : Nat) (l1 : Value) (l2 : Value) (l3 : Value) (x : Nat) (st : List Value) (h : Hp) (Q : Po) : wp μ d 266 1473 [.ref x, l1, l2, l3] st h Q = wp μ d 266 1474 [.ref x, l1, l2, l3] (.ref x :: st) h Q := wp_nx rfl
set_option maxRecDepth 20000 in
theorem r266_1473t (μ : Bool) (d : Nat) (l1 : Value) (l2 : Value) (l3 : Value) (x : Nat) (st : List Value) (h : Hp) (Q : Po) : wp μ d 266 1473 [.retAddr x, l1, l2, l3] st h Q = wp μ d 266 1474 [.retAddr x, l1, l2, l3] (.retAddr x :: st) h Q := wp_nx rfl
set_option maxRecDepth 20000 in
theorem r266_1474 (μ : Bool) (d : Nat) (l0 : Value) (l1 : Value) (l2 : Value) (x : Int32) (st : List Value) (h : Hp) (Q : Po) : wp μ d 266 1474 [l0, l1, l2, .int x] st h Q = wp μ d 266 1475 [l0, l1, l2, .int x] (.int x :: st) h Q := wp_nx rfl
set_option maxRecDepth 20000 in
theorem r266_1475 (μ : Bool) (d : Nat) (l0 : Value) (l1 : Value) (l2 : Value) (l3 : Value) (st : List Value) (h : Hp) (Q : Po) : wp μ d 266 1475 [l0, l1, l2, l3] st h Q = wp μ d 266 1476 [l0, l1, l2, l3] (.int (nI 1) :: st) h Q := (wp_nx rfl).trans (congrArg (fun z => wp μ d 266 1476 [l0, l1, l2, l3] (.int z :: st) h Q) (show Int32.ofInt (1) = (nI 1) by decide))
set_option maxRecDepth 20000 in
theorem r266_1476 (μ : Bool) (d : Nat) (l0 : Value) (l1 : Value) (l2 : Value) (l3 : Value) (y0 y1 : Int32) (st : List Value) (h : Hp) (Q : Po) : wp μ d 266 1476 [l0, l1, l2, l3] (.int y0 :: .int y1 :: st) h Q = wp μ d 266 1477 [l0, l1, l2, l3] (.int (y1 + y0) :: st) h Q := wp_nx rfl
set_option maxRecDepth 20000 in
theorem r266_1477 (μ : Bool) (d : Nat) (l0 : Value) (l1 : Value) (l2 : Value) (l3 : Value) (y0 : Int32) (y1 : Nat) (st : List Value) (h : Hp) (Q : Po) : wp μ d 266 1477 [l0, l1, l2, l3] (.int y0 :: .ref y1 :: st) h Q = (((kdm μ h y1).1 = 20 ∧ vp_in y0 (kdm μ h y1).2) ∧ wp μ d 266 1478 [l0, l1, l2, l3] (.int (gI h y1 y0.toNatClampNeg) :: st) h Q) := wp_ck _ rfl
set_option maxRecDepth 20000 in
theorem r266_1477t (μ : Bool) (d : Nat) (l0 : Value) (l1 : Value) (l2 : Value) (l3 : Value) (y0 : Int32) (st : List Value) (h : Hp) (Q : Po) : wp μ d 266 1477 [l0, l1, l2, l3] (.int y0 :: .retAddr 1 :: st) h Q = (vp_in y0 (hk h 0).2 ∧ wp μ d 266 1478 [l0, l1, l2, l3] (.int (gI h 0 y0.toNatClampNeg) :: st) h Q) := wp_ck _ rfl
set_option maxRecDepth 20000 in
theorem r266_1478 (μ : Bool) (d : Nat) (l0 : Value) (l1 : Value) (l2 : Value) (l3 : Value) (y0 : Int32) (y1 : Nat) (y2 : Int32) (h : Hp) (Q : Po) : wp μ (d + 1) 266 1478 [l0, l1, l2, l3] [.int y0, .ref y1, .int y2] h Q = ((kdm μ h y1).1 = 12 ∧ cwp μ d 147 [.ref y1, .int y0] h (fun r h' => wp μ (d + 1) 266 1481 [l0, l1, l2, l3] (r.toList ++ [.int y2]) h' Q)) := wp_kc _ True rfl ⟨fun q => by obtain ⟨x, q1, q2⟩ := q.2.2.1 rfl; cases q1; exact q2, fun q => ⟨Nat.le_of_ble_eq_true rfl, ⟨Nat.le_of_ble_eq_true rfl, rfl, Nat.le_of_ble_eq_true rfl⟩, fun _ => ⟨_, rfl, q⟩, fun q9 => absurd q9 (by decide)⟩⟩
set_option maxRecDepth 20000 in
theorem r266_1481 (μ : Bool) (d : Nat) (l0 : Value) (l1 : Value) (l2 : Value) (l3 : Value) (y0 y1 : Int32) (st : List Value) (h : Hp) (Q : Po) : wp μ d 266 1481 [l0, l1, l2, l3] (.int y0 :: .int y1 :: st) h Q = if y1 = y0 then wp μ d 266 1545 [l0, l1, l2, l3] st h Q else wp μ d 266 1484 [l0, l1, l2, l3] st h Q := wp_br (y1 = y0) rfl
set_option maxRecDepth 20000 in
theorem r266_1484 (μ : Bool) (d : Nat) (l0 : Value) (l1 : Value) (l2 : Value) (l3 : Value) (st : List Value) (h : Hp) (Q : Po) : wp μ d 266 1484 [l0, l1, l2, l3] st h Q = wp μ d 266 1485 [l0, l1, l2, l3] (.int (nI 0) :: st) h Q := (wp_nx rfl).trans (congrArg (fun z => wp μ d 266 1485 [l0, l1, l2, l3] (.int z :: st) h Q) (show Int32.ofInt (0) = (nI 0) by decide))
set_option maxRecDepth 20000 in
theorem r266_1485 (μ : Bool) (d : Nat) (l0 : Value) (l1 : Value) (l2 : Value) (l3 : Value) (y0 : Int32) (h : Hp) (Q : Po) : wp μ d 266 1485 [l0, l1, l2, l3] [.int y0] h Q = ((y0 = nI 0 ∨ y0 = nI 1) ∧ Q (some (.int y0)) h) := (wp_rc _ rfl).trans (by rw [show retOk (rM 266) y0 = (narrow .boolean (.int y0) = .int y0) from rfl, nz_iff]; rfl)
set_option maxRecDepth 20000 in
theorem r266_1486 (μ : Bool) (d : Nat) (l0 : Value) (l2 : Value) (l3 : Value) (x : Nat) (st : List Value) (h : Hp) (Q : Po) : wp μ d 266 1486 [l0, .ref x, l2, l3] st h Q = wp μ d 266 1487 [l0, .ref x, l2, l3] (.ref x :: st) h Q := wp_nx rfl
set_option maxRecDepth 20000 in
theorem r266_1486n (μ : Bool) (d : Nat) (l0 : Value) (l2 : Value) (l3 : Value) (st : List Value) (h : Hp) (Q : Po) : wp μ d 266 1486 [l0, .null, l2, l3] st h Q = wp μ d 266 1487 [l0, .null, l2, l3] (.null :: st) h Q := wp_nx rfl
set_option maxRecDepth 20000 in
theorem r266_1486t (μ : Bool) (d : Nat) (l0 : Value) (l2 : Value) (l3 : Value) (x : Nat) (st : List Value) (h : Hp) (Q : Po) : wp μ d 266 1486 [l0, .retAddr x, l2, l3] st h Q = wp μ d 266 1487 [l0, .retAddr x, l2, l3] (.retAddr x :: st) h Q := wp_nx rfl
set_option maxRecDepth 20000 in
theorem r266_1487 (μ : Bool) (d : Nat) (l1 : Value) (l2 : Value) (l3 : Value) (x : Nat) (st : List Value) (h : Hp) (Q : Po) : wp μ d 266 1487 [.ref x, l1, l2, l3] st h Q = wp μ d 266 1488 [.ref x, l1, l2, l3] (.ref x :: st) h Q := wp_nx rfl
set_option maxRecDepth 20000 in
theorem r266_1487t (μ : Bool) (d : Nat) (l1 : Value) (l2 : Value) (l3 : Value) (x : Nat) (st : List Value) (h : Hp) (Q : Po) : wp μ d 266 1487 [.retAddr x, l1, l2, l3] st h Q = wp μ d 266 1488 [.retAddr x, l1, l2, l3] (.retAddr x :: st) h Q := wp_nx rfl
set_option maxRecDepth 20000 in
theorem r266_1488 (μ : Bool) (d : Nat) (l0 : Value) (l1 : Value) (l2 : Value) (x : Int32) (st : List Value) (h : Hp) (Q : Po) : wp μ d 266 1488 [l0, l1, l2, .int x] st h Q = wp μ d 266 1489 [l0, l1, l2, .int x] (.int x :: st) h Q := wp_nx rfl
set_option maxRecDepth 20000 in
theorem r266_1489 (μ : Bool) (d : Nat) (l0 : Value) (l1 : Value) (l2 : Value) (l3 : Value) (st : List Value) (h : Hp) (Q : Po) : wp μ d 266 1489 [l0, l1, l2, l3] st h Q = wp μ d 266 1490 [l0, l1, l2, l3] (.int (nI 1) :: st) h Q := (wp_nx rfl).trans (congrArg (fun z => wp μ d 266 1490 [l0, l1, l2, l3] (.int z :: st) h Q) (show Int32.ofInt (1) = (nI 1) by decide))
set_option maxRecDepth 20000 in
theorem r266_1490 (μ : Bool) (d : Nat) (l0 : Value) (l1 : Value) (l2 : Value) (l3 : Value) (y0 y1 : Int32) (st : List Value) (h : Hp) (Q : Po) : wp μ d 266 1490 [l0, l1, l2, l3] (.int y0 :: .int y1 :: st) h Q = wp μ d 266 1491 [l0, l1, l2, l3] (.int (y1 + y0) :: st) h Q := wp_nx rfl
set_option maxRecDepth 20000 in
theorem r266_1491 (μ : Bool) (d : Nat) (l0 : Value) (l1 : Value) (l2 : Value) (l3 : Value) (y0 : Int32) (y1 : Nat) (st : List Value) (h : Hp) (Q : Po) : wp μ d 266 1491 [l0, l1, l2, l3] (.int y0 :: .ref y1 :: st) h Q = (((kdm μ h y1).1 = 20 ∧ vp_in y0 (kdm μ h y1).2) ∧ wp μ d 266 1492 [l0, l1, l2, l3] (.int (gI h y1 y0.toNatClampNeg) :: st) h Q) := wp_ck _ rfl
set_option maxRecDepth 20000 in
theorem r266_1491t (μ : Bool) (d : Nat) (l0 : Value) (l1 : Value) (l2 : Value) (l3 : Value) (y0 : Int32) (st : List Value) (h : Hp) (Q : Po) : wp μ d 266 1491 [l0, l1, l2, l3] (.int y0 :: .retAddr 1 :: st) h Q = (vp_in y0 (hk h 0).2 ∧ wp μ d 266 1492 [l0, l1, l2, l3] (.int (gI h 0 y0.toNatClampNeg) :: st) h Q) := wp_ck _ rfl
set_option maxRecDepth 20000 in
theorem r266_1492 (μ : Bool) (d : Nat) (l0 : Value) (l1 : Value) (l2 : Value) (l3 : Value) (y0 : Int32) (y1 : Nat) (h : Hp) (Q : Po) : wp μ (d + 1) 266 1492 [l0, l1, l2, l3] [.int y0, .ref y1] h Q = ((kdm μ h y1).1 = 11 ∧ cwp μ d 122 [.ref y1, .int y0] h (fun r h' => wp μ (d + 1) 266 1495 [l0, l1, l2, l3] (r.toList ++ []) h' Q)) := wp_kc _ True rfl ⟨fun q => by obtain ⟨x, q1, q2⟩ := q.2.2.1 rfl; cases q1; exact q2, fun q => ⟨Nat.le_of_ble_eq_true rfl, ⟨Nat.le_of_ble_eq_true rfl, rfl, Nat.le_of_ble_eq_true rfl⟩, fun _ => ⟨_, rfl, q⟩, fun q9 => absurd q9 (by decide)⟩⟩
set_option maxRecDepth 20000 in
theorem r266_1495 (μ : Bool) (d : Nat) (l0 : Value) (l1 : Value) (l3 : Value) (x : Nat) (st : List Value) (h : Hp) (Q : Po) : wp μ d 266 1495 [l0, l1, .ref x, l3] st h Q = wp μ d 266 1496 [l0, l1, .ref x, l3] (.ref x :: st) h Q := wp_nx rfl
set_option maxRecDepth 20000 in
theorem r266_1495n (μ : Bool) (d : Nat) (l0 : Value) (l1 : Value) (l3 : Value) (st : List Value) (h : Hp) (Q : Po) : wp μ d 266 1495 [l0, l1, .null, l3] st h Q = wp μ d 266 1496 [l0, l1, .null, l3] (.null :: st) h Q := wp_nx rfl
set_option maxRecDepth 20000 in
theorem r266_1495t (μ : Bool) (d : Nat) (l0 : Value) (l1 : Value) (l3 : Value) (x : Nat) (st : List Value) (h : Hp) (Q : Po) : wp μ d 266 1495 [l0, l1, .retAddr x, l3] st h Q = wp μ d 266 1496 [l0, l1, .retAddr x, l3] (.retAddr x :: st) h Q := wp_nx rfl
set_option maxRecDepth 20000 in
theorem r266_1496 (μ : Bool) (d : Nat) (l1 : Value) (l2 : Value) (l3 : Value) (x : Nat) (st : List Value) (h : Hp) (Q : Po) : wp μ d 266 1496 [.ref x, l1, l2, l3] st h Q = wp μ d 266 1497 [.ref x, l1, l2, l3] (.ref x :: st) h Q := wp_nx rfl
set_option maxRecDepth 20000 in
theorem r266_1496t (μ : Bool) (d : Nat) (l1 : Value) (l2 : Value) (l3 : Value) (x : Nat) (st : List Value) (h : Hp) (Q : Po) : wp μ d 266 1496 [.retAddr x, l1, l2, l3] st h Q = wp μ d 266 1497 [.retAddr x, l1, l2, l3] (.retAddr x :: st) h Q := wp_nx rfl
set_option maxRecDepth 20000 in
theorem r266_1497 (μ : Bool) (d : Nat) (l0 : Value) (l1 : Value) (l2 : Value) (x : Int32) (st : List Value) (h : Hp) (Q : Po) : wp μ d 266 1497 [l0, l1, l2, .int x] st h Q = wp μ d 266 1498 [l0, l1, l2, .int x] (.int x :: st) h Q := wp_nx rfl
set_option maxRecDepth 20000 in
theorem r266_1498 (μ : Bool) (d : Nat) (l0 : Value) (l1 : Value) (l2 : Value) (l3 : Value) (st : List Value) (h : Hp) (Q : Po) : wp μ d 266 1498 [l0, l1, l2, l3] st h Q = wp μ d 266 1499 [l0, l1, l2, l3] (.int (nI 1) :: st) h Q := (wp_nx rfl).trans (congrArg (fun z => wp μ d 266 1499 [l0, l1, l2, l3] (.int z :: st) h Q) (show Int32.ofInt (1) = (nI 1) by decide))
set_option maxRecDepth 20000 in
theorem r266_1499 (μ : Bool) (d : Nat) (l0 : Value) (l1 : Value) (l2 : Value) (l3 : Value) (y0 y1 : Int32) (st : List Value) (h : Hp) (Q : Po) : wp μ d 266 1499 [l0, l1, l2, l3] (.int y0 :: .int y1 :: st) h Q = wp μ d 266 1500 [l0, l1, l2, l3] (.int (y1 + y0) :: st) h Q := wp_nx rfl
set_option maxRecDepth 20000 in
theorem r266_1500 (μ : Bool) (d : Nat) (l0 : Value) (l1 : Value) (l2 : Value) (l3 : Value) (y0 : Int32) (y1 : Nat) (st : List Value) (h : Hp) (Q : Po) : wp μ d 266 1500 [l0, l1, l2, l3] (.int y0 :: .ref y1 :: st) h Q = (((kdm μ h y1).1 = 20 ∧ vp_in y0 (kdm μ h y1).2) ∧ wp μ d 266 1501 [l0, l1, l2, l3] (.int (gI h y1 y0.toNatClampNeg) :: st) h Q) := wp_ck _ rfl
set_option maxRecDepth 20000 in
theorem r266_1500t (μ : Bool) (d : Nat) (l0 : Value) (l1 : Value) (l2 : Value) (l3 : Value) (y0 : Int32) (st : List Value) (h : Hp) (Q : Po) : wp μ d 266 1500 [l0, l1, l2, l3] (.int y0 :: .retAddr 1 :: st) h Q = (vp_in y0 (hk h 0).2 ∧ wp μ d 266 1501 [l0, l1, l2, l3] (.int (gI h 0 y0.toNatClampNeg) :: st) h Q) := wp_ck _ rfl
set_option maxRecDepth 20000 in
theorem r266_1501 (μ : Bool) (d : Nat) (l0 : Value) (l1 : Value) (l2 : Value) (l3 : Value) (y0 : Int32) (y1 : Nat) (y2 : Int32) (h : Hp) (Q : Po) : wp μ (d + 1) 266 1501 [l0, l1, l2, l3] [.int y0, .ref y1, .int y2] h Q = ((kdm μ h y1).1 = 12 ∧ cwp μ d 148 [.ref y1, .int y0] h (fun r h' => wp μ (d + 1) 266 1504 [l0, l1, l2, l3] (r.toList ++ [.int y2]) h' Q)) := wp_kc _ True rfl ⟨fun q => by obtain ⟨x, q1, q2⟩ := q.2.2.1 rfl; cases q1; exact q2, fun q => ⟨Nat.le_of_ble_eq_true rfl, ⟨Nat.le_of_ble_eq_true rfl, rfl, Nat.le_of_ble_eq_true rfl⟩, fun _ => ⟨_, rfl, q⟩, fun q9 => absurd q9 (by decide)⟩⟩
set_option maxRecDepth 20000 in
theorem r266_1504 (μ : Bool) (d : Nat) (l0 : Value) (l1 : Value) (l2 : Value) (l3 : Value) (y0 y1 : Int32) (st : List Value) (h : Hp) (Q : Po) : wp μ d 266 1504 [l0, l1, l2, l3] (.int y0 :: .int y1 :: st) h Q = if y1 = y0 then wp μ d 266 1545 [l0, l1, l2, l3] st h Q else wp μ d 266 1507 [l0, l1, l2, l3] st h Q := wp_br (y1 = y0) rfl
set_option maxRecDepth 20000 in
theorem r266_1507 (μ : Bool) (d : Nat) (l0 : Value) (l1 : Value) (l2 : Value) (l3 : Value) (st : List Value) (h : Hp) (Q : Po) : wp μ d 266 1507 [l0, l1, l2, l3] st h Q = wp μ d 266 1508 [l0, l1, l2, l3] (.int (nI 0) :: st) h Q := (wp_nx rfl).trans (congrArg (fun z => wp μ d 266 1508 [l0, l1, l2, l3] (.int z :: st) h Q) (show Int32.ofInt (0) = (nI 0) by decide))
set_option maxRecDepth 20000 in
theorem r266_1508 (μ : Bool) (d : Nat) (l0 : Value) (l1 : Value) (l2 : Value) (l3 : Value) (y0 : Int32) (h : Hp) (Q : Po) : wp μ d 266 1508 [l0, l1, l2, l3] [.int y0] h Q = ((y0 = nI 0 ∨ y0 = nI 1) ∧ Q (some (.int y0)) h) := (wp_rc _ rfl).trans (by rw [show retOk (rM 266) y0 = (narrow .boolean (.int y0) = .int y0) from rfl, nz_iff]; rfl)
set_option maxRecDepth 20000 in
theorem r266_1509 (μ : Bool) (d : Nat) (l0 : Value) (l2 : Value) (l3 : Value) (x : Nat) (st : List Value) (h : Hp) (Q : Po) : wp μ d 266 1509 [l0, .ref x, l2, l3] st h Q = wp μ d 266 1510 [l0, .ref x, l2, l3] (.ref x :: st) h Q := wp_nx rfl
set_option maxRecDepth 20000 in
theorem r266_1509n (μ : Bool) (d : Nat) (l0 : Value) (l2 : Value) (l3 : Value) (st : List Value) (h : Hp) (Q : Po) : wp μ d 266 1509 [l0, .null, l2, l3] st h Q = wp μ d 266 1510 [l0, .null, l2, l3] (.null :: st) h Q := wp_nx rfl
set_option maxRecDepth 20000 in
theorem r266_1509t (μ : Bool) (d : Nat) (l0 : Value) (l2 : Value) (l3 : Value) (x : Nat) (st : List Value) (h : Hp) (Q : Po) : wp μ d 266 1509 [l0, .retAddr x, l2, l3] st h Q = wp μ d 266 1510 [l0, .retAddr x, l2, l3] (.retAddr x :: st) h Q := wp_nx rfl
set_option maxRecDepth 20000 in
theorem r266_1510 (μ : Bool) (d : Nat) (l1 : Value) (l2 : Value) (l3 : Value) (x : Nat) (st : List Value) (h : Hp) (Q : Po) : wp μ d 266 1510 [.ref x, l1, l2, l3] st h Q = wp μ d 266 1511 [.ref x, l1, l2, l3] (.ref x :: st) h Q := wp_nx rfl
set_option maxRecDepth 20000 in
theorem r266_1510t (μ : Bool) (d : Nat) (l1 : Value) (l2 : Value) (l3 : Value) (x : Nat) (st : List Value) (h : Hp) (Q : Po) : wp μ d 266 1510 [.retAddr x, l1, l2, l3] st h Q = wp μ d 266 1511 [.retAddr x, l1, l2, l3] (.retAddr x :: st) h Q := wp_nx rfl
set_option maxRecDepth 20000 in
theorem r266_1511 (μ : Bool) (d : Nat) (l0 : Value) (l1 : Value) (l2 : Value) (x : Int32) (st : List Value) (h : Hp) (Q : Po) : wp μ d 266 1511 [l0, l1, l2, .int x] st h Q = wp μ d 266 1512 [l0, l1, l2, .int x] (.int x :: st) h Q := wp_nx rfl
set_option maxRecDepth 20000 in
theorem r266_1512 (μ : Bool) (d : Nat) (l0 : Value) (l1 : Value) (l2 : Value) (l3 : Value) (st : List Value) (h : Hp) (Q : Po) : wp μ d 266 1512 [l0, l1, l2, l3] st h Q = wp μ d 266 1513 [l0, l1, l2, l3] (.int (nI 1) :: st) h Q := (wp_nx rfl).trans (congrArg (fun z => wp μ d 266 1513 [l0, l1, l2, l3] (.int z :: st) h Q) (show Int32.ofInt (1) = (nI 1) by decide))
set_option maxRecDepth 20000 in
theorem r266_1513 (μ : Bool) (d : Nat) (l0 : Value) (l1 : Value) (l2 : Value) (l3 : Value) (y0 y1 : Int32) (st : List Value) (h : Hp) (Q : Po) : wp μ d 266 1513 [l0, l1, l2, l3] (.int y0 :: .int y1 :: st) h Q = wp μ d 266 1514 [l0, l1, l2, l3] (.int (y1 + y0) :: st) h Q := wp_nx rfl
set_option maxRecDepth 20000 in
theorem r266_1514 (μ : Bool) (d : Nat) (l0 : Value) (l1 : Value) (l2 : Value) (l3 : Value) (y0 : Int32) (y1 : Nat) (st : List Value) (h : Hp) (Q : Po) : wp μ d 266 1514 [l0, l1, l2, l3] (.int y0 :: .ref y1 :: st) h Q = (((kdm μ h y1).1 = 20 ∧ vp_in y0 (kdm μ h y1).2) ∧ wp μ d 266 1515 [l0, l1, l2, l3] (.int (gI h y1 y0.toNatClampNeg) :: st) h Q) := wp_ck _ rfl
set_option maxRecDepth 20000 in
theorem r266_1514t (μ : Bool) (d : Nat) (l0 : Value) (l1 : Value) (l2 : Value) (l3 : Value) (y0 : Int32) (st : List Value) (h : Hp) (Q : Po) : wp μ d 266 1514 [l0, l1, l2, l3] (.int y0 :: .retAddr 1 :: st) h Q = (vp_in y0 (hk h 0).2 ∧ wp μ d 266 1515 [l0, l1, l2, l3] (.int (gI h 0 y0.toNatClampNeg) :: st) h Q) := wp_ck _ rfl
set_option maxRecDepth 20000 in
theorem r266_1515 (μ : Bool) (d : Nat) (l0 : Value) (l1 : Value) (l2 : Value) (l3 : Value) (y0 : Int32) (y1 : Nat) (h : Hp) (Q : Po) : wp μ (d + 1) 266 1515 [l0, l1, l2, l3] [.int y0, .ref y1] h Q = ((kdm μ h y1).1 = 11 ∧ cwp μ d 123 [.ref y1, .int y0] h (fun r h' => wp μ (d + 1) 266 1518 [l0, l1, l2, l3] (r.toList ++ []) h' Q)) := wp_kc _ True rfl ⟨fun q => by obtain ⟨x, q1, q2⟩ := q.2.2.1 rfl; cases q1; exact q2, fun q => ⟨Nat.le_of_ble_eq_true rfl, ⟨Nat.le_of_ble_eq_true rfl, rfl, Nat.le_of_ble_eq_true rfl⟩, fun _ => ⟨_, rfl, q⟩, fun q9 => absurd q9 (by decide)⟩⟩
set_option maxRecDepth 20000 in
theorem r266_1518 (μ : Bool) (d : Nat) (l0 : Value) (l1 : Value) (l3 : Value) (x : Nat) (st : List Value) (h : Hp) (Q : Po) : wp μ d 266 1518 [l0, l1, .ref x, l3] st h Q = wp μ d 266 1519 [l0, l1, .ref x, l3] (.ref x :: st) h Q := wp_nx rfl
set_option maxRecDepth 20000 in
theorem r266_1518n (μ : Bool) (d : Nat) (l0 : Value) (l1 : Value) (l3 : Value) (st : List Value) (h : Hp) (Q : Po) : wp μ d 266 1518 [l0, l1, .null, l3] st h Q = wp μ d 266 1519 [l0, l1, .null, l3] (.null :: st) h Q := wp_nx rfl
set_option maxRecDepth 20000 in
theorem r266_1518t (μ : Bool) (d : Nat) (l0 : Value) (l1 : Value) (l3 : Value) (x : Nat) (st : List Value) (h : Hp) (Q : Po) : wp μ d 266 1518 [l0, l1, .retAddr x, l3] st h Q = wp μ d 266 1519 [l0, l1, .retAddr x, l3] (.retAddr x :: st) h Q := wp_nx rfl
set_option maxRecDepth 20000 in
theorem r266_1519 (μ : Bool) (d : Nat) (l1 : Value) (l2 : Value) (l3 : Value) (x : Nat) (st : List Value) (h : Hp) (Q : Po) : wp μ d 266 1519 [.ref x, l1, l2, l3] st h Q = wp μ d 266 1520 [.ref x, l1, l2, l3] (.ref x :: st) h Q := wp_nx rfl
set_option maxRecDepth 20000 in
theorem r266_1519t (μ : Bool) (d : Nat) (l1 : Value) (l2 : Value) (l3 : Value) (x : Nat) (st : List Value) (h : Hp) (Q : Po) : wp μ d 266 1519 [.retAddr x, l1, l2, l3] st h Q = wp μ d 266 1520 [.retAddr x, l1, l2, l3] (.retAddr x :: st) h Q := wp_nx rfl
set_option maxRecDepth 20000 in
theorem r266_1520 (μ : Bool) (d : Nat) (l0 : Value) (l1 : Value) (l2 : Value) (x : Int32) (st : List Value) (h : Hp) (Q : Po) : wp μ d 266 1520 [l0, l1, l2, .int x] st h Q = wp μ d 266 1521 [l0, l1, l2, .int x] (.int x :: st) h Q := wp_nx rfl
set_option maxRecDepth 20000 in
theorem r266_1521 (μ : Bool) (d : Nat) (l0 : Value) (l1 : Value) (l2 : Value) (l3 : Value) (st : List Value) (h : Hp) (Q : Po) : wp μ d 266 1521 [l0, l1, l2, l3] st h Q = wp μ d 266 1522 [l0, l1, l2, l3] (.int (nI 1) :: st) h Q := (wp_nx rfl).trans (congrArg (fun z => wp μ d 266 1522 [l0, l1, l2, l3] (.int z :: st) h Q) (show Int32.ofInt (1) = (nI 1) by decide))
set_option maxRecDepth 20000 in
theorem r266_1522 (μ : Bool) (d : Nat) (l0 : Value) (l1 : Value) (l2 : Value) (l3 : Value) (y0 y1 : Int32) (st : List Value) (h : Hp) (Q : Po) : wp μ d 266 1522 [l0, l1, l2, l3] (.int y0 :: .int y1 :: st) h Q = wp μ d 266 1523 [l0, l1, l2, l3] (.int (y1 + y0) :: st) h Q := wp_nx rfl
set_option maxRecDepth 20000 in
theorem r266_1523 (μ : Bool) (d : Nat) (l0 : Value) (l1 : Value) (l2 : Value) (l3 : Value) (y0 : Int32) (y1 : Nat) (st : List Value) (h : Hp) (Q : Po) : wp μ d 266 1523 [l0, l1, l2, l3] (.int y0 :: .ref y1 :: st) h Q = (((kdm μ h y1).1 = 20 ∧ vp_in y0 (kdm μ h y1).2) ∧ wp μ d 266 1524 [l0, l1, l2, l3] (.int (gI h y1 y0.toNatClampNeg) :: st) h Q) := wp_ck _ rfl
set_option maxRecDepth 20000 in
theorem r266_1523t (μ : Bool) (d : Nat) (l0 : Value) (l1 : Value) (l2 : Value) (l3 : Value) (y0 : Int32) (st : List Value) (h : Hp) (Q : Po) : wp μ d 266 1523 [l0, l1, l2, l3] (.int y0 :: .retAddr 1 :: st) h Q = (vp_in y0 (hk h 0).2 ∧ wp μ d 266 1524 [l0, l1, l2, l3] (.int (gI h 0 y0.toNatClampNeg) :: st) h Q) := wp_ck _ rfl
set_option maxRecDepth 20000 in
theorem r266_1524 (μ : Bool) (d : Nat) (l0 : Value) (l1 : Value) (l2 : Value) (l3 : Value) (y0 : Int32) (y1 : Nat) (y2 : Int32) (h : Hp) (Q : Po) : wp μ (d + 1) 266 1524 [l0, l1, l2, l3] [.int y0, .ref y1, .int y2] h Q = ((kdm μ h y1).1 = 12 ∧ cwp μ d 259 [.ref y1, .int y0] h (fun r h' => wp μ (d + 1) 266 1527 [l0, l1, l2, l3] (r.toList ++ [.int y2]) h' Q)) := wp_kc _ True rfl ⟨fun q => by obtain ⟨x, q1, q2⟩ := q.2.2.1 rfl; cases q1; exact q2, fun q => ⟨Nat.le_of_ble_eq_true rfl, ⟨Nat.le_of_ble_eq_true rfl, rfl, Nat.le_of_ble_eq_true rfl⟩, fun _ => ⟨_, rfl, q⟩, fun q9 => absurd q9 (by decide)⟩⟩
set_option maxRecDepth 20000 in
theorem r266_1527 (μ : Bool) (d : Nat) (l0 : Value) (l1 : Value) (l2 : Value) (l3 : Value) (y0 y1 : Int32) (st : List Value) (h : Hp) (Q : Po) : wp μ d 266 1527 [l0, l1, l2, l3] (.int y0 :: .int y1 :: st) h Q = if y1 = y0 then wp μ d 266 1545 [l0, l1, l2, l3] st h Q else wp μ d 266 1530 [l0, l1, l2, l3] st h Q := wp_br (y1 = y0) rfl
set_option maxRecDepth 20000 in
theorem r266_1530 (μ : Bool) (d : Nat) (l0 : Value) (l1 : Value) (l2 : Value) (l3 : Value) (st : List Value) (h : Hp) (Q : Po) : wp μ d 266 1530 [l0, l1, l2, l3] st h Q = wp μ d 266 1531 [l0, l1, l2, l3] (.int (nI 0) :: st) h Q := (wp_nx rfl).trans (congrArg (fun z => wp μ d 266 1531 [l0, l1, l2, l3] (.int z :: st) h Q) (show Int32.ofInt (0) = (nI 0) by decide))
set_option maxRecDepth 20000 in
theorem r266_1531 (μ : Bool) (d : Nat) (l0 : Value) (l1 : Value) (l2 : Value) (l3 : Value) (y0 : Int32) (h : Hp) (Q : Po) : wp μ d 266 1531 [l0, l1, l2, l3] [.int y0] h Q = ((y0 = nI 0 ∨ y0 = nI 1) ∧ Q (some (.int y0)) h) := (wp_rc _ rfl).trans (by rw [show retOk (rM 266) y0 = (narrow .boolean (.int y0) = .int y0) from rfl, nz_iff]; rfl)
set_option maxRecDepth 20000 in
theorem r266_1532 (μ : Bool) (d : Nat) (l0 : Value) (l2 : Value) (l3 : Value) (x : Nat) (st : List Value) (h : Hp) (Q : Po) : wp μ d 266 1532 [l0, .ref x, l2, l3] st h Q = wp μ d 266 1533 [l0, .ref x, l2, l3] (.ref x :: st) h Q := wp_nx rfl
set_option maxRecDepth 20000 in
theorem r266_1532n (μ : Bool) (d : Nat) (l0 : Value) (l2 : Value) (l3 : Value) (st : List Value) (h : Hp) (Q : Po) : wp μ d 266 1532 [l0, .null, l2, l3] st h Q = wp μ d 266 1533 [l0, .null, l2, l3] (.null :: st) h Q := wp_nx rfl
set_option maxRecDepth 20000 in
theorem r266_1532t (μ : Bool) (d : Nat) (l0 : Value) (l2 : Value) (l3 : Value) (x : Nat) (st : List Value) (h : Hp) (Q : Po) : wp μ d 266 1532 [l0, .retAddr x, l2, l3] st h Q = wp μ d 266 1533 [l0, .retAddr x, l2, l3] (.retAddr x :: st) h Q := wp_nx rfl
set_option maxRecDepth 20000 in
theorem r266_1533 (μ : Bool) (d : Nat) (l0 : Value) (l1 : Value) (l2 : Value) (l3 : Value) (y0 : Nat) (h : Hp) (Q : Po) : wp μ (d + 1) 266 1533 [l0, l1, l2, l3] [.ref y0] h Q = ((kdm μ h y0).1 = 11 ∧ cwp μ d 124 [.ref y0] h (fun r h' => wp μ (d + 1) 266 1536 [l0, l1, l2, l3] (r.toList ++ []) h' Q)) := wp_kc _ True rfl ⟨fun q => by obtain ⟨x, q1, q2⟩ := q.2.2.1 rfl; cases q1; exact q2, fun q => ⟨Nat.le_of_ble_eq_true rfl, ⟨Nat.le_of_ble_eq_true rfl, rfl, Nat.le_of_ble_eq_true rfl⟩, fun _ => ⟨_, rfl, q⟩, fun q9 => absurd q9 (by decide)⟩⟩
set_option maxRecDepth 20000 in
theorem r266_1536 (μ : Bool) (d : Nat) (l0 : Value) (l1 : Value) (l3 : Value) (x : Nat) (st : List Value) (h : Hp) (Q : Po) : wp μ d 266 1536 [l0, l1, .ref x, l3] st h Q = wp μ d 266 1537 [l0, l1, .ref x, l3] (.ref x :: st) h Q := wp_nx rfl
set_option maxRecDepth 20000 in
theorem r266_1536n (μ : Bool) (d : Nat) (l0 : Value) (l1 : Value) (l3 : Value) (st : List Value) (h : Hp) (Q : Po) : wp μ d 266 1536 [l0, l1, .null, l3] st h Q = wp μ d 266 1537 [l0, l1, .null, l3] (.null :: st) h Q := wp_nx rfl
set_option maxRecDepth 20000 in
theorem r266_1536t (μ : Bool) (d : Nat) (l0 : Value) (l1 : Value) (l3 : Value) (x : Nat) (st : List Value) (h : Hp) (Q : Po) : wp μ d 266 1536 [l0, l1, .retAddr x, l3] st h Q = wp μ d 266 1537 [l0, l1, .retAddr x, l3] (.retAddr x :: st) h Q := wp_nx rfl
set_option maxRecDepth 20000 in
theorem r266_1537 (μ : Bool) (d : Nat) (l0 : Value) (l1 : Value) (l2 : Value) (l3 : Value) (y0 : Nat) (y1 : Int32) (h : Hp) (Q : Po) : wp μ (d + 1) 266 1537 [l0, l1, l2, l3] [.ref y0, .int y1] h Q = ((kdm μ h y0).1 = 12 ∧ cwp μ d 260 [.ref y0] h (fun r h' => wp μ (d + 1) 266 1540 [l0, l1, l2, l3] (r.toList ++ [.int y1]) h' Q)) := wp_kc _ True rfl ⟨fun q => by obtain ⟨x, q1, q2⟩ := q.2.2.1 rfl; cases q1; exact q2, fun q => ⟨Nat.le_of_ble_eq_true rfl, ⟨Nat.le_of_ble_eq_true rfl, rfl, Nat.le_of_ble_eq_true rfl⟩, fun _ => ⟨_, rfl, q⟩, fun q9 => absurd q9 (by decide)⟩⟩
set_option maxRecDepth 20000 in
theorem r266_1540 (μ : Bool) (d : Nat) (l0 : Value) (l1 : Value) (l2 : Value) (l3 : Value) (y0 y1 : Int32) (st : List Value) (h : Hp) (Q : Po) : wp μ d 266 1540 [l0, l1, l2, l3] (.int y0 :: .int y1 :: st) h Q = if y1 = y0 then wp μ d 266 1545 [l0, l1, l2, l3] st h Q else wp μ d 266 1543 [l0, l1, l2, l3] st h Q := wp_br (y1 = y0) rfl
set_option maxRecDepth 20000 in
theorem r266_1543 (μ : Bool) (d : Nat) (l0 : Value) (l1 : Value) (l2 : Value) (l3 : Value) (st : List Value) (h : Hp) (Q : Po) : wp μ d 266 1543 [l0, l1, l2, l3] st h Q = wp μ d 266 1544 [l0, l1, l2, l3] (.int (nI 0) :: st) h Q := (wp_nx rfl).trans (congrArg (fun z => wp μ d 266 1544 [l0, l1, l2, l3] (.int z :: st) h Q) (show Int32.ofInt (0) = (nI 0) by decide))
set_option maxRecDepth 20000 in
theorem r266_1544 (μ : Bool) (d : Nat) (l0 : Value) (l1 : Value) (l2 : Value) (l3 : Value) (y0 : Int32) (h : Hp) (Q : Po) : wp μ d 266 1544 [l0, l1, l2, l3] [.int y0] h Q = ((y0 = nI 0 ∨ y0 = nI 1) ∧ Q (some (.int y0)) h) := (wp_rc _ rfl).trans (by rw [show retOk (rM 266) y0 = (narrow .boolean (.int y0) = .int y0) from rfl, nz_iff]; rfl)
set_option maxRecDepth 20000 in
theorem r266_1545 (μ : Bool) (d : Nat) (l0 : Value) (l1 : Value) (l2 : Value) (x : Int32) (st : List Value) (h : Hp) (Q : Po) : wp μ d 266 1545 [l0, l1, l2, .int x] st h Q = wp μ d 266 1548 [l0, l1, l2, .int (x + (nI 6))] st h Q := (wp_nx rfl).trans (congrArg (fun z => wp μ d 266 1548 [l0, l1, l2, .int z] st h Q) (show x + Int32.ofInt (6) = x + (nI 6) by rw [show Int32.ofInt (6) = (nI 6) by decide]))
set_option maxRecDepth 20000 in
theorem r266_1548 (μ : Bool) (d : Nat) (l0 : Value) (l1 : Value) (l2 : Value) (l3 : Value) (st : List Value) (h : Hp) (Q : Po) : wp μ d 266 1548 [l0, l1, l2, l3] st h Q = wp μ d 266 18 [l0, l1, l2, l3] st h Q := wp_nx rfl
set_option maxRecDepth 20000 in
theorem r266_1551 (μ : Bool) (d : Nat) (l0 : Value) (l1 : Value) (l2 : Value) (l3 : Value) (st : List Value) (h : Hp) (Q : Po) : wp μ d 266 1551 [l0, l1, l2, l3] st h Q = wp μ d 266 1552 [l0, l1, l2, l3] (.int (nI 1) :: st) h Q := (wp_nx rfl).trans (congrArg (fun z => wp μ d 266 1552 [l0, l1, l2, l3] (.int z :: st) h Q) (show Int32.ofInt (1) = (nI 1) by decide))
set_option maxRecDepth 20000 in
theorem r266_1552 (μ : Bool) (d : Nat) (l0 : Value) (l1 : Value) (l2 : Value) (l3 : Value) (y0 : Int32) (h : Hp) (Q : Po) : wp μ d 266 1552 [l0, l1, l2, l3] [.int y0] h Q = ((y0 = nI 0 ∨ y0 = nI 1) ∧ Q (some (.int y0)) h) := (wp_rc _ rfl).trans (by rw [show retOk (rM 266) y0 = (narrow .boolean (.int y0) = .int y0) from rfl, nz_iff]; rfl)
